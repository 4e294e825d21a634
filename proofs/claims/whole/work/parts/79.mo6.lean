-- the reference's face
def zW (h : hh_H) (res : List (Nat × UInt64)) (rk : Int32) : Prop := (∃ js, h[33]? = some (.inl (0, .inl (res.map (fun x => nI x.1) ++ js))) ∧ res.length + js.length = 40) ∧ ∃ ks : List UInt64, h[34]? = some (.inl (2, .inr (.inl ks))) ∧ ks.length = 40 ∧ (rk = 1 → ∃ rest, ks = res.map (fun x => x.2) ++ rest)
def zM (h : hh_H) (th : Int32) (mem fan nb : Nat) (op : List Nat) (T : List (List Nat)) (dr : List Bool) (wt : Nat) (s : List (Nat × Nat × Nat) × Int32 × Int32 × Int32 × Int32) (res : List (Nat × UInt64)) (rk : Int32) : Prop :=
  (∃ sn sz, zN h th (nI mem) fan nb (nI op.length) T wt dr s (nI res.length) rk sn sz) ∧ (∃ js, h[26]? = some (.inl (0, .inl (op.map nI ++ js))) ∧ op.length + js.length = 20) ∧ zW h res rk
theorem zW.fr {h h' : hh_H} {res : List (Nat × UInt64)} {rk : Int32} {W : List Nat} (H : zW h res rk) (f : zz_fr W h h') (h1 : 33 ∉ W) (h2 : 34 ∉ W) : zW h' res rk := by
  obtain ⟨⟨js, a1, a2⟩, ⟨ks, b1, b2⟩⟩ := H
  exact ⟨⟨js, f.at a1 h1, a2⟩, ⟨ks, f.at b1 h2, b2⟩⟩
section Mo6
variable {h : hh_H} {F mem fan nb wt lvb : Nat} {op : List Nat} {T : List (List Nat)} {dr : List Bool} {s : List (Nat × Nat × Nat) × Int32 × Int32 × Int32 × Int32} {res : List (Nat × UInt64)} {rk th : Int32}
theorem zM.fr {W : List Nat} {h' : hh_H} (H : zM h th mem fan nb op T dr wt s res rk) (f : zz_fr W h h') (hW : ∀ x ∈ W, x < 25 ∨ 35 < x) : zM h' th mem fan nb op T dr wt s res rk := by
  obtain ⟨⟨sn, sz, a1, a2, a3, a4⟩, ⟨js, b1, b2⟩, c⟩ := H
  have hn : ∀ x, 25 ≤ x → x ≤ 35 → x ∉ W := fun x h1 h2 hm => by have := hW x hm; omega
  exact ⟨⟨sn, sz, f.at a1 (hn _ (by decide) (by decide)), a2.fr f (hn _ (by decide) (by decide)) (hn _ (by decide) (by decide)) (hn _ (by decide) (by decide)), a3.fr f (hn _ (by decide) (by decide)) (hn _ (by decide) (by decide)) (hn _ (by decide) (by decide)), a4.fr f (hn _ (by decide) (by decide))⟩, ⟨js, f.at b1 (hn _ (by decide) (by decide)), b2⟩, c.fr f (hn _ (by decide) (by decide)) (hn _ (by decide) (by decide))⟩
theorem zT.keep {h' : hh_H} (H : zT h T) (h1 : h'[27]? = h[27]?) (h2 : h'[28]? = h[28]?) (h3 : h'[29]? = h[29]?) : zT h' T := by
  obtain ⟨⟨f1, a1, a2⟩, ⟨f2, b1, b2⟩, c⟩ := H
  exact ⟨⟨f1, h1.trans a1, a2⟩, ⟨f2, h2.trans b1, b2⟩, h3.trans c⟩
theorem zE.keep {h' : hh_H} {out : List Nat} (H : zE h out) (h1 : h'[35]? = h[35]?) : zE h' out := by
  obtain ⟨bs, a1, a2⟩ := H
  exact ⟨bs, h1.trans a1, a2⟩
theorem zM.fx {W : List Nat} {h' : hh_H} (H : zM h th mem fan nb op T dr wt s res rk) (f : zz_fx W h h') (hW : ∀ x ∈ W, x < 25 ∨ 35 < x) : zM h' th mem fan nb op T dr wt s res rk := by
  have hn : ∀ x, 25 ≤ x → x ≤ 35 → h'[x]? = h[x]? := fun x h1 h2 => f.2 x (by omega) (fun hm => by have := hW x hm; omega)
  obtain ⟨⟨sn, sz, a1, a2, ⟨⟨j1, u1, u2⟩, ⟨j2, v1, v2⟩, ⟨j3, w1, w2⟩⟩, ⟨s1, s2, ⟨o, s3⟩⟩⟩, ⟨js, b1, b2⟩, ⟨⟨k1, x1, x2⟩, ⟨k2, y1, y2⟩⟩⟩ := H
  refine ⟨⟨sn, sz, (hn 25 (by decide) (by decide)).trans a1, a2.keep (hn _ (by decide) (by decide)) (hn _ (by decide) (by decide)) (hn _ (by decide) (by decide)), ⟨⟨j1, (hn 30 (by decide) (by decide)).trans u1, u2⟩, ⟨j2, (hn 31 (by decide) (by decide)).trans v1, v2⟩, ⟨j3, (hn 32 (by decide) (by decide)).trans w1, w2⟩⟩, ⟨s1, ?_, ⟨o, s3.keep (hn 35 (by decide) (by decide))⟩⟩⟩, ⟨js, (hn 26 (by decide) (by decide)).trans b1, b2⟩, ⟨⟨k1, (hn 33 (by decide) (by decide)).trans x1, x2⟩, ⟨k2, (hn 34 (by decide) (by decide)).trans y1, y2⟩⟩⟩
  rcases s2 with s2 | ⟨t1, t2, t3⟩
  · exact Or.inl s2
  · exact Or.inr ⟨t1, t2.keep (hn 35 (by decide) (by decide)), t3⟩
theorem zM.cell (H : zM h th mem fan nb op T dr wt s res rk) : ∃ fs, h[25]? = some (.inr (9, fs)) := by
  obtain ⟨⟨sn, sz, a1, _⟩, _⟩ := H
  exact ⟨_, a1⟩
/-- only the code thrown, or a counter, changes in the object -/
theorem zM.thr {h' : hh_H} {th' : Int32} (H : zM h th mem fan nb op T dr wt s res rk) (f : zz_fr [25] h h') (hc : ∀ sn sz, h[25]? = some (.inr (9, zz_mf th (nI mem) (nI fan) (nI nb) (nI op.length) (nI T.length) (nI wt) (lN (zz_dn dr)) (nI s.1.length) (lN (zz_ub s.1)) s.2.1 s.2.2.1 s.2.2.2.1 s.2.2.2.2 (nI res.length) rk (nI sz) (lN sn))) → h'[25]? = some (.inr (9, zz_mf th' (nI mem) (nI fan) (nI nb) (nI op.length) (nI T.length) (nI wt) (lN (zz_dn dr)) (nI s.1.length) (lN (zz_ub s.1)) s.2.1 s.2.2.1 s.2.2.2.1 s.2.2.2.2 (nI res.length) rk (nI sz) (lN sn)))) : zM h' th' mem fan nb op T dr wt s res rk := by
  obtain ⟨⟨sn, sz, a1, a2, a3, a4⟩, ⟨js, b1, b2⟩, c⟩ := H
  exact ⟨⟨sn, sz, hc sn sz a1, a2.fr f (by decide) (by decide) (by decide), a3.fr f (by decide) (by decide) (by decide), a4.fr f (by decide)⟩, ⟨js, f.at b1 (by decide), b2⟩, c.fr f (by decide) (by decide)⟩
theorem s_thrown (H : zM h th mem fan nb op T dr wt s res rk) : f_Mo_thrown F 25 h = some (th, h) := by
  obtain ⟨⟨sn, sz, a1, _⟩, _⟩ := H
  unfold f_Mo_thrown
  rw [q_gi a1 rfl]
  rfl
theorem s_clr {σ : Type} {Q : σ → Prop} {f : hh_H → Option σ} (H : zM h th mem fan nb op T dr wt s res rk) (x : Int32) (kk : ∀ h1, zM h1 x mem fan nb op T dr wt s res rk → zz_fr [25] h h1 → h1.length = h.length → zw (f h1) Q) : zw ((hp_pi h 25 9 0 x).bind f) Q := by
  obtain ⟨⟨sn, sz, a1, a2⟩, b⟩ := id H
  refine zw.pi a1 (Nat.le_of_ble_eq_true rfl) fun h1 s1 => ?_
  have f1 : zz_fr [25] h h1 := s1.fr (by simp)
  refine kk h1 (H.thr f1 ?_) f1 s1.2.2
  intro sn' sz' hq
  rw [a1] at hq
  have := Option.some.inj hq
  have h2 := (Prod.mk.inj (Sum.inr.inj this)).2
  refine s1.1.trans ?_
  rw [h2]
  rfl
theorem s_fail (H : zM h th mem fan nb op T dr wt s res rk) (x : Int32) : zw (f_Mo_fail F 25 x h) (fun r => r.1 = 0 ∧ zM r.2 x mem fan nb op T dr wt s res rk ∧ zz_fr [25] h r.2 ∧ r.2.length = h.length) := by
  unfold f_Mo_fail
  refine s_clr H x fun h1 H1 f1 l1 => ?_
  exact zw.ret ⟨rfl, H1, f1, l1⟩
/-- the failing end of a call -/
theorem s_bad {Q : Int32 × hh_H → Prop} (H : zM h th mem fan nb op T dr wt s res rk) (x : Int32) (kk : ∀ h1, zM h1 x mem fan nb op T dr wt s res rk → zz_fr [25] h h1 → h1.length = h.length → Q (0, h1)) : zw ((hp_is h 25 9).bind fun _ => hp_cb (f_Mo_fail F 25 x h) fun q h2 => some (q, h2)) Q := by
  obtain ⟨fs, hfs⟩ := H.cell
  refine zw.is hfs ?_
  refine zw.cb (s_fail H x) ?_
  rintro q h1 ⟨g1, g2, g3, g4⟩
  have g1 : q = 0 := g1
  rw [g1]
  exact zw.ret (kk h1 g2 g3 g4)
theorem s_noWord_in {v : Nat} (hv : v < 100) : f_Mo_noWord F (nI v) h = some (0, h) := by
  unfold f_Mo_noWord
  rw [if_neg (nI_pos (by omega)), if_pos (show nI v ≤ 99 from nI_le (b := 99) (by omega) (by decide))]
theorem s_noWord_out {x : Int32} (hx : x < 0 ∨ 100 ≤ x) : f_Mo_noWord F x h = some (1, h) := by
  unfold f_Mo_noWord
  by_cases h1 : x < 0
  · rw [if_pos h1]
  · rw [if_neg h1]
    rcases hx with hx | hx
    · exact absurd hx h1
    · rw [if_neg]
      intro q
      have h2 := Int32.le_iff_toInt_le.mp hx
      have h3 := Int32.le_iff_toInt_le.mp q
      have e1 : (100 : Int32).toInt = 100 := by decide
      have e2 : (99 : Int32).toInt = 99 := by decide
      omega
theorem m_word_in {v : Nat} (hv : v < 100) (ho : op.length < 20) (H : zM h th mem fan nb op T dr wt s res rk) : zw (f_Mo_word F 25 (nI v) h) (fun x => x.1 = nI op.length ∧ zM x.2 0 mem fan nb (op ++ [v]) T dr wt s res rk ∧ zz_fr [25, 26] h x.2) := by
  unfold f_Mo_word
  refine s_clr H 0 fun h1 H1 f1 l1 => ?_
  refine zw.cbe (s_noWord_in hv) ?_
  refine zw.ifp rfl ?_
  obtain ⟨⟨sn, sz, a1, a2, a3, a4⟩, ⟨js, b1, b2⟩, c⟩ := H1
  refine zw.gi a1 rfl ?_
  refine zw.ifn (fun q => by have := (nI_eq (b := 20) (by omega) (by decide)).mp q; omega) ?_
  refine zw.ga a1 rfl ?_
  refine zw.gi a1 rfl ?_
  refine zw.si b1 op.length rfl (by simp; omega) (by omega) fun h2 s2 => ?_
  have d2 := s2.at a1 (by decide)
  refine zw.gi d2 rfl ?_
  refine zw.pi d2 (Nat.le_of_ble_eq_true rfl) fun h3 s3 => ?_
  have d3 : h3[25]? = some (.inr (9, zz_mf 0 (nI mem) (nI fan) (nI nb) (nI op.length + 1) (nI T.length) (nI wt) (lN (zz_dn dr)) (nI s.1.length) (lN (zz_ub s.1)) s.2.1 s.2.2.1 s.2.2.2.1 s.2.2.2.2 (nI res.length) rk (nI sz) (lN sn))) := s3.1
  refine zw.gi d3 rfl ?_
  have f3 : zz_fr [25, 26] h1 h3 := (s2.fr (by simp)).tr (s3.fr (by simp))
  refine zw.ret ⟨?_, ⟨⟨sn, sz, ?_, a2.fr f3 (by decide) (by decide) (by decide), a3.fr f3 (by decide) (by decide) (by decide), a4.fr f3 (by decide)⟩, ?_, c.fr f3 (by decide) (by decide)⟩, (f1.mono (by simp)).tr f3⟩
  · show nI op.length + 1 - 1 = _
    rw [nI_1, nI_pred]
  · rw [d3, nI_1, show (op ++ [v]).length = op.length + 1 by simp]
  · cases js with
    | nil => simp at b2; omega
    | cons j js =>
      refine ⟨js, (s3.2.1 26 (by decide)).trans (s2.1.trans ?_), by simp at b2 ⊢; omega⟩
      have := zz_set_gap (op.map nI) js j (nI v)
      rw [List.length_map] at this
      rw [this]
      simp
theorem m_word_bad {x : Int32} (hx : x < 0 ∨ 100 ≤ x) (H : zM h th mem fan nb op T dr wt s res rk) : zw (f_Mo_word F 25 x h) (fun r => zM r.2 1 mem fan nb op T dr wt s res rk ∧ zz_fr [25, 26] h r.2) := by
  unfold f_Mo_word
  refine s_clr H 0 fun h1 H1 f1 l1 => ?_
  refine zw.cbe (s_noWord_out hx) ?_
  refine zw.ifn (by decide) ?_
  exact s_bad H1 1 (fun h2 H2 f2 l2 => ⟨H2, (f1.mono (by simp)).tr (f2.mono (by simp))⟩)
theorem m_word_full {v : Nat} (hv : v < 100) (ho : op.length = 20) (H : zM h th mem fan nb op T dr wt s res rk) : zw (f_Mo_word F 25 (nI v) h) (fun r => zM r.2 2 mem fan nb op T dr wt s res rk ∧ zz_fr [25, 26] h r.2) := by
  unfold f_Mo_word
  refine s_clr H 0 fun h1 H1 f1 l1 => ?_
  refine zw.cbe (s_noWord_in hv) ?_
  refine zw.ifp rfl ?_
  obtain ⟨⟨sn, sz, a1, a2⟩, b⟩ := id H1
  refine zw.gi a1 rfl ?_
  refine zw.ifp (by rw [ho]; rfl) ?_
  exact s_bad H1 2 (fun h2 H2 f2 l2 => ⟨H2, (f1.mono (by simp)).tr (f2.mono (by simp))⟩)
-- drop
theorem zz_dn_set {d : Nat} (hd : dr[d]? = some false) : zz_dn dr ||| 2 ^ d = zz_dn (dr.set d true) := zz_seq (fun i => by
  rw [Nat.testBit_or, Nat.testBit_two_pow, Bool.or_eq_true, zz_dn_bit, zz_dn_bit, List.getElem?_set]
  have hlt := (List.getElem?_eq_some_iff.mp hd).1
  by_cases h : d = i
  · subst h
    simp [hlt]
  · simp [h])
theorem zz_dn_cnt (hdr : dr.length ≤ 40) : (zz_bl (zz_dn dr)).length + (dr.filter (fun x => !x)).length = dr.length := by
  have h1 : zz_bl (zz_dn dr) = (List.range dr.length).filter (fun d => dr[d]? == some true) := zz_ext (zz_bl_up _) (zz_up_filter (zz_up_range _) _) (fun x => by
    rw [zz_bl_mem, zz_dn_bit]
    simp
    intro h2
    have := (List.getElem?_eq_some_iff.mp h2).1
    omega)
  rw [h1]
  have : ∀ l : List Bool, ((List.range l.length).filter (fun d => l[d]? == some true)).length + (l.filter (fun x => !x)).length = l.length := by
    intro l
    induction l with
    | nil => rfl
    | cons b l ih =>
      rw [List.length_cons, List.range_succ_eq_map, List.filter_cons, List.filter_map, List.filter_cons]
      have e : (List.range l.length).filter ((fun d => (b :: l)[d]? == some true) ∘ Nat.succ) = (List.range l.length).filter (fun d => l[d]? == some true) := by
        congr 1
      rw [e]
      cases b
      · simp
        omega
      · simp
        omega
  exact this dr
theorem m_drop_in {d : Nat} (hdr : dr.length = T.length) (hT : T.length ≤ 40) (hF : 5000 < F) (hd : dr[d]? = some false) (H : zM h th mem fan nb op T dr wt s res rk) : zw (f_Mo_drop F 25 (nI d) h) (fun x => x.1 = nI ((dr.set d true).filter (fun x => !x)).length ∧ zM x.2 0 mem fan nb op T (dr.set d true) wt s res rk ∧ zz_fr [25] h x.2) := by
  have hlt := (List.getElem?_eq_some_iff.mp hd).1
  have hdn := zz_dn_lt (dr := dr) (by omega)
  have hdn2 := zz_dn_lt (dr := dr.set d true) (by simp; omega)
  unfold f_Mo_drop
  refine s_clr H 0 fun h1 H1 f1 l1 => ?_
  obtain ⟨⟨sn, sz, a1, a2, a3, a4⟩, ⟨js, b1, b2⟩, c⟩ := H1
  refine zw.ifn (nI_pos (by omega)) ?_
  refine zw.gi a1 rfl ?_
  refine zw.ifn (nI_ge (by omega) (by omega)) ?_
  refine zw.gj a1 rfl ?_
  refine zw.cbe (s_Mo_in hdn (by omega)) ?_
  have hb : (zz_dn dr).testBit d = false := by
    cases hq : (zz_dn dr).testBit d
    · rfl
    · rw [zz_dn_bit, hd] at hq
      cases hq
  rw [hb]
  refine zw.ifp rfl ?_
  refine zw.gj a1 rfl ?_
  have hp : 2 ^ d < 2 ^ 60 := Nat.pow_lt_pow_right (by decide) (by omega)
  rw [zz_lbit (by omega), zz_lor hdn hp, zz_dn_set hd]
  refine zw.pj a1 (Nat.le_of_ble_eq_true rfl) fun h2 s2 => ?_
  have d2 : h2[25]? = some (.inr (9, zz_mf 0 (nI mem) (nI fan) (nI nb) (nI op.length) (nI T.length) (nI wt) (lN (zz_dn (dr.set d true))) (nI s.1.length) (lN (zz_ub s.1)) s.2.1 s.2.2.1 s.2.2.2.1 s.2.2.2.2 (nI res.length) rk (nI sz) (lN sn))) := s2.1
  refine zw.gi d2 rfl ?_
  refine zw.gj d2 rfl ?_
  refine zw.cbe (s_Mo_bits hdn2 (by omega)) ?_
  have f2 : zz_fr [25] h1 h2 := s2.fr (by simp)
  have hcnt := zz_dn_cnt (dr := dr.set d true) (by simp; omega)
  rw [List.length_set] at hcnt
  refine zw.ret ⟨?_, ⟨⟨sn, sz, d2, a2.fr f2 (by decide) (by decide) (by decide), a3.fr f2 (by decide) (by decide) (by decide), a4.fr f2 (by decide)⟩, ⟨js, f2.at b1 (by decide), b2⟩, c.fr f2 (by decide) (by decide)⟩, f1.tr f2⟩
  show nI T.length - nI (zz_bl (zz_dn (dr.set d true))).length = _
  rw [pk_sub (by omega)]
  congr 1
  omega
theorem m_drop_out {x : Int32} (hdr : dr.length = T.length) (hT : T.length ≤ 40) (hx : x < 0 ∨ ∃ d, d < 2 ^ 31 ∧ x = nI d ∧ ¬ dr[d]? = some false) (H : zM h th mem fan nb op T dr wt s res rk) : zw (f_Mo_drop F 25 x h) (fun r => zM r.2 1 mem fan nb op T dr wt s res rk ∧ zz_fr [25] h r.2) := by
  have hdn := zz_dn_lt (dr := dr) (by omega)
  unfold f_Mo_drop
  refine s_clr H 0 fun h1 H1 f1 l1 => ?_
  obtain ⟨⟨sn, sz, a1, a2⟩, b⟩ := id H1
  rcases hx with hx | ⟨d, hd, rfl, hn⟩
  · refine zw.ifp hx ?_
    exact s_bad H1 1 (fun h2 H2 f2 l2 => ⟨H2, f1.tr f2⟩)
  · refine zw.ifn (nI_pos hd) ?_
    refine zw.gi a1 rfl ?_
    by_cases hl : T.length ≤ d
    · refine zw.ifp (nI_le hl hd) ?_
      exact s_bad H1 1 (fun h2 H2 f2 l2 => ⟨H2, f1.tr f2⟩)
    · refine zw.ifn (nI_ge (by omega) (by omega)) ?_
      refine zw.gj a1 rfl ?_
      refine zw.cbe (s_Mo_in hdn (by omega)) ?_
      have hb : (zz_dn dr).testBit d = true := by
        rw [zz_dn_bit, List.getElem?_eq_getElem (by omega)]
        rw [List.getElem?_eq_getElem (by omega)] at hn
        cases hq : dr[d]
        · rw [hq] at hn
          exact absurd rfl hn
        · rfl
      rw [hb]
      refine zw.ifn (by decide) ?_
      exact s_bad H1 1 (fun h2 H2 f2 l2 => ⟨H2, f1.tr f2⟩)
-- flush and finish
theorem zz_txs (HI : zz_I mem fan nb op T dr wt lvb s res rk) (d : Nat) : (zz_tx T d).length ≤ 20 ∧ ∀ x ∈ zz_tx T d, x < 100 := by
  unfold zz_tx
  rw [List.getD_eq_getElem?_getD]
  cases hq : T[d]? with
  | none => simp
  | some t => exact HI.2.2.2.2.2.2.1 t (List.mem_of_getElem? hq)
theorem m_flushing (hF : 5000 < F) (HI : zz_I mem fan nb op T dr wt lvb s res rk) (hlvb : lvb + 64 < 2 ^ 28) (H : zM h th mem fan nb op T dr wt s res rk) :
    zw (f_Mo_flushing F 25 h) (fun x => x.1 = (if (zz_flu T dr nb fan wt s).1 = true then 1 else 0) ∧ zM x.2 th mem fan nb op T dr (zz_flu T dr nb fan wt s).2.1 (zz_flu T dr nb fan wt s).2.2 res rk ∧ zz_fr [25, 30, 31, 32, 35] h x.2 ∧ x.2.length = h.length) := by
  have htx := zz_txs HI
  obtain ⟨i1, i2, i3, i4, i5, i6, i7, i8, i9, i10, i11, i12, i13, i14⟩ := HI
  obtain ⟨⟨sn, sz, a⟩, ⟨js, b1, b2⟩, c⟩ := H
  refine (s_flushing i3.2 hF (by omega) i2.1 i8 i5 i6 htx i9 i14 (by omega) a).mono ?_
  rintro x ⟨q1, q2, q3, q4⟩
  exact ⟨q1, ⟨q2, ⟨js, q3.at b1 (by decide), b2⟩, c.fr q3 (by decide) (by decide)⟩, q3, q4⟩
theorem m_flush (hF : 5000 < F) (HI : zz_I mem fan nb op T dr wt lvb s res rk) (hlvb : lvb + 64 < 2 ^ 28) (H : zM h th mem fan nb op T dr wt s res rk) :
    zw (f_Mo_flush F 25 h) (fun x => if (zz_flu T dr nb fan wt s).1 = true then x.1 = nI (zz_flu T dr nb fan wt s).2.2.1.length ∧ zM x.2 0 mem fan nb op T dr (zz_flu T dr nb fan wt s).2.1 (zz_flu T dr nb fan wt s).2.2 res rk ∧ zz_fr [25, 30, 31, 32, 35] h x.2
      else zM x.2 1 mem fan nb op T dr wt s res rk ∧ zz_fr [25, 30, 31, 32, 35] h x.2) := by
  unfold f_Mo_flush
  refine s_clr H 0 fun h1 H1 f1 l1 => ?_
  obtain ⟨fs, hfs⟩ := H1.cell
  refine zw.is hfs ?_
  refine zw.cb (m_flushing hF HI hlvb H1) ?_
  rintro v h2 ⟨g1, g2, g3, g4⟩
  have g1 : v = _ := g1
  have g2 : zM h2 0 mem fan nb op T dr (zz_flu T dr nb fan wt s).2.1 (zz_flu T dr nb fan wt s).2.2 res rk := g2
  cases ht : (zz_flu T dr nb fan wt s).1
  · rw [ht] at g1
    rw [g1]
    refine zw.ifp rfl ?_
    rw [zz_flu_no ht] at g2
    exact s_bad g2 1 (fun h3 H3 f3 l3 => ⟨H3, (f1.mono (by simp)).tr (g3.tr (f3.mono (by simp)))⟩)
  · rw [ht] at g1
    rw [g1]
    refine zw.ifn (show ¬ (1 : Int32) = 0 by decide) ?_
    obtain ⟨⟨sn, sz, a1, a2⟩, b⟩ := id g2
    refine zw.gi a1 rfl ?_
    exact zw.ret ⟨rfl, g2, (f1.mono (by simp)).tr g3⟩
theorem m_finish (hF : 5000 < F) (HI : zz_I mem fan nb op T dr wt lvb s res rk) (hlvb : lvb + 128 < 2 ^ 28) (H : zM h th mem fan nb op T dr wt s res rk) :
    zw (f_Mo_finish F 25 h) (fun x => if (zz_flu T dr nb fan wt s).1 = true then (if (zz_fin2 T dr nb (zz_flu T dr nb fan wt s).2.2).1 = true then x.1 = nI (zz_fin2 T dr nb (zz_flu T dr nb fan wt s).2.2).2.1.length ∧ zM x.2 0 mem fan nb op T dr (zz_flu T dr nb fan wt s).2.1 (zz_fin2 T dr nb (zz_flu T dr nb fan wt s).2.2).2 res rk else zM x.2 1 mem fan nb op T dr (zz_flu T dr nb fan wt s).2.1 (zz_fin2 T dr nb (zz_flu T dr nb fan wt s).2.2).2 res rk) ∧ zz_fr [25, 30, 31, 32, 35] h x.2
      else zM x.2 1 mem fan nb op T dr wt s res rk ∧ zz_fr [25, 30, 31, 32, 35] h x.2) := by
  have htx := zz_txs HI
  unfold f_Mo_finish
  refine s_clr H 0 fun h1 H1 f1 l1 => ?_
  obtain ⟨fs, hfs⟩ := H1.cell
  refine zw.is hfs ?_
  refine zw.cb (m_flushing hF HI (by omega) H1) ?_
  rintro v h2 ⟨g1, g2, g3, g4⟩
  have g1 : v = _ := g1
  have g2 : zM h2 0 mem fan nb op T dr (zz_flu T dr nb fan wt s).2.1 (zz_flu T dr nb fan wt s).2.2 res rk := g2
  cases ht : (zz_flu T dr nb fan wt s).1
  · rw [ht] at g1
    rw [g1]
    refine zw.ifp rfl ?_
    rw [zz_flu_no ht] at g2
    exact s_bad g2 1 (fun h3 H3 f3 l3 => ⟨H3, (f1.mono (by simp)).tr (g3.tr (f3.mono (by simp)))⟩)
  · rw [ht] at g1
    rw [g1]
    refine zw.ifn (show ¬ (1 : Int32) = 0 by decide) ?_
    have hB2 : zz_okB nb T (zz_flu T dr nb fan wt s).2.2.1 := by
      unfold zz_flu
      split
      · exact HI.2.2.2.2.2.2.2.2.2.2.2.2.2
      · split
        · exact zz_fl_okB HI.2.2.1.2 60 _ (zz_apS_okB HI.2.2.1.2 HI.2.2.2.2.2.2.2.2.2.2.2.2.2)
        · exact HI.2.2.2.2.2.2.2.2.2.2.2.2.2
    have hI2 := zz_I_flu HI hB2
    revert g2 hI2
    rcases (zz_flu T dr nb fan wt s).2 with ⟨wt', R, rd, wr, mg, fl⟩
    intro g2 hI2
    obtain ⟨j1, j2, j3, j4, j5, j6, j7, j8, j9, j10, j11, j12, j13, j14⟩ := hI2
    obtain ⟨⟨sn, sz, a1, a2, a3, a4⟩, ⟨js, b1, b2⟩, c⟩ := id g2
    have hlen := zz_row_len j3.2 j14
    show zw _ (fun x : Int32 × hh_H => (if (zz_fin2 T dr nb (R, rd, wr, mg, fl)).1 = true then x.1 = nI (zz_fin2 T dr nb (R, rd, wr, mg, fl)).2.1.length ∧ zM x.2 0 mem fan nb op T dr wt' (zz_fin2 T dr nb (R, rd, wr, mg, fl)).2 res rk else zM x.2 1 mem fan nb op T dr wt' (zz_fin2 T dr nb (R, rd, wr, mg, fl)).2 res rk) ∧ _)
    refine zw.gi a1 rfl ?_
    by_cases hne : R = []
    · have e : zz_fin2 T dr nb (R, rd, wr, mg, fl) = (true, R, rd, wr, mg, fl) := by
        unfold zz_fin2
        rw [if_pos hne]
      rw [e]
      subst hne
      refine zw.ifp (show nI 0 ≤ 0 by decide) ?_
      refine zw.gi a1 rfl ?_
      exact zw.ret ⟨⟨rfl, g2⟩, (f1.mono (by simp)).tr g3⟩
    · have hpos := List.length_pos_iff.mpr hne
      refine zw.ifn (nI_nle hpos (by show R.length < _; have : R.length + (zz_free nb (zz_ub R)).length ≤ nb := hlen; omega)) ?_
      refine zw.is a1 ?_
      have htl := zz_top_le R 0
      have hall : ∀ r ∈ R, zz_sel 0 (zz_top R) r = true := fun r hr => by
        have := htl.2 r hr
        unfold zz_sel zz_top
        simp
        exact this
      have hfil : R.filter (zz_sel 0 (zz_top R)) = R := List.filter_eq_self.mpr hall
      refine zw.cb (s_Mo_merge (sel := zz_sel 0 (zz_top R)) (lv := zz_top R + 1) (x1 := -1) j3.2 hF j5 j6 j8 htx j9.1 j14 (fun r hr => by have := j9.2.1 r hr; omega) (fun r hr => ⟨fun _ => Or.inl (by decide), fun _ => hall r hr⟩) (fun _ => by rw [hfil]) a1 a2 a3 a4) ?_
      rintro u h3 ⟨k1, ⟨sn', sz', k2, k3⟩, k4, k5, k6, k7⟩
      have k1 : u = _ := k1
      have e : zz_fin2 T dr nb (R, rd, wr, mg, fl) = zz_mgS T dr nb (zz_sel 0 (zz_top R)) (zz_top R + 1) (R, rd, wr, mg, fl) := by
        unfold zz_fin2
        rw [if_neg hne]
      have M3 : zM h3 0 mem fan nb op T dr wt' (zz_fin2 T dr nb (R, rd, wr, mg, fl)).2 res rk := by
        rw [e]
        exact ⟨⟨sn', sz', k2, k4, k5, k3⟩, ⟨js, k6.at b1 (by decide), b2⟩, c.fr k6 (by decide) (by decide)⟩
      rw [← e] at k1
      cases hb : (zz_fin2 T dr nb (R, rd, wr, mg, fl)).1
      · rw [hb] at k1
        rw [k1]
        refine zw.ifp rfl ?_
        exact s_bad M3 1 (fun h4 H4 f4 l4 => ⟨H4, (f1.mono (by simp)).tr (g3.tr (k6.tr (f4.mono (by simp))))⟩)
      · rw [hb] at k1
        rw [k1]
        refine zw.ifn (show ¬ (1 : Int32) = 0 by decide) ?_
        obtain ⟨⟨sn2, sz2, c1, _⟩, _⟩ := id M3
        refine zw.gi c1 rfl ?_
        exact zw.ret ⟨⟨rfl, M3⟩, (f1.mono (by simp)).tr (g3.tr k6)⟩
end Mo6
