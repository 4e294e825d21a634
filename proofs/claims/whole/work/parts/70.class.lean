-- the class as a whole: its object at 1, the words of the document that is not closed yet at 2
/-- the documents that wait in the buffer and have words -/
def zz_wm (T : List (List Nat)) (wt : Nat) : Nat := zz_bs ((List.range T.length).filter (fun d => decide (wt ≤ d) && !(zz_tx T d).isEmpty))
theorem zz_wm_bit {T : List (List Nat)} {wt d : Nat} : (zz_wm T wt).testBit d = true ↔ wt ≤ d ∧ d < T.length ∧ zz_tx T d ≠ [] := by
  unfold zz_wm
  rw [zz_bs_bit]
  simp
  constructor
  · rintro ⟨h1, h2, h3⟩
    exact ⟨h2, h1, h3⟩
  · rintro ⟨h1, h2, h3⟩
    exact ⟨h2, h1, h3⟩
def zz_bf (T : List (List Nat)) (wt : Nat) : Nat := ((T.drop wt).map List.length).sum
def zC (h : hh_H) (mem fan nb : Nat) (op : List Nat) (T : List (List Nat)) (dr : List Bool) (wt : Nat) (s : List (Nat × Nat × Nat) × Int32 × Int32 × Int32 × Int32) (res : List (Nat × UInt64)) (rk : Int32) : Prop :=
  h[1]? = some (.inr (8, [.inl (nI mem), .inr (.inl (some 2)), .inl (nI op.length), .inr (.inl (some 3)), .inr (.inl (some 5)), .inr (.inl (some 10)), .inr (.inl (some 18)), .inr (.inl (some 20)), .inr (.inl (some 22))])) ∧
  (∃ js, h[2]? = some (.inl (0, .inl (op.map nI ++ js))) ∧ op.length + js.length = 20) ∧ zP h 5 6 mem (zz_posts T (zz_wm T wt)) ∧ zXs h T dr nb fan s ∧ zY h nb ∧ zQ0 h 18 19 ∧ zQ0 h 20 21 ∧ zA h res rk
/-- what is always true of the numbers -/
def zz_I (mem fan nb : Nat) (op : List Nat) (T : List (List Nat)) (dr : List Bool) (wt lvb : Nat) (s : List (Nat × Nat × Nat) × Int32 × Int32 × Int32 × Int32) (res : List (Nat × UInt64)) (rk : Int32) : Prop :=
  (20 ≤ mem ∧ mem ≤ 48) ∧ (2 ≤ fan ∧ fan ≤ 4) ∧ (8 ≤ nb ∧ nb ≤ 60) ∧ (op.length ≤ 20 ∧ ∀ w ∈ op, w < 100) ∧ T.length ≤ 40 ∧ dr.length = T.length ∧ (∀ t ∈ T, t.length ≤ 20 ∧ ∀ w ∈ t, w < 100) ∧ wt ≤ T.length ∧ zz_J T dr wt lvb s.1 ∧ zz_bf T wt ≤ mem ∧ (zz_posts T (zz_wm T wt)).length = zz_bf T wt ∧ res.length ≤ 40 ∧ (rk = 0 ∨ rk = 1) ∧ zz_okB nb T s.1
theorem zz_wm_0 {T : List (List Nat)} : zz_wm T T.length = 0 := zz_s0.mpr (fun i => by
  cases hb : (zz_wm T T.length).testBit i
  · rfl
  · have := zz_wm_bit.mp hb
    omega)
theorem zz_posts_0 (T : List (List Nat)) : zz_posts T 0 = [] := by
  rw [zz_posts_nil]
  intro d w _ _ h
  simp at h
theorem zz_bf_0 {T : List (List Nat)} : zz_bf T T.length = 0 := by simp [zz_bf]
-- flushing, as numbers
def zz_flu (T : List (List Nat)) (dr : List Bool) (nb fan wt : Nat) (s : List (Nat × Nat × Nat) × Int32 × Int32 × Int32 × Int32) : Bool × Nat × List (Nat × Nat × Nat) × Int32 × Int32 × Int32 × Int32 :=
  if zz_bf T wt = 0 then (true, wt, s)
  else if (zz_apS T dr nb (zz_wm T wt) s).1 = true then (true, T.length, zz_fl T dr nb fan 60 (zz_apS T dr nb (zz_wm T wt) s).2)
  else (false, wt, s)
theorem zz_apS_J {T : List (List Nat)} {dr : List Bool} {nb wt lvb : Nat} {s : List (Nat × Nat × Nat) × Int32 × Int32 × Int32 × Int32} (hJ : zz_J T dr wt lvb s.1) (hwt : wt ≤ T.length) (ht : (zz_apS T dr nb (zz_wm T wt) s).1 = true) : zz_J T dr T.length lvb (zz_apS T dr nb (zz_wm T wt) s).2.1 := by
  obtain ⟨hM, hL, hC⟩ := hJ
  have hbit : ∀ d, (zz_an (zz_wm T wt) (zz_dn dr)).testBit d = true ↔ (wt ≤ d ∧ d < T.length ∧ zz_tx T d ≠ []) ∧ ¬ dr[d]? = some true := by
    intro d
    rw [zz_an_bit, Bool.and_eq_true, zz_wm_bit]
    constructor
    · rintro ⟨h1, h2⟩
      refine ⟨h1, fun q => ?_⟩
      rw [(zz_dn_bit dr d).mpr q] at h2
      cases h2
    · rintro ⟨h1, h2⟩
      refine ⟨h1, ?_⟩
      cases hq : (zz_dn dr).testBit d
      · rfl
      · exact absurd ((zz_dn_bit dr d).mp hq) h2
  revert ht
  unfold zz_apS
  split
  · rename_i h0
    intro _
    refine ⟨⟨fun r hr => ⟨(hM.1 r hr).1, fun d hd => ?_⟩, hM.2⟩, hL, fun d hd hdr ht => ?_⟩
    · have := (hM.1 r hr).2 d hd
      exact ⟨by omega, this.2⟩
    · by_cases hdw : d < wt
      · exact hC d hdw hdr ht
      · have := (hbit d).mpr ⟨⟨by omega, hd, ht⟩, by rw [hdr]; simp⟩
        rw [h0] at this
        simp at this
  · rename_i h0
    split
    · intro _
      refine ⟨⟨fun r hr => ?_, ?_⟩, fun r hr => ?_, fun d hd hdr ht => ?_⟩
      · rcases List.mem_append.mp hr with hr | hr
        · refine ⟨(hM.1 r hr).1, fun d hd => ?_⟩
          have := (hM.1 r hr).2 d hd
          exact ⟨by omega, this.2⟩
        · rw [List.mem_singleton.mp hr]
          refine ⟨h0, fun d hd => ?_⟩
          have := ((hbit d).mp hd).1
          exact ⟨this.2.1, this.2.2⟩
      · refine List.pairwise_append.mpr ⟨hM.2, List.pairwise_singleton _ _, fun x hx y hy i q => ?_⟩
        rw [List.mem_singleton.mp hy] at q
        have h1 := ((hM.1 x hx).2 i q.1).1
        have h2 := ((hbit i).mp q.2).1.1
        omega
      · rcases List.mem_append.mp hr with hr | hr
        · exact hL r hr
        · rw [List.mem_singleton.mp hr]
          exact Nat.zero_le _
      · by_cases hdw : d < wt
        · obtain ⟨r, hr, hb⟩ := hC d hdw hdr ht
          exact ⟨r, List.mem_append_left _ hr, hb⟩
        · exact ⟨_, List.mem_append_right _ (List.mem_singleton.mpr rfl), (hbit d).mpr ⟨⟨by omega, hd, ht⟩, by rw [hdr]; simp⟩⟩
    · intro ht
      cases ht
section Class
variable {h : hh_H} {F mem fan nb wt lvb : Nat} {op : List Nat} {T : List (List Nat)} {dr : List Bool} {s : List (Nat × Nat × Nat) × Int32 × Int32 × Int32 × Int32} {res : List (Nat × UInt64)} {rk : Int32}
theorem s_flushBuffer (hF : 5000 < F) (HI : zz_I mem fan nb op T dr wt lvb s res rk) (hlvb : lvb + 60 < 2 ^ 28) (H : zC h mem fan nb op T dr wt s res rk) :
    zw (f_IB_flushBuffer F 1 h) (fun x => x.1 = (if (zz_flu T dr nb fan wt s).1 = true then 1 else 0) ∧ zC x.2 mem fan nb op T dr (zz_flu T dr nb fan wt s).2.1 (zz_flu T dr nb fan wt s).2.2 res rk ∧ zz_fx [5, 7, 8, 9, 10, 11, 12, 13, 14, 15, 16, 17] h x.2) := by
  obtain ⟨i1, i2, i3, i4, i5, i6, i7, i8, i9, i10, i11, i12, i13, i14⟩ := HI
  obtain ⟨c1, c2, c3, c4, c5, c6, c7, c8⟩ := H
  have hl38 : 38 ≤ h.length := c4.1
  unfold f_IB_flushBuffer
  refine zw.ga c1 rfl ?_
  refine zw.is c3.1 ?_
  refine zw.cbe (s_Postings_size c3) ?_
  rw [i11]
  unfold zz_flu
  by_cases h0 : zz_bf T wt = 0
  · rw [if_pos h0, h0]
    refine zw.ifp rfl ?_
    exact zw.ret ⟨rfl, ⟨c1, c2, c3, c4, c5, c6, c7, c8⟩, zz_fx.rf _ _⟩
  · rw [if_neg h0]
    refine zw.ifn (nI_ne0 (by omega) (by omega)) ?_
    refine zw.ga c1 rfl ?_
    refine zw.ga c1 rfl ?_
    refine zw.is c4.2.2.2.2 ?_
    obtain ⟨R, rd, wr, mg, fl⟩ := s
    refine zw.cb (s_append0 i3.2 hF i5 i6 i7 (fun d hd => (zz_wm_bit.mp hd).2) (by omega) c3 c4 c5) ?_
    rintro v h1 ⟨g1, g2, g3, g4⟩
    have g1 : v = _ := g1
    by_cases ht : (zz_apS T dr nb (zz_wm T wt) (R, rd, wr, mg, fl)).1 = true
    · rw [if_pos ht] at g1 ⊢
      rw [g1]
      refine zw.ifn (by decide) ?_
      have d1 := g4.at c1 (by decide) (by decide)
      have d3 := c3.keep (g4.2 5 (by decide) (by decide)) (g4.2 6 (by decide) (by decide))
      refine zw.ga d1 rfl ?_
      refine zw.is d3.1 ?_
      refine zw.cb (s_Postings_clear (by decide) d3) ?_
      rintro _ h2 ⟨k1, k2, k3⟩
      have e1 := k2.at d1 (by decide)
      have X2 : zXs h2 T dr nb fan (zz_apS T dr nb (zz_wm T wt) (R, rd, wr, mg, fl)).2 := zX.fr g2 k2 (by decide)
      have Y2 : zY h2 nb := by
        obtain ⟨⟨l1, y1⟩, ⟨l2, y2⟩, ⟨o, n, y3⟩⟩ := g3
        exact ⟨⟨l1, y1.fr k2 (by decide) (by decide)⟩, ⟨l2, y2.fr k2 (by decide) (by decide)⟩, ⟨o, n, y3.fr k2 (by decide) (by decide)⟩⟩
      refine zw.ga e1 rfl ?_
      refine zw.is X2.2.2.2.2 ?_
      refine zw.cb (s_mergeFull (wt := T.length) (lvb := lvb) i3.2 hF (by omega) (Nat.le_refl _) i5 i6 i7 X2 Y2 (zz_apS_J i9 i8 ht) (by omega)) ?_
      rintro _ h3 ⟨m1, m2, m3⟩
      have fx2 : zz_fx [5] h1 h2 := k2.fx (Nat.le_trans hl38 g4.1)
      have fx : zz_fx [5, 7, 8, 9, 10, 11, 12, 13, 14, 15, 16, 17] h h3 := (g4.mono (by simp)).tr ((fx2.mono (by simp)).tr (m3.mono (by simp)))
      refine zw.ret ⟨rfl, ⟨fx.at c1 (by decide) (by decide), ?_, ?_, m1, m2, c6.keep (fx.2 18 (by decide) (by decide)) (fx.2 19 (by decide) (by decide)), c7.keep (fx.2 20 (by decide) (by decide)) (fx.2 21 (by decide) (by decide)), c8.keep (fx.2 22 (by decide) (by decide)) (fx.2 23 (by decide) (by decide)) (fx.2 24 (by decide) (by decide))⟩, fx⟩
      · obtain ⟨js, j1, j2⟩ := c2
        exact ⟨js, fx.at j1 (by decide) (by decide), j2⟩
      · show zP h3 5 6 mem (zz_posts T (zz_wm T T.length))
        rw [zz_wm_0, zz_posts_0]
        exact k1.keep (m3.2 5 (by decide) (by decide)) (m3.2 6 (by decide) (by decide))
    · rw [if_neg ht] at g1 ⊢
      rw [g1]
      refine zw.ifp rfl ?_
      have hs : (zz_apS T dr nb (zz_wm T wt) (R, rd, wr, mg, fl)).2 = (R, rd, wr, mg, fl) := by
        revert ht
        unfold zz_apS
        split
        · intro q
          exact absurd rfl q
        · split
          · intro q
            exact absurd rfl q
          · intro _
            rfl
      rw [hs] at g2
      refine zw.ret ⟨rfl, ⟨g4.at c1 (by decide) (by decide), ?_, c3.keep (g4.2 5 (by decide) (by decide)) (g4.2 6 (by decide) (by decide)), g2, g3, c6.keep (g4.2 18 (by decide) (by decide)) (g4.2 19 (by decide) (by decide)), c7.keep (g4.2 20 (by decide) (by decide)) (g4.2 21 (by decide) (by decide)), c8.keep (g4.2 22 (by decide) (by decide)) (g4.2 23 (by decide) (by decide)) (g4.2 24 (by decide) (by decide))⟩, g4.mono (by simp)⟩
      obtain ⟨js, j1, j2⟩ := c2
      exact ⟨js, g4.at j1 (by decide) (by decide), j2⟩
theorem zz_flu_J {T : List (List Nat)} {dr : List Bool} {nb fan wt lvb : Nat} {s : List (Nat × Nat × Nat) × Int32 × Int32 × Int32 × Int32} (hJ : zz_J T dr wt lvb s.1) (hwt : wt ≤ T.length) : zz_J T dr (zz_flu T dr nb fan wt s).2.1 (lvb + 60) (zz_flu T dr nb fan wt s).2.2.1 ∧ (zz_flu T dr nb fan wt s).2.1 ≤ T.length := by
  unfold zz_flu
  split
  · exact ⟨hJ.up (by omega), hwt⟩
  · split
    · rename_i ht
      exact ⟨zz_fl_J 60 lvb _ (zz_apS_J hJ hwt ht), Nat.le_refl _⟩
    · exact ⟨hJ.up (by omega), hwt⟩
/-- the numbers stay so over a flush -/
theorem zz_I_flu (HI : zz_I mem fan nb op T dr wt lvb s res rk) (hB : zz_okB nb T (zz_flu T dr nb fan wt s).2.2.1) : zz_I mem fan nb op T dr (zz_flu T dr nb fan wt s).2.1 (lvb + 60) (zz_flu T dr nb fan wt s).2.2 res rk := by
  obtain ⟨i1, i2, i3, i4, i5, i6, i7, i8, i9, i10, i11, i12, i13, i14⟩ := HI
  obtain ⟨j1, j2⟩ := zz_flu_J (nb := nb) (fan := fan) i9 i8
  refine ⟨i1, i2, i3, i4, i5, i6, i7, j2, j1, ?_, ?_, i12, i13, hB⟩
  · unfold zz_flu
    split
    · exact i10
    · split
      · show zz_bf T T.length ≤ mem
        rw [zz_bf_0]
        omega
      · exact i10
  · unfold zz_flu
    split
    · exact i11
    · split
      · show (zz_posts T (zz_wm T T.length)).length = zz_bf T T.length
        rw [zz_wm_0, zz_posts_0, zz_bf_0]
        rfl
      · exact i11
-- word
theorem zz_fr.app1 {W : List Nat} {h h' : hh_H} {c : hh_C} (f : zz_fr W h h') : zz_fr W h (h' ++ [c]) := f.tr zz_fr.app
theorem zC.fr {W : List Nat} {h' : hh_H} (H : zC h mem fan nb op T dr wt s res rk) (f : zz_fr W h h') (hW : ∀ x ∈ W, 25 ≤ x ∧ x < 38) : zC h' mem fan nb op T dr wt s res rk := by
  obtain ⟨c1, ⟨js, c2, c2'⟩, c3, c4, ⟨⟨l1, y1⟩, ⟨l2, y2⟩, ⟨o, n, y3⟩⟩, c6, c7, c8⟩ := H
  have hn : ∀ x, x < 25 → x ∉ W := fun x hx hm => by have := hW x hm; omega
  refine ⟨f.at c1 (hn _ (by decide)), ⟨js, f.at c2 (hn _ (by decide)), c2'⟩, c3.fr f (hn _ (by decide)) (hn _ (by decide)), zX.fr c4 f (fun x hx => ⟨(hW x hx).2, fun hm => ?_⟩), ⟨⟨l1, y1.fr f (hn _ (by decide)) (hn _ (by decide))⟩, ⟨l2, y2.fr f (hn _ (by decide)) (hn _ (by decide))⟩, ⟨o, n, y3.fr f (hn _ (by decide)) (hn _ (by decide))⟩⟩, c6.fr f (hn _ (by decide)) (hn _ (by decide)), c7.fr f (hn _ (by decide)) (hn _ (by decide)), c8.fr f (hn _ (by decide)) (hn _ (by decide)) (hn _ (by decide))⟩
  have := (hW x hx).1
  simp at hm
  omega
theorem s_isWord_in {v : Nat} (hv : v < 100) : f_IB_isWord F (nI v) h = some (1, h) := by
  unfold f_IB_isWord
  rw [if_neg (nI_pos (by omega)), if_neg (show ¬ (100 : Int32) ≤ nI v from nI_ge (b := 100) hv (by decide))]
theorem s_isWord_out {x : Int32} (hx : x < 0 ∨ 100 ≤ x) : f_IB_isWord F x h = some (0, h) := by
  unfold f_IB_isWord
  by_cases h1 : x < 0
  · rw [if_pos h1]
  · rw [if_neg h1]
    rcases hx with hx | hx
    · exact absurd hx h1
    · rw [if_pos hx]
theorem s_word_in {v : Nat} (hv : v < 100) (ho : op.length < 20) (H : zC h mem fan nb op T dr wt s res rk) : zw (f_IB_word F 1 (nI v) h) (fun x => x.1 = .inl (nI op.length) ∧ zC x.2 mem fan nb (op ++ [v]) T dr wt s res rk ∧ zz_fr [1, 2] h x.2) := by
  obtain ⟨c1, ⟨js, c2, c2'⟩, c3, c4, ⟨⟨l1, y1⟩, ⟨l2, y2⟩, ⟨o, n, y3⟩⟩, c6, c7, c8⟩ := H
  unfold f_IB_word
  refine zw.cbe (s_isWord_in hv) ?_
  refine zw.ifn (by decide) ?_
  refine zw.gi c1 rfl ?_
  refine zw.ifp (nI_lt (b := 20) ho (by decide)) ?_
  refine zw.ga c1 rfl ?_
  refine zw.gi c1 rfl ?_
  refine zw.si c2 op.length rfl (by simp; omega) (by omega) fun h1 s1 => ?_
  have d1 := s1.at c1 (by decide)
  refine zw.gi d1 rfl ?_
  refine zw.pi d1 (Nat.le_of_ble_eq_true rfl) fun h2 s2 => ?_
  refine zw.gi s2.1 rfl ?_
  have f : zz_fr [1, 2] h h2 := (s1.fr (by simp)).tr (s2.fr (by simp))
  refine zw.ret ⟨?_, ⟨?_, ?_, c3.fr f (by decide) (by decide), zX.fr c4 f (by decide), ⟨⟨l1, y1.fr f (by decide) (by decide)⟩, ⟨l2, y2.fr f (by decide) (by decide)⟩, ⟨o, n, y3.fr f (by decide) (by decide)⟩⟩, c6.fr f (by decide) (by decide), c7.fr f (by decide) (by decide), c8.fr f (by decide) (by decide) (by decide)⟩, f⟩
  · show Sum.inl (nI op.length + 1 - 1) = _
    rw [nI_1, nI_pred]
  · refine s2.1.trans ?_
    show some (Sum.inr (8, [_, _, Sum.inl (nI op.length + 1), _, _, _, _, _, _])) = _
    rw [nI_1]
    simp
  · cases js with
    | nil => simp at c2'; omega
    | cons j js =>
      refine ⟨js, (s2.2.1 2 (by decide)).trans (s1.1.trans ?_), by simp at c2' ⊢; omega⟩
      have := zz_set_gap (op.map nI) js j (nI v)
      rw [List.length_map] at this
      rw [this]
      simp
theorem s_word_bad {x : Int32} (hx : x < 0 ∨ 100 ≤ x) : f_IB_word F 1 x h = some (.inr 11, h ++ [.inr (11, [])]) := by
  unfold f_IB_word
  rw [s_isWord_out hx, q_cb, if_pos rfl]
theorem s_word_full {v : Nat} (hv : v < 100) (ho : op.length = 20) (H : zC h mem fan nb op T dr wt s res rk) : f_IB_word F 1 (nI v) h = some (.inr 12, h ++ [.inr (12, [])]) := by
  unfold f_IB_word
  rw [s_isWord_in hv, q_cb, if_neg (by decide), q_gi H.1 rfl, ho]
  rfl
-- drop
theorem zz_J_drop {d : Nat} (hJ : zz_J T dr wt lvb s.1) : zz_J T (dr.set d true) wt lvb s.1 := by
  refine ⟨hJ.1, hJ.2.1, fun e he hdr ht => hJ.2.2 e he ?_ ht⟩
  rw [List.getElem?_set] at hdr
  split at hdr
  · split at hdr
    · cases hdr
    · cases hdr
  · exact hdr
theorem s_drop_in {d : Nat} (hd : dr[d]? = some false) (H : zC h mem fan nb op T dr wt s res rk) : zw (f_IB_drop F 1 (nI d) h) (fun x => x.1 = .inl (nI ((dr.set d true).filter (fun x => !x)).length) ∧ zC x.2 mem fan nb op T (dr.set d true) wt s res rk ∧ zz_fr [3, 4] h x.2) := by
  obtain ⟨c1, ⟨js, c2, c2'⟩, c3, c4, ⟨⟨l1, y1⟩, ⟨l2, y2⟩, ⟨o, n, y3⟩⟩, c6, c7, c8⟩ := H
  have X : zX h T dr nb fan s.1 s.2.1 s.2.2.1 s.2.2.2.1 s.2.2.2.2 := c4
  have hlt : d < dr.length := (List.getElem?_eq_some_iff.mp hd).1
  have h40 := X.2.1.1
  unfold f_IB_drop
  refine zw.ga c1 rfl ?_
  refine zw.is X.2.1.2.1 ?_
  refine zw.cbe (s_Documents_isLive X.2.1 d (by omega)) ?_
  rw [if_pos hd]
  refine zw.ifn (by decide) ?_
  refine zw.ga c1 rfl ?_
  refine zw.is X.2.1.2.1 ?_
  refine zw.cb (s_Documents_leaveOut (by decide) X.2.1 hd) ?_
  rintro _ h1 ⟨g1, f, g3⟩
  refine zw.ga (f.at c1 (by decide)) rfl ?_
  refine zw.is g1.2.1 ?_
  refine zw.cbe (s_Documents_live g1) ?_
  exact zw.ret ⟨rfl, ⟨f.at c1 (by decide), ⟨js, f.at c2 (by decide), c2'⟩, c3.fr f (by decide) (by decide), ⟨by rw [g3]; exact X.1, g1, X.2.2.1.fr f (by decide) (by decide) (by decide), X.2.2.2.1.fr f (by decide), f.at X.2.2.2.2 (by decide)⟩, ⟨⟨l1, y1.fr f (by decide) (by decide)⟩, ⟨l2, y2.fr f (by decide) (by decide)⟩, ⟨o, n, y3.fr f (by decide) (by decide)⟩⟩, c6.fr f (by decide) (by decide), c7.fr f (by decide) (by decide), c8.fr f (by decide) (by decide) (by decide)⟩, f⟩
theorem s_drop_out {x : Int32} (hx : x < 0 ∨ ∃ d, d < 2 ^ 31 ∧ x = nI d ∧ ¬ dr[d]? = some false) (H : zC h mem fan nb op T dr wt s res rk) : f_IB_drop F 1 x h = some (.inr 14, h ++ [.inr (14, [])]) := by
  obtain ⟨c1, c2, c3, c4, c5, c6, c7, c8⟩ := H
  have X : zX h T dr nb fan s.1 s.2.1 s.2.2.1 s.2.2.2.1 s.2.2.2.2 := c4
  unfold f_IB_drop
  rw [q_ga c1 rfl]
  show ((hp_is h 3 3).bind _) = _
  rw [q_is X.2.1.2.1]
  show hp_cb (f_Documents_isLive F 3 x h) _ = _
  rcases hx with hx | ⟨d, hd, rfl, hn⟩
  · rw [s_Documents_isLive_neg X.2.1 hx, q_cb, if_pos rfl]
  · rw [s_Documents_isLive X.2.1 d hd, if_neg hn, q_cb, if_pos rfl]
end Class
