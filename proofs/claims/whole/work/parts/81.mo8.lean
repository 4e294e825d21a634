-- the reference: run, byteOf, find, rank
section Mo8
variable {h : hh_H} {F mem fan nb wt lvb : Nat} {op : List Nat} {T : List (List Nat)} {dr : List Bool} {s : List (Nat × Nat × Nat) × Int32 × Int32 × Int32 × Int32} {res : List (Nat × UInt64)} {rk th : Int32} {v w : Nat}
theorem zz_head_first {pb : Nat} : ∀ (k i : Nat), i + k = 60 → (∀ j, j < i → pb.testBit j = false) → pb.testBit i = true → 0 < k → (zz_bl pb).headD 0 = i := by
  intro k i hi hno hb hk
  have e : zz_bl pb = (List.range' 0 i).filter pb.testBit ++ (List.range' i k).filter pb.testBit := by
    unfold zz_bl
    rw [← List.filter_append, List.range_eq_range', show 60 = i + k by omega]
    congr 1
    have := @List.range'_append_1 0 i k
    rw [Nat.zero_add] at this
    exact this.symm
  have e1 : (List.range' 0 i).filter pb.testBit = [] := by
    rw [List.filter_eq_nil_iff]
    intro x hx
    have := (List.mem_range'_1.mp hx).2
    rw [hno x (by omega)]
    simp
  obtain ⟨k, rfl⟩ : ∃ m, k = m + 1 := ⟨k - 1, by omega⟩
  rw [e, e1, List.nil_append, List.range'_succ, List.filter_cons, hb]
  rfl
theorem m_run86 {k : Nat} {r : Nat × Nat × Nat} {fs : List hh_V} {l : List Int64} (hnb : nb ≤ 60) (hpb : r.2.1 < 2 ^ nb) (hne : ∃ b, r.2.1.testBit b = true) (hk : k < 60) (hc : h[25]? = some (.inr (9, fs))) (f3 : fs[3]? = some (.inl (nI nb))) (f13 : fs[13]? = some (.inr (.inl (some 31)))) (h31 : h[31]? = some (.inl (3, .inr (.inr (.inl l))))) (hl : l[k]? = some (lN r.2.1)) : ∀ (m n i : Nat), i + m = nb → m < n → (∀ j, j < i → r.2.1.testBit j = false) →
    hp_it (fun _ _ _ _ => none) (f_Mo_run_86 F) n 25 (nI k) (nI i) h = some (nI ((zz_bl r.2.1).headD 0), h) := by
  intro m
  induction m with
  | zero =>
    intro n i hi hn hno
    exfalso
    obtain ⟨b, hb⟩ := hne
    have := zz_bit_lt hpb hb
    rw [hno b (by omega)] at hb
    cases hb
  | succ m ih =>
    intro n i hi hn hno
    obtain ⟨n, rfl⟩ : ∃ m, n = m + 1 := ⟨n - 1, by omega⟩
    rw [hp_it_s, f_Mo_run_86, q_gi hc f3]
    show (if nI nb ≤ nI i then _ else _) = _
    rw [if_neg (nI_ge (by omega) (by omega)), q_ga hc f13]
    show ((hp_aj h 31 (nI k)).bind _) = _
    rw [q_aj h31 (by omega) hl]
    show hp_cb (f_Mo_in F (lN r.2.1) (nI i) h) _ = _
    rw [s_Mo_in (zz_2_60 hnb hpb) (by omega), q_cb]
    cases hb : r.2.1.testBit i
    · rw [if_pos (show (if false = true then (1 : Int32) else 0) = 0 from rfl), nI_1]
      exact ih n (i + 1) (by omega) (by omega) (fun j hj => by
        by_cases hji : j = i
        · rw [hji]
          exact hb
        · exact hno j (by omega))
    · rw [if_neg (show ¬ (if true = true then (1 : Int32) else 0) = 0 by decide), zz_head_first (60 - i) i (by omega) hno hb (by omega)]
theorem m_run_in {k what : Nat} {r : Nat × Nat × Nat} (hF : 5000 < F) (HI : zz_I mem fan nb op T dr wt lvb s res rk) (hk : s.1[k]? = some r) (hw : what ≤ 3) (H : zM h th mem fan nb op T dr wt s res rk) : zw (f_Mo_run F 25 (nI k) (nI what) h) (fun x => x.1 = nI (zz_runv T r what) ∧ zM x.2 0 mem fan nb op T dr wt s res rk ∧ zz_fr [25, 35] h x.2) := by
  have htx := zz_txs HI
  obtain ⟨i1, i2, i3, i4, i5, i6, i7, i8, i9, i10, i11, i12, i13, i14⟩ := HI
  have hlt := (List.getElem?_eq_some_iff.mp hk).1
  have hlen := zz_row_len i3.2 i14
  have hrm := List.mem_of_getElem? hk
  obtain ⟨p1, p2⟩ := i14.1 r hrm
  obtain ⟨q1, q2⟩ := i9.1.1 r hrm
  unfold f_Mo_run
  refine s_clr H 0 fun h1 H1 f1 l1 => ?_
  obtain ⟨⟨sn, sz, a1, a2, ⟨⟨j1, u1, u2⟩, ⟨j2, v1, v2⟩, ⟨j3, w1, w2⟩⟩, a4⟩, ⟨js, b1, b2⟩, c⟩ := id H1
  have ll1 : (s.1.map (fun r => lN r.2.2) ++ j1)[k]? = some (lN r.2.2) := by rw [List.getElem?_append_left (by simp; omega), List.getElem?_map, hk]; rfl
  have ll2 : (s.1.map (fun r => lN r.2.1) ++ j2)[k]? = some (lN r.2.1) := by rw [List.getElem?_append_left (by simp; omega), List.getElem?_map, hk]; rfl
  have ll3 : (s.1.map (fun r => nI r.1) ++ j3)[k]? = some (nI r.1) := by rw [List.getElem?_append_left (by simp; omega), List.getElem?_map, hk]; rfl
  refine zw.ifn (nI_pos (by omega)) ?_
  refine zw.gi a1 rfl ?_
  refine zw.ifp (nI_lt hlt (by omega)) ?_
  refine zw.ifn (nI_pos (by omega)) ?_
  refine zw.ifp (show nI what ≤ 3 from nI_le (b := 3) hw (by decide)) ?_
  unfold zz_runv
  have hcase : what = 0 ∨ what = 1 ∨ what = 2 ∨ what = 3 := by omega
  rcases hcase with rfl | rfl | rfl | rfl
  · refine zw.ifp rfl ?_
    refine zw.ga a1 rfl ?_
    refine zw.ai w1 k rfl (by omega) ll3 ?_
    exact zw.ret ⟨rfl, H1, f1.mono (by simp)⟩
  · refine zw.ifn (by decide) ?_
    refine zw.ifp rfl ?_
    refine zw.ga a1 rfl ?_
    refine zw.aj v1 k rfl (by omega) ll2 ?_
    refine zw.cbe (s_Mo_bits (zz_2_60 i3.2 p1) (by omega)) ?_
    exact zw.ret ⟨rfl, H1, f1.mono (by simp)⟩
  · refine zw.ifn (by decide) ?_
    refine zw.ifn (by decide) ?_
    refine zw.ifn (by decide) ?_
    unfold l_Mo_run_86
    have hne : ∃ b, r.2.1.testBit b = true := by
      have hpos := zz_nd_pos T r.2.2
      have : zz_bl r.2.1 ≠ [] := fun q => by rw [q] at p2; simp at p2; omega
      obtain ⟨b, hb⟩ := List.exists_mem_of_ne_nil _ this
      exact ⟨b, (zz_bl_mem.mp hb).2⟩
    have := m_run86 (F := F) (h := h1) (r := r) i3.2 p1 hne (by omega) a1 rfl rfl v1 ll2 nb F 0 (by omega) (by omega) (fun j hj => by omega)
    exact zw.eq this ⟨rfl, H1, f1.mono (by simp)⟩
  · refine zw.ifn (by decide) ?_
    refine zw.ifn (by decide) ?_
    refine zw.ifp rfl ?_
    refine zw.ga a1 rfl ?_
    refine zw.aj u1 k rfl (by omega) ll1 ?_
    refine zw.is a1 ?_
    have hms : r.2.2 < 2 ^ 60 := zz_lt (fun i hi => by
      have := (q2 i hi).1
      omega)
    refine zw.cb (s_Mo_encode hms q1 (fun d hd => by have := (q2 d hd).1; omega) i5 htx hF a1 rfl rfl rfl rfl rfl rfl rfl a2 a4) ?_
    rintro _ h2 ⟨g1, g2, g3, g4, g5⟩
    have c2 : h2[25]? = some (.inr (9, zz_mf 0 (nI mem) (nI fan) (nI nb) (nI op.length) (nI T.length) (nI wt) (lN (zz_dn dr)) (nI s.1.length) (lN (zz_ub s.1)) s.2.1 s.2.2.1 s.2.2.2.1 s.2.2.2.2 (nI res.length) rk (nI (zz_enc T r.2.2).length) (lN r.2.2))) := g1
    refine zw.gi c2 rfl ?_
    refine zw.ret ⟨rfl, ⟨⟨r.2.2, (zz_enc T r.2.2).length, c2, g3, ⟨⟨j1, g4.at u1 (by decide), u2⟩, ⟨j2, g4.at v1 (by decide), v2⟩, ⟨j3, g4.at w1 (by decide), w2⟩⟩, ⟨hms, Or.inr ⟨rfl, g2, fun d hd => by have := (q2 d hd).1; omega⟩, ⟨_, g2⟩⟩⟩, ⟨js, g4.at b1 (by decide), b2⟩, c.fr g4 (by decide) (by decide)⟩, (f1.mono (by simp)).tr g4⟩
theorem m_run_what {k : Nat} {y : Int32} (hnb : nb ≤ 60) (hB : zz_okB nb T s.1) (hk : k < s.1.length) (hy : y < 0 ∨ 3 < y) (H : zM h th mem fan nb op T dr wt s res rk) : zw (f_Mo_run F 25 (nI k) y h) (fun x => zM x.2 2 mem fan nb op T dr wt s res rk ∧ zz_fr [25, 35] h x.2) := by
  have hlen := zz_row_len hnb hB
  unfold f_Mo_run
  refine s_clr H 0 fun h1 H1 f1 l1 => ?_
  obtain ⟨⟨sn, sz, a1, a2, a3, a4⟩, b, c⟩ := id H1
  refine zw.ifn (nI_pos (by omega)) ?_
  refine zw.gi a1 rfl ?_
  refine zw.ifp (nI_lt hk (by omega)) ?_
  by_cases h0 : y < 0
  · refine zw.ifp h0 ?_
    exact s_bad H1 2 (fun h2 H2 f2 l2 => ⟨H2, (f1.mono (by simp)).tr (f2.mono (by simp))⟩)
  · refine zw.ifn h0 ?_
    rcases hy with hy | hy
    · exact absurd hy h0
    · refine zw.ifn (Int32.not_le.mpr hy) ?_
      exact s_bad H1 2 (fun h2 H2 f2 l2 => ⟨H2, (f1.mono (by simp)).tr (f2.mono (by simp))⟩)
theorem m_run_out {x y : Int32} (hx : x < 0 ∨ nI s.1.length ≤ x) (H : zM h th mem fan nb op T dr wt s res rk) : zw (f_Mo_run F 25 x y h) (fun r => zM r.2 1 mem fan nb op T dr wt s res rk ∧ zz_fr [25, 35] h r.2) := by
  unfold f_Mo_run
  refine s_clr H 0 fun h1 H1 f1 l1 => ?_
  obtain ⟨⟨sn, sz, a1, a2, a3, a4⟩, b, c⟩ := id H1
  by_cases h0 : x < 0
  · refine zw.ifp h0 ?_
    exact s_bad H1 1 (fun h2 H2 f2 l2 => ⟨H2, (f1.mono (by simp)).tr (f2.mono (by simp))⟩)
  · refine zw.ifn h0 ?_
    refine zw.gi a1 rfl ?_
    rcases hx with hx | hx
    · exact absurd hx h0
    · refine zw.ifn (Int32.not_lt.mpr hx) ?_
      exact s_bad H1 1 (fun h2 H2 f2 l2 => ⟨H2, (f1.mono (by simp)).tr (f2.mono (by simp))⟩)
-- byteOf
theorem zz_idx {l : List Nat} {b : Nat} : ∀ {j : Nat}, zz_up l → l[j]? = some b → (l.filter (fun x => decide (x < b))).length = j := by
  induction l with
  | nil => intro j _ h; simp at h
  | cons a l ih =>
    intro j hu hj
    obtain ⟨h1, h2⟩ := List.pairwise_cons.mp hu
    cases j with
    | zero =>
      simp at hj
      subst hj
      rw [List.length_eq_zero_iff, List.filter_eq_nil_iff]
      intro x hx
      rcases List.mem_cons.mp hx with rfl | hx
      · simp
      · have := h1 x hx
        simp
        omega
    | succ j =>
      rw [List.getElem?_cons_succ] at hj
      have := h1 b (List.mem_of_getElem? hj)
      rw [List.filter_cons, if_pos (by simpa using this), List.length_cons, ih h2 hj]
theorem zz_bl_below {pb b : Nat} (hb : b < 60) : (zz_bl (pb &&& (2 ^ b - 1))) = (zz_bl pb).filter (fun x => decide (x < b)) := by
  refine zz_ext (zz_bl_up _) (zz_up_filter (zz_bl_up _) _) (fun x => ?_)
  rw [zz_bl_mem, List.mem_filter, zz_bl_mem, Nat.and_two_pow_sub_one_eq_mod, Nat.testBit_mod_two_pow]
  simp
  constructor
  · rintro ⟨h1, h2, h3⟩
    exact ⟨⟨h1, h3⟩, h2⟩
  · rintro ⟨⟨h1, h2⟩, h3⟩
    exact ⟨h1, h3, h2⟩
theorem m_byte_loop {b i : Nat} {vv : Nat} (hF : 5000 < F) (HI : zz_I mem fan nb op T dr wt lvb s res rk) (hb : b < nb) (hi : i < 16) (hcell : zz_cell T s.1 b i vv) (H : zM h th mem fan nb op T dr wt s res rk) : ∀ (B : List (Nat × Nat × Nat)) (n : Nat) (A : List (Nat × Nat × Nat)), s.1 = A ++ B → B.length < n → (∀ r ∈ A, r.2.1.testBit b = false) →
    zw (hp_it (fun _ _ _ _ _ => none) (f_Mo_byteOf_35 F) n 25 (nI b) (nI i) (nI A.length) h) (fun x => x.1 = nI vv ∧ zM x.2 th mem fan nb op T dr wt s res rk ∧ zz_fr [25, 35] h x.2) := by
  have htx := zz_txs HI
  obtain ⟨i1, i2, i3, i4, i5, i6, i7, i8, i9, i10, i11, i12, i13, i14⟩ := HI
  have hlen := zz_row_len i3.2 i14
  obtain ⟨⟨sn, sz, a1, a2, ⟨⟨j1, u1, u2⟩, ⟨j2, v1, v2⟩, ⟨j3, w1, w2⟩⟩, a4⟩, ⟨js, b1, b2⟩, c⟩ := id H
  intro B
  induction B with
  | nil =>
    intro n A hAB hn hno
    obtain ⟨n, rfl⟩ : ∃ m, n = m + 1 := ⟨n - 1, by omega⟩
    rw [hp_it_s, f_Mo_byteOf_35]
    refine zw.gi a1 rfl ?_
    refine zw.ifp (nI_le (by simp [hAB]) (by simp [hAB] at hlen; omega)) ?_
    refine zw.ret ⟨?_, H, zz_fr.rf _ _⟩
    rcases hcell with ⟨r, hr, j, hj, _⟩ | ⟨_, h0⟩
    · rw [hAB, List.append_nil] at hr
      have := (zz_bl_mem.mp (List.mem_of_getElem? hj)).2
      rw [hno r hr] at this
      cases this
    · rw [h0]
      rfl
  | cons r B ih =>
    intro n A hAB hn hno
    obtain ⟨n, rfl⟩ : ∃ m, n = m + 1 := ⟨n - 1, by omega⟩
    have hlR : s.1.length = A.length + B.length + 1 := by simp [hAB]; omega
    have hri : s.1[A.length]? = some r := by rw [hAB]; simp
    have hrm := List.mem_of_getElem? hri
    obtain ⟨p1, p2⟩ := i14.1 r hrm
    obtain ⟨q1, q2⟩ := i9.1.1 r hrm
    have hpb60 := zz_2_60 i3.2 p1
    have ll1 : (s.1.map (fun r => lN r.2.2) ++ j1)[A.length]? = some (lN r.2.2) := by rw [List.getElem?_append_left (by simp; omega), List.getElem?_map, hri]; rfl
    have ll2 : (s.1.map (fun r => lN r.2.1) ++ j2)[A.length]? = some (lN r.2.1) := by rw [List.getElem?_append_left (by simp; omega), List.getElem?_map, hri]; rfl
    rw [hp_it_s, f_Mo_byteOf_35]
    refine zw.gi a1 rfl ?_
    refine zw.ifn (nI_ge (by omega) (by omega)) ?_
    refine zw.ga a1 rfl ?_
    refine zw.aj v1 A.length rfl (by omega) ll2 ?_
    refine zw.cbe (s_Mo_in hpb60 (by omega)) ?_
    cases hbt : r.2.1.testBit b
    · refine zw.ifp rfl ?_
      have e1 : nI A.length + 1 = nI (A ++ [r]).length := by rw [nI_1]; simp
      rw [e1]
      exact ih n (A ++ [r]) (by simp [hAB]) (by simp at hn; omega) (fun x hx => by
        rcases List.mem_append.mp hx with hx | hx
        · exact hno x hx
        · rw [List.mem_singleton.mp hx]
          exact hbt)
    · refine zw.ifn (by decide) ?_
      -- the run that the cell speaks of is this one
      obtain ⟨j, hj, hvv⟩ : ∃ j, (zz_bl r.2.1)[j]? = some b ∧ vv = (zz_enc T r.2.2).getD (16 * j + i) 0 := by
        rcases hcell with ⟨r', hr', j, hj, hv⟩ | ⟨hu, _⟩
        · have hbr' := (zz_bl_mem.mp (List.mem_of_getElem? hj)).2
          have : r' = r := by
            rcases Classical.em (r' = r) with q | q
            · exact q
            · exact absurd ⟨hbr', hbt⟩ (zz_pw_all (fun x y h => zz_djB.symm h) i14.2 r' hr' r hrm q b)
          subst this
          exact ⟨j, hj, hv⟩
        · rw [zz_ub_bit.mpr ⟨r, hrm, hbt⟩] at hu
          cases hu
      have hms : r.2.2 < 2 ^ 60 := zz_lt (fun i hi => by
        have := (q2 i hi).1
        omega)
      rw [f_Mo_byteOf_59]
      refine zw.ga a1 rfl ?_
      refine zw.aj u1 A.length rfl (by omega) ll1 ?_
      refine zw.is a1 ?_
      refine zw.cb (s_Mo_encode hms q1 (fun d hd => by have := (q2 d hd).1; omega) i5 htx hF a1 rfl rfl rfl rfl rfl rfl rfl a2 a4) ?_
      rintro _ h2 ⟨g1, g2, g3, g4, g5⟩
      have c2 : h2[25]? = some (.inr (9, zz_mf th (nI mem) (nI fan) (nI nb) (nI op.length) (nI T.length) (nI wt) (lN (zz_dn dr)) (nI s.1.length) (lN (zz_ub s.1)) s.2.1 s.2.2.1 s.2.2.2.1 s.2.2.2.2 (nI res.length) rk (nI (zz_enc T r.2.2).length) (lN r.2.2))) := g1
      have M2 : zM h2 th mem fan nb op T dr wt s res rk := ⟨⟨r.2.2, (zz_enc T r.2.2).length, c2, g3, ⟨⟨j1, g4.at u1 (by decide), u2⟩, ⟨j2, g4.at v1 (by decide), v2⟩, ⟨j3, g4.at w1 (by decide), w2⟩⟩, ⟨hms, Or.inr ⟨rfl, g2, fun d hd => by have := (q2 d hd).1; omega⟩, ⟨_, g2⟩⟩⟩, ⟨js, g4.at b1 (by decide), b2⟩, c.fr g4 (by decide) (by decide)⟩
      refine zw.ga c2 rfl ?_
      refine zw.aj (g4.at v1 (by decide)) A.length rfl (by omega) ll2 ?_
      have hp2 : 2 ^ b < 2 ^ 60 := Nat.pow_lt_pow_right (by decide) (by omega)
      have hp0 : 0 < 2 ^ b := Nat.two_pow_pos b
      have e2 : (1 : Int64) <<< ((nI b).toInt64 &&& 63) - 1 = lN (2 ^ b - 1) := by
        rw [zz_lbit (by omega), zz_l1, lN_sub (by omega)]
      rw [e2, wb_and (Nat.lt_trans hpb60 (by decide)) (by omega)]
      have hand : r.2.1 &&& (2 ^ b - 1) < 2 ^ 60 := Nat.lt_of_le_of_lt Nat.and_le_left hpb60
      refine zw.cbe (s_Mo_bits hand (by omega)) ?_
      rw [zz_bl_below (by omega), zz_idx (zz_bl_up _) hj]
      refine zw.gi c2 rfl ?_
      have hjl := (List.getElem?_eq_some_iff.mp hj).1
      have hb60 : (zz_bl r.2.1).length ≤ 60 := by
        unfold zz_bl
        exact Nat.le_trans (List.length_filter_le _ _) (by simp)
      have hel := zz_enc_4001 T r.2.2
      have e3 : 16 * nI j + nI i = nI (16 * j + i) := by
        rw [show 16 * nI j = nI (16 * j) from pk_mul 16 j, nI_add]
      rw [e3]
      by_cases hq : (zz_enc T r.2.2).length ≤ 16 * j + i
      · refine zw.ifp (nI_le hq (by omega)) ?_
        refine zw.ret ⟨?_, M2, g4⟩
        rw [hvv, List.getD_eq_getElem?_getD, List.getElem?_eq_none hq]
        rfl
      · refine zw.ifn (nI_ge (by omega) (by omega)) ?_
        refine zw.ga c2 rfl ?_
        obtain ⟨bs, e35, _, ebs⟩ := g2
        refine zw.ab (w := nI vv) e35 (16 * j + i) rfl (by omega) ?_ ?_
        · rw [ebs _ (by omega), hvv, List.getD_eq_getElem?_getD, List.getElem?_eq_getElem (by omega)]
          rfl
        · exact zw.ret ⟨rfl, M2, g4⟩
theorem m_byteOf_in {b i : Nat} {vv : Nat} (hF : 5000 < F) (HI : zz_I mem fan nb op T dr wt lvb s res rk) (hb : b < nb) (hi : i < 16) (hcell : zz_cell T s.1 b i vv) (H : zM h th mem fan nb op T dr wt s res rk) : zw (f_Mo_byteOf F 25 (nI b) (nI i) h) (fun x => x.1 = nI vv ∧ zM x.2 0 mem fan nb op T dr wt s res rk ∧ zz_fr [25, 35] h x.2) := by
  have hlen := zz_row_len HI.2.2.1.2 HI.2.2.2.2.2.2.2.2.2.2.2.2.2
  have hnb := HI.2.2.1.2
  unfold f_Mo_byteOf
  refine s_clr H 0 fun h1 H1 f1 l1 => ?_
  obtain ⟨⟨sn, sz, a1, a2, a3, a4⟩, b', c⟩ := id H1
  refine zw.ifn (nI_pos (by omega)) ?_
  refine zw.gi a1 rfl ?_
  refine zw.ifn (nI_ge hb (by omega)) ?_
  refine zw.ifn (nI_pos (by omega)) ?_
  refine zw.ifp (show nI i ≤ 15 from nI_le (b := 15) (by omega) (by decide)) ?_
  unfold l_Mo_byteOf_35
  refine (m_byte_loop (F := F) hF HI hb hi hcell H1 s.1 F [] rfl (by omega) (fun r hr => by cases hr)).mono ?_
  rintro x ⟨q1, q2, q3⟩
  exact ⟨q1, q2, (f1.mono (by simp)).tr q3⟩
theorem m_byteOf_out {x y : Int32} (hq : x < 0 ∨ nI nb ≤ x ∨ y < 0 ∨ 16 ≤ y) (H : zM h th mem fan nb op T dr wt s res rk) : zw (f_Mo_byteOf F 25 x y h) (fun r => zM r.2 1 mem fan nb op T dr wt s res rk ∧ zz_fr [25, 35] h r.2) := by
  unfold f_Mo_byteOf
  refine s_clr H 0 fun h1 H1 f1 l1 => ?_
  obtain ⟨⟨sn, sz, a1, a2, a3, a4⟩, b', c⟩ := id H1
  have bad : zw ((hp_is h1 25 9).bind fun _ => hp_cb (f_Mo_fail F 25 1 h1) fun q h2 => some (q, h2)) (fun r => zM r.2 1 mem fan nb op T dr wt s res rk ∧ zz_fr [25, 35] h r.2) := s_bad H1 1 (fun h2 H2 f2 l2 => ⟨H2, (f1.mono (by simp)).tr (f2.mono (by simp))⟩)
  by_cases h1 : x < 0
  · refine zw.ifp h1 ?_
    exact bad
  · refine zw.ifn h1 ?_
    refine zw.gi a1 rfl ?_
    by_cases h2 : nI nb ≤ x
    · refine zw.ifp h2 ?_
      exact bad
    · refine zw.ifn h2 ?_
      by_cases h3 : y < 0
      · refine zw.ifp h3 ?_
        exact bad
      · refine zw.ifn h3 ?_
        rcases hq with hq | hq | hq | hq
        · exact absurd hq h1
        · exact absurd hq h2
        · exact absurd hq h3
        · refine zw.ifn (fun q => ?_) ?_
          · have e1 := Int32.le_iff_toInt_le.mp hq
            have e2 := Int32.le_iff_toInt_le.mp q
            have e3 : (16 : Int32).toInt = 16 := by decide
            have e4 : (15 : Int32).toInt = 15 := by decide
            omega
          · exact bad
end Mo8
