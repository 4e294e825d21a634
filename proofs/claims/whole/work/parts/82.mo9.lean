-- the reference: find and rank
section Mo9
variable {h : hh_H} {F mem fan nb wt lvb : Nat} {op : List Nat} {T : List (List Nat)} {dr : List Bool} {s : List (Nat × Nat × Nat) × Int32 × Int32 × Int32 × Int32} {res : List (Nat × UInt64)} {rk th : Int32} {v w : Nat} {fs : List hh_V}
theorem zz_adj_range {t : List Nat} (ht : t.length ≤ 20) : zz_adj t v w = (List.range' 0 t.length).any (fun p => t[p]? == some v && t[p + 1]? == some w) := by
  unfold zz_adj
  rw [Bool.eq_iff_iff, List.any_eq_true, List.any_eq_true, ← List.range_eq_range']
  constructor
  · rintro ⟨p, hp, hq⟩
    refine ⟨p, List.mem_range.mpr ?_, hq⟩
    rw [Bool.and_eq_true, beq_iff_eq] at hq
    exact (List.getElem?_eq_some_iff.mp hq.1).1
  · rintro ⟨p, hp, hq⟩
    exact ⟨p, List.mem_range.mpr (by have := List.mem_range.mp hp; omega), hq⟩
theorem m_adj_loop {d : Nat} {t : List Nat} (htx : zz_tx T d = t) (hd : d < T.length) (hT : T.length ≤ 40) (ht : t.length ≤ 20) (hw2 : ∀ x ∈ t, x < 2 ^ 31) (hv : v < 2 ^ 31) (hw : w < 2 ^ 31) (hc : h[25]? = some (.inr (9, fs))) (f6 : fs[6]? = some (.inr (.inl (some 27)))) (f7 : fs[7]? = some (.inr (.inl (some 28)))) (HT : zT h T) : ∀ (k n p : Nat), p + k = t.length → k < n → hp_it (fun _ _ _ _ _ _ => none) (f_Mo_adjacent_3 F) n 25 (nI d) (nI v) (nI w) (nI p) h = some (if (List.range' p k).any (fun p => t[p]? == some v && t[p + 1]? == some w) = true then 1 else 0, h) := by
  obtain ⟨⟨g1, t1, t2⟩, ⟨g2, t3, t4⟩, t5⟩ := HT
  intro k
  induction k with
  | zero =>
    intro n p hp hn
    obtain ⟨n, rfl⟩ : ∃ m, n = m + 1 := ⟨n - 1, by omega⟩
    rw [hp_it_s, f_Mo_adjacent_3, q_ga hc f7]
    show ((hp_ai h 28 (nI d)).bind _) = _
    rw [q_ai t3 (by omega) (zz_row_get (by omega)), t4 d hd, htx]
    show (if nI t.length ≤ nI p + 1 then _ else _) = _
    rw [nI_1, if_pos (nI_le (by omega) (by omega))]
    rfl
  | succ k ih =>
    intro n p hp hn
    obtain ⟨n, rfl⟩ : ∃ m, n = m + 1 := ⟨n - 1, by omega⟩
    rw [hp_it_s, f_Mo_adjacent_3, q_ga hc f7]
    show ((hp_ai h 28 (nI d)).bind _) = _
    rw [q_ai t3 (by omega) (zz_row_get (by omega)), t4 d hd, htx]
    show (if nI t.length ≤ nI p + 1 then _ else _) = _
    rw [nI_1]
    have hpt : p < t.length := by omega
    cases k with
    | zero =>
      rw [if_pos (nI_le (by omega) (by omega))]
      have : t[p + 1]? = none := List.getElem?_eq_none (by omega)
      simp [this]
    | succ k =>
      have hpt1 : p + 1 < t.length := by omega
      rw [if_neg (nI_ge (by omega) (by omega)), q_ga hc f6]
      show ((hp_ai h 27 (20 * nI d + nI p)).bind _) = _
      have e1 : 20 * nI d + nI p = nI (20 * d + p) := by
        rw [show 20 * nI d = nI (20 * d) from pk_mul 20 d, nI_add]
      have x1 : g1 (20 * d + p) = nI t[p] := t2 d p _ (by rw [htx]; exact List.getElem?_eq_getElem hpt)
      have x2 : g1 (20 * d + p + 1) = nI t[p + 1] := t2 d (p + 1) _ (by rw [htx]; exact List.getElem?_eq_getElem hpt1)
      have m1 := hw2 t[p] (List.getElem_mem hpt)
      have m2 := hw2 t[p + 1] (List.getElem_mem hpt1)
      rw [e1, q_ai t1 (by omega) (zz_row_get (by omega)), x1]
      show (if nI t[p] = nI v then _ else _) = _
      have hih := ih n (p + 1) (by omega) (by omega)
      have ea : (List.range' p (k + 1 + 1)).any (fun p => t[p]? == some v && t[p + 1]? == some w) = ((t[p]? == some v && t[p + 1]? == some w) || (List.range' (p + 1) (k + 1)).any (fun p => t[p]? == some v && t[p + 1]? == some w)) := by rw [List.range'_succ, List.any_cons]
      rw [ea, List.getElem?_eq_getElem hpt, List.getElem?_eq_getElem hpt1]
      by_cases hq : t[p] = v
      · rw [if_pos (by rw [hq])]
        show ((hp_ai h 27 (nI (20 * d + p) + 1)).bind _) = _
        rw [nI_1, q_ai t1 (by omega) (zz_row_get (by omega)), x2]
        show (if nI t[p + 1] = nI w then _ else _) = _
        by_cases hq2 : t[p + 1] = w
        · rw [if_pos (by rw [hq2]), show (some t[p] == some v) = true by simp [hq], show (some t[p + 1] == some w) = true by simp [hq2], Bool.true_and, Bool.true_or, if_pos rfl]
        · rw [if_neg (fun q => hq2 ((nI_eq m2 hw).mp q)), hih, show (some t[p + 1] == some w) = false by simpa using hq2, Bool.and_false, Bool.false_or]
      · rw [if_neg (fun q => hq ((nI_eq m1 hv).mp q)), hih, show (some t[p] == some v) = false by simpa using hq, Bool.false_and, Bool.false_or]
theorem m_fits {d how : Nat} (hF : 5000 < F) (hd : d < T.length) (hT : T.length ≤ 40) (hh : how ≤ 3) (hv : v < 100) (hw : w < 100) (htx : ∀ d, (zz_tx T d).length ≤ 20 ∧ ∀ x ∈ zz_tx T d, x < 100) (hc : h[25]? = some (.inr (9, fs))) (f6 : fs[6]? = some (.inr (.inl (some 27)))) (f7 : fs[7]? = some (.inr (.inl (some 28)))) (f8 : fs[8]? = some (.inr (.inl (some 29)))) (HT : zT h T) : f_Mo_fits F 25 (nI d) (nI v) (nI w) (nI how) h = some (if zz_fit0 (zz_tx T d) v w how = true then 1 else 0, h) := by
  have hadj : f_Mo_adjacent F 25 (nI d) (nI v) (nI w) h = some (if zz_adj (zz_tx T d) v w = true then 1 else 0, h) := by
    unfold f_Mo_adjacent l_Mo_adjacent_3
    rw [zz_adj_range (htx d).1]
    have := (htx d).1
    exact m_adj_loop (F := F) rfl hd hT (htx d).1 (fun x hx => by have := (htx d).2 x hx; omega) (by omega) (by omega) hc f6 f7 HT (zz_tx T d).length F 0 (by omega) (by omega)
  have pv := zz_pl_len (zz_tx T d) v
  have pw := zz_pl_len (zz_tx T d) w
  -- the two flags
  have key : ∀ x5 s0 : Int32, (x5 = if (zz_pl (zz_tx T d) v).isEmpty = true then 0 else 1) → (s0 = if (zz_pl (zz_tx T d) w).isEmpty = true then 0 else 1) → f_Mo_fits_30 F 25 (nI d) (nI v) (nI w) (nI how) x5 s0 h = some (if zz_fit0 (zz_tx T d) v w how = true then 1 else 0, h) := by
    intro x5 s0 h5 h0
    unfold f_Mo_fits_30 zz_fit0
    have hcase : how = 0 ∨ how = 1 ∨ how = 2 ∨ how = 3 := by omega
    rcases hcase with rfl | rfl | rfl | rfl
    · rw [if_pos (show nI 0 = 0 from rfl), h5, h0]
      cases (zz_pl (zz_tx T d) v).isEmpty <;> cases (zz_pl (zz_tx T d) w).isEmpty <;> rfl
    · rw [if_neg (show ¬ nI 1 = 0 by decide), if_pos (show nI 1 = 1 from rfl), h5, h0]
      cases (zz_pl (zz_tx T d) v).isEmpty <;> cases (zz_pl (zz_tx T d) w).isEmpty <;> rfl
    · rw [if_neg (show ¬ nI 2 = 0 by decide), if_neg (show ¬ nI 2 = 1 by decide), if_pos (show nI 2 = 2 from rfl), q_is hc]
      show hp_cb (f_Mo_adjacent F 25 (nI d) (nI v) (nI w) h) _ = _
      rw [hadj, q_cb]
      cases zz_adj (zz_tx T d) v w <;> rfl
    · rw [if_neg (show ¬ nI 3 = 0 by decide), if_neg (show ¬ nI 3 = 1 by decide), if_neg (show ¬ nI 3 = 2 by decide), h5, h0]
      cases (zz_pl (zz_tx T d) v).isEmpty <;> cases (zz_pl (zz_tx T d) w).isEmpty <;> rfl
  have k14 : ∀ x5 : Int32, (x5 = if (zz_pl (zz_tx T d) v).isEmpty = true then 0 else 1) → f_Mo_fits_14 F 25 (nI d) (nI v) (nI w) (nI how) x5 h = some (if zz_fit0 (zz_tx T d) v w how = true then 1 else 0, h) := by
    intro x5 h5
    unfold f_Mo_fits_14
    rw [q_is hc]
    show hp_cb (f_Mo_often F 25 (nI d) (nI w) h) _ = _
    rw [s_Mo_often (T := T) (by omega) hw hc f8 HT, q_cb]
    cases hq : zz_pl (zz_tx T d) w with
    | nil =>
      rw [if_pos (by decide)]
      exact key x5 0 h5 (by rw [hq]; rfl)
    | cons a l =>
      rw [hq] at pw
      rw [if_neg (nI_nle (by simp) (by omega))]
      exact key x5 1 h5 (by rw [hq]; rfl)
  unfold f_Mo_fits
  rw [q_is hc]
  show hp_cb (f_Mo_often F 25 (nI d) (nI v) h) _ = _
  rw [s_Mo_often (T := T) (by omega) hv hc f8 HT, q_cb]
  cases hq : zz_pl (zz_tx T d) v with
  | nil =>
    rw [if_pos (by decide)]
    exact k14 0 (by rw [hq]; rfl)
  | cons a l =>
    rw [hq] at pv
    rw [if_neg (nI_nle (by simp) (by omega))]
    exact k14 1 (by rw [hq]; rfl)
theorem m_find_loop {how : Nat} (hF : 5000 < F) (hh : how ≤ 3) (hv : v < 100) (hw : w < 100) (htx : ∀ d, (zz_tx T d).length ≤ 20 ∧ ∀ x ∈ zz_tx T d, x < 100) (hT : T.length ≤ 40) (hdr : dr.length = T.length) : ∀ (k n i : Nat) (L : List Nat) (h1 : hh_H), i + k = T.length → k < n → L.length ≤ i → zM h1 th mem fan nb op T dr wt s (L.map (fun d => (d, FP.dconst0))) 0 →
    zw (hp_it (fun _ _ _ _ _ _ => none) (f_Mo_find_63 F) n 25 (nI v) (nI w) (nI how) (nI i) h1) (fun x => x.1 = nI (L ++ (List.range' i k).filter (zz_fit T dr v w how)).length ∧ zM x.2 th mem fan nb op T dr wt s ((L ++ (List.range' i k).filter (zz_fit T dr v w how)).map (fun d => (d, FP.dconst0))) 0 ∧ zz_fr [25, 33] h1 x.2) := by
  have hdn := zz_dn_lt (dr := dr) (by omega)
  intro k
  induction k with
  | zero =>
    intro n i L h1 hi hn hL H
    obtain ⟨n, rfl⟩ : ∃ m, n = m + 1 := ⟨n - 1, by omega⟩
    obtain ⟨⟨sn, sz, a1, a2, a3, a4⟩, b, c⟩ := id H
    rw [hp_it_s, f_Mo_find_63]
    refine zw.gi a1 rfl ?_
    refine zw.ifp (nI_le (by omega) (by omega)) ?_
    refine zw.gi a1 rfl ?_
    exact zw.ret ⟨by simp, by simpa using H, zz_fr.rf _ _⟩
  | succ k ih =>
    intro n i L h1 hi hn hL H
    obtain ⟨n, rfl⟩ : ∃ m, n = m + 1 := ⟨n - 1, by omega⟩
    obtain ⟨⟨sn, sz, a1, a2, a3, a4⟩, ⟨js0, b1, b2⟩, ⟨⟨js, c1, c2⟩, ⟨ks, c3, c4, c5⟩⟩⟩ := id H
    rw [hp_it_s, f_Mo_find_63]
    refine zw.gi a1 rfl ?_
    refine zw.ifn (nI_ge (by omega) (by omega)) ?_
    refine zw.gj a1 rfl ?_
    refine zw.cbe (s_Mo_in hdn (by omega)) ?_
    rw [List.range'_succ, List.filter_cons, nI_1]
    have hskip : zz_fit T dr v w how i = false → zw (hp_it (fun _ _ _ _ _ _ => none) (f_Mo_find_63 F) n 25 (nI v) (nI w) (nI how) (nI (i + 1)) h1) (fun x => x.1 = nI (L ++ if zz_fit T dr v w how i = true then i :: (List.range' (i + 1) k).filter (zz_fit T dr v w how) else (List.range' (i + 1) k).filter (zz_fit T dr v w how)).length ∧ zM x.2 th mem fan nb op T dr wt s ((L ++ if zz_fit T dr v w how i = true then i :: (List.range' (i + 1) k).filter (zz_fit T dr v w how) else (List.range' (i + 1) k).filter (zz_fit T dr v w how)).map (fun d => (d, FP.dconst0))) 0 ∧ zz_fr [25, 33] h1 x.2) := by
      intro hq
      rw [hq]
      exact ih n (i + 1) L h1 (by omega) (by omega) (by omega) H
    have hlt : i < dr.length := by omega
    cases hb : (zz_dn dr).testBit i
    · have hlv : dr[i]? = some false := by
        rw [List.getElem?_eq_getElem hlt]
        cases hq : dr[i]
        · rfl
        · rw [(zz_dn_bit dr i).mpr (by rw [List.getElem?_eq_getElem hlt, hq])] at hb
          cases hb
      refine zw.ifp rfl ?_
      refine zw.is a1 ?_
      refine zw.cbe (m_fits hF (by omega) hT hh hv hw htx a1 rfl rfl rfl a2) ?_
      have hfit : zz_fit T dr v w how i = zz_fit0 (zz_tx T i) v w how := by
        unfold zz_fit
        rw [hlv]
        simp
      cases hq : zz_fit0 (zz_tx T i) v w how
      · refine zw.ifp rfl ?_
        exact hskip (by rw [hfit, hq])
      · refine zw.ifn (by decide) ?_
        rw [hfit, hq]
        simp only [if_true]
        refine zw.ga a1 rfl ?_
        refine zw.gi a1 rfl ?_
        refine zw.si c1 (L.map (fun d => (d, FP.dconst0))).length rfl (by simp at c2 ⊢; omega) (by simp; omega) fun h2 s2 => ?_
        have d2 := s2.at a1 (by decide)
        refine zw.gi d2 rfl ?_
        refine zw.pi d2 (Nat.le_of_ble_eq_true rfl) fun h3 s3 => ?_
        have d3 : h3[25]? = some (.inr (9, zz_mf th (nI mem) (nI fan) (nI nb) (nI op.length) (nI T.length) (nI wt) (lN (zz_dn dr)) (nI s.1.length) (lN (zz_ub s.1)) s.2.1 s.2.2.1 s.2.2.2.1 s.2.2.2.2 (nI (L.map (fun d => (d, FP.dconst0))).length + 1) 0 (nI sz) (lN sn))) := s3.1
        have f3 : zz_fr [25, 33] h1 h3 := (s2.fr (by simp)).tr (s3.fr (by simp))
        have M3 : zM h3 th mem fan nb op T dr wt s ((L ++ [i]).map (fun d => (d, FP.dconst0))) 0 := by
          refine ⟨⟨sn, sz, ?_, a2.fr f3 (by decide) (by decide) (by decide), a3.fr f3 (by decide) (by decide) (by decide), a4.fr f3 (by decide)⟩, ⟨js0, f3.at b1 (by decide), b2⟩, ⟨?_, ⟨ks, f3.at c3 (by decide), c4, fun q => absurd q (by decide)⟩⟩⟩
          · rw [d3, nI_1]
            simp
          · cases js with
            | nil => simp at c2; omega
            | cons j js =>
              refine ⟨js, (s3.2.1 33 (by decide)).trans (s2.1.trans ?_), by simp at c2 ⊢; omega⟩
              have := zz_set_gap ((L.map (fun d => (d, FP.dconst0))).map (fun x => nI x.1)) js j (nI i)
              rw [List.length_map] at this
              rw [this]
              simp
        refine (ih n (i + 1) (L ++ [i]) h3 (by omega) (by omega) (by simp; omega) M3).mono ?_
        rintro x ⟨q1, q2, q3⟩
        refine ⟨?_, ?_, f3.tr q3⟩
        · rw [q1]
          simp
        · simpa using q2
    · refine zw.ifn (by decide) ?_
      refine hskip ?_
      unfold zz_fit
      rw [(zz_dn_bit dr i).mp hb]
      rfl
theorem m_find_in {how : Nat} (hF : 5000 < F) (hv : v < 100) (hw : w < 100) (hh : how ≤ 3) (HI : zz_I mem fan nb op T dr wt lvb s res rk) (H : zM h th mem fan nb op T dr wt s res rk) :
    zw (f_Mo_find F 25 (nI v) (nI w) (nI how) h) (fun x => x.1 = nI (zz_fnd T dr v w how).length ∧ zM x.2 0 mem fan nb op T dr wt (zz_rds s) (zz_fnd T dr v w how) 0 ∧ zz_fr [25, 33] h x.2) := by
  have htx := zz_txs HI
  obtain ⟨i1, i2, i3, i4, i5, i6, i7, i8, i9, i10, i11, i12, i13, i14⟩ := HI
  have hu : zz_ub s.1 < 2 ^ 60 := zz_2_60 i3.2 (zz_ub_lt i14)
  unfold f_Mo_find
  refine s_clr H 0 fun h1 H1 f1 l1 => ?_
  obtain ⟨⟨sn, sz, a1, a2, a3, a4⟩, ⟨js0, b1, b2⟩, ⟨⟨js, c1, c2⟩, ⟨ks, c3, c4, c5⟩⟩⟩ := id H1
  refine zw.cbe (s_noWord_in hv) ?_
  refine zw.ifp rfl ?_
  refine zw.cbe (s_noWord_in hw) ?_
  refine zw.ifp rfl ?_
  refine zw.ifn (nI_pos (by omega)) ?_
  refine zw.ifp (show nI how ≤ 3 from nI_le (b := 3) hh (by decide)) ?_
  refine zw.gi a1 rfl ?_
  refine zw.gj a1 rfl ?_
  refine zw.cbe (s_Mo_bits hu (by omega)) ?_
  rw [zz_ub_len i14.2]
  refine zw.pi a1 (Nat.le_of_ble_eq_true rfl) fun h2 s2 => ?_
  have d2 : h2[25]? = some (.inr (9, zz_mf 0 (nI mem) (nI fan) (nI nb) (nI op.length) (nI T.length) (nI wt) (lN (zz_dn dr)) (nI s.1.length) (lN (zz_ub s.1)) (s.2.1 + nI (zz_nbs s.1)) s.2.2.1 s.2.2.2.1 s.2.2.2.2 (nI res.length) rk (nI sz) (lN sn))) := s2.1
  refine zw.pi d2 (Nat.le_of_ble_eq_true rfl) fun h3 s3 => ?_
  have d3 : h3[25]? = some (.inr (9, zz_mf 0 (nI mem) (nI fan) (nI nb) (nI op.length) (nI T.length) (nI wt) (lN (zz_dn dr)) (nI s.1.length) (lN (zz_ub s.1)) (s.2.1 + nI (zz_nbs s.1)) s.2.2.1 s.2.2.2.1 s.2.2.2.2 0 rk (nI sz) (lN sn))) := s3.1
  refine zw.pz d3 (Nat.le_of_ble_eq_true rfl) (Or.inl rfl) fun h4 s4 => ?_
  have d4 : h4[25]? = some (.inr (9, zz_mf 0 (nI mem) (nI fan) (nI nb) (nI op.length) (nI T.length) (nI wt) (lN (zz_dn dr)) (nI s.1.length) (lN (zz_ub s.1)) (s.2.1 + nI (zz_nbs s.1)) s.2.2.1 s.2.2.2.1 s.2.2.2.2 0 0 (nI sz) (lN sn))) := s4.1
  have f4 : zz_fr [25] h1 h4 := (s2.fr (by simp)).tr ((s3.fr (by simp)).tr (s4.fr (by simp)))
  have M4 : zM h4 0 mem fan nb op T dr wt (zz_rds s) (([] : List Nat).map (fun d => (d, FP.dconst0))) 0 := ⟨⟨sn, sz, d4, a2.fr f4 (by decide) (by decide) (by decide), a3.fr f4 (by decide) (by decide) (by decide), a4.fr f4 (by decide)⟩, ⟨js0, f4.at b1 (by decide), b2⟩, ⟨⟨res.map (fun x => nI x.1) ++ js, f4.at c1 (by decide), by simp; omega⟩, ⟨ks, f4.at c3 (by decide), c4, fun q => absurd q (by decide)⟩⟩⟩
  unfold l_Mo_find_63
  refine (m_find_loop (F := F) hF hh hv hw htx i5 i6 T.length F 0 [] h4 (by omega) (by omega) (by simp) M4).mono ?_
  rintro x ⟨q1, q2, q3⟩
  rw [← List.range_eq_range', List.nil_append] at q1 q2
  exact ⟨by rw [q1]; simp [zz_fnd], q2, (f1.mono (by simp)).tr ((f4.mono (by simp)).tr q3)⟩
theorem s_noWord_gen {x : Int32} : f_Mo_noWord F x h = some (0, h) ∨ f_Mo_noWord F x h = some (1, h) := by
  unfold f_Mo_noWord
  split
  · exact Or.inr rfl
  · split
    · exact Or.inl rfl
    · exact Or.inr rfl
theorem m_find_bad {x y z : Int32} (hq : x < 0 ∨ 100 ≤ x ∨ y < 0 ∨ 100 ≤ y ∨ z < 0 ∨ 3 < z) (H : zM h th mem fan nb op T dr wt s res rk) : zw (f_Mo_find F 25 x y z h) (fun r => zM r.2 1 mem fan nb op T dr wt s res rk ∧ zz_fr [25, 33] h r.2) := by
  unfold f_Mo_find
  refine s_clr H 0 fun h1 H1 f1 l1 => ?_
  have bad : zw ((hp_is h1 25 9).bind fun _ => hp_cb (f_Mo_fail F 25 1 h1) fun q h2 => some (q, h2)) (fun r => zM r.2 1 mem fan nb op T dr wt s res rk ∧ zz_fr [25, 33] h r.2) := s_bad H1 1 (fun h2 H2 f2 l2 => ⟨H2, (f1.mono (by simp)).tr (f2.mono (by simp))⟩)
  by_cases hx : x < 0 ∨ 100 ≤ x
  · refine zw.cbe (s_noWord_out hx) ?_
    refine zw.ifn (by decide) ?_
    exact bad
  · rcases s_noWord_gen (F := F) (h := h1) (x := x) with hn | hn
    · refine zw.cbe hn ?_
      refine zw.ifp rfl ?_
      by_cases hy : y < 0 ∨ 100 ≤ y
      · refine zw.cbe (s_noWord_out hy) ?_
        refine zw.ifn (by decide) ?_
        exact bad
      · rcases s_noWord_gen (F := F) (h := h1) (x := y) with hm | hm
        · refine zw.cbe hm ?_
          refine zw.ifp rfl ?_
          by_cases h3 : z < 0
          · refine zw.ifp h3 ?_
            exact bad
          · refine zw.ifn h3 ?_
            rcases hq with hq | hq | hq | hq | hq | hq
            · exact absurd (Or.inl hq) hx
            · exact absurd (Or.inr hq) hx
            · exact absurd (Or.inl hq) hy
            · exact absurd (Or.inr hq) hy
            · exact absurd hq h3
            · refine zw.ifn (Int32.not_le.mpr hq) ?_
              exact bad
        · refine zw.cbe hm ?_
          refine zw.ifn (by decide) ?_
          exact bad
    · refine zw.cbe hn ?_
      refine zw.ifn (by decide) ?_
      exact bad
theorem m_rank_bad {x y : Int32} (hq : x < 0 ∨ 100 ≤ x ∨ y < 0 ∨ 100 ≤ y) (H : zM h th mem fan nb op T dr wt s res rk) : zw (f_Mo_rank F 25 x y h) (fun r => zM r.2 1 mem fan nb op T dr wt s res rk ∧ zz_fr [25, 33, 34] h r.2) := by
  unfold f_Mo_rank
  refine s_clr H 0 fun h1 H1 f1 l1 => ?_
  have bad : zw ((hp_is h1 25 9).bind fun _ => hp_cb (f_Mo_fail F 25 1 h1) fun q h2 => some (q, h2)) (fun r => zM r.2 1 mem fan nb op T dr wt s res rk ∧ zz_fr [25, 33, 34] h r.2) := s_bad H1 1 (fun h2 H2 f2 l2 => ⟨H2, (f1.mono (by simp)).tr (f2.mono (by simp))⟩)
  by_cases hx : x < 0 ∨ 100 ≤ x
  · refine zw.cbe (s_noWord_out hx) ?_
    refine zw.ifn (by decide) ?_
    exact bad
  · rcases s_noWord_gen (F := F) (h := h1) (x := x) with hn | hn
    · refine zw.cbe hn ?_
      refine zw.ifp rfl ?_
      have hy : y < 0 ∨ 100 ≤ y := by
        rcases hq with hq | hq | hq | hq
        · exact absurd (Or.inl hq) hx
        · exact absurd (Or.inr hq) hx
        · exact Or.inl hq
        · exact Or.inr hq
      refine zw.cbe (s_noWord_out hy) ?_
      refine zw.ifn (by decide) ?_
      exact bad
    · refine zw.cbe hn ?_
      refine zw.ifn (by decide) ?_
      exact bad
-- the part of a score
theorem m_part16 {Q : UInt64 × hh_H → Prop} {d : Nat} (hT : T.length ≤ 40) (hdr : dr.length = T.length) (hw : w < 100) (hc : h[25]? = some (.inr (9, fs))) (f8 : fs[8]? = some (.inr (.inl (some 29)))) (f9 : fs[9]? = some (.inl (nI T.length))) (f11 : fs[11]? = some (.inr (.inr (.inr (lN (zz_dn dr)))))) (HT : zT h T) : ∀ (k n i c : Nat), i + k = T.length → k < n →
    zw (f_Mo_part_56 F 25 (nI d) (nI w) (nI (c + ((List.range' i k).filter (fun d => dr[d]? == some false && !(zz_pl (zz_tx T d) w).isEmpty)).length)) h) Q →
    zw (hp_it (fun _ _ _ _ _ _ => none) (f_Mo_part_16 F) n 25 (nI d) (nI w) (nI c) (nI i) h) Q := by
  have hdn := zz_dn_lt (dr := dr) (by omega)
  intro k
  induction k with
  | zero =>
    intro n i c hi hn kk
    obtain ⟨n, rfl⟩ : ∃ m, n = m + 1 := ⟨n - 1, by omega⟩
    rw [hp_it_s, f_Mo_part_16]
    refine zw.gi hc f9 ?_
    refine zw.ifp (nI_le (by omega) (by omega)) ?_
    simpa using kk
  | succ k ih =>
    intro n i c hi hn kk
    obtain ⟨n, rfl⟩ : ∃ m, n = m + 1 := ⟨n - 1, by omega⟩
    rw [hp_it_s, f_Mo_part_16]
    refine zw.gi hc f9 ?_
    refine zw.ifn (nI_ge (by omega) (by omega)) ?_
    refine zw.gj hc f11 ?_
    refine zw.cbe (s_Mo_in hdn (by omega)) ?_
    rw [List.range'_succ, List.filter_cons] at kk
    rw [nI_1]
    have hlt : i < dr.length := by omega
    have hpl := zz_pl_len (zz_tx T i) w
    cases hb : (zz_dn dr).testBit i
    · have hlv : dr[i]? = some false := by
        rw [List.getElem?_eq_getElem hlt]
        cases hq : dr[i]
        · rfl
        · rw [(zz_dn_bit dr i).mpr (by rw [List.getElem?_eq_getElem hlt, hq])] at hb
          cases hb
      refine zw.ifp rfl ?_
      refine zw.is hc ?_
      refine zw.cbe (s_Mo_often (F := F) (T := T) (d := i) (w := w) (by omega) hw hc f8 HT) ?_
      cases hq : zz_pl (zz_tx T i) w with
      | nil =>
        refine zw.ifp (by decide) ?_
        refine ih n (i + 1) c (by omega) (by omega) ?_
        simpa [hlv, hq] using kk
      | cons a l =>
        rw [hq] at hpl
        refine zw.ifn (nI_nle (by simp) (by omega)) ?_
        rw [nI_1]
        refine ih n (i + 1) (c + 1) (by omega) (by omega) ?_
        rw [hlv, hq] at kk
        simp only [List.isEmpty_cons, Bool.not_false, Bool.and_true, beq_self_eq_true, if_true, List.length_cons] at kk
        rw [Nat.add_right_comm, Nat.add_assoc]
        exact kk
    · refine zw.ifn (by decide) ?_
      refine ih n (i + 1) c (by omega) (by omega) ?_
      simpa [(zz_dn_bit dr i).mp hb] using kk
theorem m_part {d : Nat} (hF : 5000 < F) (hT : T.length ≤ 40) (hdr : dr.length = T.length) (hd : d < T.length) (hlv : dr[d]? = some false) (hw : w < 100) (hc : h[25]? = some (.inr (9, fs))) (f8 : fs[8]? = some (.inr (.inl (some 29)))) (f9 : fs[9]? = some (.inl (nI T.length))) (f11 : fs[11]? = some (.inr (.inr (.inr (lN (zz_dn dr)))))) (HT : zT h T) : zw (f_Mo_part F 25 (nI d) (nI w) h) (fun x => x = (zz_sh (zz_pl (zz_tx T d) w).length (zz_fq T dr w), h)) := by
  have hpl := zz_pl_len (zz_tx T d) w
  unfold f_Mo_part
  refine zw.is hc ?_
  refine zw.cbe (s_Mo_often (F := F) (T := T) (d := d) (w := w) (by omega) hw hc f8 HT) ?_
  by_cases h0 : zz_pl (zz_tx T d) w = []
  · rw [h0]
    refine zw.ifp rfl ?_
    refine zw.ret ?_
    unfold zz_sh
    rw [if_pos (Or.inl (show ([] : List Nat).length = 0 from rfl))]
  · have hpos := List.length_pos_iff.mpr h0
    refine zw.ifn (nI_ne0 hpos (by omega)) ?_
    unfold l_Mo_part_16
    refine m_part16 (F := F) (T := T) (d := d) hT hdr hw hc f8 f9 f11 HT T.length F 0 0 (by omega) (by omega) ?_
    rw [Nat.zero_add, ← List.range_eq_range']
    show zw (f_Mo_part_56 F 25 (nI d) (nI w) (nI (zz_fq T dr w)) h) _
    have hfq : 0 < zz_fq T dr w := by
      unfold zz_fq
      refine List.length_pos_iff.mpr (List.ne_nil_of_mem (a := d) (List.mem_filter.mpr ⟨List.mem_range.mpr hd, ?_⟩))
      rw [hlv]
      simpa using h0
    have hfl := zz_fq_le T dr w
    unfold f_Mo_part_56
    refine zw.is hc ?_
    refine zw.cbe (s_Mo_often (F := F) (T := T) (d := d) (w := w) (by omega) hw hc f8 HT) ?_
    rw [(zz_ddiv hpl hfq (by omega)).2]
    refine zw.ret ?_
    unfold zz_sh
    rw [if_neg (by omega)]
end Mo9
