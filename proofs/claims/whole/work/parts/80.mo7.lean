-- the reference: close
section Mo7
variable {h : hh_H} {F mem fan nb wt lvb : Nat} {op : List Nat} {T : List (List Nat)} {dr : List Bool} {s : List (Nat × Nat × Nat) × Int32 × Int32 × Int32 × Int32} {res : List (Nat × UInt64)} {rk th : Int32}
theorem zz_pl_nil (w : Nat) : zz_pl [] w = [] := by
  unfold zz_pl
  rw [List.filter_eq_nil_iff]
  intro p _
  simp
def zz_cn (op : List Nat) (i w : Nat) : Nat := ((List.range' 0 i).filter (fun p => op[p]? == some w)).length
theorem zz_cn_s {i w : Nat} (hi : i < op.length) : zz_cn op (i + 1) w = zz_cn op i w + (if op[i] = w then 1 else 0) := by
  unfold zz_cn
  rw [List.range'_concat, List.filter_append, List.length_append]
  congr 1
  simp only [Nat.zero_add, Nat.one_mul, List.filter_cons, List.filter_nil, List.getElem?_eq_getElem hi]
  by_cases h : op[i] = w
  · simp [h]
  · simp [h]
theorem zz_row_eq2 {n : Nat} {f g : Nat → Int32} (h : ∀ k, k < n → f k = g k) : (.inl (0, .inl (zz_row n f)) : hh_C) = .inl (0, .inl (zz_row n g)) := by rw [zz_row_eq h]
theorem m_close_loop {Q : Int32 × hh_H → Prop} {fs : List hh_V} {js : List Int32} (hT : T.length < 40) (hop : op.length ≤ 20) (hw : ∀ w ∈ op, w < 100) (htx : ∀ d, (zz_tx T d).length ≤ 20) (f4 : fs[4]? = some (.inr (.inl (some 26)))) (f5 : fs[5]? = some (.inl (nI op.length))) (f6 : fs[6]? = some (.inr (.inl (some 27)))) (f8 : fs[8]? = some (.inr (.inl (some 29)))) (f9 : fs[9]? = some (.inl (nI T.length))) : ∀ (k n i : Nat) (g1 : Nat → Int32) (h1 : hh_H), i + k = op.length → k < n → h1[25]? = some (.inr (9, fs)) → h1[26]? = some (.inl (0, .inl (op.map nI ++ js))) → h1[27]? = some (.inl (0, .inl (zz_row 800 g1))) → (∀ d p w, (zz_tx T d)[p]? = some w → g1 (20 * d + p) = nI w) → (∀ p, p < i → ∀ w, op[p]? = some w → g1 (20 * T.length + p) = nI w) → h1[29]? = some (.inl (0, .inl (zz_row 4000 (fun j => if j / 100 = T.length then nI (zz_cn op i (j % 100)) else nI (zz_pl (zz_tx T (j / 100)) (j % 100)).length)))) →
    (∀ (g2 : Nat → Int32) (h2 : hh_H), h2[27]? = some (.inl (0, .inl (zz_row 800 g2))) → (∀ d p w, (zz_tx T d)[p]? = some w → g2 (20 * d + p) = nI w) → (∀ p w, op[p]? = some w → g2 (20 * T.length + p) = nI w) → h2[29]? = some (.inl (0, .inl (zz_row 4000 (fun j => if j / 100 = T.length then nI (zz_cn op op.length (j % 100)) else nI (zz_pl (zz_tx T (j / 100)) (j % 100)).length)))) → zz_fr [27, 29] h1 h2 → h2.length = h1.length → zw (f_Mo_close_108 F 25 h2) Q) →
    zw (hp_it (fun _ _ _ => none) (f_Mo_close_51 F) n 25 (nI i) h1) Q := by
  intro k
  induction k with
  | zero =>
    intro n i g1 h1 hi hn c25 c26 c27 p1 p2 c29 kk
    obtain ⟨n, rfl⟩ : ∃ m, n = m + 1 := ⟨n - 1, by omega⟩
    have hi' : i = op.length := by omega
    subst hi'
    rw [hp_it_s, f_Mo_close_51]
    refine zw.gi c25 f5 ?_
    refine zw.ifp (nI_le (Nat.le_refl _) (by omega)) ?_
    exact kk g1 h1 c27 p1 (fun p w hp => p2 p (List.getElem?_eq_some_iff.mp hp).1 w hp) c29 (zz_fr.rf _ _) rfl
  | succ k ih =>
    intro n i g1 h1 hi hn c25 c26 c27 p1 p2 c29 kk
    obtain ⟨n, rfl⟩ : ∃ m, n = m + 1 := ⟨n - 1, by omega⟩
    have hio : i < op.length := by omega
    have hwi := hw op[i] (List.getElem_mem hio)
    have lop : (op.map nI ++ js)[i]? = some (nI op[i]) := by rw [List.getElem?_append_left (by simp; exact hio)]; simp [hio]
    rw [hp_it_s, f_Mo_close_51]
    refine zw.gi c25 f5 ?_
    refine zw.ifn (nI_ge hio (by omega)) ?_
    refine zw.ga c25 f6 ?_
    refine zw.gi c25 f9 ?_
    refine zw.ga c25 f4 ?_
    refine zw.ai (w := nI op[i]) c26 i rfl (by omega) lop ?_
    have e1 : 20 * nI T.length + nI i = nI (20 * T.length + i) := by
      rw [show 20 * nI T.length = nI (20 * T.length) from pk_mul 20 _, nI_add]
    rw [e1]
    refine zw.si c27 (20 * T.length + i) rfl (by rw [zz_row_len']; omega) (by omega) fun h2 s2 => ?_
    have d25 := s2.at c25 (by decide)
    have d26 := s2.at c26 (by decide)
    have d29 := s2.at c29 (by decide)
    refine zw.ga d25 f8 ?_
    refine zw.gi d25 f9 ?_
    refine zw.ga d25 f4 ?_
    refine zw.ai (w := nI op[i]) d26 i rfl (by omega) lop ?_
    have e2 : 100 * nI T.length + nI op[i] = nI (100 * T.length + op[i]) := by
      rw [show 100 * nI T.length = nI (100 * T.length) from pk_mul 100 _, nI_add]
    rw [e2]
    refine zw.ai d29 (100 * T.length + op[i]) rfl (by omega) (zz_row_get (by omega)) ?_
    rw [if_pos (by omega), show (100 * T.length + op[i]) % 100 = op[i] by omega, nI_1]
    refine zw.si d29 (100 * T.length + op[i]) rfl (by rw [zz_row_len']; omega) (by omega) fun h3 s3 => ?_
    rw [nI_1]
    have e27 := s3.at s2.1 (by decide)
    rw [zz_row_set] at e27
    refine ih n (i + 1) _ h3 (by omega) (by omega) (s3.at d25 (by decide)) (s3.at d26 (by decide)) e27 ?_ ?_ ?_ ?_
    · intro d p w hq
      have hp := (List.getElem?_eq_some_iff.mp hq).1
      have h20 := htx d
      have hdl : d < T.length := by
        rcases Nat.lt_or_ge d T.length with q | q
        · exact q
        · unfold zz_tx at hp
          rw [List.getD_eq_getElem?_getD, List.getElem?_eq_none q] at hp
          simp at hp
      rw [if_neg (by omega)]
      exact p1 d p w hq
    · intro p hp w hq
      by_cases hpi : p = i
      · subst hpi
        rw [if_pos rfl]
        rw [List.getElem?_eq_getElem hio] at hq
        cases hq
        rfl
      · rw [if_neg (by omega)]
        exact p2 p (by omega) w hq
    · refine s3.1.trans ?_
      rw [zz_row_set]
      refine congrArg some (zz_row_eq2 (fun j hj => ?_))
      by_cases hjt : j / 100 = T.length
      · rw [if_pos hjt, if_pos hjt, zz_cn_s hio]
        by_cases hjw : j = 100 * T.length + op[i]
        · rw [if_pos hjw, if_pos (by omega), show j % 100 = op[i] by omega]
        · rw [if_neg hjw, if_neg (by omega), Nat.add_zero]
      · rw [if_neg hjt, if_neg hjt, if_neg (by omega)]
    · intro g2 h4 a1 a2 a3 a4 a5 a6
      exact kk g2 h4 a1 a2 a3 a4 (((s2.fr (by simp)).tr (s3.fr (by simp))).tr a5) (by rw [a6, s3.2.2, s2.2.2])
theorem zz_cn_pl (hop : op.length ≤ 20) (w : Nat) : zz_cn op op.length w = (zz_pl op w).length := by
  unfold zz_cn
  rw [zz_pl_range hop]
theorem zz_tx_cases {t : List Nat} (d : Nat) : (d < T.length ∧ zz_tx (T ++ [t]) d = zz_tx T d) ∨ (d = T.length ∧ zz_tx (T ++ [t]) d = t) ∨ (T.length < d ∧ zz_tx (T ++ [t]) d = [] ∧ zz_tx T d = []) := by
  rcases Nat.lt_trichotomy d T.length with q | q | q
  · exact Or.inl ⟨q, zz_tx_app q⟩
  · subst q
    exact Or.inr (Or.inl ⟨rfl, zz_tx_new⟩)
  · refine Or.inr (Or.inr ⟨q, ?_, ?_⟩)
    · unfold zz_tx
      rw [List.getD_eq_getElem?_getD, List.getElem?_eq_none (by simp; omega)]
      rfl
    · unfold zz_tx
      rw [List.getD_eq_getElem?_getD, List.getElem?_eq_none (by omega)]
      rfl
theorem m_close49 (hF : 5000 < F) (HI : zz_I mem fan nb op T dr wt lvb s res rk) (hT : T.length < 40) (H : zM h th mem fan nb op T dr wt s res rk) :
    zw (f_Mo_close_49 F 25 h) (fun x => x.1 = nI T.length ∧ zM x.2 th mem fan nb [] (T ++ [op]) (dr ++ [false]) wt s res rk ∧ zz_fr [25, 27, 28, 29] h x.2) := by
  have htx := zz_txs HI
  obtain ⟨i1, i2, i3, i4, i5, i6, i7, i8, i9, i10, i11, i12, i13, i14⟩ := HI
  obtain ⟨⟨sn, sz, a1, ⟨⟨g1, t1, t2⟩, ⟨g2, t3, t4⟩, t5⟩, a3, ⟨z1, z2, ⟨o, z3⟩⟩⟩, ⟨js, b1, b2⟩, c⟩ := H
  have hm : ∀ r ∈ s.1, ∀ d, r.2.2.testBit d = true → d < T.length := fun r hr d hd => by
    have := ((i9.1.1 r hr).2 d hd).1
    omega
  unfold f_Mo_close_49 l_Mo_close_51
  refine m_close_loop (T := T) (op := op) hT i4.1 i4.2 (fun d => (htx d).1) rfl rfl rfl rfl rfl op.length F 0 g1 h (by omega) (by omega) a1 b1 t1 t2 (fun p hp => by omega) ?_ ?_
  · rw [t5]
    refine congrArg some (zz_row_eq2 (fun j hj => ?_))
    by_cases hjt : j / 100 = T.length
    · rw [if_pos hjt, hjt]
      have : zz_tx T T.length = [] := by
        unfold zz_tx
        rw [List.getD_eq_getElem?_getD, List.getElem?_eq_none (Nat.le_refl _)]
        rfl
      rw [this, zz_pl_nil]
      rfl
    · rw [if_neg hjt]
  · intro g3 h2 d27 p1 p2 d29 f2 l2
    have d25 := f2.at a1 (by decide)
    unfold f_Mo_close_108
    refine zw.ga d25 rfl ?_
    refine zw.gi d25 rfl ?_
    refine zw.gi d25 rfl ?_
    refine zw.si (f2.at t3 (by decide)) T.length rfl (by rw [zz_row_len']; omega) (by omega) fun h3 s3 => ?_
    have e25 := s3.at d25 (by decide)
    refine zw.pi e25 (Nat.le_of_ble_eq_true rfl) fun h4 s4 => ?_
    have e4 : h4[25]? = some (.inr (9, zz_mf th (nI mem) (nI fan) (nI nb) 0 (nI T.length) (nI wt) (lN (zz_dn dr)) (nI s.1.length) (lN (zz_ub s.1)) s.2.1 s.2.2.1 s.2.2.2.1 s.2.2.2.2 (nI res.length) rk (nI sz) (lN sn))) := s4.1
    refine zw.gi e4 rfl ?_
    refine zw.pi e4 (Nat.le_of_ble_eq_true rfl) fun h5 s5 => ?_
    have e5 : h5[25]? = some (.inr (9, zz_mf th (nI mem) (nI fan) (nI nb) 0 (nI T.length + 1) (nI wt) (lN (zz_dn dr)) (nI s.1.length) (lN (zz_ub s.1)) s.2.1 s.2.2.1 s.2.2.2.1 s.2.2.2.2 (nI res.length) rk (nI sz) (lN sn))) := s5.1
    refine zw.gi e5 rfl ?_
    have ft : zz_fr [25, 27, 28, 29] h h5 := (f2.mono (by simp)).tr ((s3.fr (by simp)).tr ((s4.fr (by simp)).tr (s5.fr (by simp))))
    have hdn : zz_dn (dr ++ [false]) = zz_dn dr := zz_seq (fun i => by
      rw [zz_dn_bit, zz_dn_bit]
      rcases Nat.lt_trichotomy i dr.length with q | q | q
      · rw [List.getElem?_append_left q]
      · subst q
        simp
      · rw [List.getElem?_eq_none (by simp; omega), List.getElem?_eq_none (by omega)])
    refine zw.ret ⟨?_, ⟨⟨sn, sz, ?_, ⟨⟨g3, ?_, ?_⟩, ⟨(fun j => if j = T.length then nI op.length else g2 j), ?_, ?_⟩, ?_⟩, a3.fr ft (by decide) (by decide) (by decide), ⟨z1, ?_, ⟨o, z3.fr ft (by decide)⟩⟩⟩, ⟨op.map nI ++ js, ft.at b1 (by decide), by simp; omega⟩, c.fr ft (by decide) (by decide)⟩, ft⟩
    · show nI T.length + 1 - 1 = _
      rw [nI_1, nI_pred]
    · rw [e5, nI_1, hdn, show (T ++ [op]).length = T.length + 1 by simp]
      rfl
    · exact s5.at (s4.at (s3.at d27 (by decide)) (by decide)) (by decide)
    · intro d p w hq
      rcases zz_tx_cases (T := T) (t := op) d with ⟨q1, q2⟩ | ⟨q1, q2⟩ | ⟨q1, q2, q3⟩
      · rw [q2] at hq
        exact p1 d p w hq
      · rw [q2] at hq
        rw [q1]
        exact p2 p w hq
      · rw [q2] at hq
        simp at hq
    · refine (s5.2.1 28 (by decide)).trans ((s4.2.1 28 (by decide)).trans (s3.1.trans ?_))
      rw [zz_row_set]
    · intro d hd
      simp only [List.length_append, List.length_cons, List.length_nil] at hd
      show (if d = T.length then nI op.length else g2 d) = nI (zz_tx (T ++ [op]) d).length
      rcases zz_tx_cases (T := T) (t := op) d with ⟨q1, q2⟩ | ⟨q1, q2⟩ | ⟨q1, q2, q3⟩
      · rw [if_neg (by omega), q2]
        exact t4 d q1
      · rw [if_pos q1, q2]
      · omega
    · refine (s5.2.1 29 (by decide)).trans ((s4.2.1 29 (by decide)).trans ((s3.2.1 29 (by decide)).trans (d29.trans ?_)))
      refine congrArg some (zz_row_eq2 (fun j hj => ?_))
      rcases zz_tx_cases (T := T) (t := op) (j / 100) with ⟨q1, q2⟩ | ⟨q1, q2⟩ | ⟨q1, q2, q3⟩
      · rw [if_neg (by omega), q2]
      · rw [if_pos q1, q2, zz_cn_pl i4.1]
      · rw [if_neg (by omega), q2, q3]
    · rcases z2 with z2 | ⟨y1, y2, y3⟩
      · exact Or.inl z2
      · refine Or.inr ⟨?_, ?_, fun d hd => by have := y3 d hd; simp; omega⟩
        · rw [zz_enc_app y3]
          exact y1
        · rw [zz_enc_app y3]
          exact y2.fr ft (by decide)
theorem m_close (hF : 5000 < F) (HI : zz_I mem fan nb op T dr wt lvb s res rk) (hlvb : lvb + 64 < 2 ^ 28) (hT : T.length < 40) (H : zM h th mem fan nb op T dr wt s res rk) :
    zw (f_Mo_close F 25 h) (fun x => if (zz_clo T dr mem nb fan wt op s).1 = true then x.1 = nI T.length ∧ zM x.2 0 mem fan nb [] (T ++ [op]) (dr ++ [false]) (zz_clo T dr mem nb fan wt op s).2.1 (zz_clo T dr mem nb fan wt op s).2.2 res rk ∧ zz_fr [25, 27, 28, 29, 30, 31, 32, 35] h x.2
      else zM x.2 2 mem fan nb op T dr wt s res rk ∧ zz_fr [25, 27, 28, 29, 30, 31, 32, 35] h x.2) := by
  have htx := zz_txs HI
  have hI := HI
  obtain ⟨i1, i2, i3, i4, i5, i6, i7, i8, i9, i10, i11, i12, i13, i14⟩ := HI
  unfold f_Mo_close
  refine s_clr H 0 fun h1 H1 f1 l1 => ?_
  obtain ⟨⟨sn, sz, a1, a2, a3, a4⟩, b, c⟩ := id H1
  refine zw.gi a1 rfl ?_
  refine zw.ifn (fun q => by have := (nI_eq (b := 40) (by omega) (by decide)).mp q; omega) ?_
  refine zw.is a1 ?_
  refine zw.cbe (s_buffered hF i8 i5 htx a1 a2) ?_
  refine zw.gi a1 rfl ?_
  refine zw.gi a1 rfl ?_
  rw [nI_add]
  unfold zz_clo
  by_cases hr : zz_bf T wt + op.length ≤ mem
  · rw [if_pos hr]
    refine zw.ifp (nI_le hr (by omega)) ?_
    refine (m_close49 hF hI hT H1).mono ?_
    rintro x ⟨q1, q2, q3⟩
    exact ⟨q1, q2, (f1.mono (by simp)).tr (q3.mono (by simp))⟩
  · rw [if_neg hr]
    refine zw.ifn (nI_ge (by omega) (by omega)) ?_
    refine zw.is a1 ?_
    refine zw.cb (m_flushing hF hI hlvb H1) ?_
    rintro v h2 ⟨g1, g2, g3, g4⟩
    have g1 : v = _ := g1
    have g2 : zM h2 0 mem fan nb op T dr (zz_flu T dr nb fan wt s).2.1 (zz_flu T dr nb fan wt s).2.2 res rk := g2
    cases ht : (zz_flu T dr nb fan wt s).1
    · rw [ht] at g1
      rw [g1]
      refine zw.ifp rfl ?_
      rw [zz_flu_no ht] at g2
      exact s_bad g2 2 (fun h3 H3 f3 l3 => ⟨H3, (f1.mono (by simp)).tr ((g3.mono (by simp)).tr (f3.mono (by simp)))⟩)
    · rw [ht] at g1
      rw [g1]
      refine zw.ifn (show ¬ (1 : Int32) = 0 by decide) ?_
      have hB2 : zz_okB nb T (zz_flu T dr nb fan wt s).2.2.1 := by
        unfold zz_flu
        split
        · exact i14
        · split
          · exact zz_fl_okB i3.2 60 _ (zz_apS_okB i3.2 i14)
          · exact i14
      refine (m_close49 hF (zz_I_flu hI hB2) hT g2).mono ?_
      rintro x ⟨q1, q2, q3⟩
      exact ⟨q1, q2, (f1.mono (by simp)).tr ((g3.mono (by simp)).tr (q3.mono (by simp)))⟩
theorem m_close_40 (hT : T.length = 40) (H : zM h th mem fan nb op T dr wt s res rk) : zw (f_Mo_close F 25 h) (fun x => zM x.2 1 mem fan nb op T dr wt s res rk ∧ zz_fr [25] h x.2) := by
  unfold f_Mo_close
  refine s_clr H 0 fun h1 H1 f1 l1 => ?_
  obtain ⟨⟨sn, sz, a1, a2, a3, a4⟩, b, c⟩ := id H1
  refine zw.gi a1 rfl ?_
  refine zw.ifp (by rw [hT]; rfl) ?_
  exact s_bad H1 1 (fun h2 H2 f2 l2 => ⟨H2, f1.tr f2⟩)
-- result and score
theorem m_result_in {k : Nat} (hk : k < res.length) (hr : res.length ≤ 40) (H : zM h th mem fan nb op T dr wt s res rk) : zw (f_Mo_result F 25 (nI k) h) (fun x => x.1 = nI (res[k]).1 ∧ zM x.2 0 mem fan nb op T dr wt s res rk ∧ zz_fr [25] h x.2) := by
  unfold f_Mo_result
  refine s_clr H 0 fun h1 H1 f1 l1 => ?_
  obtain ⟨⟨sn, sz, a1, a2, a3, a4⟩, b, ⟨⟨js, c1, c2⟩, c3⟩⟩ := id H1
  refine zw.ifn (nI_pos (by omega)) ?_
  refine zw.gi a1 rfl ?_
  refine zw.ifp (nI_lt hk (by omega)) ?_
  refine zw.ga a1 rfl ?_
  refine zw.ai (w := nI (res[k]).1) c1 k rfl (by omega) (by rw [List.getElem?_append_left (by simp; exact hk)]; simp [hk]) ?_
  exact zw.ret ⟨rfl, H1, f1⟩
theorem m_result_out {x : Int32} (hx : x < 0 ∨ nI res.length ≤ x) (H : zM h th mem fan nb op T dr wt s res rk) : zw (f_Mo_result F 25 x h) (fun r => zM r.2 1 mem fan nb op T dr wt s res rk ∧ zz_fr [25] h r.2) := by
  unfold f_Mo_result
  refine s_clr H 0 fun h1 H1 f1 l1 => ?_
  obtain ⟨⟨sn, sz, a1, a2, a3, a4⟩, b, c⟩ := id H1
  by_cases h1 : x < 0
  · refine zw.ifp h1 ?_
    exact s_bad H1 1 (fun h2 H2 f2 l2 => ⟨H2, f1.tr f2⟩)
  · refine zw.ifn h1 ?_
    refine zw.gi a1 rfl ?_
    rcases hx with hx | hx
    · exact absurd hx h1
    · refine zw.ifn (Int32.not_lt.mpr hx) ?_
      exact s_bad H1 1 (fun h2 H2 f2 l2 => ⟨H2, f1.tr f2⟩)
theorem m_score_in {k : Nat} (hk : k < res.length) (hr : res.length ≤ 40) (hrk : rk = 1) (H : zM h th mem fan nb op T dr wt s res rk) : zw (f_Mo_score F 25 (nI k) h) (fun x => x.1 = (res[k]).2 ∧ zM x.2 0 mem fan nb op T dr wt s res rk ∧ zz_fr [25] h x.2) := by
  unfold f_Mo_score
  refine s_clr H 0 fun h1 H1 f1 l1 => ?_
  obtain ⟨⟨sn, sz, a1, a2, a3, a4⟩, b, ⟨c1, ⟨ks, c3, c4, c5⟩⟩⟩ := id H1
  obtain ⟨rest, hrest⟩ := c5 hrk
  refine zw.ifn (nI_pos (by omega)) ?_
  refine zw.gi a1 rfl ?_
  refine zw.ifp (nI_lt hk (by omega)) ?_
  refine zw.gi a1 rfl ?_
  refine zw.ifn (by rw [hrk]; decide) ?_
  refine zw.ga a1 rfl ?_
  refine zw.ad (w := (res[k]).2) c3 k rfl (by omega) (by rw [hrest, List.getElem?_append_left (by simp; exact hk)]; simp [hk]) ?_
  exact zw.ret ⟨rfl, H1, f1⟩
theorem m_score_no {k : Nat} (hk : k < res.length) (hr : res.length ≤ 40) (hrk : rk = 0) (H : zM h th mem fan nb op T dr wt s res rk) : zw (f_Mo_score F 25 (nI k) h) (fun x => zM x.2 2 mem fan nb op T dr wt s res rk ∧ zz_fr [25] h x.2) := by
  unfold f_Mo_score
  refine s_clr H 0 fun h1 H1 f1 l1 => ?_
  obtain ⟨⟨sn, sz, a1, a2, a3, a4⟩, b, c⟩ := id H1
  refine zw.ifn (nI_pos (by omega)) ?_
  refine zw.gi a1 rfl ?_
  refine zw.ifp (nI_lt hk (by omega)) ?_
  refine zw.gi a1 rfl ?_
  refine zw.ifp hrk ?_
  refine zw.is a1 ?_
  refine zw.cb (s_fail H1 2) ?_
  rintro q h2 ⟨g1, g2, g3, g4⟩
  exact zw.ret ⟨g2, f1.tr g3⟩
theorem m_score_out {x : Int32} (hx : x < 0 ∨ nI res.length ≤ x) (H : zM h th mem fan nb op T dr wt s res rk) : zw (f_Mo_score F 25 x h) (fun r => zM r.2 1 mem fan nb op T dr wt s res rk ∧ zz_fr [25] h r.2) := by
  unfold f_Mo_score
  refine s_clr H 0 fun h1 H1 f1 l1 => ?_
  obtain ⟨⟨sn, sz, a1, a2, a3, a4⟩, b, c⟩ := id H1
  have t17 : zw (f_Mo_score_17 F 25 h1) (fun r => zM r.2 1 mem fan nb op T dr wt s res rk ∧ zz_fr [25] h r.2) := by
    unfold f_Mo_score_17
    refine zw.is a1 ?_
    refine zw.cb (s_fail H1 1) ?_
    rintro q h2 ⟨g1, g2, g3, g4⟩
    exact zw.ret ⟨g2, f1.tr g3⟩
  by_cases h1 : x < 0
  · refine zw.ifp h1 ?_
    exact t17
  · refine zw.ifn h1 ?_
    refine zw.gi a1 rfl ?_
    rcases hx with hx | hx
    · exact absurd hx h1
    · refine zw.ifn (Int32.not_lt.mpr hx) ?_
      exact t17
-- count
theorem m_count {x : Int32} (hF : 5000 < F) (HI : zz_I mem fan nb op T dr wt lvb s res rk) (H : zM h th mem fan nb op T dr wt s res rk) : zw (f_Mo_count F 25 x h) (fun r => r.1 = zz_cntv nb wt op T dr s x ∧ zM r.2 0 mem fan nb op T dr wt s res rk ∧ zz_fr [25] h r.2) := by
  have htx := zz_txs HI
  obtain ⟨i1, i2, i3, i4, i5, i6, i7, i8, i9, i10, i11, i12, i13, i14⟩ := HI
  have hdn := zz_dn_lt (dr := dr) (by omega)
  have hu : zz_ub s.1 < 2 ^ 60 := zz_2_60 i3.2 (zz_ub_lt i14)
  have hcnt := zz_dn_cnt (dr := dr) (by omega)
  have hfr := zz_free_len i3.2 (zz_ub_lt i14)
  unfold f_Mo_count
  refine s_clr H 0 fun h1 H1 f1 l1 => ?_
  obtain ⟨⟨sn, sz, a1, a2, a3, a4⟩, b, c⟩ := id H1
  unfold zz_cntv
  by_cases h0 : x = 0
  · refine zw.ifp h0 ?_
    rw [if_pos h0]
    refine zw.gi a1 rfl ?_
    exact zw.ret ⟨rfl, H1, f1⟩
  refine zw.ifn h0 ?_
  rw [if_neg h0]
  by_cases h1 : x = 1
  · refine zw.ifp h1 ?_
    rw [if_pos h1]
    refine zw.gi a1 rfl ?_
    refine zw.gj a1 rfl ?_
    refine zw.cbe (s_Mo_bits hdn (by omega)) ?_
    refine zw.ret ⟨?_, H1, f1⟩
    show nI T.length - nI (zz_bl (zz_dn dr)).length = _
    rw [pk_sub (by omega)]
    congr 1
    omega
  refine zw.ifn h1 ?_
  rw [if_neg h1]
  by_cases h2 : x = 2
  · refine zw.ifp h2 ?_
    rw [if_pos h2]
    refine zw.is a1 ?_
    refine zw.cbe (s_buffered hF i8 i5 htx a1 a2) ?_
    exact zw.ret ⟨rfl, H1, f1⟩
  refine zw.ifn h2 ?_
  rw [if_neg h2]
  by_cases h3 : x = 3
  · refine zw.ifp h3 ?_
    rw [if_pos h3]
    refine zw.gi a1 rfl ?_
    exact zw.ret ⟨rfl, H1, f1⟩
  refine zw.ifn h3 ?_
  rw [if_neg h3]
  by_cases h4 : x = 4
  · refine zw.ifp h4 ?_
    rw [if_pos h4]
    refine zw.gi a1 rfl ?_
    refine zw.gj a1 rfl ?_
    refine zw.cbe (s_Mo_bits hu (by omega)) ?_
    refine zw.ret ⟨?_, H1, f1⟩
    show nI nb - nI (zz_bl (zz_ub s.1)).length = _
    rw [pk_sub (by omega)]
    congr 1
    omega
  refine zw.ifn h4 ?_
  rw [if_neg h4]
  by_cases h5 : x = 5
  · refine zw.ifp h5 ?_
    rw [if_pos h5]
    refine zw.gi a1 rfl ?_
    exact zw.ret ⟨rfl, H1, f1⟩
  refine zw.ifn h5 ?_
  rw [if_neg h5]
  by_cases h6 : x = 6
  · refine zw.ifp h6 ?_
    rw [if_pos h6]
    refine zw.gi a1 rfl ?_
    exact zw.ret ⟨rfl, H1, f1⟩
  refine zw.ifn h6 ?_
  rw [if_neg h6]
  by_cases h7 : x = 7
  · refine zw.ifp h7 ?_
    rw [if_pos h7]
    refine zw.gi a1 rfl ?_
    exact zw.ret ⟨rfl, H1, f1⟩
  refine zw.ifn h7 ?_
  rw [if_neg h7]
  by_cases h8 : x = 8
  · refine zw.ifp h8 ?_
    rw [if_pos h8]
    refine zw.gi a1 rfl ?_
    exact zw.ret ⟨rfl, H1, f1⟩
  refine zw.ifn h8 ?_
  rw [if_neg h8]
  by_cases h9 : x = 9
  · refine zw.ifp h9 ?_
    rw [if_pos h9]
    refine zw.gi a1 rfl ?_
    exact zw.ret ⟨rfl, H1, f1⟩
  refine zw.ifn h9 ?_
  rw [if_neg h9]
  exact zw.ret ⟨rfl, H1, f1⟩
end Mo7
