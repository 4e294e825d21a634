-- the reference: rank
section Mo10
variable {h : hh_H} {F mem fan nb wt lvb : Nat} {op : List Nat} {T : List (List Nat)} {dr : List Bool} {s : List (Nat × Nat × Nat) × Int32 × Int32 × Int32 × Int32} {res : List (Nat × UInt64)} {v w : Nat} {th me fa bl ol dc wa : Int32} {dn : Int64} {rn : Int32} {us : Int64} {rd wr mg fl rk si : Int32} {sh : Int64}
theorem m_put165 {Q : Int32 × hh_H → Prop} {r53 : Nat → Int32 → Int32 → Int32 → hh_H → Option (Int32 × hh_H)} {xv xw : Int32} {d : Nat} {y : UInt64} {N : Nat} {A S : List (Nat × UInt64)} {j : Int32} {k : UInt64} {js : List Int32} {ks : List UInt64} (hN : A.length + S.length = N) (hN2 : N < 40) (g1 : h[25]? = some (.inr (9, zz_mf th me fa bl ol dc wa dn rn us rd wr mg fl (nI N) rk si sh))) (g2 : h[33]? = some (.inl (0, .inl (A.map (fun x => nI x.1) ++ j :: (S.map (fun x => nI x.1) ++ js))))) (g4 : h[34]? = some (.inl (2, .inr (.inl (A.map (fun x => x.2) ++ k :: (S.map (fun x => x.2) ++ ks))))))
    (kk : ∀ h2, h2[25]? = some (.inr (9, zz_mf th me fa bl ol dc wa dn rn us rd wr mg fl (nI (N + 1)) rk si sh)) → h2[33]? = some (.inl (0, .inl ((A ++ (d, y) :: S).map (fun x => nI x.1) ++ js))) → h2[34]? = some (.inl (2, .inr (.inl ((A ++ (d, y) :: S).map (fun x => x.2) ++ ks)))) → zz_fr [25, 33, 34] h h2 → zw (r53 25 xv xw (nI (d + 1)) h2) Q) :
    zw (f_Mo_rank_165 F r53 25 xv xw (nI d) y (nI A.length) h) Q := by
  rw [f_Mo_rank_165]
  refine zw.ga g1 rfl ?_
  refine zw.si g2 A.length rfl (by simp) (by omega) fun h1 s1 => ?_
  have c1 := s1.at g1 (by decide)
  refine zw.ga c1 rfl ?_
  refine zw.sd (s1.at g4 (by decide)) A.length rfl (by simp) (by omega) fun h2 s2 => ?_
  have c2 := s2.at c1 (by decide)
  refine zw.gi c2 rfl ?_
  refine zw.pi c2 (Nat.le_of_ble_eq_true rfl) fun h3 s3 => ?_
  have c3 : h3[25]? = some (.inr (9, zz_mf th me fa bl ol dc wa dn rn us rd wr mg fl (nI N + 1) rk si sh)) := s3.1
  rw [nI_1] at c3
  rw [nI_1]
  refine kk h3 c3 ?_ ?_ ((s1.fr (by simp)).tr ((s2.fr (by simp)).tr (s3.fr (by simp))))
  · refine (s3.2.1 33 (by decide)).trans ((s2.2.1 33 (by decide)).trans (s1.1.trans ?_))
    have := zz_set_gap (A.map (fun x => nI x.1)) (S.map (fun x => nI x.1) ++ js) j (nI d)
    rw [List.length_map] at this
    rw [this]
    simp
  · refine (s3.2.1 34 (by decide)).trans (s2.1.trans ?_)
    have := zz_set_gap (A.map (fun x => x.2)) (S.map (fun x => x.2) ++ ks) k y
    rw [List.length_map] at this
    rw [this]
    simp
theorem m_put107 {Q : Int32 × hh_H → Prop} {r53 : Nat → Int32 → Int32 → Int32 → hh_H → Option (Int32 × hh_H)} {xv xw : Int32} {d : Nat} {y : UInt64} {N : Nat} {js : List Int32} {ks : List UInt64} (hN2 : N < 40) : ∀ (B : List (Nat × UInt64)) (n : Nat) (S : List (Nat × UInt64)) (j : Int32) (k : UInt64) (h1 : hh_H), B.length < n → B.length + S.length = N → h1[25]? = some (.inr (9, zz_mf th me fa bl ol dc wa dn rn us rd wr mg fl (nI N) rk si sh)) → h1[33]? = some (.inl (0, .inl (B.reverse.map (fun x => nI x.1) ++ j :: (S.map (fun x => nI x.1) ++ js)))) → h1[34]? = some (.inl (2, .inr (.inl (B.reverse.map (fun x => x.2) ++ k :: (S.map (fun x => x.2) ++ ks))))) →
    (∀ h2, h2[25]? = some (.inr (9, zz_mf th me fa bl ol dc wa dn rn us rd wr mg fl (nI (N + 1)) rk si sh)) → h2[33]? = some (.inl (0, .inl ((zz_gr (d, y) B S).map (fun x => nI x.1) ++ js))) → h2[34]? = some (.inl (2, .inr (.inl ((zz_gr (d, y) B S).map (fun x => x.2) ++ ks)))) → zz_fr [25, 33, 34] h1 h2 → zw (r53 25 xv xw (nI (d + 1)) h2) Q) →
    zw (hp_it (fun _ _ _ _ _ _ _ => none) (f_Mo_rank_107 F r53) n 25 xv xw (nI d) y (nI B.length) h1) Q := by
  intro B
  induction B with
  | nil =>
    intro n S j k h1 hn hN g1 g2 g4 kk
    obtain ⟨n, rfl⟩ : ∃ m, n = m + 1 := ⟨n - 1, by omega⟩
    rw [hp_it_s, f_Mo_rank_107]
    refine zw.ifp (by decide) ?_
    exact m_put165 (F := F) (d := d) (y := y) (A := []) (S := S) hN hN2 g1 g2 g4 kk
  | cons a B ih =>
    intro n S j k h1 hn hN g1 g2 g4 kk
    obtain ⟨n, rfl⟩ : ∃ m, n = m + 1 := ⟨n - 1, by omega⟩
    simp only [List.length_cons] at hn hN
    have hrev : (a :: B).reverse = B.reverse ++ [a] := by simp
    have e1 : nI (a :: B).length - 1 = nI B.length := nI_pred _
    rw [hp_it_s, f_Mo_rank_107]
    refine zw.ifn (by rw [List.length_cons]; exact nI_nle (by omega) (by omega)) ?_
    refine zw.ga g1 rfl ?_
    rw [e1]
    have x4 : (((a :: B).reverse.map (fun x => x.2)) ++ k :: (S.map (fun x => x.2) ++ ks))[B.length]? = some a.2 := by
      rw [hrev, List.map_append, List.append_assoc, List.getElem?_append_right (by simp)]
      simp
    have x3 : (((a :: B).reverse.map (fun x => nI x.1)) ++ j :: (S.map (fun x => nI x.1) ++ js))[B.length]? = some (nI a.1) := by
      rw [hrev, List.map_append, List.append_assoc, List.getElem?_append_right (by simp)]
      simp
    refine zw.ad (w := a.2) g4 B.length rfl (by omega) x4 ?_
    rw [zz_gr] at kk
    by_cases hl : 0 ≤ Op.cmpValue (FP.dcmp a.2 y) .g
    · refine zw.ifp hl ?_
      rw [if_neg (by simp [zz_less, hl])] at kk
      have hlen : (a :: B).length = (a :: B).reverse.length := by simp
      rw [hlen]
      exact m_put165 (F := F) (d := d) (y := y) (A := (a :: B).reverse) (S := S) (by simp; omega) hN2 g1 g2 g4 kk
    · refine zw.ifn hl ?_
      rw [if_pos (by simp [zz_less, hl])] at kk
      refine zw.ga g1 rfl ?_
      refine zw.ga g1 rfl ?_
      refine zw.ai (w := nI a.1) g2 B.length rfl (by omega) x3 ?_
      refine zw.si g2 (B.length + 1) rfl (by simp) (by omega) fun h2 s2 => ?_
      have c2 := s2.at g1 (by decide)
      refine zw.ga c2 rfl ?_
      refine zw.ga c2 rfl ?_
      have g4' := s2.at g4 (by decide)
      refine zw.ad (w := a.2) g4' B.length rfl (by omega) x4 ?_
      refine zw.sd g4' (B.length + 1) rfl (by simp) (by omega) fun h3 s3 => ?_
      rw [zz_dec, e1]
      have hl1 : ((a :: B).reverse.map (fun x => nI x.1)).length = B.length + 1 := by simp
      have hl2 : ((a :: B).reverse.map (fun x => x.2)).length = B.length + 1 := by simp
      have y3 : h3[33]? = some (.inl (0, .inl (B.reverse.map (fun x => nI x.1) ++ nI a.1 :: ((a :: S).map (fun x => nI x.1) ++ js)))) := by
        refine (s3.2.1 33 (by decide)).trans (s2.1.trans ?_)
        have := zz_set_gap ((a :: B).reverse.map (fun x => nI x.1)) (S.map (fun x => nI x.1) ++ js) j (nI a.1)
        rw [hl1] at this
        rw [this]
        simp
      have y4 : h3[34]? = some (.inl (2, .inr (.inl (B.reverse.map (fun x => x.2) ++ a.2 :: ((a :: S).map (fun x => x.2) ++ ks))))) := by
        refine s3.1.trans ?_
        have := zz_set_gap ((a :: B).reverse.map (fun x => x.2)) (S.map (fun x => x.2) ++ ks) k a.2
        rw [hl2] at this
        rw [this]
        simp
      refine ih n (a :: S) (nI a.1) a.2 h3 (by omega) (by simp; omega) (s3.at c2 (by decide)) y3 y4 ?_
      intro h4 d1 d2 d3 d4
      exact kk h4 d1 d2 d3 (((s2.fr (by simp)).tr (s3.fr (by simp))).tr d4)
theorem m_rank_loop (hF : 5000 < F) (hv : v < 100) (hw : w < 100) (htx : ∀ d, (zz_tx T d).length ≤ 20 ∧ ∀ x ∈ zz_tx T d, x < 100) (hT : T.length ≤ 40) (hdr : dr.length = T.length) : ∀ (k n i : Nat) (r : List (Nat × UInt64)) (h1 : hh_H), i + k = T.length → k < n → r.length ≤ i → zM h1 th mem fan nb op T dr wt s r 1 →
    zw (hp_it (fun _ _ _ _ _ => none) (f_Mo_rank_53 F) n 25 (nI v) (nI w) (nI i) h1) (fun x => x.1 = nI (((List.range' i k).filter (zz_fit T dr v w 1)).foldl (fun r d => zz_put (d, zz_sc T dr v w d) r) r).length ∧ zM x.2 th mem fan nb op T dr wt s (((List.range' i k).filter (zz_fit T dr v w 1)).foldl (fun r d => zz_put (d, zz_sc T dr v w d) r) r) 1 ∧ zz_fr [25, 33, 34] h1 x.2) := by
  have hdn := zz_dn_lt (dr := dr) (by omega)
  intro k
  induction k with
  | zero =>
    intro n i r h1 hi hn hL H
    obtain ⟨n, rfl⟩ : ∃ m, n = m + 1 := ⟨n - 1, by omega⟩
    obtain ⟨⟨sn, sz, a1, a2, a3, a4⟩, b, c⟩ := id H
    rw [hp_it_s, f_Mo_rank_53]
    refine zw.gi a1 rfl ?_
    refine zw.ifp (nI_le (by omega) (by omega)) ?_
    refine zw.gi a1 rfl ?_
    exact zw.ret ⟨by simp, by simpa using H, zz_fr.rf _ _⟩
  | succ k ih =>
    intro n i r h1 hi hn hL H
    obtain ⟨n, rfl⟩ : ∃ m, n = m + 1 := ⟨n - 1, by omega⟩
    obtain ⟨⟨sn, sz, a1, a2, a3, a4⟩, ⟨js0, b1, b2⟩, ⟨⟨js, c1, c2⟩, ⟨ks, c3, c4, c5⟩⟩⟩ := id H
    obtain ⟨rest, hrest⟩ := c5 rfl
    rw [hp_it_s, f_Mo_rank_53]
    refine zw.gi a1 rfl ?_
    refine zw.ifn (nI_ge (by omega) (by omega)) ?_
    refine zw.gj a1 rfl ?_
    refine zw.cbe (s_Mo_in hdn (by omega)) ?_
    rw [List.range'_succ, List.filter_cons]
    have hskip : zz_fit T dr v w 1 i = false → zw (hp_it (fun _ _ _ _ _ => none) (f_Mo_rank_53 F) n 25 (nI v) (nI w) (nI i + 1) h1) (fun x => x.1 = nI ((if zz_fit T dr v w 1 i = true then i :: (List.range' (i + 1) k).filter (zz_fit T dr v w 1) else (List.range' (i + 1) k).filter (zz_fit T dr v w 1)).foldl (fun r d => zz_put (d, zz_sc T dr v w d) r) r).length ∧ zM x.2 th mem fan nb op T dr wt s ((if zz_fit T dr v w 1 i = true then i :: (List.range' (i + 1) k).filter (zz_fit T dr v w 1) else (List.range' (i + 1) k).filter (zz_fit T dr v w 1)).foldl (fun r d => zz_put (d, zz_sc T dr v w d) r) r) 1 ∧ zz_fr [25, 33, 34] h1 x.2) := by
      intro hq
      rw [hq, nI_1]
      exact ih n (i + 1) r h1 (by omega) (by omega) (by omega) H
    have hlt : i < dr.length := by omega
    cases hb : (zz_dn dr).testBit i
    · have hlv : dr[i]? = some false := by
        rw [List.getElem?_eq_getElem hlt]
        cases hq : dr[i]
        · rfl
        · rw [(zz_dn_bit dr i).mpr (by rw [List.getElem?_eq_getElem hlt, hq])] at hb
          cases hb
      refine zw.ifp rfl ?_
      refine zw.is a1 ?_
      refine zw.cbe (m_fits (how := 1) hF (by omega) hT (by decide) hv hw htx a1 rfl rfl rfl a2) ?_
      have hfit : zz_fit T dr v w 1 i = zz_fit0 (zz_tx T i) v w 1 := by
        unfold zz_fit
        rw [hlv]
        simp
      cases hq : zz_fit0 (zz_tx T i) v w 1
      · refine zw.ifp rfl ?_
        exact hskip (by rw [hfit, hq])
      · refine zw.ifn (by decide) ?_
        rw [hfit, hq]
        simp only [if_true, List.foldl_cons]
        refine zw.is a1 ?_
        refine zw.cb (m_part hF hT hdr (by omega) hlv hv a1 rfl rfl rfl a2) ?_
        rintro y1 h2 he1
        have he1' := Prod.mk.inj he1
        rw [he1'.1, he1'.2]
        refine zw.is a1 ?_
        refine zw.cb (m_part hF hT hdr (by omega) hlv hw a1 rfl rfl rfl a2) ?_
        rintro y2 h3 he2
        have he2' := Prod.mk.inj he2
        rw [he2'.1, he2'.2]
        have hf1 := zz_fq_le T dr v
        have hf2 := zz_fq_le T dr w
        have hnn := zz_dadd (zz_sh_fin (zz_pl_len (zz_tx T i) v) (show zz_fq T dr v ≤ 40 by omega)) (zz_sh_fin (zz_pl_len (zz_tx T i) w) (show zz_fq T dr w ≤ 40 by omega))
        rw [hnn]
        refine zw.gi a1 rfl ?_
        unfold l_Mo_rank_107
        cases js with
        | nil => simp at c2; omega
        | cons j js =>
          cases rest with
          | nil =>
            rw [hrest] at c4
            simp at c4
            omega
          | cons q rest =>
            simp only [List.length_cons] at c2
            have hgo := m_put107 (F := F) (d := i) (y := zz_sc T dr v w i) (N := r.length) (js := js) (ks := rest) (xv := nI v) (xw := nI w) (r53 := hp_it (fun _ _ _ _ _ => none) (f_Mo_rank_53 F) n) (by omega) r.reverse F [] j q h1 (by simp; omega) (by simp) a1 (by simpa using c1) (by rw [c3, hrest]; simp)
              (Q := fun x => x.1 = nI (((List.range' (i + 1) k).filter (zz_fit T dr v w 1)).foldl (fun r d => zz_put (d, zz_sc T dr v w d) r) (zz_put (i, zz_sc T dr v w i) r)).length ∧ zM x.2 th mem fan nb op T dr wt s (((List.range' (i + 1) k).filter (zz_fit T dr v w 1)).foldl (fun r d => zz_put (d, zz_sc T dr v w d) r) (zz_put (i, zz_sc T dr v w i) r)) 1 ∧ zz_fr [25, 33, 34] h1 x.2)
            rw [List.length_reverse] at hgo
            refine hgo ?_
            intro h4 d1 d2 d3 d4
            have hpl := zz_put_len (i, zz_sc T dr v w i) r
            have M4 : zM h4 th mem fan nb op T dr wt s (zz_put (i, zz_sc T dr v w i) r) 1 := by
              refine ⟨⟨sn, sz, ?_, a2.fr d4 (by decide) (by decide) (by decide), a3.fr d4 (by decide) (by decide) (by decide), a4.fr d4 (by decide)⟩, ⟨js0, d4.at b1 (by decide), b2⟩, ⟨⟨js, d2, by rw [hpl]; omega⟩, ⟨_, d3, ?_, fun _ => ⟨rest, rfl⟩⟩⟩⟩
              · rw [hpl]
                exact d1
              · rw [hrest] at c4
                simp only [List.length_append, List.length_map, List.length_cons] at c4 ⊢
                show (zz_put (i, zz_sc T dr v w i) r).length + _ = 40
                rw [hpl]
                omega
            refine (ih n (i + 1) (zz_put (i, zz_sc T dr v w i) r) h4 (by omega) (by omega) (by rw [hpl]; omega) M4).mono ?_
            rintro x ⟨q1, q2, q3⟩
            exact ⟨q1, q2, d4.tr q3⟩
    · refine zw.ifn (by decide) ?_
      refine hskip ?_
      unfold zz_fit
      rw [(zz_dn_bit dr i).mp hb]
      rfl
theorem m_rank_in (hF : 5000 < F) (hv : v < 100) (hw : w < 100) (HI : zz_I mem fan nb op T dr wt lvb s res rk) (H : zM h th mem fan nb op T dr wt s res rk) :
    zw (f_Mo_rank F 25 (nI v) (nI w) h) (fun x => x.1 = nI (zz_rnk T dr v w).length ∧ zM x.2 0 mem fan nb op T dr wt (zz_rds s) (zz_rnk T dr v w) 1 ∧ zz_fr [25, 33, 34] h x.2) := by
  have htx := zz_txs HI
  obtain ⟨i1, i2, i3, i4, i5, i6, i7, i8, i9, i10, i11, i12, i13, i14⟩ := HI
  have hu : zz_ub s.1 < 2 ^ 60 := zz_2_60 i3.2 (zz_ub_lt i14)
  unfold f_Mo_rank
  refine s_clr H 0 fun h1 H1 f1 l1 => ?_
  obtain ⟨⟨sn, sz, a1, a2, a3, a4⟩, ⟨js0, b1, b2⟩, ⟨⟨js, c1, c2⟩, ⟨ks, c3, c4, c5⟩⟩⟩ := id H1
  refine zw.cbe (s_noWord_in hv) ?_
  refine zw.ifp rfl ?_
  refine zw.cbe (s_noWord_in hw) ?_
  refine zw.ifp rfl ?_
  refine zw.gi a1 rfl ?_
  refine zw.gj a1 rfl ?_
  refine zw.cbe (s_Mo_bits hu (by omega)) ?_
  rw [zz_ub_len i14.2]
  refine zw.pi a1 (Nat.le_of_ble_eq_true rfl) fun h2 s2 => ?_
  have d2 : h2[25]? = some (.inr (9, zz_mf 0 (nI mem) (nI fan) (nI nb) (nI op.length) (nI T.length) (nI wt) (lN (zz_dn dr)) (nI s.1.length) (lN (zz_ub s.1)) (s.2.1 + nI (zz_nbs s.1)) s.2.2.1 s.2.2.2.1 s.2.2.2.2 (nI res.length) rk (nI sz) (lN sn))) := s2.1
  refine zw.pi d2 (Nat.le_of_ble_eq_true rfl) fun h3 s3 => ?_
  have d3 : h3[25]? = some (.inr (9, zz_mf 0 (nI mem) (nI fan) (nI nb) (nI op.length) (nI T.length) (nI wt) (lN (zz_dn dr)) (nI s.1.length) (lN (zz_ub s.1)) (s.2.1 + nI (zz_nbs s.1)) s.2.2.1 s.2.2.2.1 s.2.2.2.2 0 rk (nI sz) (lN sn))) := s3.1
  refine zw.pz d3 (Nat.le_of_ble_eq_true rfl) (Or.inr rfl) fun h4 s4 => ?_
  have d4 : h4[25]? = some (.inr (9, zz_mf 0 (nI mem) (nI fan) (nI nb) (nI op.length) (nI T.length) (nI wt) (lN (zz_dn dr)) (nI s.1.length) (lN (zz_ub s.1)) (s.2.1 + nI (zz_nbs s.1)) s.2.2.1 s.2.2.2.1 s.2.2.2.2 0 1 (nI sz) (lN sn))) := s4.1
  have f4 : zz_fr [25] h1 h4 := (s2.fr (by simp)).tr ((s3.fr (by simp)).tr (s4.fr (by simp)))
  have M4 : zM h4 0 mem fan nb op T dr wt (zz_rds s) [] 1 := ⟨⟨sn, sz, d4, a2.fr f4 (by decide) (by decide) (by decide), a3.fr f4 (by decide) (by decide) (by decide), a4.fr f4 (by decide)⟩, ⟨js0, f4.at b1 (by decide), b2⟩, ⟨⟨res.map (fun x => nI x.1) ++ js, f4.at c1 (by decide), by simp; omega⟩, ⟨ks, f4.at c3 (by decide), c4, fun _ => ⟨ks, rfl⟩⟩⟩⟩
  unfold l_Mo_rank_53
  refine (m_rank_loop (F := F) hF hv hw htx i5 i6 T.length F 0 [] h4 (by omega) (by omega) (by simp) M4).mono ?_
  rintro x ⟨q1, q2, q3⟩
  rw [← List.range_eq_range'] at q1 q2
  exact ⟨q1, q2, (f1.mono (by simp)).tr ((f4.mono (by simp)).tr q3)⟩
end Mo10
