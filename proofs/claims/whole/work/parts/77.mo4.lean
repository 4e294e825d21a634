-- the reference: merge wholly, flushing
section Mo4
variable {h : hh_H} {F nb fan : Nat} {T : List (List Nat)} {dr : List Bool} {R : List (Nat × Nat × Nat)} {th me fa bl ol dc wa : Int32} {dn : Int64} {rn : Int32} {us : Int64} {rd wr mg fl fo rk si : Int32} {sh : Int64} {sel : Nat × Nat × Nat → Bool} {x1 : Int32}
/-- the blocks after a merge -/
theorem zz_ub_merge {at_ : Nat} {nw : List (Nat × Nat × Nat)} (hB : R.Pairwise zz_djB) (hn : ∀ i, at_.testBit i = true ↔ ∃ r ∈ nw, r.2.1.testBit i = true) {R' : List (Nat × Nat × Nat)} (hR' : ∀ x, x ∈ R' ↔ x ∈ nw ∨ (x ∈ R ∧ sel x = false)) : (zz_an (zz_ub R) (zz_ub (R.filter sel))) ||| at_ = zz_ub R' := zz_seq (fun i => by
  rw [Nat.testBit_or, Bool.or_eq_true, zz_an_bit, Bool.and_eq_true, hn i, zz_ub_bit, zz_ub_bit]
  constructor
  · rintro (⟨⟨r, hr, hb⟩, h2⟩ | ⟨r, hr, hb⟩)
    · refine ⟨r, (hR' r).mpr (Or.inr ⟨hr, ?_⟩), hb⟩
      cases hs : sel r
      · rfl
      · rw [zz_ub_bit.mpr ⟨r, List.mem_filter.mpr ⟨hr, hs⟩, hb⟩] at h2
        cases h2
    · exact ⟨r, (hR' r).mpr (Or.inl hr), hb⟩
  · rintro ⟨r, hr, hb⟩
    rcases (hR' r).mp hr with hr | ⟨hr, hs⟩
    · exact Or.inr ⟨r, hr, hb⟩
    · refine Or.inl ⟨⟨r, hr, hb⟩, ?_⟩
      cases hq : (zz_ub (R.filter sel)).testBit i
      · rfl
      · obtain ⟨q, hq1, hq2⟩ := zz_ub_bit.mp hq
        obtain ⟨hq1, hq3⟩ := List.mem_filter.mp hq1
        exact absurd ⟨hb, hq2⟩ (zz_pw_all (fun x y h => zz_djB.symm h) hB r hr q hq1 (fun e => by rw [e, hq3] at hs; cases hs) i))
theorem zz_ub_filter_lt (hB : zz_okB nb T R) : zz_ub (R.filter sel) < 2 ^ nb := zz_lt (fun i hi => by
  obtain ⟨r, hr, hb⟩ := zz_ub_bit.mp hi
  exact zz_bit_lt (hB.1 r (List.mem_filter.mp hr).1).1 hb)
theorem zz_2_60 {n x : Nat} (hn : n ≤ 60) (h : x < 2 ^ n) : x < 2 ^ 60 := Nat.lt_of_lt_of_le h (Nat.pow_le_pow_right (by decide) hn)
theorem s_mg313 {u s4 s6 k : Nat} (hu : u < 2 ^ 60) (h4 : s4 < 2 ^ 60) (h6 : s6 < 2 ^ 60) (hc : h[25]? = some (.inr (9, zz_mf th me fa bl ol dc wa dn rn (lN u) rd wr mg fl fo rk si sh))) :
    zw (f_Mo_merge_313 F 25 (lN s4) (lN s6) (nI k) h) (fun x => x.1 = 1 ∧ x.2[25]? = some (.inr (9, zz_mf th me fa bl ol dc wa dn (nI k) (lN (zz_an u s4 ||| s6)) rd wr (mg + 1) fl fo rk si sh)) ∧ zz_fr [25] h x.2 ∧ x.2.length = h.length) := by
  unfold f_Mo_merge_313
  refine zw.pi hc (Nat.le_of_ble_eq_true rfl) fun h1 s1 => ?_
  have c1 : h1[25]? = some (.inr (9, zz_mf th me fa bl ol dc wa dn (nI k) (lN u) rd wr mg fl fo rk si sh)) := s1.1
  refine zw.gj c1 rfl ?_
  rw [zz_lan hu h4, zz_lor (zz_an_lt hu) h6]
  refine zw.pj c1 (Nat.le_of_ble_eq_true rfl) fun h2 s2 => ?_
  have c2 : h2[25]? = some (.inr (9, zz_mf th me fa bl ol dc wa dn (nI k) (lN (zz_an u s4 ||| s6)) rd wr mg fl fo rk si sh)) := s2.1
  refine zw.gi c2 rfl ?_
  refine zw.pi c2 (Nat.le_of_ble_eq_true rfl) fun h3 s3 => ?_
  exact zw.ret ⟨rfl, s3.1, (s1.fr (by simp)).tr ((s2.fr (by simp)).tr (s3.fr (by simp))), by rw [s3.2.2, s2.2.2, s1.2.2]⟩
theorem s_Mo_merge {sn sz lv wt : Nat} (hnb : nb ≤ 60) (hF : 5000 < F) (hT : T.length ≤ 40) (hdr : dr.length = T.length) (hwt : wt ≤ T.length) (ht : ∀ d, (zz_tx T d).length ≤ 20 ∧ ∀ x ∈ zz_tx T d, x < 100) (hM : zz_okM wt T R) (hB : zz_okB nb T R) (hlv : ∀ r ∈ R, r.1 < 2 ^ 29) (hsel : ∀ r ∈ R, (sel r = true ↔ (x1 < 0 ∨ nI r.1 = x1))) (htop : R.any sel = true → zz_top (R.filter sel) + 1 = lv) (hc : h[25]? = some (.inr (9, zz_mf th me fa (nI nb) ol (nI T.length) wa (lN (zz_dn dr)) (nI R.length) (lN (zz_ub R)) rd wr mg fl fo rk (nI sz) (lN sn)))) (HT : zT h T) (HV : zV h R) (HS : zS h T sn sz) :
    zw (f_Mo_merge F 25 x1 h) (fun x => x.1 = (if (zz_mgS T dr nb sel lv (R, rd, wr, mg, fl)).1 = true then 1 else 0) ∧ (∃ sn' sz', x.2[25]? = some (.inr (9, zz_mf th me fa (nI nb) ol (nI T.length) wa (lN (zz_dn dr)) (nI (zz_mgS T dr nb sel lv (R, rd, wr, mg, fl)).2.1.length) (lN (zz_ub (zz_mgS T dr nb sel lv (R, rd, wr, mg, fl)).2.1)) (zz_mgS T dr nb sel lv (R, rd, wr, mg, fl)).2.2.1 (zz_mgS T dr nb sel lv (R, rd, wr, mg, fl)).2.2.2.1 (zz_mgS T dr nb sel lv (R, rd, wr, mg, fl)).2.2.2.2.1 (zz_mgS T dr nb sel lv (R, rd, wr, mg, fl)).2.2.2.2.2 fo rk (nI sz') (lN sn'))) ∧ zS x.2 T sn' sz') ∧ zT x.2 T ∧ zV x.2 (zz_mgS T dr nb sel lv (R, rd, wr, mg, fl)).2.1 ∧ zz_fr [25, 30, 31, 32, 35] h x.2 ∧ x.2.length = h.length) := by
  have hlenR : R.length ≤ 60 := by
    have := zz_row_len hnb hB
    omega
  have hms : ∀ r ∈ R, r.2.2 < 2 ^ 60 := fun r hr => zz_lt (fun i hi => by
    have := ((hM.1 r hr).2 i hi).1
    omega)
  have hpb : ∀ r ∈ R, r.2.1 < 2 ^ 60 := fun r hr => zz_2_60 hnb (hB.1 r hr).1
  have hum : zz_um (R.filter sel) < 2 ^ 60 := zz_um_lt (fun x hx => hms x (List.mem_filter.mp hx).1)
  have hub : zz_ub (R.filter sel) < 2 ^ 60 := zz_2_60 hnb (zz_ub_filter_lt hB)
  have hu : zz_ub R < 2 ^ 60 := zz_2_60 hnb (zz_ub_lt hB)
  have hdn := zz_dn_lt (dr := dr) (by omega)
  have hset : zz_mset dr sel R < 2 ^ 60 := zz_an_lt hum
  have hnbs : (zz_bl (zz_ub (R.filter sel))).length = zz_nbs (R.filter sel) := zz_ub_len (List.Pairwise.filter _ hB.2)
  have hmT : ∀ d, (zz_mset dr sel R).testBit d = true → d < T.length := fun d hd => by
    obtain ⟨⟨r, hr, _, hb⟩, _⟩ := zz_mset_bit.mp hd
    have := ((hM.1 r hr).2 d hb).1
    omega
  have hG0 : ∀ (nw : Option (Nat × Nat × Nat)) (h2 : hh_H), zV h2 R → zG h2 (zz_ko sel nw []) R ([] : List (Nat × Nat × Nat)).length := by
    rintro nw h2 ⟨⟨j1, a1, a2⟩, ⟨j2, b1, b2⟩, ⟨j3, c1, c2⟩⟩
    exact ⟨⟨[], j1, a1, rfl, by simp; omega⟩, ⟨[], j2, b1, rfl, by simp; omega⟩, ⟨[], j3, c1, rfl, by simp; omega⟩⟩
  unfold f_Mo_merge l_Mo_merge_17
  refine s_mg17 (F := F) (sel := sel) hlenR (fun r hr => by have := hlv r hr; omega) hms hpb hsel hc HV R F [] rfl (by omega) ?_
  rw [f_Mo_merge_102]
  refine zw.gi hc rfl ?_
  refine zw.cbe (s_Mo_bits hub (by omega)) ?_
  rw [hnbs]
  refine zw.pi hc (Nat.le_of_ble_eq_true rfl) fun h1 s1 => ?_
  have c1 : h1[25]? = some (.inr (9, zz_mf th me fa (nI nb) ol (nI T.length) wa (lN (zz_dn dr)) (nI R.length) (lN (zz_ub R)) (rd + nI (zz_nbs (R.filter sel))) wr mg fl fo rk (nI sz) (lN sn))) := s1.1
  have f1 : zz_fr [25] h h1 := s1.fr (by simp)
  have HT1 := HT.fr f1 (by decide) (by decide) (by decide)
  have HV1 := HV.fr f1 (by decide) (by decide) (by decide)
  have HS1 := HS.fr f1 (by decide)
  refine zw.gj c1 rfl ?_
  rw [zz_lan hum hdn]
  have hsd : zz_an (zz_um (R.filter sel)) (zz_dn dr) = zz_mset dr sel R := rfl
  rw [hsd]
  have hcmp := zz_lcmp (a := zz_mset dr sel R) (b := 0) (Nat.lt_trans hset (by decide)) (by decide)
  by_cases h0 : zz_mset dr sel R = 0
  · refine zw.ifp (hcmp.mpr h0) ?_
    have e : zz_mgS T dr nb sel lv (R, rd, wr, mg, fl) = (true, R.filter (fun r => !sel r), rd + nI (zz_nbs (R.filter sel)), wr + nI 0, mg + 1, fl) := by
      unfold zz_mgS zz_mgR
      rw [if_pos h0]
    rw [e, f_Mo_merge_173]
    unfold l_Mo_merge_179
    refine s_mg179 (F := F) (R := R) (sel := sel) (nw := none) (at_ := 0) hlenR (fun r hr => by have := hlv r hr; omega) hset (by rw [if_pos h0]) hsel R F [] h1 rfl (by omega) c1 (hG0 none h1 HV1) ?_
    intro h2 d1 d2 d3 d4
    rw [zz_ko_none] at d2 ⊢
    refine (s_mg313 hu hub (by decide) d1).mono ?_
    rintro x ⟨q1, q2, q3, q4⟩
    have hub2 : zz_an (zz_ub R) (zz_ub (R.filter sel)) ||| 0 = zz_ub (R.filter (fun r => !sel r)) := zz_ub_merge (nw := []) hB.2 (fun i => by simp) (fun x => by rw [List.mem_filter]; simp)
    rw [hub2] at q2
    refine ⟨q1, ⟨sn, sz, ?_, (HS1.fr d3 (by decide)).fr q3 (by decide)⟩, (HT1.fr d3 (by decide) (by decide) (by decide)).fr q3 (by decide) (by decide) (by decide), d2.fr q3 (by decide) (by decide) (by decide), (f1.mono (by simp)).tr ((d3.mono (by simp)).tr (q3.mono (by simp))), by rw [q4, d4, s1.2.2]⟩
    show x.2[25]? = some (.inr (9, zz_mf th me fa (nI nb) ol (nI T.length) wa (lN (zz_dn dr)) _ _ (rd + nI (zz_nbs (R.filter sel))) (wr + 0) (mg + 1) fl fo rk (nI sz) (lN sn)))
    rw [Int32.add_zero]
    exact q2
  · refine zw.ifn (fun q => h0 (hcmp.mp q)) ?_
    refine zw.is c1 ?_
    refine zw.cb (s_Mo_room hnb hu hset h0 hmT hT ht hF c1 HT1 HS1) ?_
    rintro v h2 ⟨k1, k2, k3, k4, k5, k6⟩
    have k1 : v = _ := k1
    have HV2 := HV1.fr k5 (by decide) (by decide) (by decide)
    have hpos := zz_nd_pos T (zz_mset dr sel R)
    have hat : zz_at nb (zz_ub R) (zz_nd T (zz_mset dr sel R)) < 2 ^ 60 := zz_2_60 hnb zz_at_lt
    have hany : R.any sel = true := by
      obtain ⟨i, hi⟩ := zz_sne h0
      obtain ⟨⟨r, hr, hs, _⟩, _⟩ := zz_mset_bit.mp hi
      exact List.any_eq_true.mpr ⟨r, hr, hs⟩
    by_cases hr : zz_nd T (zz_mset dr sel R) ≤ (zz_free nb (zz_ub R)).length
    · rw [if_pos hr] at k1
      rw [k1]
      have hbl : (zz_bl (zz_at nb (zz_ub R) (zz_nd T (zz_mset dr sel R)))).length = zz_nd T (zz_mset dr sel R) := by rw [zz_at_bl hnb, List.length_take, Nat.min_eq_left hr]
      have hne : ¬ zz_at nb (zz_ub R) (zz_nd T (zz_mset dr sel R)) = 0 := fun q => by
        rw [q, zz_bl_0] at hbl
        simp at hbl
        omega
      have hcmp2 := zz_lcmp (a := zz_at nb (zz_ub R) (zz_nd T (zz_mset dr sel R))) (b := 0) (Nat.lt_trans hat (by decide)) (by decide)
      refine zw.ifn (fun q => hne (hcmp2.mp q)) ?_
      refine zw.gi k2 rfl ?_
      refine zw.cbe (s_Mo_bits hat (by omega)) ?_
      rw [hbl]
      refine zw.pi k2 (Nat.le_of_ble_eq_true rfl) fun h3 s3 => ?_
      have c3 : h3[25]? = some (.inr (9, zz_mf th me fa (nI nb) ol (nI T.length) wa (lN (zz_dn dr)) (nI R.length) (lN (zz_ub R)) (rd + nI (zz_nbs (R.filter sel))) (wr + nI (zz_nd T (zz_mset dr sel R))) mg fl fo rk (nI (zz_enc T (zz_mset dr sel R)).length) (lN (zz_mset dr sel R)))) := s3.1
      have f3 : zz_fr [25] h2 h3 := s3.fr (by simp)
      have e : zz_mgS T dr nb sel lv (R, rd, wr, mg, fl) = (true, R.takeWhile (fun r => !sel r) ++ (lv, zz_at nb (zz_ub R) (zz_nd T (zz_mset dr sel R)), zz_mset dr sel R) :: (R.dropWhile (fun r => !sel r)).filter (fun r => !sel r), rd + nI (zz_nbs (R.filter sel)), wr + nI (zz_nd T (zz_mset dr sel R)), mg + 1, fl) := by
        unfold zz_mgS zz_mgR
        rw [if_neg h0, if_pos hr]
      rw [e, f_Mo_merge_173]
      unfold l_Mo_merge_179
      have hlv2 := htop hany
      refine s_mg179 (F := F) (R := R) (sel := sel) (nw := some (zz_top (R.filter sel) + 1, zz_at nb (zz_ub R) (zz_nd T (zz_mset dr sel R)), zz_mset dr sel R)) hlenR (fun r hr => by have := hlv r hr; omega) hset (by rw [if_neg h0]) hsel R F [] h3 rfl (by omega) c3 (hG0 _ h3 (HV2.fr f3 (by decide) (by decide) (by decide))) ?_
      intro h4 d1 d2 d3 d4
      rw [zz_ko_some hany, hlv2] at d2 ⊢
      refine (s_mg313 hu hub hat d1).mono ?_
      rintro x ⟨q1, q2, q3, q4⟩
      have hub2 : zz_an (zz_ub R) (zz_ub (R.filter sel)) ||| zz_at nb (zz_ub R) (zz_nd T (zz_mset dr sel R)) = zz_ub (R.takeWhile (fun r => !sel r) ++ (lv, zz_at nb (zz_ub R) (zz_nd T (zz_mset dr sel R)), zz_mset dr sel R) :: (R.dropWhile (fun r => !sel r)).filter (fun r => !sel r)) := zz_ub_merge (nw := [(lv, zz_at nb (zz_ub R) (zz_nd T (zz_mset dr sel R)), zz_mset dr sel R)]) hB.2 (fun i => by simp) (fun x => by
          rw [← zz_mem_mid, zz_tail_sub, List.mem_cons, List.mem_filter]
          simp)
      rw [hub2] at q2
      exact ⟨q1, ⟨_, _, q2, ((k4.fr f3 (by decide)).fr d3 (by decide)).fr q3 (by decide)⟩, ((k3.fr f3 (by decide) (by decide) (by decide)).fr d3 (by decide) (by decide) (by decide)).fr q3 (by decide) (by decide) (by decide), d2.fr q3 (by decide) (by decide) (by decide), (f1.mono (by simp)).tr ((k5.mono (by simp)).tr ((f3.mono (by simp)).tr ((d3.mono (by simp)).tr (q3.mono (by simp))))), by rw [q4, d4, s3.2.2, k6, s1.2.2]⟩
    · rw [if_neg hr] at k1
      rw [k1]
      refine zw.ifp (by decide) ?_
      have e : zz_mgS T dr nb sel lv (R, rd, wr, mg, fl) = (false, R, rd + nI (zz_nbs (R.filter sel)), wr, mg, fl + 1) := by
        unfold zz_mgS zz_mgR
        rw [if_neg h0, if_neg hr]
      rw [e]
      refine zw.gi k2 rfl ?_
      refine zw.pi k2 (Nat.le_of_ble_eq_true rfl) fun h3 s3 => ?_
      have f3 : zz_fr [25] h2 h3 := s3.fr (by simp)
      exact zw.ret ⟨rfl, ⟨_, _, s3.1, k4.fr f3 (by decide)⟩, k3.fr f3 (by decide) (by decide) (by decide), HV2.fr f3 (by decide) (by decide) (by decide), (f1.mono (by simp)).tr ((k5.mono (by simp)).tr (f3.mono (by simp))), by rw [s3.2.2, k6, s1.2.2]⟩
-- buffered
theorem s_buffered_loop (hT : T.length ≤ 40) (ht : ∀ d, (zz_tx T d).length ≤ 20 ∧ ∀ x ∈ zz_tx T d, x < 100) (hc : h[25]? = some (.inr (9, zz_mf th me fa bl ol (nI T.length) wa dn rn us rd wr mg fl fo rk si sh))) (HT : zT h T) : ∀ (k n i c : Nat), i + k = T.length → k < n → hp_it (fun _ _ _ _ => none) (f_Mo_buffered_7 F) n 25 (nI c) (nI i) h = some (nI (c + zz_bf T i), h) := by
  obtain ⟨_, ⟨f2, b1, b2⟩, _⟩ := HT
  intro k
  induction k with
  | zero =>
    intro n i c hi hn
    obtain ⟨n, rfl⟩ : ∃ m, n = m + 1 := ⟨n - 1, by omega⟩
    rw [hp_it_s, f_Mo_buffered_7, q_gi hc rfl]
    show (if nI T.length ≤ nI i then _ else _) = _
    rw [if_pos (nI_le (by omega) (by omega)), show i = T.length by omega, zz_bf_0]
    rfl
  | succ k ih =>
    intro n i c hi hn
    obtain ⟨n, rfl⟩ : ∃ m, n = m + 1 := ⟨n - 1, by omega⟩
    rw [hp_it_s, f_Mo_buffered_7, q_gi hc rfl]
    show (if nI T.length ≤ nI i then _ else _) = _
    rw [if_neg (nI_ge (by omega) (by omega)), q_ga hc rfl]
    show ((hp_ai h 28 (nI i)).bind _) = _
    rw [q_ai b1 (by omega) (zz_row_get (by omega)), b2 i (by omega)]
    show hp_it (fun _ _ _ _ => none) (f_Mo_buffered_7 F) n 25 (nI c + nI (zz_tx T i).length) (nI i + 1) h = _
    rw [nI_add, nI_1, ih n (i + 1) _ (by omega) (by omega)]
    have e : zz_bf T i = (zz_tx T i).length + zz_bf T (i + 1) := by
      unfold zz_bf zz_tx
      rw [List.drop_eq_getElem_cons (by omega), List.map_cons, List.sum_cons, List.getD_eq_getElem?_getD, List.getElem?_eq_getElem (by omega)]
      rfl
    rw [e, Nat.add_assoc]
theorem s_buffered {wt : Nat} (hF : 5000 < F) (hwt : wt ≤ T.length) (hT : T.length ≤ 40) (ht : ∀ d, (zz_tx T d).length ≤ 20 ∧ ∀ x ∈ zz_tx T d, x < 100) (hc : h[25]? = some (.inr (9, zz_mf th me fa bl ol (nI T.length) (nI wt) dn rn us rd wr mg fl fo rk si sh))) (HT : zT h T) : f_Mo_buffered F 25 h = some (nI (zz_bf T wt), h) := by
  unfold f_Mo_buffered l_Mo_buffered_7
  rw [q_gi hc rfl]
  have := s_buffered_loop (F := F) hT ht hc HT (T.length - wt) F wt 0 (by omega) (by omega)
  rw [Nat.zero_add] at this
  exact this
end Mo4
