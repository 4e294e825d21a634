-- the reference: room, full, merge
def zV (h : hh_H) (R : List (Nat × Nat × Nat)) : Prop :=
  (∃ js, h[30]? = some (.inl (3, .inr (.inr (.inl (R.map (fun r => lN r.2.2) ++ js))))) ∧ R.length + js.length = 60) ∧ (∃ js, h[31]? = some (.inl (3, .inr (.inr (.inl (R.map (fun r => lN r.2.1) ++ js))))) ∧ R.length + js.length = 60) ∧ ∃ js, h[32]? = some (.inl (0, .inl (R.map (fun r => nI r.1) ++ js))) ∧ R.length + js.length = 60
theorem zV.fr {h h' : hh_H} {R : List (Nat × Nat × Nat)} {W : List Nat} (H : zV h R) (f : zz_fr W h h') (h1 : 30 ∉ W) (h2 : 31 ∉ W) (h3 : 32 ∉ W) : zV h' R := by
  obtain ⟨⟨j1, a1, a2⟩, ⟨j2, b1, b2⟩, ⟨j3, c1, c2⟩⟩ := H
  exact ⟨⟨j1, f.at a1 h1, a2⟩, ⟨j2, f.at b1 h2, b2⟩, ⟨j3, f.at c1 h3, c2⟩⟩
theorem zS.fr {h h' : hh_H} {T : List (List Nat)} {sn sz : Nat} {W : List Nat} (H : zS h T sn sz) (f : zz_fr W h h') (h1 : 35 ∉ W) : zS h' T sn sz := by
  obtain ⟨a, b, ⟨o, c⟩⟩ := H
  refine ⟨a, ?_, ⟨o, c.fr f h1⟩⟩
  rcases b with b | ⟨b1, b2, b3⟩
  · exact Or.inl b
  · exact Or.inr ⟨b1, b2.fr f h1, b3⟩
section Mo2
variable {h : hh_H} {F nb : Nat} {T : List (List Nat)} {R : List (Nat × Nat × Nat)} {th me fa bl ol dc wa : Int32} {dn : Int64} {rn : Int32} {us : Int64} {rd wr mg fl fo rk si : Int32} {sh : Int64}
theorem s_room_loop {u : Nat} (hnb : nb ≤ 60) (hu : u < 2 ^ 60) (hc : h[25]? = some (.inr (9, zz_mf th me fa (nI nb) ol dc wa dn rn (lN u) rd wr mg fl fo rk si sh))) : ∀ (k n i m a : Nat), i + k = nb → k < n → m ≤ 5000 → a < 2 ^ 60 → hp_it (fun _ _ _ _ _ => none) (f_Mo_room_22 F) n 25 (nI m) (lN a) (nI i) h = some (if m ≤ ((List.range' i k).filter (fun b => !u.testBit b)).length then lN (a ||| zz_bs (((List.range' i k).filter (fun b => !u.testBit b)).take m)) else 0, h) := by
  intro k
  induction k with
  | zero =>
    intro n i m a hi hn hm ha
    obtain ⟨n, rfl⟩ : ∃ m, n = m + 1 := ⟨n - 1, by omega⟩
    rw [hp_it_s, f_Mo_room_22, q_gi hc rfl]
    show (if nI nb ≤ nI i then _ else _) = _
    rw [if_pos (nI_le (by omega) (by omega)), f_Mo_room_68]
    by_cases h0 : m = 0
    · subst h0
      rw [if_pos (show nI 0 = 0 from rfl), if_pos (Nat.zero_le _)]
      simp [zz_bs]
    · rw [if_neg (nI_ne0 (by omega) (by omega)), if_neg (by simpa using h0)]
  | succ k ih =>
    intro n i m a hi hn hm ha
    obtain ⟨n, rfl⟩ : ∃ m, n = m + 1 := ⟨n - 1, by omega⟩
    rw [hp_it_s, f_Mo_room_22, q_gi hc rfl]
    show (if nI nb ≤ nI i then _ else _) = _
    rw [if_neg (nI_ge (by omega) (by omega)), nI_1, List.range'_succ, List.filter_cons]
    by_cases h0 : m = 0
    · subst h0
      rw [if_pos (show nI 0 = 0 from rfl), ih n (i + 1) 0 a (by omega) (by omega) (by omega) ha]
      simp [zz_bs]
    · rw [if_neg (nI_ne0 (by omega) (by omega)), q_gj hc rfl]
      show hp_cb (f_Mo_in F (lN u) (nI i) h) _ = _
      rw [s_Mo_in hu (by omega), q_cb]
      cases hb : u.testBit i
      · obtain ⟨m, rfl⟩ : ∃ k, m = k + 1 := ⟨m - 1, by omega⟩
        have e1 : nI (m + 1) + (-1) = nI m := pk_m1 m
        have hp : 2 ^ i < 2 ^ 60 := Nat.pow_lt_pow_right (by decide) (by omega)
        have e2 : lN a ||| (1 : Int64) <<< ((nI i).toInt64 &&& 63) = lN (a ||| 2 ^ i) := by rw [zz_lbit (by omega), zz_lor ha hp]
        rw [e1, e2]
        simp only [Bool.false_eq_true, if_false, if_true, Bool.not_false, List.length_cons, Nat.add_le_add_iff_right, List.take_succ_cons]
        rw [ih n (i + 1) m (a ||| 2 ^ i) (by omega) (by omega) (by omega) (zz_or_lt ha hp)]
        have e3 : ∀ l : List Nat, a ||| 2 ^ i ||| zz_bs l = a ||| zz_bs (i :: l) := fun l => by
          show _ = a ||| (2 ^ i ||| zz_bs l)
          rw [Nat.or_assoc]
        rw [e3]
      · rw [if_pos rfl, if_neg (show ¬ (1 : Int32) = 0 by decide), ih n (i + 1) m a (by omega) (by omega) (by omega) ha]
        simp
theorem s_Mo_room {ms sn sz u : Nat} (hnb : nb ≤ 60) (hu : u < 2 ^ 60) (hms : ms < 2 ^ 60) (hm0 : ms ≠ 0) (hmT : ∀ d, ms.testBit d = true → d < T.length) (hT : T.length ≤ 40) (ht : ∀ d, (zz_tx T d).length ≤ 20 ∧ ∀ x ∈ zz_tx T d, x < 100) (hF : 5000 < F) (hc : h[25]? = some (.inr (9, zz_mf th me fa (nI nb) ol (nI T.length) wa dn rn (lN u) rd wr mg fl fo rk (nI sz) (lN sn)))) (HT : zT h T) (HS : zS h T sn sz) :
    zw (f_Mo_room F 25 (lN ms) h) (fun x => x.1 = lN (if zz_nd T ms ≤ (zz_free nb u).length then zz_at nb u (zz_nd T ms) else 0) ∧ x.2[25]? = some (.inr (9, zz_mf th me fa (nI nb) ol (nI T.length) wa dn rn (lN u) rd wr mg fl fo rk (nI (zz_enc T ms).length) (lN ms))) ∧ zT x.2 T ∧ zS x.2 T ms (zz_enc T ms).length ∧ zz_fr [25, 35] h x.2 ∧ x.2.length = h.length) := by
  have h4 := zz_enc_4001 T ms
  unfold f_Mo_room
  refine zw.is hc ?_
  refine zw.cb (s_Mo_encode hms hm0 hmT hT ht hF hc rfl rfl rfl rfl rfl rfl rfl HT HS) ?_
  rintro _ h1 ⟨g1, g2, g3, g4, g5⟩
  have c1 : h1[25]? = some (.inr (9, zz_mf th me fa (nI nb) ol (nI T.length) wa dn rn (lN u) rd wr mg fl fo rk (nI (zz_enc T ms).length) (lN ms))) := g1
  refine zw.gi c1 rfl ?_
  have e1 : (nI (zz_enc T ms).length + 15) / 16 = nI (zz_nd T ms) := by
    rw [show nI (zz_enc T ms).length + 15 = nI ((zz_enc T ms).length + 15) from nI_add _ 15]
    exact pk_div (d := 16) (by omega) (by decide) (by decide)
  rw [e1]
  unfold l_Mo_room_22
  have hr := s_room_loop (F := F) hnb hu c1 nb F 0 (zz_nd T ms) 0 (by omega) (by omega) (by unfold zz_nd; omega) (by decide)
  refine zw.eq hr ⟨?_, c1, g3, ⟨hms, Or.inr ⟨rfl, g2, hmT⟩, ⟨_, g2⟩⟩, g4, g5⟩
  show (if zz_nd T ms ≤ ((List.range' 0 nb).filter (fun b => !u.testBit b)).length then _ else _) = _
  rw [← List.range_eq_range']
  show (if zz_nd T ms ≤ (zz_free nb u).length then lN (0 ||| zz_bs ((zz_free nb u).take (zz_nd T ms))) else 0) = _
  rw [Nat.zero_or]
  split <;> rfl
-- the least full level
theorem s_full17 {Q : Int32 × hh_H → Prop} {r4 : Nat → Int32 → Int32 → hh_H → Option (Int32 × hh_H)} {x1 : Int32} {i : Nat} {r : Nat × Nat × Nat} (hr : R[i]? = some r) (hR : R.length ≤ 60) (hlv : ∀ r ∈ R, r.1 < 2 ^ 30) (hc : h[25]? = some (.inr (9, zz_mf th me fa bl ol dc wa dn (nI R.length) us rd wr mg fl fo rk si sh))) (HV : zV h R) : ∀ (B : List (Nat × Nat × Nat)) (n : Nat) (A : List (Nat × Nat × Nat)) (c : Nat), R = A ++ B → B.length < n →
    zw (f_Mo_full_51 F r4 25 x1 (nI i) (nI (c + zz_cntL B r.1)) h) Q →
    zw (hp_it (fun _ _ _ _ _ _ => none) (f_Mo_full_17 F r4) n 25 x1 (nI i) (nI c) (nI A.length) h) Q := by
  obtain ⟨_, _, ⟨js, v1, v2⟩⟩ := HV
  have hil := (List.getElem?_eq_some_iff.mp hr).1
  have hri := hlv r (List.mem_of_getElem? hr)
  intro B
  induction B with
  | nil =>
    intro n A c hAB hn kk
    obtain ⟨n, rfl⟩ : ∃ m, n = m + 1 := ⟨n - 1, by omega⟩
    rw [hp_it_s, f_Mo_full_17]
    refine zw.gi hc rfl ?_
    refine zw.ifp (nI_le (by simp [hAB]) (by simp [hAB] at hR; omega)) ?_
    simpa [zz_cntL] using kk
  | cons b B ih =>
    intro n A c hAB hn kk
    obtain ⟨n, rfl⟩ : ∃ m, n = m + 1 := ⟨n - 1, by omega⟩
    have hlR : R.length = A.length + B.length + 1 := by simp [hAB]; omega
    have hb := hlv b (by rw [hAB]; simp)
    rw [hp_it_s, f_Mo_full_17]
    refine zw.gi hc rfl ?_
    refine zw.ifn (nI_ge (by omega) (by omega)) ?_
    refine zw.ga hc rfl ?_
    refine zw.ai (w := nI b.1) v1 A.length rfl (by omega) (by rw [List.getElem?_append_left (by simp; omega), List.getElem?_map, hAB]; simp) ?_
    refine zw.ga hc rfl ?_
    refine zw.ai (w := nI r.1) v1 i rfl (by omega) (by rw [List.getElem?_append_left (by simp; omega), List.getElem?_map, hr]; rfl) ?_
    have e1 : nI A.length + 1 = nI (A ++ [b]).length := by rw [nI_1]; simp
    have hcnt : zz_cntL (b :: B) r.1 = (if b.1 = r.1 then 1 else 0) + zz_cntL B r.1 := by
      unfold zz_cntL
      rw [List.filter_cons]
      by_cases hq : b.1 = r.1
      · simp [hq]
        omega
      · simp [hq]
    rw [hcnt] at kk
    rw [e1]
    by_cases hq : b.1 = r.1
    · refine zw.ifp (by rw [hq]) ?_
      rw [nI_1]
      refine ih n (A ++ [b]) (c + 1) (by simp [hAB]) (by simp at hn; omega) ?_
      rw [if_pos hq] at kk
      rw [show c + 1 + zz_cntL B r.1 = c + (1 + zz_cntL B r.1) by omega]
      exact kk
    · refine zw.ifn (fun q => hq ((nI_eq (by omega) (by omega)).mp q)) ?_
      refine ih n (A ++ [b]) c (by simp [hAB]) (by simp at hn; omega) ?_
      rw [if_neg hq, Nat.zero_add] at kk
      exact kk
theorem s_full_loop {fan : Nat} (hF : 5000 < F) (hfan : fan < 2 ^ 30) (hR : R.length ≤ 60) (hlv : ∀ r ∈ R, r.1 < 2 ^ 30) (hc : h[25]? = some (.inr (9, zz_mf th me (nI fan) bl ol dc wa dn (nI R.length) us rd wr mg fl fo rk si sh))) (HV : zV h R) : ∀ (B : List (Nat × Nat × Nat)) (n : Nat) (A : List (Nat × Nat × Nat)) (best : Option Nat), R = A ++ B → B.length < n → (∀ b, best = some b → b < 2 ^ 30) →
    zw (hp_it (fun _ _ _ _ => none) (f_Mo_full_4 F) n 25 (zz_oi best) (nI A.length) h) (fun x => x = (zz_oi (B.foldl (zz_ffs fan R) best), h)) := by
  obtain ⟨_, _, ⟨js, v1, v2⟩⟩ := id HV
  intro B
  induction B with
  | nil =>
    intro n A best hAB hn hb
    obtain ⟨n, rfl⟩ : ∃ m, n = m + 1 := ⟨n - 1, by omega⟩
    rw [hp_it_s, f_Mo_full_4]
    refine zw.gi hc rfl ?_
    refine zw.ifp (nI_le (by simp [hAB]) (by simp [hAB] at hR; omega)) ?_
    exact zw.ret rfl
  | cons r B ih =>
    intro n A best hAB hn hb
    obtain ⟨n, rfl⟩ : ∃ m, n = m + 1 := ⟨n - 1, by omega⟩
    have hlR : R.length = A.length + B.length + 1 := by simp [hAB]; omega
    have hri : R[A.length]? = some r := by rw [hAB]; simp
    have hr := hlv r (List.mem_of_getElem? hri)
    rw [hp_it_s, f_Mo_full_4]
    refine zw.gi hc rfl ?_
    refine zw.ifn (nI_ge (by omega) (by omega)) ?_
    unfold l_Mo_full_17
    refine s_full17 (F := F) hri hR hlv hc HV R F [] 0 rfl (by omega) ?_
    rw [Nat.zero_add, f_Mo_full_51]
    refine zw.gi hc rfl ?_
    have hcl := zz_cntL_le R r.1
    have e1 : nI A.length + 1 = nI (A ++ [r]).length := by rw [nI_1]; simp
    rw [List.foldl_cons]
    have t73 : zw (f_Mo_full_73 F (hp_it (fun _ _ _ _ => none) (f_Mo_full_4 F) n) 25 (nI A.length) h) (fun x => x = (zz_oi (B.foldl (zz_ffs fan R) (some r.1)), h)) := by
      rw [f_Mo_full_73]
      refine zw.ga hc rfl ?_
      refine zw.ai (w := nI r.1) v1 A.length rfl (by omega) (by rw [List.getElem?_append_left (by simp; omega), List.getElem?_map, hri]; rfl) ?_
      rw [e1]
      exact ih n (A ++ [r]) (some r.1) (by simp [hAB]) (by simp at hn; omega) (fun b hb => by cases hb; exact hr)
    by_cases hq : fan ≤ zz_cntL R r.1
    · refine zw.ifn (nI_nlt hq (by omega)) ?_
      cases best with
      | none =>
        refine zw.ifp (by decide) ?_
        have e2 : zz_ffs fan R none r = some r.1 := by
          unfold zz_ffs
          rw [if_pos ⟨hq, fun b hb => by cases hb⟩]
        rw [e2]
        exact t73
      | some b =>
        have hb30 := hb b rfl
        refine zw.ifn (show ¬ nI b < 0 from nI_pos (by omega)) ?_
        refine zw.ga hc rfl ?_
        refine zw.ai (w := nI r.1) v1 A.length rfl (by omega) (by rw [List.getElem?_append_left (by simp; omega), List.getElem?_map, hri]; rfl) ?_
        by_cases hq2 : b ≤ r.1
        · refine zw.ifp (show nI b ≤ nI r.1 from nI_le hq2 (by omega)) ?_
          have e2 : zz_ffs fan R (some b) r = some b := by
            unfold zz_ffs
            rw [if_neg (fun q => by have := q.2 b rfl; omega)]
          rw [e2, e1]
          exact ih n (A ++ [r]) (some b) (by simp [hAB]) (by simp at hn; omega) hb
        · refine zw.ifn (show ¬ nI b ≤ nI r.1 from nI_ge (by omega) (by omega)) ?_
          have e2 : zz_ffs fan R (some b) r = some r.1 := by
            unfold zz_ffs
            rw [if_pos ⟨hq, fun c hc => by cases hc; omega⟩]
          rw [e2]
          exact t73
    · refine zw.ifp (nI_lt (by omega) (by omega)) ?_
      have e2 : zz_ffs fan R best r = best := by
        unfold zz_ffs
        rw [if_neg (fun q => hq q.1)]
      rw [e2, e1]
      exact ih n (A ++ [r]) best (by simp [hAB]) (by simp at hn; omega) hb
theorem s_Mo_full {fan : Nat} (hF : 5000 < F) (hfan : fan < 2 ^ 30) (hR : R.length ≤ 60) (hlv : ∀ r ∈ R, r.1 < 2 ^ 30) (hc : h[25]? = some (.inr (9, zz_mf th me (nI fan) bl ol dc wa dn (nI R.length) us rd wr mg fl fo rk si sh))) (HV : zV h R) : f_Mo_full F 25 h = some (zz_oi (zz_ff fan R), h) := by
  obtain ⟨x, hx, he⟩ := s_full_loop (F := F) hF hfan hR hlv hc HV R F [] none rfl (by omega) (fun b hb => by cases hb)
  unfold f_Mo_full l_Mo_full_4
  rw [he] at hx
  exact hx
end Mo2
