-- the reference: merge
def zz_fo (sel : Nat × Nat × Nat → Bool) (A : List (Nat × Nat × Nat)) : Option Nat := if A.any sel = true then some (A.takeWhile (fun r => !sel r)).length else none
def zz_ko (sel : Nat × Nat × Nat → Bool) (nw : Option (Nat × Nat × Nat)) (A : List (Nat × Nat × Nat)) : List (Nat × Nat × Nat) := if A.any sel = true then (match nw with
  | none => A.filter (fun r => !sel r)
  | some x => A.takeWhile (fun r => !sel r) ++ x :: (A.dropWhile (fun r => !sel r)).filter (fun r => !sel r)) else A
theorem zz_dw_all {sel : Nat × Nat × Nat → Bool} {A : List (Nat × Nat × Nat)} (h : A.any sel = false) (B : List (Nat × Nat × Nat)) : (A ++ B).dropWhile (fun r => !sel r) = B.dropWhile (fun r => !sel r) := by
  rw [List.dropWhile_append_of_pos]
  intro a ha
  rw [List.any_eq_false] at h
  simpa using h a ha
theorem zz_dw_any {sel : Nat × Nat × Nat → Bool} : ∀ {A : List (Nat × Nat × Nat)}, A.any sel = true → ∀ (B : List (Nat × Nat × Nat)), (A ++ B).dropWhile (fun r => !sel r) = A.dropWhile (fun r => !sel r) ++ B
  | [], h, _ => by simp at h
  | a :: A, h, B => by
    cases hs : sel a
    · have h' : A.any sel = true := by simpa [hs] using h
      have h1 := zz_dw_any h' B
      simp [hs, h1]
    · simp [hs]
theorem zz_fi_all {sel : Nat × Nat × Nat → Bool} {A : List (Nat × Nat × Nat)} (h : A.any sel = false) : A.filter (fun r => !sel r) = A := by
  rw [List.filter_eq_self]
  intro a ha
  rw [List.any_eq_false] at h
  simpa using h a ha
theorem zz_ko_keep {sel : Nat × Nat × Nat → Bool} {nw : Option (Nat × Nat × Nat)} {A : List (Nat × Nat × Nat)} {r : Nat × Nat × Nat} (hs : sel r = false) : zz_ko sel nw (A ++ [r]) = zz_ko sel nw A ++ [r] := by
  unfold zz_ko
  have e : (A ++ [r]).any sel = A.any sel := by simp [hs]
  rw [e]
  cases ha : A.any sel
  · simp
  · simp only [if_true]
    cases nw with
    | none => simp [hs]
    | some x =>
      simp only
      rw [(zz_tw_any ha [r]).1, zz_dw_any ha [r], List.filter_append]
      simp [hs]
theorem zz_ko_new {sel : Nat × Nat × Nat → Bool} {x : Nat × Nat × Nat} {A : List (Nat × Nat × Nat)} {r : Nat × Nat × Nat} (hs : sel r = true) (ha : A.any sel = false) : zz_ko sel (some x) (A ++ [r]) = zz_ko sel (some x) A ++ [x] := by
  unfold zz_ko
  have e : (A ++ [r]).any sel = true := by simp [hs]
  rw [e, ha]
  simp only [if_true, Bool.false_eq_true, if_false]
  rw [zz_tw_all ha, zz_dw_all ha]
  simp [hs]
theorem zz_ko_skip {sel : Nat × Nat × Nat → Bool} {nw : Option (Nat × Nat × Nat)} {A : List (Nat × Nat × Nat)} {r : Nat × Nat × Nat} (hs : sel r = true) (ha : A.any sel = true ∨ nw = none) : zz_ko sel nw (A ++ [r]) = zz_ko sel nw A := by
  unfold zz_ko
  have e : (A ++ [r]).any sel = true := by simp [hs]
  rw [e]
  simp only [if_true]
  cases nw with
  | none =>
    simp only
    have e2 : (A ++ [r]).filter (fun r => !sel r) = A.filter (fun r => !sel r) := by simp [hs]
    rw [e2]
    cases hq : A.any sel
    · rw [zz_fi_all hq]
      simp
    · simp
  | some x =>
    rcases ha with ha | ha
    · simp only [ha, if_true]
      rw [(zz_tw_any ha [r]).1, zz_dw_any ha [r], List.filter_append]
      simp [hs]
    · cases ha
theorem zz_ko_none {sel : Nat × Nat × Nat → Bool} {R : List (Nat × Nat × Nat)} : zz_ko sel none R = R.filter (fun r => !sel r) := by
  unfold zz_ko
  cases ha : R.any sel
  · simp only [Bool.false_eq_true, if_false]
    rw [zz_fi_all ha]
  · simp
theorem zz_ko_some {sel : Nat × Nat × Nat → Bool} {x : Nat × Nat × Nat} {R : List (Nat × Nat × Nat)} (ha : R.any sel = true) : zz_ko sel (some x) R = R.takeWhile (fun r => !sel r) ++ x :: (R.dropWhile (fun r => !sel r)).filter (fun r => !sel r) := by
  unfold zz_ko
  rw [if_pos ha]
theorem zz_gap_set {α : Type} (X g rest : List α) (c v : α) : ∃ g', (X ++ (g ++ c :: rest)).set X.length v = (X ++ [v]) ++ (g' ++ rest) ∧ g'.length = g.length := by
  cases g with
  | nil => exact ⟨[], by simp, rfl⟩
  | cons y g => exact ⟨g ++ [c], by simp, by simp⟩
theorem zz_top_app {S : List (Nat × Nat × Nat)} {r : Nat × Nat × Nat} : zz_top (S ++ [r]) = max (zz_top S) r.1 := by simp [zz_top]
theorem zz_ub_app {A : List (Nat × Nat × Nat)} {r : Nat × Nat × Nat} : zz_ub (A ++ [r]) = zz_ub A ||| r.2.1 := zz_seq (fun i => by
  rw [Nat.testBit_or, Bool.or_eq_true, zz_ub_bit, zz_ub_bit]
  constructor
  · rintro ⟨x, hx, hb⟩
    rcases List.mem_append.mp hx with hx | hx
    · exact Or.inl ⟨x, hx, hb⟩
    · rw [List.mem_singleton.mp hx] at hb
      exact Or.inr hb
  · rintro (⟨x, hx, hb⟩ | hb)
    · exact ⟨x, List.mem_append_left _ hx, hb⟩
    · exact ⟨r, by simp, hb⟩)
theorem zz_um_lt {R : List (Nat × Nat × Nat)} (h : ∀ r ∈ R, r.2.2 < 2 ^ 60) : zz_um R < 2 ^ 60 := zz_lt (fun i hi => by
  obtain ⟨r, hr, hb⟩ := zz_um_bit.mp hi
  exact zz_bit_lt (h r hr) hb)
theorem zz_ub_lt60 {R : List (Nat × Nat × Nat)} (h : ∀ r ∈ R, r.2.1 < 2 ^ 60) : zz_ub R < 2 ^ 60 := zz_lt (fun i hi => by
  obtain ⟨r, hr, hb⟩ := zz_ub_bit.mp hi
  exact zz_bit_lt (h r hr) hb)
section Mo3
variable {h : hh_H} {F nb : Nat} {T : List (List Nat)} {dr : List Bool} {R : List (Nat × Nat × Nat)} {th me fa bl ol dc wa : Int32} {dn : Int64} {rn : Int32} {us : Int64} {rd wr mg fl fo rk si : Int32} {sh : Int64} {sel : Nat × Nat × Nat → Bool} {x1 : Int32}
theorem s_mg17 {Q : Int32 × hh_H → Prop} (hR : R.length ≤ 60) (hlv : ∀ r ∈ R, r.1 < 2 ^ 30) (hms : ∀ r ∈ R, r.2.2 < 2 ^ 60) (hpb : ∀ r ∈ R, r.2.1 < 2 ^ 60) (hsel : ∀ r ∈ R, (sel r = true ↔ (x1 < 0 ∨ nI r.1 = x1))) (hc : h[25]? = some (.inr (9, zz_mf th me fa bl ol dc wa dn (nI R.length) us rd wr mg fl fo rk si sh))) (HV : zV h R) : ∀ (B : List (Nat × Nat × Nat)) (n : Nat) (A : List (Nat × Nat × Nat)), R = A ++ B → B.length < n →
    zw (f_Mo_merge_102 F 25 x1 (lN (zz_um (R.filter sel))) (lN (zz_ub (R.filter sel))) 0 (zz_oi (zz_fo sel R)) (nI (zz_top (R.filter sel))) h) Q →
    zw (hp_it (fun _ _ _ _ _ _ _ _ _ => none) (f_Mo_merge_17 F) n 25 x1 (lN (zz_um (A.filter sel))) (lN (zz_ub (A.filter sel))) 0 (zz_oi (zz_fo sel A)) (nI (zz_top (A.filter sel))) (nI A.length) h) Q := by
  obtain ⟨⟨j1, u1, u2⟩, ⟨j2, w1, w2⟩, ⟨j3, v1, v2⟩⟩ := HV
  intro B
  induction B with
  | nil =>
    intro n A hAB hn kk
    obtain ⟨n, rfl⟩ : ∃ m, n = m + 1 := ⟨n - 1, by omega⟩
    rw [List.append_nil] at hAB
    subst hAB
    rw [hp_it_s, f_Mo_merge_17]
    refine zw.gi hc rfl ?_
    refine zw.ifp (nI_le (Nat.le_refl _) (by omega)) ?_
    exact kk
  | cons r B ih =>
    intro n A hAB hn kk
    obtain ⟨n, rfl⟩ : ∃ m, n = m + 1 := ⟨n - 1, by omega⟩
    have hlR : R.length = A.length + B.length + 1 := by simp [hAB]; omega
    have hri : R[A.length]? = some r := by rw [hAB]; simp
    have hrR := List.mem_of_getElem? hri
    have hr := hlv r hrR
    have e1 : nI A.length + 1 = nI (A ++ [r]).length := by rw [nI_1]; simp
    have l1 : (R.map (fun r => lN r.2.2) ++ j1)[A.length]? = some (lN r.2.2) := by rw [List.getElem?_append_left (by simp; omega), List.getElem?_map, hri]; rfl
    have l2 : (R.map (fun r => lN r.2.1) ++ j2)[A.length]? = some (lN r.2.1) := by rw [List.getElem?_append_left (by simp; omega), List.getElem?_map, hri]; rfl
    have l3 : (R.map (fun r => nI r.1) ++ j3)[A.length]? = some (nI r.1) := by rw [List.getElem?_append_left (by simp; omega), List.getElem?_map, hri]; rfl
    have hgo := ih n (A ++ [r]) (by simp [hAB]) (by simp at hn; omega) kk
    have hA : ∀ x ∈ A, x ∈ R := fun x hx => by rw [hAB]; simp [hx]
    have t44 : sel r = true → zw (f_Mo_merge_44 F (hp_it (fun _ _ _ _ _ _ _ _ _ => none) (f_Mo_merge_17 F) n) 25 x1 (lN (zz_um (A.filter sel))) (lN (zz_ub (A.filter sel))) 0 (zz_oi (zz_fo sel A)) (nI (zz_top (A.filter sel))) (nI A.length) h) Q := by
      intro hs
      have ef : (A ++ [r]).filter sel = A.filter sel ++ [r] := by simp [hs]
      rw [ef, zz_um_app, zz_ub_app, zz_top_app] at hgo
      have b1 : zz_um (A.filter sel) < 2 ^ 60 := zz_um_lt (fun x hx => hms x (hA x (List.mem_filter.mp hx).1))
      have b2 : zz_ub (A.filter sel) < 2 ^ 60 := zz_ub_lt60 (fun x hx => hpb x (hA x (List.mem_filter.mp hx).1))
      have b3 : zz_top (A.filter sel) < 2 ^ 30 := by
        have := zz_top_lt (A.filter sel) 0 (2 ^ 30 - 1) (Nat.zero_le _) (fun x hx => by have := hlv x (hA x (List.mem_filter.mp hx).1); omega)
        unfold zz_top
        omega
      rw [f_Mo_merge_44]
      refine zw.ga hc rfl ?_
      refine zw.aj (w := lN r.2.2) u1 A.length rfl (by omega) l1 ?_
      refine zw.ga hc rfl ?_
      refine zw.aj (w := lN r.2.1) w1 A.length rfl (by omega) l2 ?_
      rw [zz_lor b1 (hms r hrR), zz_lor b2 (hpb r hrR)]
      have t75 : ∀ x8 : Int32, x8 = zz_oi (zz_fo sel (A ++ [r])) → zw (f_Mo_merge_75 F (hp_it (fun _ _ _ _ _ _ _ _ _ => none) (f_Mo_merge_17 F) n) 25 x1 (lN (zz_um (A.filter sel) ||| r.2.2)) (lN (zz_ub (A.filter sel) ||| r.2.1)) 0 x8 (nI (zz_top (A.filter sel))) (nI A.length) h) Q := by
        intro x8 h8
        rw [h8, f_Mo_merge_75]
        refine zw.ga hc rfl ?_
        refine zw.ai (w := nI r.1) v1 A.length rfl (by omega) l3 ?_
        rw [e1]
        by_cases hq : r.1 ≤ zz_top (A.filter sel)
        · refine zw.ifp (nI_le hq (by omega)) ?_
          rw [Nat.max_eq_left hq] at hgo
          exact hgo
        · refine zw.ifn (nI_ge (by omega) (by omega)) ?_
          refine zw.ga hc rfl ?_
          refine zw.ai (w := nI r.1) v1 A.length rfl (by omega) l3 ?_
          rw [Nat.max_eq_right (by omega)] at hgo
          exact hgo
      have hany : (A ++ [r]).any sel = true := by simp [hs]
      have hfo : zz_fo sel (A ++ [r]) = some ((A ++ [r]).takeWhile (fun r => !sel r)).length := by
        unfold zz_fo
        rw [if_pos hany]
      cases ha : A.any sel
      · have e2 : zz_fo sel A = none := by
          unfold zz_fo
          rw [ha]
          rfl
        rw [e2]
        refine zw.ifn (by decide) ?_
        refine t75 _ ?_
        rw [hfo, zz_tw_all ha]
        show nI A.length = nI _
        simp [hs]
      · have e2 : zz_fo sel A = some (A.takeWhile (fun r => !sel r)).length := by
          unfold zz_fo
          rw [ha]
          rfl
        obtain ⟨t1, t2⟩ := zz_tw_any ha [r]
        rw [e2]
        refine zw.ifp (show 0 ≤ nI _ from nI_pos' (by omega)) ?_
        refine t75 _ ?_
        rw [hfo, t1]
    have tno : sel r = false → zw (hp_it (fun _ _ _ _ _ _ _ _ _ => none) (f_Mo_merge_17 F) n 25 x1 (lN (zz_um (A.filter sel))) (lN (zz_ub (A.filter sel))) 0 (zz_oi (zz_fo sel A)) (nI (zz_top (A.filter sel))) (nI A.length + 1) h) Q := by
      intro hs
      have ef : (A ++ [r]).filter sel = A.filter sel := by simp [hs]
      have efo : zz_fo sel (A ++ [r]) = zz_fo sel A := by
        unfold zz_fo
        cases ha : A.any sel
        · simp [ha, hs]
        · have : (A ++ [r]).any sel = true := by simp [ha]
          rw [if_pos this, if_pos rfl, (zz_tw_any ha [r]).1]
      rw [ef, efo] at hgo
      rw [e1]
      exact hgo
    rw [hp_it_s, f_Mo_merge_17]
    refine zw.gi hc rfl ?_
    refine zw.ifn (nI_ge (by omega) (by omega)) ?_
    by_cases hx : x1 < 0
    · refine zw.ifp hx ?_
      exact t44 ((hsel r hrR).mpr (Or.inl hx))
    · refine zw.ifn hx ?_
      refine zw.ga hc rfl ?_
      refine zw.ai (w := nI r.1) v1 A.length rfl (by omega) l3 ?_
      by_cases hq : nI r.1 = x1
      · refine zw.ifp hq ?_
        exact t44 ((hsel r hrR).mpr (Or.inr hq))
      · refine zw.ifn hq ?_
        refine tno ?_
        cases hs : sel r
        · rfl
        · rcases (hsel r hrR).mp hs with h1 | h1
          · exact absurd h1 hx
          · exact absurd h1 hq
/-- the rows while they are moved together: O is kept, B is still to come -/
def zG (h : hh_H) (O B : List (Nat × Nat × Nat)) (n : Nat) : Prop :=
  (∃ g js, h[30]? = some (.inl (3, .inr (.inr (.inl (O.map (fun r => lN r.2.2) ++ (g ++ (B.map (fun r => lN r.2.2) ++ js))))))) ∧ O.length + g.length = n ∧ n + B.length + js.length = 60) ∧ (∃ g js, h[31]? = some (.inl (3, .inr (.inr (.inl (O.map (fun r => lN r.2.1) ++ (g ++ (B.map (fun r => lN r.2.1) ++ js))))))) ∧ O.length + g.length = n ∧ n + B.length + js.length = 60) ∧ ∃ g js, h[32]? = some (.inl (0, .inl (O.map (fun r => nI r.1) ++ (g ++ (B.map (fun r => nI r.1) ++ js))))) ∧ O.length + g.length = n ∧ n + B.length + js.length = 60
theorem zG.skip {O B : List (Nat × Nat × Nat)} {r : Nat × Nat × Nat} {n : Nat} (H : zG h O (r :: B) n) : zG h O B (n + 1) := by
  obtain ⟨⟨g1, j1, a1, a2, a3⟩, ⟨g2, j2, b1, b2, b3⟩, ⟨g3, j3, c1, c2, c3⟩⟩ := H
  simp only [List.length_cons] at a3 b3 c3
  refine ⟨⟨g1 ++ [lN r.2.2], j1, ?_, by simp; omega, by omega⟩, ⟨g2 ++ [lN r.2.1], j2, ?_, by simp; omega, by omega⟩, ⟨g3 ++ [nI r.1], j3, ?_, by simp; omega, by omega⟩⟩
  · rw [a1]
    simp
  · rw [b1]
    simp
  · rw [c1]
    simp
/-- one run is laid to those that are kept -/
theorem s_mg231 {Q : Int32 × hh_H → Prop} {r179 : Nat → Int32 → Int64 → Int64 → Int64 → Int32 → Int32 → Int32 → Int32 → hh_H → Option (Int32 × hh_H)} {z4 : Int64} {x8 : Int32} {O B : List (Nat × Nat × Nat)} {r x : Nat × Nat × Nat} {n : Nat} {st at_ tp : Nat} {x12 : Int32} (hx : (x12 = 0 ∧ x = r) ∨ (x12 ≠ 0 ∧ x = (tp + 1, at_, st))) (hc : h[25]? = some (.inr (9, zz_mf th me fa bl ol dc wa dn rn us rd wr mg fl fo rk si sh))) (HG : zG h O (r :: B) n)
    (kk : ∀ h2, zG h2 (O ++ [x]) B (n + 1) → zz_fr [30, 31, 32] h h2 → h2.length = h.length → zw (r179 25 x1 (lN st) z4 (lN at_) x8 (nI tp) (nI (O.length + 1)) (nI (n + 1)) h2) Q) :
    zw (f_Mo_merge_231 F r179 25 x1 (lN st) z4 (lN at_) x8 (nI tp) (nI O.length) (nI n) x12 h) Q := by
  obtain ⟨⟨g1, j1, a1, a2, a3⟩, ⟨g2, j2, b1, b2, b3⟩, ⟨g3, j3, c1, c2, c3⟩⟩ := HG
  simp only [List.length_cons] at a3 b3 c3
  have l1 : (O.map (fun r => lN r.2.2) ++ (g1 ++ ((r :: B).map (fun r => lN r.2.2) ++ j1)))[n]? = some (lN r.2.2) := by
    rw [List.getElem?_append_right (by simp; omega), List.getElem?_append_right (by simp; omega)]
    simp [show n - O.length - g1.length = 0 by omega]
  have l2 : (O.map (fun r => lN r.2.1) ++ (g2 ++ ((r :: B).map (fun r => lN r.2.1) ++ j2)))[n]? = some (lN r.2.1) := by
    rw [List.getElem?_append_right (by simp; omega), List.getElem?_append_right (by simp; omega)]
    simp [show n - O.length - g2.length = 0 by omega]
  have l3 : (O.map (fun r => nI r.1) ++ (g3 ++ ((r :: B).map (fun r => nI r.1) ++ j3)))[n]? = some (nI r.1) := by
    rw [List.getElem?_append_right (by simp; omega), List.getElem?_append_right (by simp; omega)]
    simp [show n - O.length - g3.length = 0 by omega]
  have main : ∀ (v1 v2 : Int64) (v3 : Int32) (h3 : hh_H), v1 = lN x.2.2 → v2 = lN x.2.1 → v3 = nI x.1 → zz_st 30 (.inl (3, .inr (.inr (.inl ((O.map (fun r => lN r.2.2) ++ (g1 ++ ((r :: B).map (fun r => lN r.2.2) ++ j1))).set O.length v1))))) h h3 → ∀ h4, zz_st 31 (.inl (3, .inr (.inr (.inl ((O.map (fun r => lN r.2.1) ++ (g2 ++ ((r :: B).map (fun r => lN r.2.1) ++ j2))).set O.length v2))))) h3 h4 → ∀ h5, zz_st 32 (.inl (0, .inl ((O.map (fun r => nI r.1) ++ (g3 ++ ((r :: B).map (fun r => nI r.1) ++ j3))).set O.length v3))) h4 h5 → zw (r179 25 x1 (lN st) z4 (lN at_) x8 (nI tp) (nI O.length + 1) (nI n + 1) h5) Q := by
    intro v1 v2 v3 h3 e1 e2 e3 s3 h4 s4 h5 s5
    rw [nI_1, nI_1]
    refine kk h5 ⟨?_, ?_, ?_⟩ ((s3.fr (by simp)).tr ((s4.fr (by simp)).tr (s5.fr (by simp)))) (by rw [s5.2.2, s4.2.2, s3.2.2])
    · obtain ⟨g', hg, hl⟩ := zz_gap_set (O.map (fun r => lN r.2.2)) g1 (B.map (fun r => lN r.2.2) ++ j1) (lN r.2.2) v1
      rw [List.length_map] at hg
      refine ⟨g', j1, (s5.2.1 30 (by decide)).trans ((s4.2.1 30 (by decide)).trans (s3.1.trans ?_)), by simp; omega, by omega⟩
      rw [show (r :: B).map (fun r => lN r.2.2) ++ j1 = lN r.2.2 :: (B.map (fun r => lN r.2.2) ++ j1) from rfl, hg, e1]
      simp
    · obtain ⟨g', hg, hl⟩ := zz_gap_set (O.map (fun r => lN r.2.1)) g2 (B.map (fun r => lN r.2.1) ++ j2) (lN r.2.1) v2
      rw [List.length_map] at hg
      refine ⟨g', j2, (s5.2.1 31 (by decide)).trans (s4.1.trans ?_), by simp; omega, by omega⟩
      rw [show (r :: B).map (fun r => lN r.2.1) ++ j2 = lN r.2.1 :: (B.map (fun r => lN r.2.1) ++ j2) from rfl, hg, e2]
      simp
    · obtain ⟨g', hg, hl⟩ := zz_gap_set (O.map (fun r => nI r.1)) g3 (B.map (fun r => nI r.1) ++ j3) (nI r.1) v3
      rw [List.length_map] at hg
      refine ⟨g', j3, s5.1.trans ?_, by simp; omega, by omega⟩
      rw [show (r :: B).map (fun r => nI r.1) ++ j3 = nI r.1 :: (B.map (fun r => nI r.1) ++ j3) from rfl, hg, e3]
      simp
  have k1 : O.length < (O.map (fun r => lN r.2.2) ++ (g1 ++ ((r :: B).map (fun r => lN r.2.2) ++ j1))).length := by simp; omega
  have k2 : O.length < (O.map (fun r => lN r.2.1) ++ (g2 ++ ((r :: B).map (fun r => lN r.2.1) ++ j2))).length := by simp; omega
  have k3 : O.length < (O.map (fun r => nI r.1) ++ (g3 ++ ((r :: B).map (fun r => nI r.1) ++ j3))).length := by simp; omega
  rw [f_Mo_merge_231]
  refine zw.ga hc rfl ?_
  rcases hx with ⟨h0, rfl⟩ | ⟨h0, rfl⟩
  · refine zw.ifp h0 ?_
    refine zw.ga hc rfl ?_
    refine zw.aj a1 n rfl (by omega) l1 ?_
    rw [f_Mo_merge_253]
    refine zw.sj a1 O.length rfl k1 (by omega) fun h3 s3 => ?_
    have d3 := s3.at hc (by decide)
    refine zw.ga d3 rfl ?_
    refine zw.ifp h0 ?_
    refine zw.ga d3 rfl ?_
    have b1' := s3.at b1 (by decide)
    refine zw.aj b1' n rfl (by omega) l2 ?_
    rw [f_Mo_merge_277]
    refine zw.sj b1' O.length rfl k2 (by omega) fun h4 s4 => ?_
    have d4 := s4.at d3 (by decide)
    refine zw.ga d4 rfl ?_
    refine zw.ifp h0 ?_
    refine zw.ga d4 rfl ?_
    have c1' := s4.at (s3.at c1 (by decide)) (by decide)
    refine zw.ai c1' n rfl (by omega) l3 ?_
    refine zw.si c1' O.length rfl k3 (by omega) fun h5 s5 => ?_
    exact main _ _ _ h3 rfl rfl rfl s3 h4 s4 h5 s5
  · refine zw.ifn h0 ?_
    rw [f_Mo_merge_253]
    refine zw.sj a1 O.length rfl k1 (by omega) fun h3 s3 => ?_
    have d3 := s3.at hc (by decide)
    refine zw.ga d3 rfl ?_
    refine zw.ifn h0 ?_
    have b1' := s3.at b1 (by decide)
    rw [f_Mo_merge_277]
    refine zw.sj b1' O.length rfl k2 (by omega) fun h4 s4 => ?_
    have d4 := s4.at d3 (by decide)
    refine zw.ga d4 rfl ?_
    refine zw.ifn h0 ?_
    have c1' := s4.at (s3.at c1 (by decide)) (by decide)
    refine zw.si c1' O.length rfl k3 (by omega) fun h5 s5 => ?_
    exact main _ _ _ h3 rfl rfl (by rw [nI_1]) s3 h4 s4 h5 s5
theorem s_mg179 {Q : Int32 × hh_H → Prop} {z4 : Int64} {st at_ tp : Nat} {nw : Option (Nat × Nat × Nat)} (hR : R.length ≤ 60) (hlv : ∀ r ∈ R, r.1 < 2 ^ 30) (hst : st < 2 ^ 60) (hnw : nw = if st = 0 then none else some (tp + 1, at_, st)) (hsel : ∀ r ∈ R, (sel r = true ↔ (x1 < 0 ∨ nI r.1 = x1))) : ∀ (B : List (Nat × Nat × Nat)) (n : Nat) (A : List (Nat × Nat × Nat)) (h1 : hh_H), R = A ++ B → B.length < n → h1[25]? = some (.inr (9, zz_mf th me fa bl ol dc wa dn (nI R.length) us rd wr mg fl fo rk si sh)) → zG h1 (zz_ko sel nw A) B A.length →
    (∀ h2, h2[25]? = some (.inr (9, zz_mf th me fa bl ol dc wa dn (nI R.length) us rd wr mg fl fo rk si sh)) → zV h2 (zz_ko sel nw R) → zz_fr [30, 31, 32] h1 h2 → h2.length = h1.length → zw (f_Mo_merge_313 F 25 z4 (lN at_) (nI (zz_ko sel nw R).length) h2) Q) →
    zw (hp_it (fun _ _ _ _ _ _ _ _ _ _ => none) (f_Mo_merge_179 F) n 25 x1 (lN st) z4 (lN at_) (zz_oi (zz_fo sel R)) (nI tp) (nI (zz_ko sel nw A).length) (nI A.length) h1) Q := by
  intro B
  induction B with
  | nil =>
    intro n A h1 hAB hn hc HG kk
    obtain ⟨n, rfl⟩ : ∃ m, n = m + 1 := ⟨n - 1, by omega⟩
    rw [List.append_nil] at hAB
    subst hAB
    rw [hp_it_s, f_Mo_merge_179]
    refine zw.gi hc rfl ?_
    refine zw.ifp (nI_le (Nat.le_refl _) (by omega)) ?_
    refine kk h1 hc ?_ (zz_fr.rf _ _) rfl
    obtain ⟨⟨g1, j1, a1, a2, a3⟩, ⟨g2, j2, b1, b2, b3⟩, ⟨g3, j3, c1, c2, c3⟩⟩ := HG
    simp only [List.length_nil] at a3 b3 c3
    exact ⟨⟨g1 ++ j1, by simpa using a1, by simp; omega⟩, ⟨g2 ++ j2, by simpa using b1, by simp; omega⟩, ⟨g3 ++ j3, by simpa using c1, by simp; omega⟩⟩
  | cons r B ih =>
    intro n A h1 hAB hn hc HG kk
    obtain ⟨n, rfl⟩ : ∃ m, n = m + 1 := ⟨n - 1, by omega⟩
    have hlR : R.length = A.length + B.length + 1 := by simp [hAB]; omega
    have hri : R[A.length]? = some r := by rw [hAB]; simp
    have hrR := List.mem_of_getElem? hri
    have hr := hlv r hrR
    have hl3 : ∃ l, h1[32]? = some (.inl (0, .inl l)) ∧ l[A.length]? = some (nI r.1) := by
      obtain ⟨_, _, ⟨g3, j3, c1, c2, c3⟩⟩ := HG
      refine ⟨_, c1, ?_⟩
      rw [List.getElem?_append_right (by simp; omega), List.getElem?_append_right (by simp; omega)]
      simp [show A.length - (zz_ko sel nw A).length - g3.length = 0 by omega]
    have eA : A.length + 1 = (A ++ [r]).length := by simp
    have next : ∀ (h2 : hh_H), zG h2 (zz_ko sel nw (A ++ [r])) B (A.length + 1) → zz_fr [30, 31, 32] h1 h2 → h2.length = h1.length → zw (hp_it (fun _ _ _ _ _ _ _ _ _ _ => none) (f_Mo_merge_179 F) n 25 x1 (lN st) z4 (lN at_) (zz_oi (zz_fo sel R)) (nI tp) (nI (zz_ko sel nw (A ++ [r])).length) (nI (A.length + 1)) h2) Q := by
      intro h2 G2 f2 l2
      rw [eA] at G2 ⊢
      refine ih n (A ++ [r]) h2 (by simp [hAB]) (by simp at hn; omega) (f2.at hc (by decide)) G2 ?_
      intro h3 d1 d2 d3 d4
      exact kk h3 d1 d2 (f2.tr d3) (by rw [d4, l2])
    have tyes : sel r = true → zw (f_Mo_merge_203 F (hp_it (fun _ _ _ _ _ _ _ _ _ _ => none) (f_Mo_merge_179 F) n) 25 x1 (lN st) z4 (lN at_) (zz_oi (zz_fo sel R)) (nI tp) (nI (zz_ko sel nw A).length) (nI A.length) h1) Q := by
      intro hs
      have hanyR : R.any sel = true := List.any_eq_true.mpr ⟨r, hrR, hs⟩
      have hfoR : zz_fo sel R = some (R.takeWhile (fun r => !sel r)).length := by
        unfold zz_fo
        rw [if_pos hanyR]
      have htl : (R.takeWhile (fun r => !sel r)).length ≤ R.length := zz_tw_le
      have skipc : (A.any sel = true ∨ nw = none) → zw (hp_it (fun _ _ _ _ _ _ _ _ _ _ => none) (f_Mo_merge_179 F) n 25 x1 (lN st) z4 (lN at_) (zz_oi (zz_fo sel R)) (nI tp) (nI (zz_ko sel nw A).length) (nI A.length + 1) h1) Q := by
        intro hq
        have e2 := zz_ko_skip (nw := nw) (A := A) hs hq
        have := next h1 (by rw [e2]; exact HG.skip) (zz_fr.rf _ _) rfl
        rw [e2] at this
        rw [nI_1]
        exact this
      rw [f_Mo_merge_203, f_Mo_merge_208]
      refine zw.ifn (by decide) ?_
      rw [hfoR]
      rw [hfoR] at skipc next
      show zw (if nI A.length = nI (R.takeWhile (fun r => !sel r)).length then _ else _) Q
      cases ha : A.any sel
      · have e3 : (R.takeWhile (fun r => !sel r)).length = A.length := by
          rw [hAB, zz_tw_all ha]
          simp [hs]
        refine zw.ifp (by rw [e3]) ?_
        have hcmp := zz_lcmp (a := st) (b := 0) (Nat.lt_trans hst (by decide)) (by decide)
        by_cases h0 : st = 0
        · refine zw.ifp (hcmp.mpr h0) ?_
          rw [if_pos h0] at hnw
          exact skipc (Or.inr hnw)
        · refine zw.ifn (fun q => h0 (hcmp.mp q)) ?_
          rw [if_neg h0] at hnw
          have e2 : zz_ko sel nw (A ++ [r]) = zz_ko sel nw A ++ [(tp + 1, at_, st)] := by
            rw [hnw]
            exact zz_ko_new hs ha
          refine s_mg231 (x := (tp + 1, at_, st)) (Or.inr ⟨by decide, rfl⟩) hc HG ?_
          intro h2 G2 f2 l2
          have := next h2 (by rw [e2]; exact G2) f2 l2
          rw [e2] at this
          simpa using this
      · obtain ⟨t1, t2⟩ := zz_tw_any ha (r :: B)
        refine zw.ifn (fun q => by
          have := (nI_eq (by omega) (by omega)).mp q
          rw [hAB, t1] at this
          omega) ?_
        exact skipc (Or.inl ha)
    have tno : sel r = false → zw (f_Mo_merge_208 F (hp_it (fun _ _ _ _ _ _ _ _ _ _ => none) (f_Mo_merge_179 F) n) 25 x1 (lN st) z4 (lN at_) (zz_oi (zz_fo sel R)) (nI tp) (nI (zz_ko sel nw A).length) (nI A.length) 0 h1) Q := by
      intro hs
      have e2 := zz_ko_keep (nw := nw) (A := A) hs
      rw [f_Mo_merge_208]
      refine zw.ifp rfl ?_
      refine s_mg231 (x := r) (Or.inl ⟨rfl, rfl⟩) hc HG ?_
      intro h2 G2 f2 l2
      have := next h2 (by rw [e2]; exact G2) f2 l2
      rw [e2] at this
      simpa using this
    obtain ⟨l, v1, v2⟩ := hl3
    rw [hp_it_s, f_Mo_merge_179]
    refine zw.gi hc rfl ?_
    refine zw.ifn (nI_ge (by omega) (by omega)) ?_
    by_cases hx : x1 < 0
    · refine zw.ifp hx ?_
      exact tyes ((hsel r hrR).mpr (Or.inl hx))
    · refine zw.ifn hx ?_
      refine zw.ga hc rfl ?_
      refine zw.ai (w := nI r.1) v1 A.length rfl (by omega) v2 ?_
      by_cases hq : nI r.1 = x1
      · refine zw.ifp hq ?_
        exact tyes ((hsel r hrR).mpr (Or.inr hq))
      · refine zw.ifn hq ?_
        refine tno ?_
        cases hs : sel r
        · rfl
        · rcases (hsel r hrR).mp hs with h1 | h1
          · exact absurd h1 hx
          · exact absurd h1 hq
end Mo3
