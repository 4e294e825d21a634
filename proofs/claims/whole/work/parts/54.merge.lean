-- Postings: mergeIn, keepLive
section Merge
variable {h : hh_H} {a b cap F : Nat} {l : List Nat}
theorem zz_m1p (m : Nat) : nI (m + 1) - 1 = nI m := nI_pred m
theorem zz_m1n : nI 0 - 1 < (0 : Int32) := by decide
theorem zz_m1z {m : Nat} (hm : m < 2 ^ 31) : nI m - 1 < (0 : Int32) ↔ m = 0 := by
  cases m with
  | zero => simp [zz_m1n]
  | succ m =>
    rw [nI_pred]
    constructor
    · intro q; exact absurd q (nI_pos (by omega))
    · intro q; omega
theorem zz_set_mid {α : Type} (X G Y : List α) (g y : α) : (X ++ (G ++ g :: Y)).set (X.length + G.length) y = X ++ (G ++ y :: Y) := by
  rw [List.set_append_right _ _ (by omega)]
  simp
/-- what stands while two rising lists are merged from behind: A and B wait, S is done -/
def zz_mg (l m A B S : List Nat) : Prop := zz_up A ∧ zz_up B ∧ zz_up S ∧ (∀ x ∈ A, ∀ s ∈ S, x < s) ∧ (∀ x ∈ B, ∀ s ∈ S, x < s) ∧ (∀ x ∈ A, x ∉ B) ∧ (∀ x, (x ∈ A ∨ x ∈ B ∨ x ∈ S) ↔ (x ∈ l ∨ x ∈ m))
theorem zz_mg.left {l m A B S : List Nat} {x y : Nat} (H : zz_mg l m (A ++ [x]) (B ++ [y]) S) (h : y < x) : zz_mg l m A (B ++ [y]) (x :: S) := by
  obtain ⟨h1, h2, h3, h4, h5, h6, h7⟩ := H
  obtain ⟨a1, -, a3⟩ := zz_up_app.mp h1
  obtain ⟨b1, -, b3⟩ := zz_up_app.mp h2
  refine ⟨a1, h2, List.pairwise_cons.mpr ⟨fun s hs => h4 x (by simp) s hs, h3⟩, fun z hz s hs => ?_, fun z hz s hs => ?_, fun z hz => h6 z (by simp [hz]), fun z => ?_⟩
  · rcases List.mem_cons.mp hs with rfl | hs
    · exact a3 z hz s (by simp)
    · exact h4 z (by simp [hz]) s hs
  · rcases List.mem_cons.mp hs with rfl | hs
    · rcases List.mem_append.mp hz with q | q
      · have := b3 z q y (by simp)
        omega
      · have := List.mem_singleton.mp q
        omega
    · exact h5 z hz s hs
  · rw [← h7 z]
    simp only [List.mem_append, List.mem_cons, List.not_mem_nil, or_false]
    constructor
    · rintro (q | q | q | q)
      · exact Or.inl (Or.inl q)
      · exact Or.inr (Or.inl q)
      · exact Or.inl (Or.inr q)
      · exact Or.inr (Or.inr q)
    · rintro ((q | q) | q | q)
      · exact Or.inl q
      · exact Or.inr (Or.inr (Or.inl q))
      · exact Or.inr (Or.inl q)
      · exact Or.inr (Or.inr (Or.inr q))
theorem zz_mg.right {l m A B S : List Nat} {y : Nat} (H : zz_mg l m A (B ++ [y]) S) (h : ∀ x ∈ A, x ≤ y) : zz_mg l m A B (y :: S) := by
  obtain ⟨h1, h2, h3, h4, h5, h6, h7⟩ := H
  obtain ⟨b1, -, b3⟩ := zz_up_app.mp h2
  refine ⟨h1, b1, List.pairwise_cons.mpr ⟨fun s hs => h5 y (by simp) s hs, h3⟩, fun z hz s hs => ?_, fun z hz s hs => ?_, fun z hz q => h6 z hz (by simp [q]), fun z => ?_⟩
  · rcases List.mem_cons.mp hs with rfl | hs
    · have := h z hz
      have : z ≠ s := fun q => h6 z hz (by simp [q])
      omega
    · exact h4 z hz s hs
  · rcases List.mem_cons.mp hs with rfl | hs
    · exact b3 z hz s (by simp)
    · exact h5 z (by simp [hz]) s hs
  · rw [← h7 z]
    simp only [List.mem_append, List.mem_cons, List.not_mem_nil, or_false]
    constructor
    · rintro (q | q | q | q)
      · exact Or.inl q
      · exact Or.inr (Or.inl (Or.inl q))
      · exact Or.inr (Or.inl (Or.inr q))
      · exact Or.inr (Or.inr q)
    · rintro (q | (q | q) | q)
      · exact Or.inl q
      · exact Or.inr (Or.inl q)
      · exact Or.inr (Or.inr (Or.inl q))
      · exact Or.inr (Or.inr (Or.inr q))
theorem s_merge_loop {a1 b1 N : Nat} (hab : a ≠ b) (h1b : a1 ≠ b) (hbb : b1 ≠ b) {o1 o2 : hh_V} {js : List Int32} {l m : List Nat} (hN : N < 2 ^ 30) : ∀ (n : Nat) (A B S : List Nat) (gap ks : List Int32) (h1 : hh_H), A.length + B.length < n → zz_mg l m A B S → gap.length = B.length → A.length + B.length + S.length = N → (∀ y ∈ A, y < 2 ^ 31) → (∀ y ∈ B, y < 2 ^ 31) →
    h1[a]? = some (.inr (5, [.inr (.inl (some b)), o1])) → h1[b]? = some (.inl (0, .inl (A.map nI ++ (gap ++ (S.map nI ++ js))))) → h1[a1]? = some (.inr (5, [.inr (.inl (some b1)), o2])) → h1[b1]? = some (.inl (0, .inl (B.map nI ++ ks))) →
    zw (hp_it (fun _ _ _ _ _ _ _ => none) (f_Postings_mergeIn_40 F) n a a1 (nI N) (nI A.length - 1) (nI B.length - 1) (nI (A.length + B.length) - 1) h1) (fun r => ∃ l', l'.length = N ∧ zz_up l' ∧ (∀ x, x ∈ l' ↔ x ∈ l ∨ x ∈ m) ∧
      r.2[a]? = some (.inr (5, [.inr (.inl (some b)), .inl (nI N)])) ∧ r.2[b]? = some (.inl (0, .inl (l'.map nI ++ js))) ∧ zz_fr [a, b] h1 r.2 ∧ r.2.length = h1.length) := by
  intro n
  induction n with
  | zero => intro A B S gap ks h1 h; omega
  | succ n ih =>
    intro A B S gap ks h1 hn hmg hg hlen hA hB c1 c2 c3 c4
    rw [hp_it_s]
    unfold f_Postings_mergeIn_40
    have hz1 : A.length + B.length < 2 ^ 31 := by omega
    by_cases hBe : B = []
    · subst hBe
      have hgap : gap = [] := List.eq_nil_of_length_eq_zero (by simpa using hg)
      subst hgap
      have fin : zw ((hp_pi h1 a 5 1 (nI N)).bind fun h10 => some ((), h10)) (fun r => ∃ l', l'.length = N ∧ zz_up l' ∧ (∀ x, x ∈ l' ↔ x ∈ l ∨ x ∈ m) ∧
        r.2[a]? = some (.inr (5, [.inr (.inl (some b)), .inl (nI N)])) ∧ r.2[b]? = some (.inl (0, .inl (l'.map nI ++ js))) ∧ zz_fr [a, b] h1 r.2 ∧ r.2.length = h1.length) := by
        refine zw.pi c1 (Nat.le_of_ble_eq_true rfl) fun h2 s2 => ?_
        obtain ⟨u1, u2, u3, u4, u5, u6, u7⟩ := hmg
        refine zw.ret ⟨A ++ S, by simp at hlen ⊢; omega, zz_up_app.mpr ⟨u1, u3, u4⟩, fun x => ?_, s2.1, ?_, s2.fr (by simp), s2.2.2⟩
        · rw [← u7 x]
          simp
        · refine (s2.2.1 b (Ne.symm hab)).trans (c2.trans ?_)
          simp
      by_cases hAe : A.length + ([] : List Nat).length = 0
      · refine zw.ifp ((zz_m1z hz1).mpr hAe) fin
      · refine zw.ifn (fun q => hAe ((zz_m1z hz1).mp q)) ?_
        refine zw.ifp (by simp [zz_m1n]) fin
    · obtain ⟨B', y, rfl⟩ := zz_concat B hBe
      have hbl : (B' ++ [y]).length = B'.length + 1 := by simp
      have hgne : gap ≠ [] := fun q => by rw [q] at hg; simp at hg
      obtain ⟨G, g, rfl⟩ : ∃ G g, gap = G ++ [g] := ⟨gap.dropLast, gap.getLast hgne, (List.dropLast_concat_getLast hgne).symm⟩
      have hgl : G.length = B'.length := by simp at hg; exact hg
      have hy : y < 2 ^ 31 := hB y (by simp)
      have hB' : B'.length < 2 ^ 31 := by rw [hbl] at hz1; omega
      refine zw.ifn (fun q => by have := (zz_m1z hz1).mp q; rw [hbl] at this; omega) ?_
      refine zw.ifn (fun q => by have := (zz_m1z (by omega)).mp q; rw [hbl] at this; omega) ?_
      have hat : nI (A.length + (B' ++ [y]).length) - 1 = nI (A.length + B'.length) := by rw [hbl, ← Nat.add_assoc, nI_pred]
      have hot : nI (B' ++ [y]).length - 1 = nI B'.length := by rw [hbl, nI_pred]
      have hc2 : A.map nI ++ (G ++ [g] ++ (S.map nI ++ js)) = A.map nI ++ (G ++ g :: (S.map nI ++ js)) := by simp
      have hpos : A.length + B'.length = (A.map nI).length + G.length := by simp [hgl]
      rw [hc2] at c2
      have right : (∀ x ∈ A, x ≤ y) → zw (f_Postings_mergeIn_89 F (hp_it (fun _ _ _ _ _ _ _ => none) (f_Postings_mergeIn_40 F) n) a a1 (nI N) (nI A.length - 1) (nI (B' ++ [y]).length - 1) (nI (A.length + (B' ++ [y]).length) - 1) h1) (fun r => ∃ l', l'.length = N ∧ zz_up l' ∧ (∀ x, x ∈ l' ↔ x ∈ l ∨ x ∈ m) ∧
        r.2[a]? = some (.inr (5, [.inr (.inl (some b)), .inl (nI N)])) ∧ r.2[b]? = some (.inl (0, .inl (l'.map nI ++ js))) ∧ zz_fr [a, b] h1 r.2 ∧ r.2.length = h1.length) := by
        intro hle
        unfold f_Postings_mergeIn_89
        refine zw.ga c1 rfl ?_
        refine zw.ga c3 rfl ?_
        refine zw.ai (w := nI y) c4 B'.length hot hB' (by simp) ?_
        refine zw.si c2 (A.length + B'.length) hat (by simp; omega) (by omega) fun h2 s2 => ?_
        have d2 : h2[b]? = some (.inl (0, .inl (A.map nI ++ (G ++ ((y :: S).map nI ++ js))))) := by
          refine s2.1.trans ?_
          rw [hpos, zz_set_mid]
          simp
        have d4 : h2[b1]? = some (.inl (0, .inl (B'.map nI ++ (nI y :: ks)))) := by
          refine (s2.at c4 hbb).trans ?_
          simp
        have e1 : nI (B' ++ [y]).length - 1 + (-1) = nI B'.length - 1 := by rw [hot, zz_dec]
        have e2 : nI (A.length + (B' ++ [y]).length) - 1 + (-1) = nI (A.length + B'.length) - 1 := by rw [hat, zz_dec]
        rw [e1, e2]
        refine (ih A B' (y :: S) G (nI y :: ks) h2 (by rw [hbl] at hn; omega) (hmg.right hle) hgl (by rw [hbl] at hlen; simp; omega) hA (fun z hz => hB z (by simp [hz])) (s2.at c1 hab) d2 (s2.at c3 h1b) d4).mono ?_
        rintro r ⟨l', q1, q2, q3, q4, q5, q6, q7⟩
        exact ⟨l', q1, q2, q3, q4, q5, (s2.fr (by simp)).tr q6, by rw [q7, s2.2.2]⟩
      by_cases hAe : A = []
      · subst hAe
        refine zw.ifp zz_m1n ?_
        exact right (fun x hx => by cases hx)
      · obtain ⟨A', x, rfl⟩ := zz_concat A hAe
        have hal : (A' ++ [x]).length = A'.length + 1 := by simp
        have hx : x < 2 ^ 31 := hA x (by simp)
        have hA' : A'.length < 2 ^ 31 := by rw [hal] at hz1; omega
        refine zw.ifn (fun q => by have := (zz_m1z (by omega)).mp q; rw [hal] at this; omega) ?_
        have hmt : nI (A' ++ [x]).length - 1 = nI A'.length := by rw [hal, nI_pred]
        refine zw.ga c1 rfl ?_
        refine zw.ai (w := nI x) c2 A'.length hmt hA' (by simp) ?_
        refine zw.ga c3 rfl ?_
        refine zw.ai (w := nI y) c4 B'.length hot hB' (by simp) ?_
        by_cases hxy : x ≤ y
        · refine zw.ifp (nI_le hxy hy) ?_
          refine right (fun z hz => ?_)
          rcases List.mem_append.mp hz with q | q
          · have := (zz_up_app.mp hmg.1).2.2 z q x (by simp)
            omega
          · have := List.mem_singleton.mp q
            omega
        · refine zw.ifn (nI_ge (by omega) hx) ?_
          refine zw.ga c1 rfl ?_
          refine zw.ga c1 rfl ?_
          refine zw.ai (w := nI x) c2 A'.length hmt hA' (by simp) ?_
          refine zw.si c2 ((A' ++ [x]).length + B'.length) hat (by simp; omega) (by omega) fun h2 s2 => ?_
          have d2 : h2[b]? = some (.inl (0, .inl (A'.map nI ++ ((nI x :: G) ++ ((x :: S).map nI ++ js))))) := by
            refine s2.1.trans ?_
            rw [hpos, zz_set_mid]
            simp
          have e1 : nI (A' ++ [x]).length - 1 + (-1) = nI A'.length - 1 := by rw [hmt, zz_dec]
          have e2 : nI ((A' ++ [x]).length + (B' ++ [y]).length) - 1 + (-1) = nI (A'.length + (B' ++ [y]).length) - 1 := by
            rw [hat, zz_dec, hal, hbl]
            congr 2
            omega
          rw [e1, e2]
          refine (ih A' (B' ++ [y]) (x :: S) (nI x :: G) ks h2 (by rw [hal] at hn; omega) (hmg.left (by omega)) (by simp [hgl]) (by rw [hal] at hlen; simp at hlen ⊢; omega) (fun z hz => hA z (by simp [hz])) hB (s2.at c1 hab) d2 (s2.at c3 h1b) (s2.at c4 hbb)).mono ?_
          rintro r ⟨l', q1, q2, q3, q4, q5, q6, q7⟩
          exact ⟨l', q1, q2, q3, q4, q5, (s2.fr (by simp)).tr q6, by rw [q7, s2.2.2]⟩
theorem s_mergeIn {a1 b1 cap1 : Nat} {m : List Nat} (hab : a ≠ b) (h1b : a1 ≠ b) (hbb : b1 ≠ b) (H : zP h a b cap l) (H1 : zP h a1 b1 cap1 m) (hcap : cap < 2 ^ 30) (hcap1 : cap1 < 2 ^ 30) (hF : cap < F) (hsum : l.length + m.length ≤ cap) (hu : zz_up l) (hm : zz_up m) (hd : ∀ x ∈ l, x ∉ m) (hl : ∀ y ∈ l, y < 2 ^ 31) (hml : ∀ y ∈ m, y < 2 ^ 31) :
    zw (f_Postings_mergeIn F a a1 h) (fun r => ∃ l', zP r.2 a b cap l' ∧ zz_up l' ∧ (∀ x, x ∈ l' ↔ x ∈ l ∨ x ∈ m) ∧ l'.length = l.length + m.length ∧ zz_fr [a, b] h r.2 ∧ r.2.length = h.length) := by
  obtain ⟨g2, js, g3, g4⟩ := H
  obtain ⟨k2, ks, k3, k4⟩ := H1
  unfold f_Postings_mergeIn
  refine zw.gi g2 rfl ?_
  refine zw.gi k2 rfl ?_
  refine zw.ga g2 rfl ?_
  refine zw.len g3 (by decide) ?_
  rw [nI_add]
  refine zw.ifp (nI_le (by simp; omega) (by simp; omega)) ?_
  refine zw.gi g2 rfl ?_
  refine zw.gi k2 rfl ?_
  unfold l_Postings_mergeIn_40
  have hsplit : js = js.take m.length ++ js.drop m.length := (List.take_append_drop _ _).symm
  refine (s_merge_loop (N := l.length + m.length) (l := l) (m := m) (js := js.drop m.length) hab h1b hbb (by omega) F l m [] (js.take m.length) ks h (by omega) ⟨hu, hm, List.Pairwise.nil, (fun x _ s hs => by cases hs), (fun x _ s hs => by cases hs), hd, fun x => by simp⟩ (by simp; omega) (by simp) hl hml g2 (by rw [g3]; simp) k2 k3).mono ?_
  rintro r ⟨l', q1, q2, q3, q4, q5, q6, q7⟩
  exact ⟨l', ⟨by rw [q4, q1], js.drop m.length, q5, by simp; omega⟩, q2, q3, q1, q6, q7⟩
end Merge
