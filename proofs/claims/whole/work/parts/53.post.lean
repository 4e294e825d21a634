-- Postings
/-- Postings at a, its keys at b, of room cap: the list l -/
def zP (h : hh_H) (a b cap : Nat) (l : List Nat) : Prop :=
  h[a]? = some (.inr (5, [.inr (.inl (some b)), .inl (nI l.length)])) ∧ ∃ js : List Int32, h[b]? = some (.inl (0, .inl (l.map nI ++ js))) ∧ l.length + js.length = cap
section Post
variable {h : hh_H} {a b cap F : Nat} {l : List Nat}
theorem zP.fr {W : List Nat} {h' : hh_H} (H : zP h a b cap l) (f : zz_fr W h h') (ha : a ∉ W) (hb : b ∉ W) : zP h' a b cap l := by
  obtain ⟨g2, js, g3, g4⟩ := H
  exact ⟨f.at g2 ha, js, f.at g3 hb, g4⟩
theorem s_keyOf (w d p : Nat) : f_Postings_keyOf F (nI w) (nI d) (nI p) h = some (nI (zz_key w d p), h) := by
  unfold f_Postings_keyOf zz_key
  rw [q_lit 40, q_lit 20, pk_mul, nI_add, pk_mul, nI_add]
theorem s_wordOf {k : Nat} (hk : k < 2 ^ 31) : f_Postings_wordOf F (nI k) h = some (nI (k / 800), h) := by
  unfold f_Postings_wordOf
  rw [q_lit 800, pk_div hk (by decide) (by decide)]
theorem s_documentOf {k : Nat} (hk : k < 2 ^ 31) : f_Postings_documentOf F (nI k) h = some (nI (k / 20 % 40), h) := by
  unfold f_Postings_documentOf
  rw [q_lit 40, q_lit 20, pk_div hk (by decide) (by decide), pk_rem (by omega) (by decide) (by decide)]
theorem s_placeOf {k : Nat} (hk : k < 2 ^ 31) : f_Postings_placeOf F (nI k) h = some (nI (k % 20), h) := by
  unfold f_Postings_placeOf
  rw [q_lit 20, pk_rem hk (by decide) (by decide)]
theorem s_Postings_size (H : zP h a b cap l) : f_Postings_size F a h = some (nI l.length, h) := by
  obtain ⟨g2, js, g3, g4⟩ := H
  unfold f_Postings_size
  rw [q_gi g2 rfl]
  rfl
theorem s_keyAt (H : zP h a b cap l) (hcap : cap < 2 ^ 31) {i : Nat} (hi : i < l.length) : f_Postings_keyAt F a (nI i) h = some (nI l[i], h) := by
  obtain ⟨g2, js, g3, g4⟩ := H
  unfold f_Postings_keyAt
  rw [if_neg (nI_pos (by omega)), q_gi g2 rfl]
  show (if nI l.length ≤ nI i then _ else _) = _
  rw [if_neg (nI_ge hi (by omega)), q_ga g2 rfl]
  show ((hp_ai h b (nI i)).bind _) = _
  rw [q_ai g3 (by omega) (x := nI l[i]) (by rw [List.getElem?_append_left (by simp; exact hi)]; simp [hi])]
  rfl
theorem s_Postings_clear (hab : a ≠ b) (H : zP h a b cap l) : zw (f_Postings_clear F a h) (fun r => zP r.2 a b cap [] ∧ zz_fr [a] h r.2 ∧ r.2.length = h.length) := by
  obtain ⟨g2, js, g3, g4⟩ := H
  unfold f_Postings_clear
  refine zw.pi g2 (Nat.le_of_ble_eq_true rfl) fun h1 s1 => ?_
  exact zw.ret ⟨⟨s1.1, l.map nI ++ js, s1.at g3 (Ne.symm hab), by simp; exact g4⟩, s1.fr List.mem_cons_self, s1.2.2⟩
theorem zz_dec (m : Nat) : nI m + (-1) = nI m - 1 := by rw [Int32.sub_eq_add_neg]
theorem zz_concat (A : List Nat) (hA : A ≠ []) : ∃ A' y, A = A' ++ [y] := ⟨A.dropLast, A.getLast hA, (List.dropLast_concat_getLast hA).symm⟩
theorem zz_up_app {A B : List Nat} : zz_up (A ++ B) ↔ zz_up A ∧ zz_up B ∧ ∀ x ∈ A, ∀ y ∈ B, x < y := List.pairwise_append
theorem s_insert_loop (hab : a ≠ b) {k : Nat} (hk : k < 2 ^ 31) {js : List Int32} : ∀ (n : Nat) (A B : List Nat) (x : Int32) (h1 : hh_H), A.length < n → (A ++ B).length < 2 ^ 30 → zz_up (A ++ B) → (∀ y ∈ A ++ B, y < 2 ^ 31) → (∀ y ∈ B, k < y) → k ∉ A →
    h1[a]? = some (.inr (5, [.inr (.inl (some b)), .inl (nI (A ++ B).length)])) → h1[b]? = some (.inl (0, .inl (A.map nI ++ x :: (B.map nI ++ js)))) →
    zw (hp_it (fun _ _ _ _ => none) (f_Postings_insert_18 F) n a (nI k) (nI A.length) h1) (fun r => ∃ A' B', A' ++ B' = A ++ B ∧ (∀ y ∈ A', y < k) ∧ (∀ y ∈ B', k < y) ∧
      r.2[a]? = some (.inr (5, [.inr (.inl (some b)), .inl (nI ((A ++ B).length + 1))])) ∧ r.2[b]? = some (.inl (0, .inl (A'.map nI ++ nI k :: (B'.map nI ++ js)))) ∧ zz_fr [a, b] h1 r.2 ∧ r.2.length = h1.length) := by
  intro n
  induction n with
  | zero => intro A B x h1 h; omega
  | succ n ih =>
    intro A B x h1 hn hb hu hlt hB hkA c1 c2
    rw [hp_it_s]
    unfold f_Postings_insert_18
    have fin : (∀ y ∈ A, y < k) → zw (f_Postings_insert_54 F a (nI k) (nI A.length) h1) (fun r => ∃ A' B', A' ++ B' = A ++ B ∧ (∀ y ∈ A', y < k) ∧ (∀ y ∈ B', k < y) ∧
      r.2[a]? = some (.inr (5, [.inr (.inl (some b)), .inl (nI ((A ++ B).length + 1))])) ∧ r.2[b]? = some (.inl (0, .inl (A'.map nI ++ nI k :: (B'.map nI ++ js)))) ∧ zz_fr [a, b] h1 r.2 ∧ r.2.length = h1.length) := by
      intro hA
      unfold f_Postings_insert_54
      refine zw.ga c1 rfl ?_
      refine zw.si c2 A.length rfl (by simp) (by simp at hb; omega) fun h2 s2 => ?_
      have d1 := s2.at c1 hab
      refine zw.gi d1 rfl ?_
      refine zw.pi d1 (Nat.le_of_ble_eq_true rfl) fun h3 s3 => ?_
      refine zw.ret ⟨A, B, rfl, hA, hB, ?_, ?_, (s2.fr (by simp)).tr (s3.fr (by simp)), by rw [s3.2.2, s2.2.2]⟩
      · refine s3.1.trans ?_
        show some (Sum.inr (5, [_, Sum.inl (nI _ + 1)])) = _
        rw [nI_1]
      · refine (s3.2.1 b (Ne.symm hab)).trans (s2.1.trans ?_)
        rw [List.set_append_right _ _ (by simp)]
        simp
    by_cases hA : A = []
    · subst hA
      refine zw.ifp (by decide) ?_
      exact fin (fun y hy => by cases hy)
    · obtain ⟨A', y, rfl⟩ := zz_concat A hA
      have hlen : (A' ++ [y]).length = A'.length + 1 := by simp
      have hy : y < 2 ^ 31 := hlt y (by simp)
      refine zw.ifn (by rw [hlen]; exact nI_nle (by omega) (by simp at hb; omega)) ?_
      refine zw.ga c1 rfl ?_
      have hx1 : nI (A' ++ [y]).length - 1 = nI A'.length := by rw [hlen, nI_pred]
      refine zw.ai (w := nI y) c2 A'.length hx1 (by simp at hb; omega) (by simp) ?_
      by_cases hyk : y ≤ k
      · refine zw.ifp (nI_le hyk hk) ?_
        have hne : y ≠ k := fun q => hkA (by simp [q])
        refine fin (fun z hz => ?_)
        rcases List.mem_append.mp hz with hz | hz
        · have := (zz_up_app.mp (zz_up_app.mp hu).1).2.2 z hz y (by simp)
          omega
        · have := List.mem_singleton.mp hz
          omega
      · refine zw.ifn (nI_ge (by omega) hy) ?_
        refine zw.ga c1 rfl ?_
        refine zw.ga c1 rfl ?_
        refine zw.ai (w := nI y) c2 A'.length hx1 (by simp at hb; omega) (by simp) ?_
        refine zw.si c2 (A' ++ [y]).length rfl (by simp) (by simp at hb; simp; omega) fun h2 s2 => ?_
        have d1 := s2.at c1 hab
        have d2 : h2[b]? = some (.inl (0, .inl (A'.map nI ++ nI y :: ((y :: B).map nI ++ js)))) := by
          refine s2.1.trans ?_
          rw [List.set_append_right _ _ (by simp)]
          simp
        have hx2 : nI (A' ++ [y]).length + (-1) = nI A'.length := by rw [zz_dec, hx1]
        rw [hx2]
        have e : (A' ++ [y]) ++ B = A' ++ (y :: B) := by simp
        rw [e] at hb hu hlt d1 ⊢
        refine (ih A' (y :: B) (nI y) h2 (by simp at hn; omega) hb hu hlt (fun z hz => ?_) (fun q => hkA (by simp [q])) d1 d2).mono ?_
        · rcases List.mem_cons.mp hz with rfl | hz
          · omega
          · exact hB z hz
        · rintro r ⟨A2, B2, q1, q2, q3, q4, q5, q6, q7⟩
          exact ⟨A2, B2, q1, q2, q3, q4, q5, (s2.fr (by simp)).tr q6, by rw [q7, s2.2.2]⟩
theorem s_insert (hab : a ≠ b) {k : Nat} (hk : k < 2 ^ 31) (H : zP h a b cap l) (hcap : cap < 2 ^ 30) (hF : cap < F) (hl : l.length < cap) (hu : zz_up l) (hlt : ∀ y ∈ l, y < 2 ^ 31) (hkl : k ∉ l) :
    zw (f_Postings_insert F a (nI k) h) (fun r => ∃ l', zP r.2 a b cap l' ∧ zz_up l' ∧ (∀ x, x ∈ l' ↔ x = k ∨ x ∈ l) ∧ l'.length = l.length + 1 ∧ zz_fr [a, b] h r.2 ∧ r.2.length = h.length) := by
  obtain ⟨g2, js, g3, g4⟩ := H
  unfold f_Postings_insert
  refine zw.gi g2 rfl ?_
  refine zw.ga g2 rfl ?_
  refine zw.len g3 (by decide) ?_
  refine zw.ifp (nI_lt (by simp; omega) (by simp; omega)) ?_
  refine zw.gi g2 rfl ?_
  unfold l_Postings_insert_18
  cases js with
  | nil => simp at g4; omega
  | cons j js =>
    refine (s_insert_loop hab hk (js := js) F l [] j h (by omega) (by simp; omega) (by simpa using hu) (by simpa using hlt) (fun y hy => by cases hy) hkl (by simpa using g2) (by simpa using g3)).mono ?_
    rintro r ⟨A, B, q1, q2, q3, q4, q5, q6, q7⟩
    simp only [List.append_nil] at q1 q4
    subst q1
    obtain ⟨u1, u2, u3⟩ := zz_up_app.mp hu
    refine ⟨A ++ k :: B, ⟨?_, js, ?_, ?_⟩, ?_, ?_, ?_, q6, q7⟩
    · rw [q4]
      simp [Nat.add_assoc]
    · rw [q5]
      simp
    · simp at g4 ⊢
      omega
    · refine zz_up_app.mpr ⟨u1, List.pairwise_cons.mpr ⟨q3, u2⟩, fun x hx y hy => ?_⟩
      rcases List.mem_cons.mp hy with rfl | hy
      · exact q2 x hx
      · exact u3 x hx y hy
    · intro x
      simp only [List.mem_append, List.mem_cons]
      constructor
      · rintro (q | q | q)
        · exact Or.inr (Or.inl q)
        · exact Or.inl q
        · exact Or.inr (Or.inr q)
      · rintro (q | q | q)
        · exact Or.inr (Or.inl q)
        · exact Or.inl q
        · exact Or.inr (Or.inr q)
    · simp
      omega
end Post
