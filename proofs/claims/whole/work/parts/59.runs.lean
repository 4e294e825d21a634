-- the row of runs, as numbers: a run is its level, the set of its blocks, the set of its documents
def zz_ub (R : List (Nat × Nat × Nat)) : Nat := R.foldr (fun r s => r.2.1 ||| s) 0
def zz_um (R : List (Nat × Nat × Nat)) : Nat := R.foldr (fun r s => r.2.2 ||| s) 0
theorem zz_ub_bit {i : Nat} : ∀ {R : List (Nat × Nat × Nat)}, (zz_ub R).testBit i = true ↔ ∃ r ∈ R, r.2.1.testBit i = true
  | [] => by simp [zz_ub]
  | r :: R => by
    show (r.2.1 ||| zz_ub R).testBit i = true ↔ _
    rw [Nat.testBit_or, Bool.or_eq_true, zz_ub_bit (R := R)]
    simp
theorem zz_um_bit {i : Nat} : ∀ {R : List (Nat × Nat × Nat)}, (zz_um R).testBit i = true ↔ ∃ r ∈ R, r.2.2.testBit i = true
  | [] => by simp [zz_um]
  | r :: R => by
    show (r.2.2 ||| zz_um R).testBit i = true ↔ _
    rw [Nat.testBit_or, Bool.or_eq_true, zz_um_bit (R := R)]
    simp
def zz_free (nb u : Nat) : List Nat := (List.range nb).filter (fun b => !u.testBit b)
theorem zz_free_mem {nb u b : Nat} : b ∈ zz_free nb u ↔ b < nb ∧ u.testBit b = false := by simp [zz_free]
theorem zz_free_up (nb u : Nat) : zz_up (zz_free nb u) := zz_up_filter (zz_up_range nb) _
/-- as many blocks as the bytes of ms need -/
def zz_nd (T : List (List Nat)) (ms : Nat) : Nat := ((zz_enc T ms).length + 15) / 16
theorem zz_nd_pos (T : List (List Nat)) (ms : Nat) : 0 < zz_nd T ms := by
  have := zz_enc_pos T ms
  unfold zz_nd
  omega
def zz_at (nb u n : Nat) : Nat := zz_bs ((zz_free nb u).take n)
/-- no two runs have a block in common -/
def zz_djB (r s : Nat × Nat × Nat) : Prop := ∀ i, ¬ (r.2.1.testBit i = true ∧ s.2.1.testBit i = true)
def zz_djM (r s : Nat × Nat × Nat) : Prop := ∀ i, ¬ (r.2.2.testBit i = true ∧ s.2.2.testBit i = true)
theorem zz_djB.symm {r s : Nat × Nat × Nat} (h : zz_djB r s) : zz_djB s r := fun i q => h i ⟨q.2, q.1⟩
theorem zz_djM.symm {r s : Nat × Nat × Nat} (h : zz_djM r s) : zz_djM s r := fun i q => h i ⟨q.2, q.1⟩
def zz_okB (nb : Nat) (T : List (List Nat)) (R : List (Nat × Nat × Nat)) : Prop := (∀ r ∈ R, r.2.1 < 2 ^ nb ∧ (zz_bl r.2.1).length = zz_nd T r.2.2) ∧ R.Pairwise zz_djB
def zz_okM (wt : Nat) (T : List (List Nat)) (R : List (Nat × Nat × Nat)) : Prop := (∀ r ∈ R, r.2.2 ≠ 0 ∧ ∀ d, r.2.2.testBit d = true → d < wt ∧ zz_tx T d ≠ []) ∧ R.Pairwise zz_djM
theorem zz_pw_mid {α : Type} {S : α → α → Prop} (hs : ∀ x y, S x y → S y x) {A B : List α} {r : α} : (r :: (A ++ B)).Pairwise S ↔ (A ++ r :: B).Pairwise S := by
  rw [List.pairwise_cons, List.pairwise_append, List.pairwise_append, List.pairwise_cons]
  constructor
  · rintro ⟨h1, h2, h3, h4⟩
    refine ⟨h2, ⟨fun y hy => h1 y (List.mem_append_right _ hy), h3⟩, fun x hx y hy => ?_⟩
    rcases List.mem_cons.mp hy with rfl | hy
    · exact hs _ _ (h1 x (List.mem_append_left _ hx))
    · exact h4 x hx y hy
  · rintro ⟨h1, ⟨h2, h3⟩, h4⟩
    refine ⟨fun y hy => ?_, h1, h3, fun x hx y hy => h4 x hx y (List.mem_cons_of_mem _ hy)⟩
    rcases List.mem_append.mp hy with hy | hy
    · exact hs _ _ (h4 y hy r List.mem_cons_self)
    · exact h2 y hy
theorem zz_mem_mid {α : Type} {A B : List α} {r x : α} : x ∈ r :: (A ++ B) ↔ x ∈ A ++ r :: B := by
  simp only [List.mem_cons, List.mem_append]
  constructor
  · rintro (h | h | h)
    · exact Or.inr (Or.inl h)
    · exact Or.inl h
    · exact Or.inr (Or.inr h)
  · rintro (h | h | h)
    · exact Or.inr (Or.inl h)
    · exact Or.inl h
    · exact Or.inr (Or.inr h)
theorem zz_ub_mid {A B : List (Nat × Nat × Nat)} {r : Nat × Nat × Nat} : zz_ub (r :: (A ++ B)) = zz_ub (A ++ r :: B) := zz_seq (fun i => by
  rw [zz_ub_bit, zz_ub_bit]
  constructor
  · rintro ⟨x, h1, h2⟩
    exact ⟨x, zz_mem_mid.mp h1, h2⟩
  · rintro ⟨x, h1, h2⟩
    exact ⟨x, zz_mem_mid.mpr h1, h2⟩)
theorem zz_ub_lt {nb : Nat} {T : List (List Nat)} {R : List (Nat × Nat × Nat)} (h : zz_okB nb T R) : zz_ub R < 2 ^ nb := zz_lt (fun i hi => by
  obtain ⟨r, hr, hb⟩ := zz_ub_bit.mp hi
  exact zz_bit_lt (h.1 r hr).1 hb)
/-- the blocks of a row are those of its runs, one by one -/
theorem zz_ub_len : ∀ {R : List (Nat × Nat × Nat)}, R.Pairwise zz_djB → (zz_bl (zz_ub R)).length = (R.map (fun r => (zz_bl r.2.1).length)).sum
  | [], _ => by simp [zz_ub, zz_bl_0]
  | r :: R, h => by
    obtain ⟨h1, h2⟩ := List.pairwise_cons.mp h
    show (zz_bl (r.2.1 ||| zz_ub R)).length = _
    rw [zz_bl_or, zz_ub_len h2]
    · simp
    · rintro i ⟨q1, q2⟩
      obtain ⟨s, hs, hb⟩ := zz_ub_bit.mp q2
      exact h1 s hs i ⟨q1, hb⟩
theorem zz_free_len {nb u : Nat} (hnb : nb ≤ 60) (hu : u < 2 ^ nb) : (zz_free nb u).length + (zz_bl u).length = nb := by
  have h1 := zz_cnt_not (p := u.testBit) (List.range nb)
  have h2 : (List.range nb).filter u.testBit = zz_bl u := zz_ext (zz_up_filter (zz_up_range nb) _) (zz_bl_up u) (fun x => by
    rw [zz_bl_mem]
    simp
    intro hx
    have := zz_bit_lt hu hx
    omega)
  rw [h2, List.length_range] at h1
  unfold zz_free
  omega
theorem zz_len_sum : ∀ (R : List (Nat × Nat × Nat)), (∀ r ∈ R, 0 < (zz_bl r.2.1).length) → R.length ≤ (R.map (fun r => (zz_bl r.2.1).length)).sum
  | [], _ => by simp
  | r :: R, h => by
    have := zz_len_sum R (fun x hx => h x (List.mem_cons_of_mem _ hx))
    have := h r List.mem_cons_self
    simp
    omega
/-- there are no more runs than blocks that aren't free -/
theorem zz_row_len {nb : Nat} {T : List (List Nat)} {R : List (Nat × Nat × Nat)} (hnb : nb ≤ 60) (h : zz_okB nb T R) : R.length + (zz_free nb (zz_ub R)).length ≤ nb := by
  have h1 := zz_free_len hnb (zz_ub_lt h)
  have h2 := zz_ub_len h.2
  have h3 := zz_len_sum R (fun r hr => by
    rw [(h.1 r hr).2]
    exact zz_nd_pos _ _)
  omega
theorem zz_at_bl {nb u n : Nat} (hnb : nb ≤ 60) : zz_bl (zz_at nb u n) = (zz_free nb u).take n := by
  refine zz_bl_bs (List.Pairwise.sublist (List.take_sublist _ _) (zz_free_up nb u)) (fun i hi => ?_)
  have := (zz_free_mem.mp (List.mem_of_mem_take hi)).1
  omega
theorem zz_at_lt {nb u n : Nat} : zz_at nb u n < 2 ^ nb := zz_lt (fun i hi => by
  unfold zz_at at hi
  rw [zz_bs_bit] at hi
  exact (zz_free_mem.mp (List.mem_of_mem_take (of_decide_eq_true hi))).1)
theorem zz_at_free {nb u n i : Nat} (hi : (zz_at nb u n).testBit i = true) : i < nb ∧ u.testBit i = false := by
  unfold zz_at at hi
  rw [zz_bs_bit] at hi
  exact zz_free_mem.mp (List.mem_of_mem_take (of_decide_eq_true hi))
/-- a written run is one more -/
theorem zz_okB.cons {nb lv ms : Nat} {T : List (List Nat)} {R : List (Nat × Nat × Nat)} (hnb : nb ≤ 60) (h : zz_okB nb T R) (hr : zz_nd T ms ≤ (zz_free nb (zz_ub R)).length) : zz_okB nb T ((lv, zz_at nb (zz_ub R) (zz_nd T ms), ms) :: R) := by
  refine ⟨fun r hr2 => ?_, List.pairwise_cons.mpr ⟨fun s hs i q => ?_, h.2⟩⟩
  · rcases List.mem_cons.mp hr2 with rfl | hr2
    · refine ⟨zz_at_lt, ?_⟩
      show (zz_bl (zz_at nb (zz_ub R) (zz_nd T ms))).length = _
      rw [zz_at_bl hnb, List.length_take, Nat.min_eq_left hr]
    · exact h.1 r hr2
  · have h1 := zz_at_free q.1
    have h2 := zz_ub_bit.mpr ⟨s, hs, q.2⟩
    rw [h1.2] at h2
    cases h2
theorem zz_okB.mid {nb : Nat} {T : List (List Nat)} {A B : List (Nat × Nat × Nat)} {r : Nat × Nat × Nat} : zz_okB nb T (r :: (A ++ B)) ↔ zz_okB nb T (A ++ r :: B) := by
  unfold zz_okB
  rw [zz_pw_mid (fun x y h => zz_djB.symm h)]
  constructor
  · rintro ⟨h1, h2⟩
    exact ⟨fun x hx => h1 x (zz_mem_mid.mpr hx), h2⟩
  · rintro ⟨h1, h2⟩
    exact ⟨fun x hx => h1 x (zz_mem_mid.mp hx), h2⟩
theorem zz_okB.tail {nb : Nat} {T : List (List Nat)} {R : List (Nat × Nat × Nat)} {r : Nat × Nat × Nat} (h : zz_okB nb T (r :: R)) : zz_okB nb T R := ⟨fun x hx => h.1 x (List.mem_cons_of_mem _ hx), (List.pairwise_cons.mp h.2).2⟩
