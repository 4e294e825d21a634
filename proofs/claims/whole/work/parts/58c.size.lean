-- how long the bytes are, and how great
theorem zz_eP_len : ∀ (ps : List Nat) (prev : Nat), (zz_eP prev ps).length = ps.length := by
  intro ps
  induction ps with
  | nil => intro _; rfl
  | cons p ps ih => intro prev; simp [zz_eP, ih p]
theorem zz_eD_len {T : List (List Nat)} {w : Nat} : ∀ (ds : List Nat) (prev : Nat), (∀ d ∈ ds, zz_pl (zz_tx T d) w ≠ []) → (zz_eD T w prev ds).length ≤ 3 * (ds.flatMap (zz_pd T w)).length := by
  intro ds
  induction ds with
  | nil => intro _ _; simp [zz_eD]
  | cons d ds ih =>
    intro prev h
    have h1 := ih d (fun x hx => h x (List.mem_cons_of_mem _ hx))
    have h2 := List.length_pos_iff.mpr (h d List.mem_cons_self)
    simp only [zz_eD, List.length_cons, List.length_append, zz_eP_len, List.flatMap_cons]
    have h3 : (zz_pd T w d).length = (zz_pl (zz_tx T d) w).length := by simp [zz_pd]
    omega
theorem zz_eW_len {T : List (List Nat)} {ms : Nat} : ∀ (ws : List Nat) (prev : Nat), (∀ w ∈ ws, zz_ds T ms w ≠ []) → (zz_eW T ms prev ws).length ≤ 5 * (ws.flatMap (zz_pw T ms)).length := by
  intro ws
  induction ws with
  | nil => intro _ _; simp [zz_eW]
  | cons w ws ih =>
    intro prev h
    have h1 := ih w (fun x hx => h x (List.mem_cons_of_mem _ hx))
    have h2 := List.length_pos_iff.mpr (zz_pw_ne (h w List.mem_cons_self))
    have h3 := zz_eD_len (T := T) (w := w) (zz_ds T ms w) 0 (fun d hd => by
      obtain ⟨p, hp⟩ := (zz_ds_mem.mp hd).2.2
      exact List.ne_nil_of_mem hp)
    simp only [zz_eW, List.length_cons, List.length_append, List.flatMap_cons]
    have h4 : (zz_pw T ms w) = (zz_ds T ms w).flatMap (zz_pd T w) := rfl
    rw [← h4] at h3
    omega
theorem zz_ws_ne {T : List (List Nat)} {ms w : Nat} (h : w ∈ zz_ws T ms) : zz_ds T ms w ≠ [] := by
  obtain ⟨d, hd⟩ := (zz_ws_mem.mp h).2
  exact List.ne_nil_of_mem hd
theorem zz_enc_len (T : List (List Nat)) (ms : Nat) : (zz_enc T ms).length ≤ 5 * (zz_posts T ms).length + 1 := by
  have := zz_eW_len (zz_ws T ms) 0 (fun w hw => zz_ws_ne (T := T) hw)
  unfold zz_enc zz_posts
  rw [List.length_append]
  simp only [List.length_cons, List.length_nil]
  omega
theorem zz_enc_4001 (T : List (List Nat)) (ms : Nat) : (zz_enc T ms).length ≤ 4001 := by
  have := zz_enc_len T ms
  have := zz_posts_len T ms
  omega
theorem zz_enc_pos (T : List (List Nat)) (ms : Nat) : 0 < (zz_enc T ms).length := by simp [zz_enc]
theorem zz_eP_le : ∀ (ps : List Nat) (prev : Nat), (∀ p ∈ ps, p < 20) → ∀ x ∈ zz_eP prev ps, x ≤ 127 := by
  intro ps
  induction ps with
  | nil => intro _ _ x hx; cases hx
  | cons p ps ih =>
    intro prev h x hx
    simp only [zz_eP, List.mem_cons] at hx
    have h1 := h p List.mem_cons_self
    rcases hx with rfl | hx
    · omega
    · exact ih p (fun y hy => h y (List.mem_cons_of_mem _ hy)) x hx
theorem zz_pl_len (t : List Nat) (w : Nat) : (zz_pl t w).length ≤ 20 := by
  unfold zz_pl
  exact Nat.le_trans (List.length_filter_le _ _) (by simp)
theorem zz_ds_len (T : List (List Nat)) (ms w : Nat) : (zz_ds T ms w).length ≤ 40 := by
  unfold zz_ds
  exact Nat.le_trans (List.length_filter_le _ _) (by simp)
theorem zz_eD_le {T : List (List Nat)} {w : Nat} : ∀ (ds : List Nat) (prev : Nat), (∀ d ∈ ds, d < 40) → ∀ x ∈ zz_eD T w prev ds, x ≤ 127 := by
  intro ds
  induction ds with
  | nil => intro _ _ x hx; cases hx
  | cons d ds ih =>
    intro prev h x hx
    simp only [zz_eD, List.mem_cons, List.mem_append] at hx
    have h1 := h d List.mem_cons_self
    have h2 := zz_pl_len (zz_tx T d) w
    rcases hx with rfl | rfl | hx | hx
    · omega
    · omega
    · exact zz_eP_le _ _ (fun p hp => (zz_pl_mem.mp hp).1) x hx
    · exact ih d (fun y hy => h y (List.mem_cons_of_mem _ hy)) x hx
theorem zz_eW_le {T : List (List Nat)} {ms : Nat} : ∀ (ws : List Nat) (prev : Nat), (∀ w ∈ ws, w < 100) → ∀ x ∈ zz_eW T ms prev ws, x ≤ 127 := by
  intro ws
  induction ws with
  | nil => intro _ _ x hx; cases hx
  | cons w ws ih =>
    intro prev h x hx
    simp only [zz_eW, List.mem_cons, List.mem_append] at hx
    have h1 := h w List.mem_cons_self
    have h2 := zz_ds_len T ms w
    rcases hx with rfl | rfl | hx | hx
    · omega
    · omega
    · exact zz_eD_le _ _ (fun d hd => (zz_ds_mem.mp hd).1) x hx
    · exact ih w (fun y hy => h y (List.mem_cons_of_mem _ hy)) x hx
theorem zz_enc_le (T : List (List Nat)) (ms : Nat) : ∀ x ∈ zz_enc T ms, x ≤ 127 := by
  intro x hx
  unfold zz_enc at hx
  rcases List.mem_append.mp hx with hx | hx
  · exact zz_eW_le _ _ (fun w hw => (zz_ws_mem.mp hw).1) x hx
  · simp at hx
    omega
-- the model's longs
section Longs
variable {h : hh_H} {F : Nat}
theorem zz_l0 : (0 : Int64) = lN 0 := rfl
theorem zz_l1 : (1 : Int64) = lN 1 := rfl
theorem zz_lN_inj {a b : Nat} (ha : a < 2 ^ 64) (hb : b < 2 ^ 64) : lN a = lN b ↔ a = b := by
  constructor
  · intro q
    have := congrArg (fun x => Int64.toNatClampNeg x) q
    have h1 := congrArg (fun x => x.toBitVec.toNat) q
    simp only [wb_tn ha, wb_tn hb] at h1
    exact h1
  · intro q
    rw [q]
theorem zz_lcmp {a b : Nat} (ha : a < 2 ^ 64) (hb : b < 2 ^ 64) : lg_cmp (lN a) (lN b) = 0 ↔ a = b := by rw [lg_cmp_eq, zz_lN_inj ha hb]
theorem zz_tbit {s i : Nat} (hs : s < 2 ^ 64) (hi : i < 64) : lg_cmp ((((lN s).toUInt64 >>> ((nI i).toInt64.toUInt64 &&& Int64.toUInt64 63)).toInt64) &&& 1) 0 = 0 ↔ s.testBit i = false := by
  rw [wb_bit hs hi, zz_l0, zz_lcmp (by omega) (by decide), Nat.testBit_eq_decide_div_mod_eq, decide_eq_false_iff_not]
  omega
theorem s_Mo_in {s i : Nat} (hs : s < 2 ^ 60) (hi : i < 64) : f_Mo_in F (lN s) (nI i) h = some (if s.testBit i = true then 1 else 0, h) := by
  unfold f_Mo_in
  have h1 := zz_tbit (s := s) (i := i) (Nat.lt_trans hs (by decide)) hi
  cases hb : s.testBit i
  · rw [if_pos (h1.mpr hb)]
    rfl
  · rw [if_neg (fun q => by rw [h1.mp q] at hb; cases hb)]
    rfl
theorem s_Mo_bits_loop {s : Nat} (hs : s < 2 ^ 60) : ∀ (k n j c : Nat), j + k = 64 → k < n → hp_it (fun _ _ _ _ => none) (f_Mo_bits_4 F) n (lN s) (nI c) (nI j) h = some (nI (c + ((List.range' j k).filter s.testBit).length), h) := by
  intro k
  induction k with
  | zero =>
    intro n j c hj hn
    obtain ⟨n, rfl⟩ : ∃ m, n = m + 1 := ⟨n - 1, by omega⟩
    rw [hp_it_s]
    unfold f_Mo_bits_4
    rw [if_pos (show (64 : Int32) ≤ nI j from nI_le (a := 64) (by omega) (by omega))]
    simp
  | succ k ih =>
    intro n j c hj hn
    obtain ⟨n, rfl⟩ : ∃ m, n = m + 1 := ⟨n - 1, by omega⟩
    rw [hp_it_s]
    unfold f_Mo_bits_4
    rw [if_neg (show ¬ (64 : Int32) ≤ nI j from nI_ge (b := 64) (by omega) (by decide))]
    have h1 := zz_tbit (s := s) (i := j) (Nat.lt_trans hs (by decide)) (by omega)
    rw [List.range'_succ, List.filter_cons]
    cases hb : s.testBit j
    · rw [if_pos (h1.mpr hb), nI_1]
      exact ih n (j + 1) c (by omega) (by omega)
    · rw [if_neg (fun q => by rw [h1.mp q] at hb; cases hb), nI_1, nI_1]
      have := ih n (j + 1) (c + 1) (by omega) (by omega)
      refine this.trans ?_
      rw [if_pos rfl, List.length_cons, Nat.add_assoc, Nat.add_comm 1]
theorem s_Mo_bits {s : Nat} (hs : s < 2 ^ 60) (hF : 64 < F) : f_Mo_bits F (lN s) h = some (nI (zz_bl s).length, h) := by
  unfold f_Mo_bits l_Mo_bits_4
  have := s_Mo_bits_loop (F := F) (h := h) hs 64 F 0 0 (by omega) hF
  have e : (List.range' 0 64).filter s.testBit = zz_bl s := by
    unfold zz_bl
    rw [List.range_eq_range']
    have e2 : List.range' 0 64 = List.range' 0 60 ++ List.range' 60 4 := by decide +kernel
    rw [e2, List.filter_append]
    have e3 : (List.range' 60 4).filter s.testBit = [] := by
      rw [List.filter_eq_nil_iff]
      intro x hx hb
      have := zz_bit_lt hs hb
      have := (List.mem_range'.mp hx)
      obtain ⟨i, _, hi⟩ := this
      omega
    rw [e3, List.append_nil]
  rw [e, Nat.zero_add] at this
  exact this
theorem zz_lor {a b : Nat} (ha : a < 2 ^ 60) (hb : b < 2 ^ 60) : lN a ||| lN b = lN (a ||| b) := wb_or (Nat.lt_trans ha (by decide)) (Nat.lt_trans hb (by decide))
theorem zz_lbit {i : Nat} (hi : i < 60) : (1 : Int64) <<< ((nI i).toInt64 &&& 63) = lN (2 ^ i) := by
  rw [zz_l1, wb_shl 1 (by omega), Nat.one_mul]
theorem zz_lan {a b : Nat} (ha : a < 2 ^ 60) (hb : b < 2 ^ 60) : lN a &&& (lN b ^^^ (-1)) = lN (zz_an a b) := by
  apply wb_inj
  rw [Int64.toBitVec_and, Int64.toBitVec_xor, wb_tb, wb_tb, wb_tb, show (-1 : Int64).toBitVec = BitVec.allOnes 64 by decide]
  apply BitVec.eq_of_getLsbD_eq
  intro i hi
  simp only [BitVec.getLsbD_and, BitVec.getLsbD_xor, BitVec.getLsbD_allOnes, BitVec.getLsbD_ofNat, hi, decide_true, Bool.true_and, zz_an_bit]
  cases a.testBit i <;> cases b.testBit i <;> rfl
end Longs
