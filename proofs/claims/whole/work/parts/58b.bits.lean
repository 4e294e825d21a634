-- sets of small numbers as natural numbers; the model's sets are these as longs
def zz_bs (l : List Nat) : Nat := l.foldr (fun b s => 2 ^ b ||| s) 0
theorem zz_bs_bit (l : List Nat) (i : Nat) : (zz_bs l).testBit i = decide (i ∈ l) := by
  induction l with
  | nil => simp [zz_bs]
  | cons b l ih =>
    show (2 ^ b ||| zz_bs l).testBit i = _
    rw [Nat.testBit_or, Nat.testBit_two_pow, ih]
    by_cases h : b = i
    · subst h
      simp
    · simp [h, Ne.symm h]
def zz_bl (s : Nat) : List Nat := (List.range 60).filter s.testBit
theorem zz_bl_mem {s i : Nat} : i ∈ zz_bl s ↔ i < 60 ∧ s.testBit i = true := by simp [zz_bl]
theorem zz_bl_up (s : Nat) : zz_up (zz_bl s) := zz_up_filter (zz_up_range 60) _
theorem zz_bl_bs {l : List Nat} (hu : zz_up l) (hl : ∀ i ∈ l, i < 60) : zz_bl (zz_bs l) = l := zz_ext (zz_bl_up _) hu (fun x => by
  rw [zz_bl_mem, zz_bs_bit]
  simp
  exact hl x)
theorem zz_lt {s n : Nat} (h : ∀ i, s.testBit i = true → i < n) : s < 2 ^ n := Nat.lt_pow_two_of_testBit s (fun i hi => by
  cases hq : s.testBit i
  · rfl
  · have := h i hq
    omega)
theorem zz_bit_lt {s n i : Nat} (h : s < 2 ^ n) (hi : s.testBit i = true) : i < n := by
  rcases Nat.lt_or_ge i n with q | q
  · exact q
  · rw [Nat.testBit_lt_two_pow (Nat.lt_of_lt_of_le h (Nat.pow_le_pow_right (by decide) q))] at hi
    cases hi
theorem zz_seq {s t : Nat} (h : ∀ i, s.testBit i = true ↔ t.testBit i = true) : s = t := Nat.eq_of_testBit_eq (fun i => Bool.eq_iff_iff.mpr (h i))
theorem zz_s0 {s : Nat} : s = 0 ↔ ∀ i, s.testBit i = false := by
  constructor
  · intro h i
    simp [h]
  · intro h
    exact Nat.eq_of_testBit_eq (fun i => by simp [h i])
theorem zz_sne {s : Nat} (h : s ≠ 0) : ∃ i, s.testBit i = true := by
  rcases Classical.em (∃ i, s.testBit i = true) with q | q
  · exact q
  · exfalso
    apply h
    rw [zz_s0]
    intro i
    cases hb : s.testBit i
    · rfl
    · exact absurd ⟨i, hb⟩ q
/-- a without b -/
def zz_an (a b : Nat) : Nat := a ^^^ (a &&& b)
theorem zz_an_bit (a b i : Nat) : (zz_an a b).testBit i = (a.testBit i && !b.testBit i) := by
  unfold zz_an
  rw [Nat.testBit_xor, Nat.testBit_and]
  cases a.testBit i <;> cases b.testBit i <;> rfl
theorem zz_an_lt {a b n : Nat} (h : a < 2 ^ n) : zz_an a b < 2 ^ n := zz_lt (fun i hi => by
  rw [zz_an_bit] at hi
  simp at hi
  exact zz_bit_lt h hi.1)
theorem zz_or_lt {a b n : Nat} (h : a < 2 ^ n) (h2 : b < 2 ^ n) : a ||| b < 2 ^ n := Nat.or_lt_two_pow h h2
/-- the documents that are dropped -/
def zz_dn (dr : List Bool) : Nat := zz_bs ((List.range dr.length).filter (fun d => dr[d]? == some true))
theorem zz_dn_bit (dr : List Bool) (d : Nat) : (zz_dn dr).testBit d = true ↔ dr[d]? = some true := by
  unfold zz_dn
  rw [zz_bs_bit]
  simp
  intro h
  exact (List.getElem?_eq_some_iff.mp h).1
theorem zz_dn_lt {dr : List Bool} (h : dr.length ≤ 40) : zz_dn dr < 2 ^ 60 := zz_lt (fun i hi => by
  have := (List.getElem?_eq_some_iff.mp ((zz_dn_bit dr i).mp hi)).1
  omega)
/-- the documents lo .. hi-1 -/
def zz_rg (lo hi : Nat) : Nat := zz_bs ((List.range hi).filter (fun d => decide (lo ≤ d)))
theorem zz_rg_bit (lo hi d : Nat) : (zz_rg lo hi).testBit d = true ↔ lo ≤ d ∧ d < hi := by
  unfold zz_rg
  rw [zz_bs_bit]
  simp
  omega
-- counts
theorem zz_cnt_or {p q : Nat → Bool} : ∀ (l : List Nat), (∀ x ∈ l, ¬ (p x = true ∧ q x = true)) → (l.filter (fun x => p x || q x)).length = (l.filter p).length + (l.filter q).length := by
  intro l
  induction l with
  | nil => intro _; rfl
  | cons x l ih =>
    intro h
    have h1 := ih (fun y hy => h y (List.mem_cons_of_mem _ hy))
    have h2 := h x List.mem_cons_self
    rw [List.filter_cons, List.filter_cons, List.filter_cons]
    cases hp : p x <;> cases hq : q x <;> simp [hp, hq] at h2 ⊢ <;> omega
theorem zz_bl_or {a b : Nat} (h : ∀ i, ¬ (a.testBit i = true ∧ b.testBit i = true)) : (zz_bl (a ||| b)).length = (zz_bl a).length + (zz_bl b).length := by
  unfold zz_bl
  rw [← zz_cnt_or _ (fun x _ => h x)]
  congr 2
  funext x
  rw [Nat.testBit_or]
theorem zz_bl_0 : zz_bl 0 = [] := by decide +kernel
theorem zz_cnt_not {p : Nat → Bool} : ∀ (l : List Nat), (l.filter p).length + (l.filter (fun x => !p x)).length = l.length := by
  intro l
  induction l with
  | nil => rfl
  | cons x l ih =>
    rw [List.filter_cons, List.filter_cons]
    cases p x <;> simp <;> omega
/-- a rising list of numbers under n has at most n members -/
theorem zz_nd_len : ∀ (n : Nat) (l : List Nat), l.Nodup → (∀ x ∈ l, x < n) → l.length ≤ n := by
  intro n
  induction n with
  | zero =>
    intro l _ h
    cases l with
    | nil => simp
    | cons x l => exact absurd (h x List.mem_cons_self) (Nat.not_lt_zero _)
  | succ n ih =>
    intro l hn h
    have h1 := ih (l.filter (fun x => x != n)) (List.Pairwise.filter _ hn) (fun x hx => by
      have h2 := List.mem_filter.mp hx
      have h3 := h x h2.1
      have h4 : x ≠ n := by simpa using h2.2
      omega)
    have h2 := zz_cnt_not (p := fun x => x != n) l
    have h3 : (l.filter (fun x => !(x != n))).length ≤ 1 := by
      have : (l.filter (fun x => !(x != n))).Nodup := List.Pairwise.filter _ hn
      have hall : ∀ x ∈ l.filter (fun x => !(x != n)), x = n := fun x hx => by simpa using (List.mem_filter.mp hx).2
      revert this hall
      generalize l.filter (fun x => !(x != n)) = m
      intro hm hall
      match m, hm, hall with
      | [], _, _ => simp
      | [x], _, _ => simp
      | x :: y :: m, hm, hall =>
        have h5 := (List.pairwise_cons.mp hm).1 y List.mem_cons_self
        exact absurd ((hall x List.mem_cons_self).trans (hall y (List.mem_cons_of_mem _ List.mem_cons_self)).symm) h5
    omega
theorem zz_up_nd {l : List Nat} (h : zz_up l) : l.Nodup := List.Pairwise.imp (fun h => Nat.ne_of_lt h) h
theorem zz_posts_len (T : List (List Nat)) (ms : Nat) : (zz_posts T ms).length ≤ 800 := by
  have h1 : ((zz_posts T ms).map (fun k => k % 800)).Nodup := by
    have h2 := zz_posts_up T ms
    unfold List.Nodup
    rw [List.pairwise_map]
    refine List.Pairwise.imp_of_mem ?_ h2
    intro a b ha hb hab he
    obtain ⟨w, d, p, hw, hd, hp, -, ht, rfl⟩ := zz_posts_mem.mp ha
    obtain ⟨w', d', p', hw', hd', hp', -, ht', rfl⟩ := zz_posts_mem.mp hb
    unfold zz_key at he hab
    have e1 : d = d' := by omega
    have e2 : p = p' := by omega
    subst e1 e2
    rw [ht] at ht'
    cases ht'
    omega
  have h2 := zz_nd_len 800 _ h1 (fun x hx => by
    obtain ⟨k, -, rfl⟩ := List.mem_map.mp hx
    exact Nat.mod_lt _ (by decide))
  simpa using h2
theorem zz_posts_lt {T : List (List Nat)} {ms k : Nat} (h : k ∈ zz_posts T ms) : k < 80000 := by
  obtain ⟨w, d, p, hw, hd, hp, -, -, rfl⟩ := zz_posts_mem.mp h
  unfold zz_key
  omega
theorem zz_posts_nil {T : List (List Nat)} {ms : Nat} : zz_posts T ms = [] ↔ ∀ d w, d < 40 → w < 100 → ms.testBit d = true → w ∉ (zz_tx T d).take 20 := by
  constructor
  · intro h d w hd hw hm hin
    obtain ⟨p, hp, hq⟩ := List.mem_iff_getElem.mp hin
    have hp2 : p < 20 := by
      rw [List.length_take] at hp
      omega
    have : zz_key w d p ∈ zz_posts T ms := zz_posts_mem.mpr ⟨w, d, p, hw, hd, hp2, hm, by rw [List.getElem_take] at hq; rw [← hq]; exact List.getElem?_eq_getElem _, rfl⟩
    rw [h] at this
    cases this
  · intro h
    cases hq : zz_posts T ms with
    | nil => rfl
    | cons k l =>
      exfalso
      have hk : k ∈ zz_posts T ms := by rw [hq]; exact List.mem_cons_self
      obtain ⟨w, d, p, hw, hd, hp, hm, ht, rfl⟩ := zz_posts_mem.mp hk
      refine h d w hd hw hm (List.mem_iff_getElem?.mpr ⟨p, ?_⟩)
      rw [List.getElem?_take, if_pos hp]
      exact ht
/-- the postings of two sets depend only on the texts of their documents -/
theorem zz_posts_ext {T T' : List (List Nat)} {ms ms' : Nat} (h : ∀ d, d < 40 → ∀ p w, p < 20 → (ms.testBit d = true ∧ (zz_tx T d)[p]? = some w ↔ ms'.testBit d = true ∧ (zz_tx T' d)[p]? = some w)) : zz_posts T ms = zz_posts T' ms' := by
  refine zz_ext (zz_posts_up _ _) (zz_posts_up _ _) (fun k => ?_)
  rw [zz_posts_mem, zz_posts_mem]
  constructor
  · rintro ⟨w, d, p, h1, h2, h3, h4, h5, h6⟩
    have := (h d h2 p w h3).mp ⟨h4, h5⟩
    exact ⟨w, d, p, h1, h2, h3, this.1, this.2, h6⟩
  · rintro ⟨w, d, p, h1, h2, h3, h4, h5, h6⟩
    have := (h d h2 p w h3).mpr ⟨h4, h5⟩
    exact ⟨w, d, p, h1, h2, h3, this.1, this.2, h6⟩
theorem zz_tx_app {T : List (List Nat)} {t : List Nat} {d : Nat} (h : d < T.length) : zz_tx (T ++ [t]) d = zz_tx T d := by
  unfold zz_tx
  rw [List.getD_eq_getElem?_getD, List.getD_eq_getElem?_getD, List.getElem?_append_left h]
theorem zz_ds_app {T : List (List Nat)} {t : List Nat} {ms : Nat} (h : ∀ d, ms.testBit d = true → d < T.length) (w : Nat) : zz_ds (T ++ [t]) ms w = zz_ds T ms w := by
  unfold zz_ds
  apply List.filter_congr
  intro d _
  unfold zz_has
  cases hb : ms.testBit d
  · rfl
  · rw [zz_tx_app (h d hb)]
theorem zz_eD_app {T : List (List Nat)} {t : List Nat} {w : Nat} : ∀ (ds : List Nat) (prev : Nat), (∀ d ∈ ds, d < T.length) → zz_eD (T ++ [t]) w prev ds = zz_eD T w prev ds := by
  intro ds
  induction ds with
  | nil => intro _ _; rfl
  | cons d ds ih =>
    intro prev h
    simp only [zz_eD]
    rw [ih d (fun x hx => h x (List.mem_cons_of_mem _ hx)), zz_tx_app (h d List.mem_cons_self)]
theorem zz_eW_app {T : List (List Nat)} {t : List Nat} {ms : Nat} (h : ∀ d, ms.testBit d = true → d < T.length) : ∀ (ws : List Nat) (prev : Nat), zz_eW (T ++ [t]) ms prev ws = zz_eW T ms prev ws := by
  intro ws
  induction ws with
  | nil => intro _; rfl
  | cons w ws ih =>
    intro prev
    simp only [zz_eW]
    rw [ih w, zz_ds_app h, zz_eD_app _ _ (fun d hd => h d (zz_ds_mem.mp hd).2.1)]
theorem zz_enc_app {T : List (List Nat)} {t : List Nat} {ms : Nat} (h : ∀ d, ms.testBit d = true → d < T.length) : zz_enc (T ++ [t]) ms = zz_enc T ms := by
  unfold zz_enc
  have : zz_ws (T ++ [t]) ms = zz_ws T ms := by
    unfold zz_ws
    apply List.filter_congr
    intro w _
    rw [zz_ds_app h]
  rw [this, zz_eW_app h]
theorem zz_posts_app {T : List (List Nat)} {t : List Nat} {ms : Nat} (h : ∀ d, ms.testBit d = true → d < T.length) : zz_posts (T ++ [t]) ms = zz_posts T ms := zz_posts_ext (fun d _ p w _ => by
  constructor
  · rintro ⟨h1, h2⟩
    exact ⟨h1, by rw [← zz_tx_app (h d h1)]; exact h2⟩
  · rintro ⟨h1, h2⟩
    exact ⟨h1, by rw [zz_tx_app (h d h1)]; exact h2⟩)
