-- what the operations on the abstract heap give where the cells are known; frames
theorem q_gi {h : hh_H} {a ci k : Nat} {fs : List hh_V} {x : Int32} (hc : h[a]? = some (.inr (ci, fs))) (hx : fs[k]? = some (.inl x)) : hp_gi h a ci k = some x := by
  simp [hp_gi, hp_gv, hc, hx]
theorem q_ga {h : hh_H} {a ci k : Nat} {fs : List hh_V} {x : Nat} (hc : h[a]? = some (.inr (ci, fs))) (hx : fs[k]? = some (.inr (.inl (some x)))) : hp_ga h a ci k = some x := by
  simp [hp_ga, hp_gv, hc, hx]
theorem q_gd {h : hh_H} {a ci k : Nat} {fs : List hh_V} {x : UInt64} (hc : h[a]? = some (.inr (ci, fs))) (hx : fs[k]? = some (.inr (.inr (.inl x)))) : hp_gd h a ci k = some x := by
  simp [hp_gd, hp_gv, hc, hx]
theorem q_gj {h : hh_H} {a ci k : Nat} {fs : List hh_V} {x : Int64} (hc : h[a]? = some (.inr (ci, fs))) (hx : fs[k]? = some (.inr (.inr (.inr x)))) : hp_gj h a ci k = some x := by
  simp [hp_gj, hp_gv, hc, hx]
theorem q_p {h : hh_H} {a ci k : Nat} {fs : List hh_V} (hc : h[a]? = some (.inr (ci, fs))) (hk : k < fs.length) (v : hh_V) : hp_p h a ci k v = some (h.set a (.inr (ci, fs.set k v))) := by
  simp [hp_p, hc, hk]
theorem q_pi {h : hh_H} {a ci k : Nat} {fs : List hh_V} (hc : h[a]? = some (.inr (ci, fs))) (hk : k < fs.length) (x : Int32) : hp_pi h a ci k x = some (h.set a (.inr (ci, fs.set k (.inl x)))) := q_p hc hk _
theorem q_pa {h : hh_H} {a ci k : Nat} {fs : List hh_V} (hc : h[a]? = some (.inr (ci, fs))) (hk : k < fs.length) (x : Nat) : hp_pa h a ci k x = some (h.set a (.inr (ci, fs.set k (.inr (.inl (some x)))))) := q_p hc hk _
theorem q_pd {h : hh_H} {a ci k : Nat} {fs : List hh_V} (hc : h[a]? = some (.inr (ci, fs))) (hk : k < fs.length) (x : UInt64) : hp_pd h a ci k x = some (h.set a (.inr (ci, fs.set k (.inr (.inr (.inl x)))))) := q_p hc hk _
theorem q_pj {h : hh_H} {a ci k : Nat} {fs : List hh_V} (hc : h[a]? = some (.inr (ci, fs))) (hk : k < fs.length) (x : Int64) : hp_pj h a ci k x = some (h.set a (.inr (ci, fs.set k (.inr (.inr (.inr x)))))) := q_p hc hk _
theorem q_pz {h : hh_H} {a ci k : Nat} {fs : List hh_V} (hc : h[a]? = some (.inr (ci, fs))) (hk : k < fs.length) {x : Int32} (hx : x = 0 ∨ x = 1) : hp_pz h a ci k x = some (h.set a (.inr (ci, fs.set k (.inl x)))) := by
  unfold hp_pz
  rw [if_pos hx]
  exact q_p hc hk _
theorem q_is {h : hh_H} {a ci : Nat} {fs : List hh_V} (hc : h[a]? = some (.inr (ci, fs))) : hp_is h a ci = some () := by
  simp [hp_is, hc]
theorem q_len {h : hh_H} {a t : Nat} {l : List Int32} (hc : h[a]? = some (.inl (t, .inl l))) (ht : t < 6) : hp_len h a = some (nI l.length) := by
  simp [hp_len, hc, ht, hp_alen, nI]
theorem q_lend {h : hh_H} {a t : Nat} {l : List UInt64} (hc : h[a]? = some (.inl (t, .inr (.inl l)))) (ht : t < 6) : hp_len h a = some (nI l.length) := by
  simp [hp_len, hc, ht, hp_alen, nI]
theorem q_lenq {h : hh_H} {a t : Nat} {l : List (Option Nat)} (hc : h[a]? = some (.inl (t, .inr (.inr (.inr l))))) (ht : t < 6) : hp_len h a = some (nI l.length) := by
  simp [hp_len, hc, ht, hp_alen, nI]
theorem q_ld {α : Type} {l : List α} {i : Nat} {x : α} (hi : i < 2 ^ 31) (hx : l[i]? = some x) : hp_ld (some l) (nI i) = some x := by
  unfold hp_ld
  simp only [nI_clamp hi, hx]
  rw [if_neg (nI_pos hi)]
theorem q_ai {h : hh_H} {a i : Nat} {l : List Int32} {x : Int32} (hc : h[a]? = some (.inl (0, .inl l))) (hi : i < 2 ^ 31) (hx : l[i]? = some x) : hp_ai h a (nI i) = some x := by
  simp only [hp_ai, hp_ints, hc, if_true]
  exact q_ld hi hx
theorem q_az {h : hh_H} {a i : Nat} {l : List Int32} {x : Int32} (hc : h[a]? = some (.inl (1, .inl l))) (hi : i < 2 ^ 31) (hx : l[i]? = some x) : hp_az h a (nI i) = some x := by
  simp only [hp_az, hp_ints, hc, if_true]
  exact q_ld hi hx
theorem q_ab {h : hh_H} {a i : Nat} {l : List Int32} {x : Int32} (hc : h[a]? = some (.inl (5, .inl l))) (hi : i < 2 ^ 31) (hx : l[i]? = some x) : hp_ab h a (nI i) = some x := by
  simp only [hp_ab, hp_ints, hc, if_true]
  exact q_ld hi hx
theorem q_ad {h : hh_H} {a i : Nat} {l : List UInt64} {x : UInt64} (hc : h[a]? = some (.inl (2, .inr (.inl l)))) (hi : i < 2 ^ 31) (hx : l[i]? = some x) : hp_ad h a (nI i) = some x := by
  simp only [hp_ad, hp_dbls, hc, if_true]
  exact q_ld hi hx
theorem q_aj {h : hh_H} {a i : Nat} {l : List Int64} {x : Int64} (hc : h[a]? = some (.inl (3, .inr (.inr (.inl l))))) (hi : i < 2 ^ 31) (hx : l[i]? = some x) : hp_aj h a (nI i) = some x := by
  simp only [hp_aj, hp_lngs, hc, if_true]
  exact q_ld hi hx
theorem q_aq {h : hh_H} {a i : Nat} {l : List (Option Nat)} {x : Nat} (hc : h[a]? = some (.inl (4, .inr (.inr (.inr l))))) (hi : i < 2 ^ 31) (hx : l[i]? = some (some x)) : hp_aq h a (nI i) = some x := by
  simp only [hp_aq, hp_refs, hc, if_true]
  rw [q_ld hi hx]
theorem q_st {α : Type} {l : List α} {i : Nat} (hi : i < l.length) (hl : i < 2 ^ 31) (x : α) : hp_st (some l) (nI i) x = some (l.set i x) := by
  unfold hp_st
  simp only [nI_clamp hl]
  rw [if_neg (nI_pos hl), if_pos hi]
theorem q_si {h : hh_H} {a i : Nat} {l : List Int32} (hc : h[a]? = some (.inl (0, .inl l))) (hi : i < l.length) (hl : i < 2 ^ 31) (x : Int32) : hp_si h a (nI i) x = some (h.set a (.inl (0, .inl (l.set i x)))) := by
  simp only [hp_si, hp_ints, hc, if_true]
  rw [q_st hi hl]
  rfl
theorem q_sz {h : hh_H} {a i : Nat} {l : List Int32} (hc : h[a]? = some (.inl (1, .inl l))) (hi : i < l.length) (hl : i < 2 ^ 31) (x : Int32) : hp_sz h a (nI i) x = some (h.set a (.inl (1, .inl (l.set i (vp_nar .boolean x))))) := by
  simp only [hp_sz, hp_ints, hc, if_true]
  rw [q_st hi hl]
  rfl
theorem q_sb {h : hh_H} {a i : Nat} {l : List Int32} (hc : h[a]? = some (.inl (5, .inl l))) (hi : i < l.length) (hl : i < 2 ^ 31) (x : Int32) : hp_sb h a (nI i) x = some (h.set a (.inl (5, .inl (l.set i (vp_nar .byte x))))) := by
  simp only [hp_sb, hp_ints, hc, if_true]
  rw [q_st hi hl]
  rfl
theorem q_sd {h : hh_H} {a i : Nat} {l : List UInt64} (hc : h[a]? = some (.inl (2, .inr (.inl l)))) (hi : i < l.length) (hl : i < 2 ^ 31) (x : UInt64) : hp_sd h a (nI i) x = some (h.set a (.inl (2, .inr (.inl (l.set i x))))) := by
  simp only [hp_sd, hp_dbls, hc, if_true]
  rw [q_st hi hl]
  rfl
theorem q_sj {h : hh_H} {a i : Nat} {l : List Int64} (hc : h[a]? = some (.inl (3, .inr (.inr (.inl l))))) (hi : i < l.length) (hl : i < 2 ^ 31) (x : Int64) : hp_sj h a (nI i) x = some (h.set a (.inl (3, .inr (.inr (.inl (l.set i x)))))) := by
  simp only [hp_sj, hp_lngs, hc, if_true]
  rw [q_st hi hl]
  rfl
theorem q_sq {h : hh_H} {a i : Nat} {l : List (Option Nat)} (hc : h[a]? = some (.inl (4, .inr (.inr (.inr l))))) (hi : i < l.length) (hl : i < 2 ^ 31) (x : Option Nat) : hp_sq h a (nI i) x = some (h.set a (.inl (4, .inr (.inr (.inr (l.set i x)))))) := by
  simp only [hp_sq, hp_refs, hc, if_true]
  rw [q_st hi hl]
  rfl
theorem q_na {h : hh_H} {t n bd : Nat} (hn : n ≤ bd) (hb : n < 2 ^ 31) : hp_na h t (nI n) bd = some (h.length, h ++ [.inl (t, hp_zero t n)]) := by
  unfold hp_na
  rw [nI_clamp hb, if_neg]
  intro q
  rcases q with q | q
  · exact nI_pos hb q
  · omega
theorem q_cb {ρ σ : Type} {r : ρ} {h : hh_H} {k : ρ → hh_H → Option σ} : hp_cb (some (r, h)) k = k r h := rfl
theorem q_lit (n : Nat) : (OfNat.ofNat n : Int32) = nI n := rfl
theorem q_set {h : hh_H} {a b : Nat} {c : hh_C} (hab : a ≠ b) : (h.set a c)[b]? = h[b]? := by
  rw [List.getElem?_set, if_neg hab]
theorem q_get {h : hh_H} {a : Nat} {c d : hh_C} (hc : h[a]? = some d) : (h.set a c)[a]? = some c := by
  rw [List.getElem?_set, if_pos rfl, if_pos (List.getElem?_eq_some_iff.mp hc).1]
theorem q_lt {h : hh_H} {a : Nat} {d : hh_C} (hc : h[a]? = some d) : a < h.length := (List.getElem?_eq_some_iff.mp hc).1
theorem q_app {h : hh_H} {a : Nat} {c d : hh_C} (hc : h[a]? = some d) : (h ++ [c])[a]? = some d := by
  rw [List.getElem?_append_left (q_lt hc)]
  exact hc
theorem q_new {h : hh_H} {c : hh_C} : (h ++ [c])[h.length]? = some c := by simp
/-- only places of W have changed, and new ones may have come -/
def zz_fr (W : List Nat) (h h' : hh_H) : Prop := h.length ≤ h'.length ∧ ∀ i, i < h.length → i ∉ W → h'[i]? = h[i]?
theorem zz_fr.rf (W : List Nat) (h : hh_H) : zz_fr W h h := ⟨Nat.le_refl _, fun _ _ _ => rfl⟩
theorem zz_fr.tr {W : List Nat} {h h1 h2 : hh_H} (a : zz_fr W h h1) (b : zz_fr W h1 h2) : zz_fr W h h2 :=
  ⟨Nat.le_trans a.1 b.1, fun i hi hn => (b.2 i (Nat.lt_of_lt_of_le hi a.1) hn).trans (a.2 i hi hn)⟩
theorem zz_fr.mono {W V : List Nat} {h h' : hh_H} (a : zz_fr W h h') (hs : ∀ x ∈ W, x ∈ V) : zz_fr V h h' := ⟨a.1, fun i hi hn => a.2 i hi (fun q => hn (hs i q))⟩
theorem zz_fr.set {W : List Nat} {h : hh_H} {a : Nat} {c : hh_C} (ha : a ∈ W) : zz_fr W h (h.set a c) := by
  refine ⟨by rw [List.length_set]; exact Nat.le_refl _, fun i hi hn => ?_⟩
  exact q_set (fun q => hn (q ▸ ha))
theorem zz_fr.app {W : List Nat} {h : hh_H} {c : hh_C} : zz_fr W h (h ++ [c]) := by
  refine ⟨by simp, fun i hi hn => ?_⟩
  rw [List.getElem?_append_left hi]
theorem zz_fr.at {W : List Nat} {h h' : hh_H} (a : zz_fr W h h') {i : Nat} {c : hh_C} (hc : h[i]? = some c) (hn : i ∉ W) : h'[i]? = some c := (a.2 i (q_lt hc) hn).trans hc
theorem zz_notin {W : List Nat} {i : Nat} (h : ∀ x ∈ W, i ≠ x) : i ∉ W := fun q => h i q rfl
theorem hp_it_s {τ : Type} (z : τ) (b : τ → τ) (n : Nat) : hp_it z b (n + 1) = b (hp_it z b n) := rfl
