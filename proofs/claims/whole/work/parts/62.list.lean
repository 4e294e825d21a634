-- the library's list of runs: its object at 11, its array and the runs behind the fixed places
def zz_fx (W : List Nat) (h h' : hh_H) : Prop := h.length ≤ h'.length ∧ ∀ i, i < 38 → i ∉ W → h'[i]? = h[i]?
theorem zz_fx.rf (W : List Nat) (h : hh_H) : zz_fx W h h := ⟨Nat.le_refl _, fun _ _ _ => rfl⟩
theorem zz_fx.tr {W : List Nat} {h h1 h2 : hh_H} (a : zz_fx W h h1) (b : zz_fx W h1 h2) : zz_fx W h h2 := ⟨Nat.le_trans a.1 b.1, fun i hi hn => (b.2 i hi hn).trans (a.2 i hi hn)⟩
theorem zz_fx.mono {W V : List Nat} {h h' : hh_H} (a : zz_fx W h h') (hs : ∀ x ∈ W, x ∈ V) : zz_fx V h h' := ⟨a.1, fun i hi hn => a.2 i hi (fun q => hn (hs i q))⟩
theorem zz_fr.fx {W : List Nat} {h h' : hh_H} (a : zz_fr W h h') (hl : 38 ≤ h.length) : zz_fx W h h' := ⟨a.1, fun i hi hn => a.2 i (by omega) hn⟩
theorem zz_fx.at {W : List Nat} {h h' : hh_H} (a : zz_fx W h h') {i : Nat} {c : hh_C} (hc : h[i]? = some c) (hi : i < 38) (hn : i ∉ W) : h'[i]? = some c := (a.2 i hi hn).trans hc
def zr (h : hh_H) (T : List (List Nat)) (p : Nat) (r : Nat × Nat × Nat) : Prop :=
  38 ≤ p ∧ ∃ q, 38 ≤ q ∧ h[p]? = some (.inr (6, [.inl (nI r.1), .inr (.inl (some q)), .inl (nI (zz_enc T r.2.2).length)])) ∧ h[q]? = some (.inl (0, .inl ((zz_bl r.2.1).map nI)))
def zL (h : hh_H) (T : List (List Nat)) (R : List (Nat × Nat × Nat)) : Prop :=
  ∃ (PS : List (Nat × Nat × Nat × Nat)) (al : Nat) (js : List (Option Nat)) (mc : Int32), R = PS.map (fun x => x.2) ∧ (∀ x ∈ PS, zr h T x.1 x.2) ∧ h[11]? = some (.inr (10, [.inl mc, .inr (.inl (some al)), .inl (nI PS.length)])) ∧ h[0]? = some hh_nil ∧
    ((al = 0 ∧ PS = []) ∨ (38 ≤ al ∧ h[al]? = some (.inl (4, .inr (.inr (.inr (PS.map (fun x => some x.1) ++ js))))) ∧ PS.length + js.length ∈ [10, 15, 22, 33, 49, 73] ∧ ∀ y, some y ∉ js))
section List
variable {h : hh_H} {F : Nat} {T : List (List Nat)} {R : List (Nat × Nat × Nat)}
theorem zr.fr {W : List Nat} {h' : hh_H} {p : Nat} {r : Nat × Nat × Nat} (H : zr h T p r) (f : zz_fr W h h') (hW : ∀ x ∈ W, x < 38) : zr h' T p r := by
  obtain ⟨h1, q, h2, h3, h4⟩ := H
  exact ⟨h1, q, h2, f.at h3 (fun hm => by have := hW p hm; omega), f.at h4 (fun hm => by have := hW q hm; omega)⟩
theorem zL.fr {W : List Nat} {h' : hh_H} (H : zL h T R) (f : zz_fr W h h') (hW : ∀ x ∈ W, x < 38 ∧ x ≠ 11 ∧ x ≠ 0) : zL h' T R := by
  obtain ⟨PS, al, js, mc, h1, h2, h3, h4, h5⟩ := H
  refine ⟨PS, al, js, mc, h1, fun x hx => (h2 x hx).fr f (fun y hy => (hW y hy).1), f.at h3 (fun hm => (hW _ hm).2.1 rfl), f.at h4 (fun hm => (hW _ hm).2.2 rfl), ?_⟩
  rcases h5 with h5 | ⟨h5, h6, h7⟩
  · exact Or.inl h5
  · exact Or.inr ⟨h5, f.at h6 (fun hm => by have := (hW al hm).1; omega), h7⟩
theorem zL.app {t : List Nat} (H : zL h T R) (hm : ∀ r ∈ R, ∀ d, r.2.2.testBit d = true → d < T.length) : zL h (T ++ [t]) R := by
  obtain ⟨PS, al, js, mc, h1, h2, h3⟩ := H
  refine ⟨PS, al, js, mc, h1, fun x hx => ?_, h3⟩
  obtain ⟨g1, q, g2, g3, g4⟩ := h2 x hx
  refine ⟨g1, q, g2, ?_, g4⟩
  rw [zz_enc_app (hm x.2 (by rw [h1]; exact List.mem_map_of_mem hx))]
  exact g3
theorem s_AL_size (H : zL h T R) : f_ArrayList_size F 11 h = some (nI R.length, h) := by
  obtain ⟨PS, al, js, mc, h1, h2, h3, h4, h5⟩ := H
  unfold f_ArrayList_size
  rw [q_gi h3 rfl, h1, List.length_map]
  rfl
theorem zL.is (H : zL h T R) : ∃ fs, h[11]? = some (.inr (10, fs)) := by
  obtain ⟨PS, al, js, mc, h1, h2, h3, h4, h5⟩ := H
  exact ⟨_, h3⟩
theorem s_AL_isEmpty (H : zL h T R) (hR : R.length ≤ 60) : f_ArrayList_isEmpty F 11 h = some (if R = [] then 1 else 0, h) := by
  obtain ⟨PS, al, js, mc, h1, h2, h3, h4, h5⟩ := H
  unfold f_ArrayList_isEmpty
  rw [q_gi h3 rfl]
  show (if nI PS.length = 0 then _ else _) = _
  subst h1
  cases PS with
  | nil => rfl
  | cons x PS =>
    rw [if_neg (nI_ne0 (by simp) (by simp at hR ⊢; omega)), if_neg (by simp)]
theorem s_AL_get (H : zL h T R) (hR : R.length ≤ 60) {i : Nat} {r : Nat × Nat × Nat} (hi : R[i]? = some r) : ∃ p, f_ArrayList_get F 11 (nI i) h = some (p, h) ∧ zr h T p r := by
  obtain ⟨PS, al, js, mc, h1, h2, h3, h4, h5⟩ := H
  have hlt := (List.getElem?_eq_some_iff.mp hi).1
  rw [h1, List.length_map] at hlt hR
  have hx : (PS[i]).2 = r := by
    rw [h1, List.getElem?_map, List.getElem?_eq_getElem hlt] at hi
    exact Option.some.inj hi
  have hmem : PS[i] ∈ PS := List.getElem_mem hlt
  refine ⟨(PS[i]).1, ?_, hx ▸ h2 _ hmem⟩
  rcases h5 with ⟨_, h5⟩ | ⟨h5, h6, h7⟩
  · subst h5
    simp at hlt
  · unfold f_ArrayList_get
    rw [q_gi h3 rfl]
    show hp_cb (f_Objects_checkIndex F (nI i) (nI PS.length) h) _ = _
    unfold f_Objects_checkIndex f_Preconditions_checkIndex
    rw [if_neg (nI_pos (by omega)), if_pos (nI_lt hlt (by omega)), q_cb, q_cb, q_is h3]
    show hp_cb (f_ArrayList_elementData F 11 (nI i) h) _ = _
    unfold f_ArrayList_elementData
    rw [q_ga h3 rfl]
    show hp_cb ((hp_aq h al (nI i)).bind _) _ = _
    rw [q_aq (x := (PS[i]).1) h6 (by omega) (by rw [List.getElem?_append_left (by simp; omega)]; simp [hlt])]
    rfl
-- moving within an array of references
theorem zz_cpl_get {f g : List (Option Nat)} {sp dp n i : Nat} (hi : i < g.length) : (hp_cpl f g sp dp n)[i]? = some (va_cpy (fun j => f.getD j none) (fun j => g.getD j none) sp dp n i) := by
  unfold hp_cpl
  rw [List.getElem?_map, List.getElem?_range hi]
  rfl
theorem zz_cpl_len {f g : List (Option Nat)} {sp dp n : Nat} : (hp_cpl f g sp dp n).length = g.length := by simp [hp_cpl]
theorem zz_getD {l : List (Option Nat)} {i : Nat} (hi : i < l.length) : some (l.getD i none) = l[i]? := by
  rw [List.getD_eq_getElem?_getD, List.getElem?_eq_getElem hi]
  rfl
theorem zz_cpl_ins {A B js : List (Option Nat)} {j x : Option Nat} : (hp_cpl (A ++ (B ++ j :: js)) (A ++ (B ++ j :: js)) A.length (A.length + 1) B.length).set A.length x = A ++ x :: (B ++ js) := by
  apply List.ext_getElem?
  intro i
  rw [List.getElem?_set, zz_cpl_len]
  by_cases h0 : A.length = i
  · subst h0
    rw [if_pos rfl, if_pos (by simp; omega)]
    simp
  · rw [if_neg h0]
    by_cases h1 : i < (A ++ (B ++ j :: js)).length
    · rw [zz_cpl_get h1]
      by_cases h2 : i < A.length
      · rw [pk_cpy_out (Or.inl (by omega)), zz_getD h1, List.getElem?_append_left h2, List.getElem?_append_left h2]
      · by_cases h3 : i < A.length + 1 + B.length
        · rw [pk_cpy_in (by omega) (by omega), zz_getD (by simp; omega), List.getElem?_append_right (by omega), List.getElem?_append_left (by omega), List.getElem?_append_right (by omega)]
          obtain ⟨m, rfl⟩ : ∃ m, i = A.length + 1 + m := ⟨i - (A.length + 1), by omega⟩
          rw [show A.length + (A.length + 1 + m - (A.length + 1)) - A.length = m by omega, show A.length + 1 + m - A.length = m + 1 by omega, List.getElem?_cons_succ, List.getElem?_append_left (by omega)]
        · rw [pk_cpy_out (Or.inr (by omega)), zz_getD h1, List.getElem?_append_right (by omega), List.getElem?_append_right (by omega), List.getElem?_append_right (by omega)]
          obtain ⟨m, rfl⟩ : ∃ m, i = A.length + 1 + B.length + m := ⟨i - (A.length + 1 + B.length), by omega⟩
          rw [show A.length + 1 + B.length + m - A.length - B.length = m + 1 by omega, show A.length + 1 + B.length + m - A.length = B.length + m + 1 by omega, List.getElem?_cons_succ, List.getElem?_cons_succ, List.getElem?_append_right (by omega)]
          congr 1
          omega
    · rw [List.getElem?_eq_none (by rw [zz_cpl_len]; omega), List.getElem?_eq_none (by simp at h1 ⊢; omega)]
theorem zz_cpl_del {A B js : List (Option Nat)} {y : Option Nat} : (hp_cpl (A ++ (y :: B ++ js)) (A ++ (y :: B ++ js)) (A.length + 1) A.length B.length).set (A.length + B.length) none = A ++ (B ++ none :: js) := by
  apply List.ext_getElem?
  intro i
  rw [List.getElem?_set, zz_cpl_len]
  by_cases h0 : A.length + B.length = i
  · subst h0
    rw [if_pos rfl, if_pos (by simp; omega), List.getElem?_append_right (by omega), List.getElem?_append_right (by omega)]
    rw [show A.length + B.length - A.length - B.length = 0 by omega]
    rfl
  · rw [if_neg h0]
    by_cases h1 : i < (A ++ (y :: B ++ js)).length
    · rw [zz_cpl_get h1]
      by_cases h2 : i < A.length
      · rw [pk_cpy_out (Or.inl (by omega)), zz_getD h1, List.getElem?_append_left h2, List.getElem?_append_left h2]
      · by_cases h3 : i < A.length + B.length
        · rw [pk_cpy_in (by omega) (by omega), zz_getD (by simp; omega), List.getElem?_append_right (by omega)]
          obtain ⟨m, rfl⟩ : ∃ m, i = A.length + m := ⟨i - A.length, by omega⟩
          rw [show A.length + 1 + (A.length + m - A.length) - A.length = m + 1 by omega, List.cons_append, List.getElem?_cons_succ, List.getElem?_append_left (by omega), List.getElem?_append_right (by omega), show A.length + m - A.length = m by omega, List.getElem?_append_left (by omega)]
        · rw [pk_cpy_out (Or.inr (by omega)), zz_getD h1, List.getElem?_append_right (by omega), List.cons_append]
          obtain ⟨m, rfl⟩ : ∃ m, i = A.length + B.length + m + 1 := ⟨i - (A.length + B.length) - 1, by omega⟩
          rw [show A.length + B.length + m + 1 - A.length = B.length + m + 1 by omega, List.getElem?_cons_succ, List.getElem?_append_right (by omega), List.getElem?_append_right (by omega), show A.length + B.length + m + 1 - A.length = B.length + m + 1 by omega, List.getElem?_append_right (by omega), show B.length + m - B.length = m by omega, show B.length + m + 1 - B.length = m + 1 by omega, List.getElem?_cons_succ]
    · rw [List.getElem?_eq_none (by rw [zz_cpl_len]; omega), List.getElem?_eq_none (by simp at h1 ⊢; omega)]
theorem zz_cpl_app {f : List (Option Nat)} {m : Nat} (h : f.length ≤ m) : hp_cpl f (List.replicate m none) 0 0 f.length = f ++ List.replicate (m - f.length) none := by
  apply List.ext_getElem?
  intro i
  by_cases h1 : i < m
  · rw [zz_cpl_get (by simpa using h1)]
    by_cases h2 : i < f.length
    · rw [pk_cpy_in (by omega) (by omega), List.getElem?_append_left h2, zz_getD (by omega)]
      congr 1
      omega
    · rw [pk_cpy_out (Or.inr (by omega)), zz_getD (by simpa using h1), List.getElem?_append_right (by omega), List.getElem?_replicate, List.getElem?_replicate, if_pos h1, if_pos (by omega)]
  · rw [List.getElem?_eq_none (by rw [zz_cpl_len]; simp; omega), List.getElem?_eq_none (by simp; omega)]
theorem q_cp {a b sp dp n : Nat} {f g : List (Option Nat)} (ha : h[a]? = some (.inl (4, .inr (.inr (.inr f))))) (hb : h[b]? = some (.inl (4, .inr (.inr (.inr g))))) (h1 : sp + n ≤ f.length) (h2 : dp + n ≤ g.length) (hf : f.length ≠ 0) (hg : g.length ≠ 0) (hlf : f.length < 2 ^ 30) (hlg : g.length < 2 ^ 30) (hall : ∀ y, some y ∈ f → ∃ fs, h[y]? = some (.inr (6, fs))) :
    hp_cp h a (nI sp) b (nI dp) (nI n) = some ((), h.set b (.inl (4, .inr (.inr (.inr (hp_cpl f g sp dp n)))))) := by
  unfold hp_cp hp_refs
  simp only [ha, hb, if_true]
  rw [nI_clamp (by omega), nI_clamp (by omega), nI_clamp (by omega), if_neg]
  rintro (q | q | q | q | q | q | q | q)
  · exact nI_pos (by omega) q
  · exact nI_pos (by omega) q
  · exact nI_pos (by omega) q
  · omega
  · omega
  · omega
  · omega
  · apply q
    intro i hi y hy
    have hlt : sp + i < f.length := by omega
    obtain ⟨fs, hfs⟩ := hall y (by
      rw [← hy]
      have := zz_getD hlt
      rw [List.getElem?_eq_getElem hlt] at this
      rw [Option.some.inj this]
      exact List.getElem_mem hlt)
    rw [q_is hfs]
    rfl
theorem zr.fr2 {W : List Nat} {h' : hh_H} {p : Nat} {r : Nat × Nat × Nat} (H : zr h T p r) (f : zz_fr W h h') (hW : ∀ x ∈ W, x < 38 ∨ ∃ l, h[x]? = some (.inl (4, l))) : zr h' T p r := by
  obtain ⟨h1, q, h2, h3, h4⟩ := H
  refine ⟨h1, q, h2, f.at h3 (fun hm => ?_), f.at h4 (fun hm => ?_)⟩
  · rcases hW p hm with h5 | ⟨l, h5⟩
    · omega
    · rw [h3] at h5
      cases h5
  · rcases hW q hm with h5 | ⟨l, h5⟩
    · omega
    · rw [h4] at h5
      cases h5
theorem zz_runs_is {PS : List (Nat × Nat × Nat × Nat)} {js : List (Option Nat)} (h2 : ∀ x ∈ PS, zr h T x.1 x.2) (hj : ∀ y, some y ∉ js) : ∀ y, some y ∈ PS.map (fun x => some x.1) ++ js → ∃ fs, h[y]? = some (.inr (6, fs)) := by
  intro y hy
  rcases List.mem_append.mp hy with hy | hy
  · obtain ⟨x, hx, he⟩ := List.mem_map.mp hy
    cases he
    obtain ⟨_, q, _, h3, _⟩ := h2 x hx
    exact ⟨_, h3⟩
  · exact absurd hy (hj y)
theorem s_add38 {PS : List (Nat × Nat × Nat × Nat)} {al k p : Nat} {j : Option Nat} {js : List (Option Nat)} {mc : Int32} {r : Nat × Nat × Nat} (h11 : h[11]? = some (.inr (10, [.inl mc, .inr (.inl (some al)), .inl (nI PS.length)]))) (hal : 38 ≤ al) (ha : h[al]? = some (.inl (4, .inr (.inr (.inr (PS.map (fun x => some x.1) ++ j :: js)))))) (hL : PS.length + js.length < 2 ^ 20) (h2 : ∀ x ∈ PS, zr h T x.1 x.2) (hj : ∀ y, some y ∉ j :: js) (hr : zr h T p r) (hk : k ≤ PS.length) :
    zw (f_ArrayList_add_38 F 11 (nI k) p (nI PS.length) al h) (fun x => x.2[11]? = some (.inr (10, [.inl mc, .inr (.inl (some al)), .inl (nI (PS.length + 1))])) ∧ x.2[al]? = some (.inl (4, .inr (.inr (.inr ((PS.take k ++ (p, r) :: PS.drop k).map (fun x => some x.1) ++ js))))) ∧ zz_fr [11, al] h x.2 ∧ x.2.length = h.length) := by
  unfold f_ArrayList_add_38
  have e1 : nI k + 1 = nI (k + 1) := nI_1 k
  have e2 : nI PS.length - nI k = nI (PS.length - k) := pk_sub hk
  rw [e1, e2]
  have hlen : (PS.map (fun x => some x.1) ++ j :: js).length = PS.length + js.length + 1 := by simp; omega
  refine zw.cbe (q_cp (sp := k) (dp := k + 1) (n := PS.length - k) ha ha (by omega) (by omega) (by omega) (by omega) (by omega) (by omega) (zz_runs_is h2 hj)) ?_
  have s1 := zz_st.of (c := .inl (4, .inr (.inr (.inr (hp_cpl (PS.map (fun x => some x.1) ++ j :: js) (PS.map (fun x => some x.1) ++ j :: js) k (k + 1) (PS.length - k)))))) ha
  revert s1
  generalize h.set al _ = h1
  intro s1
  obtain ⟨_, q, _, h3, _⟩ := hr
  have hpal : p ≠ al := fun q => by rw [q, ha] at h3; cases h3
  refine zw.is (s1.at h3 hpal) ?_
  refine zw.sq s1.1 k rfl (by rw [zz_cpl_len, hlen]; omega) (by omega) fun h2 s2 => ?_
  have c11 := s2.at (s1.at h11 (by omega)) (by omega)
  refine zw.pi c11 (Nat.le_of_ble_eq_true rfl) fun h3 s3 => ?_
  refine zw.ret ⟨?_, ?_, ((s1.fr (by simp)).tr (s2.fr (by simp))).tr (s3.fr (by simp)), by rw [s3.2.2, s2.2.2, s1.2.2]⟩
  · refine s3.1.trans ?_
    show some (Sum.inr (10, [_, _, Sum.inl (nI PS.length + 1)])) = _
    rw [nI_1]
  · refine (s3.2.1 al (by omega)).trans (s2.1.trans ?_)
    have e3 : PS.map (fun x => some x.1) ++ j :: js = (PS.take k).map (fun x => some x.1) ++ ((PS.drop k).map (fun x => some x.1) ++ j :: js) := by
      rw [← List.append_assoc, ← List.map_append, List.take_append_drop]
    have e4 : ((PS.take k).map (fun x => some x.1)).length = k := by simp; omega
    have e5 : ((PS.drop k).map (fun x => some x.1)).length = PS.length - k := by simp
    have := zz_cpl_ins (A := (PS.take k).map (fun x => some x.1)) (B := (PS.drop k).map (fun x => some x.1)) (js := js) (j := j) (x := some p)
    rw [e4, e5, ← e3] at this
    rw [this]
    simp
theorem s_grow {PS : List (Nat × Nat × Nat × Nat)} {al : Nat} {mc : Int32} (h11 : h[11]? = some (.inr (10, [.inl mc, .inr (.inl (some al)), .inl (nI PS.length)]))) (h0 : h[0]? = some hh_nil) (hl : 38 ≤ h.length) (hR : PS.length ≤ 59) (h2 : ∀ x ∈ PS, zr h T x.1 x.2)
    (h5 : (al = 0 ∧ PS = []) ∨ (38 ≤ al ∧ h[al]? = some (.inl (4, .inr (.inr (.inr (PS.map (fun x => some x.1)))))) ∧ PS.length ∈ [10, 15, 22, 33, 49, 73])) :
    zw (f_ArrayList_grow F 11 h) (fun x => 38 ≤ x.1 ∧ x.2[11]? = some (.inr (10, [.inl mc, .inr (.inl (some x.1)), .inl (nI PS.length)])) ∧ (∃ (j : Option Nat) (js : List (Option Nat)), x.2[x.1]? = some (.inl (4, .inr (.inr (.inr (PS.map (fun x => some x.1) ++ j :: js))))) ∧ (∀ y, some y ∉ j :: js) ∧ PS.length + js.length + 1 ∈ [10, 15, 22, 33, 49, 73]) ∧ zz_fr [11] h x.2) := by
  unfold f_ArrayList_grow
  refine zw.gi h11 rfl ?_
  refine zw.is h11 ?_
  have main : zw (f_ArrayList_grow1 F 11 (nI (PS.length + 1)) h) (fun x => 38 ≤ x.1 ∧ x.2[11]? = some (.inr (10, [.inl mc, .inr (.inl (some x.1)), .inl (nI PS.length)])) ∧ (∃ (j : Option Nat) (js : List (Option Nat)), x.2[x.1]? = some (.inl (4, .inr (.inr (.inr (PS.map (fun x => some x.1) ++ j :: js))))) ∧ (∀ y, some y ∉ j :: js) ∧ PS.length + js.length + 1 ∈ [10, 15, 22, 33, 49, 73]) ∧ zz_fr [11] h x.2) := by
    unfold f_ArrayList_grow1
    refine zw.ga h11 rfl ?_
    rcases h5 with ⟨rfl, rfl⟩ | ⟨h6, h7, h8⟩
    · refine zw.lenq h0 (by decide) ?_
      refine zw.ifn (by decide) ?_
      refine zw.ga h11 rfl ?_
      refine zw.ifp rfl ?_
      refine zw.na 10 (by decide) (by decide) (by decide) ?_
      refine zw.pa (q_app h11) (Nat.le_of_ble_eq_true rfl) fun h1 s1 => ?_
      refine zw.ret ⟨hl, s1.1, ⟨none, List.replicate 9 none, ?_, ?_, by simp⟩, zz_fr.app.tr (s1.fr (by simp))⟩
      · refine (s1.2.1 h.length (by omega)).trans (q_new.trans ?_)
        rfl
      · intro y hy
        simp at hy
    · refine zw.lenq h7 (by decide) ?_
      rw [List.length_map]
      have hc : 10 ≤ PS.length := by
        simp at h8
        omega
      refine zw.ifp (nI_lt (a := 0) (by omega) (by omega)) ?_
      unfold f_ArrayList_grow1_20
      have e1 : nI (PS.length + 1) - nI PS.length = 1 := by
        rw [pk_sub (by omega), show PS.length + 1 - PS.length = 1 by omega]
        rfl
      have e2 : nI PS.length >>> (1 &&& 31) = nI (PS.length / 2) := pk_shrN (by omega) _ 1 (by decide)
      have e3 : f_ArraysSupport_newLength F (nI PS.length) 1 (nI (PS.length / 2)) h = some (nI (PS.length + PS.length / 2), h) := by
        unfold f_ArraysSupport_newLength
        rw [if_pos (show (1 : Int32) < nI (PS.length / 2) from nI_lt (a := 1) (by omega) (by omega)), nI_add, if_neg (nI_nle (by omega) (by omega)), if_neg (show ¬ (2147483639 : Int32) < nI _ from nI_nlt (a := 2147483639) (by omega) (by decide))]
      rw [e1, e2]
      refine zw.cbe e3 ?_
      refine zw.ga h11 rfl ?_
      have hnew : PS.length + PS.length / 2 ≤ 80 := by
        simp at h8
        omega
      have cp : zw (f_Arrays_copyOf F al (nI (PS.length + PS.length / 2)) h) (fun x => x.1 = h.length ∧ x.2[h.length]? = some (.inl (4, .inr (.inr (.inr (PS.map (fun x => some x.1) ++ List.replicate (PS.length / 2) none))))) ∧ zz_fr [] h x.2) := by
        unfold f_Arrays_copyOf
        have e4 : hp_refs1 h al = some (PS.map (fun x => some x.1)) := by
          unfold hp_refs1 hp_refs
          simp only [h7, if_true]
          show (if (PS.map (fun x => some x.1)).length = 0 then none else _) = _
          rw [if_neg (by rw [List.length_map]; omega)]
        rw [e4]
        refine zw.na (PS.length + PS.length / 2) rfl hnew (by omega) ?_
        refine zw.lenq (q_app h7) (by decide) ?_
        rw [List.length_map, if_neg (nI_nlt (by omega) (by omega))]
        have h2' : ∀ x ∈ PS, zr (h ++ [.inl (4, hp_zero 4 (PS.length + PS.length / 2))]) T x.1 x.2 := fun x hx => (h2 x hx).fr (W := []) zz_fr.app (by simp)
        have hall := zz_runs_is (js := []) h2' (by simp)
        rw [List.append_nil] at hall
        have hz : hp_zero 4 (PS.length + PS.length / 2) = .inr (.inr (.inr (List.replicate (PS.length + PS.length / 2) none))) := rfl
        have hb : (h ++ [(.inl (4, hp_zero 4 (PS.length + PS.length / 2)) : hh_C)])[h.length]? = some (.inl (4, .inr (.inr (.inr (List.replicate (PS.length + PS.length / 2) none))))) := by
          rw [q_new, hz]
        refine zw.cbe (q_cp (sp := 0) (dp := 0) (n := PS.length) (q_app h7) hb (by simp) (by simp) (by rw [List.length_map]; omega) (by rw [List.length_replicate]; omega) (by simp; omega) (by simp; omega) hall) ?_
        have e6 := zz_cpl_app (f := PS.map (fun x => some x.1)) (m := PS.length + PS.length / 2) (by simp)
        rw [List.length_map] at e6
        rw [e6]
        refine zw.ret ⟨rfl, ?_, ?_⟩
        · rw [q_get hb, show PS.length + PS.length / 2 - PS.length = PS.length / 2 by omega]
        · refine ⟨by simp, fun i hi _ => ?_⟩
          rw [q_set (by omega), List.getElem?_append_left hi]
      refine zw.cb cp ?_
      rintro q h1 ⟨g1, g2, g3⟩
      have g1 : q = h.length := g1
      subst g1
      refine zw.pa (g3.at h11 (by simp)) (Nat.le_of_ble_eq_true rfl) fun h4 s4 => ?_
      refine zw.ret ⟨hl, s4.1, ⟨none, List.replicate (PS.length / 2 - 1) none, ?_, ?_, ?_⟩, (g3.mono (by simp)).tr (s4.fr (by simp))⟩
      · refine (s4.2.1 h.length (by omega)).trans (g2.trans ?_)
        have : List.replicate (PS.length / 2) (none : Option Nat) = none :: List.replicate (PS.length / 2 - 1) none := by
          rw [← List.replicate_succ]
          congr 1
          omega
        rw [this]
      · intro y hy
        simp at hy
      · rw [List.length_replicate]
        simp at h8 ⊢
        omega
  rw [nI_1]
  refine zw.cb main ?_
  rintro q h1 hq
  exact zw.ret hq
theorem s_AL_add (H : zL h T R) (hl : 38 ≤ h.length) (hR : R.length ≤ 59) {k p : Nat} {r : Nat × Nat × Nat} (hk : k ≤ R.length) (hr : zr h T p r) :
    zw (f_ArrayList_add F 11 (nI k) p h) (fun x => zL x.2 T (R.take k ++ r :: R.drop k) ∧ zz_fx [11] h x.2) := by
  obtain ⟨PS, al, js, mc, h1, h2, h3, h4, h5⟩ := H
  subst h1
  rw [List.length_map] at hR hk
  unfold f_ArrayList_add
  refine zw.is h3 ?_
  have e1 : f_ArrayList_rangeCheckForAdd F 11 (nI k) h = some ((), h) := by
    unfold f_ArrayList_rangeCheckForAdd
    rw [q_gi h3 rfl]
    show (if nI PS.length < nI k then _ else _) = _
    rw [if_neg (nI_nlt hk (by omega)), if_pos (nI_pos' (by omega))]
  refine zw.cbe e1 ?_
  refine zw.gi h3 rfl ?_
  refine zw.pi h3 (Nat.le_of_ble_eq_true rfl) fun h6 s6 => ?_
  refine zw.gi s6.1 rfl ?_
  refine zw.ga s6.1 rfl ?_
  have f6 : zz_fr [11] h h6 := s6.fr (by simp)
  have h2' : ∀ x ∈ PS, zr h6 T x.1 x.2 := fun x hx => (h2 x hx).fr f6 (by decide)
  have hr' : zr h6 T p r := hr.fr f6 (by decide)
  have h0' : h6[0]? = some hh_nil := f6.at h4 (by decide)
  have tail : ∀ (al' : Nat) (j : Option Nat) (js' : List (Option Nat)) (h7 : hh_H) (mc' : Int32), h7[11]? = some (.inr (10, [.inl mc', .inr (.inl (some al')), .inl (nI PS.length)])) → 38 ≤ al' → h7[al']? = some (.inl (4, .inr (.inr (.inr (PS.map (fun x => some x.1) ++ j :: js'))))) → PS.length + js'.length + 1 ∈ [10, 15, 22, 33, 49, 73] → (∀ y, some y ∉ j :: js') → zz_fr [11] h6 h7 →
      zw (f_ArrayList_add_38 F 11 (nI k) p (nI PS.length) al' h7) (fun x => zL x.2 T ((PS.map (fun x => x.2)).take k ++ r :: (PS.map (fun x => x.2)).drop k) ∧ zz_fx [11] h x.2) := by
    intro al' j js' h7 mc' c1 c2 c3 c4 c5 f7
    have h2'' : ∀ x ∈ PS, zr h7 T x.1 x.2 := fun x hx => (h2' x hx).fr f7 (by decide)
    have hr'' : zr h7 T p r := hr'.fr f7 (by decide)
    refine (s_add38 c1 c2 c3 (by simp at c4; omega) h2'' c5 hr'' hk).mono ?_
    rintro x ⟨q1, q2, q3, q4⟩
    have hW : ∀ y ∈ [11, al'], y < 38 ∨ ∃ l, h7[y]? = some (.inl (4, l)) := by
      intro y hy
      simp at hy
      rcases hy with rfl | rfl
      · exact Or.inl (by decide)
      · exact Or.inr ⟨_, c3⟩
    refine ⟨⟨PS.take k ++ (p, r) :: PS.drop k, al', js', mc', ?_, ?_, ?_, ?_, Or.inr ⟨c2, q2, ?_, fun y hy => c5 y (List.mem_cons_of_mem _ hy)⟩⟩, ?_⟩
    · simp [List.map_take, List.map_drop]
    · intro y hy
      rcases List.mem_append.mp hy with hy | hy
      · exact (h2'' y (List.mem_of_mem_take hy)).fr2 q3 hW
      · rcases List.mem_cons.mp hy with rfl | hy
        · exact hr''.fr2 q3 hW
        · exact (h2'' y (List.mem_of_mem_drop hy)).fr2 q3 hW
    · rw [q1]
      have : (PS.take k ++ (p, r) :: PS.drop k).length = PS.length + 1 := by simp; omega
      rw [this]
    · exact q3.at (f7.at h0' (by decide)) (by simp; omega)
    · have : (PS.take k ++ (p, r) :: PS.drop k).length + js'.length = PS.length + js'.length + 1 := by simp; omega
      rw [this]
      exact c4
    · refine (f6.fx hl).tr ((f7.fx (by rw [s6.2.2]; exact hl)).tr ⟨Nat.le_of_eq q4.symm, fun i hi hn => q3.2 i (by have := f7.1; have := s6.2.2; omega) (by simp at hn ⊢; omega)⟩)
  rcases h5 with ⟨rfl, rfl⟩ | ⟨h5, h6', h7, hjn⟩
  · refine zw.lenq h0' (by decide) ?_
    refine zw.ifp rfl ?_
    refine zw.is s6.1 ?_
    refine zw.cb (s_grow s6.1 h0' (by rw [s6.2.2]; exact hl) (by simp) h2' (Or.inl ⟨rfl, rfl⟩)) ?_
    rintro q h7 ⟨g1, g2, ⟨j, js', g3, g4, g5⟩, g6⟩
    exact tail q j js' h7 _ g2 g1 g3 g5 g4 g6
  · have h6'' := s6.at h6' (by omega)
    refine zw.lenq h6'' (by decide) ?_
    rw [List.length_append, List.length_map]
    have hjs : PS.length + js.length ≤ 73 := by
      simp at h7
      omega
    cases js with
    | nil =>
      refine zw.ifp (by simp) ?_
      refine zw.is s6.1 ?_
      rw [List.append_nil] at h6''
      refine zw.cb (s_grow s6.1 h0' (by rw [s6.2.2]; exact hl) hR h2' (Or.inr ⟨h5, h6'', by simpa using h7⟩)) ?_
      rintro q h7 ⟨g1, g2, ⟨j, js', g3, g4, g5⟩, g6⟩
      exact tail q j js' h7 _ g2 g1 g3 g5 g4 g6
    | cons j js =>
      simp only [List.length_cons] at hjs h7 ⊢
      refine zw.ifn (fun q => by have := (nI_eq (by omega) (by omega)).mp q; omega) ?_
      exact tail al j js h6 _ s6.1 h5 h6'' h7 hjn (zz_fr.rf _ _)
theorem s_AL_remove (H : zL h T R) (hl : 38 ≤ h.length) (hR : R.length ≤ 60) {A B : List (Nat × Nat × Nat)} {r : Nat × Nat × Nat} (hAB : R = A ++ r :: B) :
    zw (f_ArrayList_remove F 11 (nI A.length) h) (fun x => zL x.2 T (A ++ B) ∧ zz_fx [11] h x.2) := by
  obtain ⟨PS, al, js, mc, h1, h2, h3, h4, h5⟩ := H
  rw [h1] at hAB
  obtain ⟨PA, PB, rfl, hA, hB⟩ := List.map_eq_append_iff.mp hAB
  obtain ⟨y, PB, rfl, hy, hB2⟩ := List.map_eq_cons_iff.mp hB
  subst hA hy hB2 h1
  clear hB hAB
  rw [List.length_map] at hR ⊢
  have hlen : (PA ++ y :: PB).length = PA.length + PB.length + 1 := by simp; omega
  rw [hlen] at h3 hR
  rcases h5 with ⟨_, h5⟩ | ⟨h5, h6, h7, hjn⟩
  · simp at h5
  · rw [hlen] at h7
    have hcap : PA.length + PB.length + 1 + js.length ≤ 73 := by
      simp at h7
      omega
    unfold f_ArrayList_remove
    refine zw.gi h3 rfl ?_
    have e1 : f_Objects_checkIndex F (nI PA.length) (nI (PA.length + PB.length + 1)) h = some (nI PA.length, h) := by
      unfold f_Objects_checkIndex f_Preconditions_checkIndex
      rw [if_neg (nI_pos (by omega)), if_pos (nI_lt (by omega) (by omega)), q_cb]
    refine zw.cbe e1 ?_
    refine zw.ga h3 rfl ?_
    refine zw.aq (w := y.1) h6 PA.length rfl (by omega) (by simp) ?_
    refine zw.is h3 ?_
    unfold f_ArrayList_fastRemove
    have e6 : (PA ++ y :: PB).map (fun x => some x.1) ++ js = PA.map (fun x => some x.1) ++ (some y.1 :: PB.map (fun x => some x.1) ++ js) := by simp
    have hlp : (PA.map (fun x => some x.1)).length = PA.length := by simp
    have hlq : (PB.map (fun x => some x.1)).length = PB.length := by simp
    have main : zw ((hp_gi h 11 10 0).bind fun v5 => (hp_pi h 11 10 0 (v5 + 1)).bind fun h7 => (hp_gi h7 11 10 2).bind fun v9 =>
        if (v9 - 1) ≤ nI PA.length then f_ArrayList_fastRemove_34 F 11 al (v9 - 1) h7
        else hp_cb (hp_cp h7 al (nI PA.length + 1) al (nI PA.length) ((v9 - 1) - nI PA.length)) fun q12 h13 => f_ArrayList_fastRemove_34 F 11 al (v9 - 1) h13)
        (fun x => zL x.2 T (PA.map (fun x => x.2) ++ PB.map (fun x => x.2)) ∧ zz_fx [11] h x.2) := by
      refine zw.gi h3 rfl ?_
      refine zw.pi h3 (Nat.le_of_ble_eq_true rfl) fun h8 s8 => ?_
      refine zw.gi s8.1 rfl ?_
      rw [nI_pred]
      have f8 : zz_fr [11] h h8 := s8.fr (by simp)
      have tail : ∀ (l : List (Option Nat)) (h9 : hh_H), h9[al]? = some (.inl (4, .inr (.inr (.inr l)))) → l.length = PA.length + PB.length + 1 + js.length → l.set (PA.length + PB.length) none = PA.map (fun x => some x.1) ++ (PB.map (fun x => some x.1) ++ none :: js) → zz_fr [al] h8 h9 → h9.length = h8.length →
          zw (f_ArrayList_fastRemove_34 F 11 al (nI (PA.length + PB.length)) h9) (fun x => zL x.2 T (PA.map (fun x => x.2) ++ PB.map (fun x => x.2)) ∧ zz_fx [11] h x.2) := by
        intro l h9 c1 c2 c3 f9 l9
        unfold f_ArrayList_fastRemove_34
        refine zw.pi (f9.at s8.1 (by simp; omega)) (Nat.le_of_ble_eq_true rfl) fun h10 s10 => ?_
        refine zw.sq (s10.at c1 (by omega)) (PA.length + PB.length) rfl (by omega) (by omega) fun h12 s12 => ?_
        have ft : zz_fr [11, al] h h12 := ((f8.mono (by simp)).tr (f9.mono (by simp))).tr ((s10.fr (by simp)).tr (s12.fr (by simp)))
        have hW : ∀ y ∈ [11, al], y < 38 ∨ ∃ l, h[y]? = some (.inl (4, l)) := by
          intro y hy
          simp at hy
          rcases hy with rfl | rfl
          · exact Or.inl (by decide)
          · exact Or.inr ⟨_, h6⟩
        refine zw.ret ⟨⟨PA ++ PB, al, none :: js, mc + 1, by simp, fun x hx => ?_, ?_, ft.at h4 (by simp; omega), Or.inr ⟨h5, ?_, ?_, ?_⟩⟩, ⟨ft.1, fun i hi hn => ft.2 i (by omega) (by simp at hn ⊢; omega)⟩⟩
        · refine (h2 x ?_).fr2 ft hW
          rcases List.mem_append.mp hx with hx | hx
          · exact List.mem_append_left _ hx
          · exact List.mem_append_right _ (List.mem_cons_of_mem _ hx)
        · refine (s12.2.1 11 (by omega)).trans (s10.1.trans ?_)
          rw [List.length_append]
          rfl
        · refine s12.1.trans ?_
          rw [c3]
          simp
        · rw [List.length_append, List.length_cons, show PA.length + PB.length + (js.length + 1) = PA.length + PB.length + 1 + js.length by omega]
          exact h7
        · intro y hy
          rcases List.mem_cons.mp hy with hy | hy
          · cases hy
          · exact hjn y hy
      have c8 := s8.at h6 (by omega)
      rw [e6] at c8
      cases PB with
      | nil =>
        refine zw.ifp (nI_le (by simp) (by simp at hR ⊢; omega)) ?_
        refine tail _ h8 c8 (by simp; omega) ?_ (zz_fr.rf _ _) rfl
        rw [List.set_append_right _ _ (by simp)]
        simp
      | cons z PB =>
        simp only [List.length_cons] at hlen hR h7 hcap hlq tail ⊢
        refine zw.ifn (nI_ge (by omega) (by omega)) ?_
        have e7 : nI PA.length + 1 = nI (PA.length + 1) := nI_1 _
        have e8 : nI (PA.length + (PB.length + 1)) - nI PA.length = nI (PB.length + 1) := by
          rw [pk_sub (by omega)]
          congr 1
          omega
        rw [e7, e8]
        have hl8 : (PA.map (fun x => some x.1) ++ (some y.1 :: (z :: PB).map (fun x => some x.1) ++ js)).length = PA.length + (PB.length + 1) + 1 + js.length := by simp; omega
        have h2' : ∀ x ∈ PA ++ y :: z :: PB, zr h8 T x.1 x.2 := fun x hx => (h2 x hx).fr f8 (by decide)
        have hall := zz_runs_is h2' hjn
        rw [e6] at hall
        refine zw.cbe (q_cp c8 c8 (by omega) (by omega) (by omega) (by omega) (by omega) (by omega) hall) ?_
        have s9 := zz_st.of (c := .inl (4, .inr (.inr (.inr (hp_cpl (PA.map (fun x => some x.1) ++ (some y.1 :: (z :: PB).map (fun x => some x.1) ++ js)) (PA.map (fun x => some x.1) ++ (some y.1 :: (z :: PB).map (fun x => some x.1) ++ js)) (PA.length + 1) PA.length (PB.length + 1)))))) c8
        refine tail _ _ s9.1 (by rw [zz_cpl_len]; exact hl8) ?_ (s9.fr (by simp)) s9.2.2
        have := zz_cpl_del (A := PA.map (fun x => some x.1)) (B := (z :: PB).map (fun x => some x.1)) (js := js) (y := some y.1)
        rw [hlp, hlq] at this
        exact this
    refine zw.cb main ?_
    rintro q h1 hq
    exact zw.ret hq
end List
