-- Documents: dropped flags, size, live
def zz_b01 (b : Bool) : Int32 := if b then 1 else 0
/-- Documents at place a, its flags at b: dr has a flag for each document -/
def zD (h : hh_H) (a b : Nat) (dr : List Bool) : Prop :=
  dr.length ≤ 40 ∧ h[a]? = some (.inr (3, [.inr (.inl (some b)), .inl (nI dr.length), .inl (nI (dr.filter (fun x => !x)).length)])) ∧
    ∃ js : List Int32, h[b]? = some (.inl (1, .inl (dr.map zz_b01 ++ js))) ∧ dr.length + js.length = 40 ∧ ∀ x ∈ js, x = 0
section Docs
variable {h : hh_H} {a b F : Nat} {dr : List Bool}
theorem zD.keep {h' : hh_H} (H : zD h a b dr) (h1 : h'[a]? = h[a]?) (h2 : h'[b]? = h[b]?) : zD h' a b dr := by
  obtain ⟨g1, g2, js, g3, g4⟩ := H
  exact ⟨g1, by rw [h1]; exact g2, js, by rw [h2]; exact g3, g4⟩
theorem zD.fr {W : List Nat} {h' : hh_H} (H : zD h a b dr) (f : zz_fr W h h') (ha : a ∉ W) (hb : b ∉ W) : zD h' a b dr := by
  obtain ⟨g1, g2, js, g3, g4⟩ := H
  exact ⟨g1, f.at g2 ha, js, f.at g3 hb, g4⟩
theorem s_Documents_size (H : zD h a b dr) : f_Documents_size F a h = some (nI dr.length, h) := by
  obtain ⟨g1, g2, js, g3, g4, g5⟩ := H
  unfold f_Documents_size
  rw [q_gi g2 rfl]
  rfl
theorem s_Documents_live (H : zD h a b dr) : f_Documents_live F a h = some (nI (dr.filter (fun x => !x)).length, h) := by
  obtain ⟨g1, g2, js, g3, g4, g5⟩ := H
  unfold f_Documents_live
  rw [q_gi g2 rfl]
  rfl
theorem s_Documents_isLive (H : zD h a b dr) (d : Nat) (hd : d < 2 ^ 31) : f_Documents_isLive F a (nI d) h = some (if dr[d]? = some false then 1 else 0, h) := by
  obtain ⟨g1, g2, js, g3, g4, g5⟩ := H
  unfold f_Documents_isLive
  rw [if_neg (nI_pos hd), q_gi g2 rfl]
  show (if nI dr.length ≤ nI d then _ else _) = _
  by_cases h1 : dr.length ≤ d
  · rw [if_pos (nI_le h1 hd), List.getElem?_eq_none h1]
    simp
  · have h1' : d < dr.length := Nat.not_le.mp h1
    rw [if_neg (nI_ge h1' (by omega)), q_ga g2 rfl]
    show ((hp_len h b).bind _) = _
    rw [q_len g3 (by decide)]
    show (if nI (dr.map zz_b01 ++ js).length ≤ nI d then _ else _) = _
    have hl : (dr.map zz_b01 ++ js).length = 40 := by simp [g4]
    rw [hl, if_neg (nI_ge (by omega) (by decide))]
    show ((hp_az h b (nI d)).bind _) = _
    have hx : (dr.map zz_b01 ++ js)[d]? = some (zz_b01 dr[d]) := by
      rw [List.getElem?_append_left (by simp [h1'])]
      simp [h1']
    rw [q_az g3 hd hx, List.getElem?_eq_getElem h1']
    show (if zz_b01 dr[d] = 0 then _ else _) = _
    cases dr[d] <;> rfl
theorem s_Documents_isLive_neg (H : zD h a b dr) {x : Int32} (hx : x < 0) : f_Documents_isLive F a x h = some (0, h) := by
  unfold f_Documents_isLive
  rw [if_pos hx]
theorem s_Documents_addNext (hab : a ≠ b) (H : zD h a b dr) (hl : dr.length < 40) : zw (f_Documents_addNext F a h) (fun r => r.1 = nI dr.length ∧ zD r.2 a b (dr ++ [false]) ∧ zz_fr [a] h r.2 ∧ r.2.length = h.length) := by
  obtain ⟨g1, g2, js, g3, g4, g5⟩ := H
  unfold f_Documents_addNext
  refine zw.gi g2 rfl ?_
  refine zw.pi g2 (Nat.le_of_ble_eq_true rfl) fun h1 s1 => ?_
  refine zw.gi s1.1 rfl ?_
  refine zw.pi s1.1 (Nat.le_of_ble_eq_true rfl) fun h2 s2 => ?_
  refine zw.gi s2.1 rfl ?_
  refine zw.ret ⟨?_, ⟨by simp; omega, ?_, ?_⟩, (s1.fr List.mem_cons_self).tr (s2.fr List.mem_cons_self), by rw [s2.2.2, s1.2.2]⟩
  · show nI dr.length + 1 - 1 = nI dr.length
    rw [nI_1, nI_pred]
  · refine s2.1.trans ?_
    simp [nI_1]
  · cases js with
    | nil => simp at g4; omega
    | cons j js =>
      refine ⟨js, ?_, by simp at g4 ⊢; omega, fun x hx => g5 x (List.mem_cons_of_mem _ hx)⟩
      rw [s2.2.1 b (Ne.symm hab), s1.2.1 b (Ne.symm hab), g3, g5 j List.mem_cons_self]
      simp [zz_b01]
theorem zz_flags_set {dr : List Bool} {d : Nat} (hd : dr[d]? = some false) : ((dr.set d true).filter (fun x => !x)).length + 1 = (dr.filter (fun x => !x)).length := by
  induction dr generalizing d with
  | nil => simp at hd
  | cons x dr ih =>
    cases d with
    | zero =>
      simp at hd
      subst hd
      simp
    | succ d =>
      simp at hd
      have := ih hd
      cases x <;> simp [List.set_cons_succ, List.filter_cons] <;> omega
theorem s_Documents_leaveOut (hab : a ≠ b) (H : zD h a b dr) {d : Nat} (hd : dr[d]? = some false) : zw (f_Documents_leaveOut F a (nI d) h) (fun r => zD r.2 a b (dr.set d true) ∧ zz_fr [a, b] h r.2 ∧ r.2.length = h.length) := by
  have hlt : d < dr.length := (List.getElem?_eq_some_iff.mp hd).1
  have hL := s_Documents_isLive (F := F) H d (by have := H.1; omega)
  obtain ⟨g1, g2, js, g3, g4, g5⟩ := H
  unfold f_Documents_leaveOut
  refine zw.is g2 ?_
  refine zw.cbe hL ?_
  rw [if_pos hd]
  refine zw.ifn (by decide) ?_
  refine zw.ga g2 rfl ?_
  refine zw.sz g3 d rfl (by simp; omega) (by omega) fun h1 s1 => ?_
  have c1 := s1.at g2 hab
  refine zw.gi c1 rfl ?_
  refine zw.pi c1 (Nat.le_of_ble_eq_true rfl) fun h2 s2 => ?_
  refine zw.ret ⟨⟨by simp; exact g1, ?_, ?_⟩, (s1.fr (by simp)).tr (s2.fr (by simp)), by rw [s2.2.2, s1.2.2]⟩
  · refine s2.1.trans ?_
    have := zz_flags_set hd
    rw [← this]
    show some (Sum.inr (3, [_, _, Sum.inl (nI _ - 1)])) = _
    rw [nI_pred]
    simp
  · refine ⟨js, ?_, by simp; exact g4, g5⟩
    refine (s2.2.1 b (Ne.symm hab)).trans (s1.1.trans ?_)
    rw [List.set_append_left _ _ (by simp; exact hlt), List.map_set]
    rfl
end Docs
