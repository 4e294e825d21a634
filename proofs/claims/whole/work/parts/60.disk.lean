-- the disk: its object at 7, cells at 8, flags at 9
section WpNew
variable {σ : Type} {Q : σ → Prop} {h : hh_H} {t bd : Nat}
theorem zw.na {f : Nat → hh_H → Option σ} {x : Int32} (n : Nat) (hx : x = nI n) (hn : n ≤ bd) (hb : n < 2 ^ 31) (kk : zw (f h.length (h ++ [.inl (t, hp_zero t n)])) Q) : zw (hp_cb (hp_na h t x bd) f) Q := by
  rw [hx, q_na hn hb]
  exact kk
theorem zw.new {f : Nat → hh_H → Option σ} {ci : Nat} (kk : zw (f h.length (h ++ [.inr (ci, hh_dfl ci)])) Q) : zw (hp_cb (hp_new h ci) f) Q := kk
end WpNew
def zz_row (n : Nat) (f : Nat → Int32) : List Int32 := (List.range n).map f
theorem zz_row_len' (n : Nat) (f : Nat → Int32) : (zz_row n f).length = n := by simp [zz_row]
theorem zz_row_get {n : Nat} {f : Nat → Int32} {k : Nat} (h : k < n) : (zz_row n f)[k]? = some (f k) := by simp [zz_row, h]
theorem zz_row_set {n : Nat} {f : Nat → Int32} {k : Nat} {x : Int32} : (zz_row n f).set k x = zz_row n (fun j => if j = k then x else f j) := by
  apply List.ext_getElem?
  intro i
  rw [List.getElem?_set]
  by_cases h : k = i
  · subst h
    rw [if_pos rfl, zz_row_len']
    by_cases h2 : k < n
    · rw [if_pos h2, zz_row_get h2, if_pos rfl]
    · rw [if_neg h2, List.getElem?_eq_none (by rw [zz_row_len']; omega)]
  · rw [if_neg h]
    by_cases h2 : i < n
    · rw [zz_row_get h2, zz_row_get h2, if_neg (Ne.symm h)]
    · rw [List.getElem?_eq_none (by rw [zz_row_len']; omega), List.getElem?_eq_none (by rw [zz_row_len']; omega)]
theorem zz_row_eq {n : Nat} {f g : Nat → Int32} (h : ∀ k, k < n → f k = g k) : zz_row n f = zz_row n g := by
  unfold zz_row
  exact List.map_congr_left (fun k hk => h k (List.mem_range.mp hk))
def zK0 (h : hh_H) (nb u : Nat) (f : Nat → Int32) : Prop :=
  h[7]? = some (.inr (2, [.inr (.inl (some 8)), .inr (.inl (some 9)), .inl (nI (zz_free nb u).length)])) ∧ h[8]? = some (.inl (0, .inl (zz_row (16 * nb) f))) ∧ h[9]? = some (.inl (1, .inl (zz_row nb (fun b => zz_b01 (u.testBit b)))))
def zK (h : hh_H) (nb : Nat) (T : List (List Nat)) (R : List (Nat × Nat × Nat)) : Prop :=
  ∃ f : Nat → Int32, zK0 h nb (zz_ub R) f ∧ zz_okB nb T R ∧ (∀ r ∈ R, ∀ j b, (zz_bl r.2.1)[j]? = some b → ∀ i, i < 16 → f (16 * b + i) = nI ((zz_enc T r.2.2).getD (16 * j + i) 0)) ∧ ∀ b, b < nb → (zz_ub R).testBit b = false → ∀ i, i < 16 → f (16 * b + i) = 0
section Disk
variable {h : hh_H} {F nb u : Nat} {f : Nat → Int32} {T : List (List Nat)} {R : List (Nat × Nat × Nat)}
theorem zK0.fr {W : List Nat} {h' : hh_H} (H : zK0 h nb u f) (g : zz_fr W h h') (h7 : 7 ∉ W) (h8 : 8 ∉ W) (h9 : 9 ∉ W) : zK0 h' nb u f := ⟨g.at H.1 h7, g.at H.2.1 h8, g.at H.2.2 h9⟩
theorem zK.fr {W : List Nat} {h' : hh_H} (H : zK h nb T R) (g : zz_fr W h h') (h7 : 7 ∉ W) (h8 : 8 ∉ W) (h9 : 9 ∉ W) : zK h' nb T R := by
  obtain ⟨f, H0, H1⟩ := H
  exact ⟨f, H0.fr g h7 h8 h9, H1⟩
theorem zK.keep {h' : hh_H} (H : zK h nb T R) (h7 : h'[7]? = h[7]?) (h8 : h'[8]? = h[8]?) (h9 : h'[9]? = h[9]?) : zK h' nb T R := by
  obtain ⟨f, H0, H1⟩ := H
  exact ⟨f, ⟨h7.trans H0.1, h8.trans H0.2.1, h9.trans H0.2.2⟩, H1⟩
theorem zK.mid {A B : List (Nat × Nat × Nat)} {r : Nat × Nat × Nat} : zK h nb T (r :: (A ++ B)) ↔ zK h nb T (A ++ r :: B) := by
  unfold zK
  rw [zz_ub_mid, zz_okB.mid]
  constructor
  · rintro ⟨f, h1, h2, h3, h4⟩
    exact ⟨f, h1, h2, fun x hx => h3 x (zz_mem_mid.mpr hx), h4⟩
  · rintro ⟨f, h1, h2, h3, h4⟩
    exact ⟨f, h1, h2, fun x hx => h3 x (zz_mem_mid.mp hx), h4⟩
theorem zK.app {t : List Nat} (H : zK h nb T R) (hm : ∀ r ∈ R, ∀ d, r.2.2.testBit d = true → d < T.length) : zK h nb (T ++ [t]) R := by
  obtain ⟨f, h1, h2, h3, h4⟩ := H
  refine ⟨f, h1, ⟨fun r hr => ⟨(h2.1 r hr).1, ?_⟩, h2.2⟩, fun r hr => ?_, h4⟩
  · rw [(h2.1 r hr).2]
    unfold zz_nd
    rw [zz_enc_app (hm r hr)]
  · rw [zz_enc_app (hm r hr)]
    exact h3 r hr
theorem s_Disk_free (H : zK h nb T R) : f_Disk_free F 7 h = some (nI (zz_free nb (zz_ub R)).length, h) := by
  obtain ⟨f, H0, H1⟩ := H
  unfold f_Disk_free
  rw [q_gi H0.1 rfl]
  rfl
theorem s_blocksFor {n : Nat} (hn : n < 2 ^ 30) : f_Disk_blocksFor F (nI n) h = some (nI ((n + 15) / 16), h) := by
  unfold f_Disk_blocksFor
  have e1 : nI n + 16 = nI (n + 15 + 1) := nI_add n 16
  rw [e1, nI_pred]
  have e2 : nI (n + 15) / 16 = nI ((n + 15) / 16) := pk_div (d := 16) (by omega) (by decide) (by decide)
  rw [e2]
theorem zz_free_le (nb u : Nat) : (zz_free nb u).length ≤ nb := by
  unfold zz_free
  exact Nat.le_trans (List.length_filter_le _ _) (by simp)
theorem s_hasRoomFor (hnb : nb ≤ 60) (H : zK h nb T R) {n : Nat} (hn : n < 2 ^ 30) : f_Disk_hasRoomFor F 7 (nI n) h = some (if (n + 15) / 16 ≤ (zz_free nb (zz_ub R)).length then 1 else 0, h) := by
  obtain ⟨f, H0, H1⟩ := H
  unfold f_Disk_hasRoomFor
  rw [s_blocksFor hn, q_cb, q_gi H0.1 rfl]
  show (if nI (zz_free nb (zz_ub R)).length < nI ((n + 15) / 16) then _ else _) = _
  have := zz_free_le nb (zz_ub R)
  by_cases hc : (n + 15) / 16 ≤ (zz_free nb (zz_ub R)).length
  · rw [if_neg (nI_nlt hc (by omega)), if_pos hc]
  · rw [if_pos (nI_lt (by omega) (by omega)), if_neg hc]
theorem s_has_in (hnb : nb ≤ 60) (H : zK h nb T R) {b i : Nat} (hb : b < nb) (hi : i < 16) : f_Disk_has F 7 (nI b) (nI i) h = some (1, h) := by
  obtain ⟨f, H0, H1⟩ := H
  unfold f_Disk_has
  rw [if_neg (nI_pos (by omega)), q_ga H0.1 rfl]
  show ((hp_len h 9).bind _) = _
  rw [q_len H0.2.2 (by decide), zz_row_len']
  show (if nI nb ≤ nI b then _ else _) = _
  rw [if_neg (nI_ge hb (by omega)), if_neg (nI_pos (by omega)), if_neg (show ¬ (16 : Int32) ≤ nI i from nI_ge (b := 16) (by omega) (by decide))]
theorem s_has_out (H : zK h nb T R) {x y : Int32} (hq : x < 0 ∨ nI nb ≤ x ∨ y < 0 ∨ 16 ≤ y) : f_Disk_has F 7 x y h = some (0, h) := by
  obtain ⟨f, H0, H1⟩ := H
  unfold f_Disk_has
  by_cases h1 : x < 0
  · rw [if_pos h1]
  · rw [if_neg h1, q_ga H0.1 rfl]
    show ((hp_len h 9).bind _) = _
    rw [q_len H0.2.2 (by decide), zz_row_len']
    show (if nI nb ≤ x then _ else _) = _
    by_cases h2 : nI nb ≤ x
    · rw [if_pos h2]
    · rw [if_neg h2]
      by_cases h3 : y < 0
      · rw [if_pos h3]
      · rw [if_neg h3]
        rcases hq with hq | hq | hq | hq
        · exact absurd hq h1
        · exact absurd hq h2
        · exact absurd hq h3
        · rw [if_pos hq]
/-- what stands in byte i of block b -/
def zz_cell (T : List (List Nat)) (R : List (Nat × Nat × Nat)) (b i v : Nat) : Prop := (∃ r ∈ R, ∃ j, (zz_bl r.2.1)[j]? = some b ∧ v = (zz_enc T r.2.2).getD (16 * j + i) 0) ∨ ((zz_ub R).testBit b = false ∧ v = 0)
theorem s_cellAt (hnb : nb ≤ 60) (H : zK h nb T R) {b i : Nat} (hb : b < nb) (hi : i < 16) : ∃ v, f_Disk_cellAt F 7 (nI b) (nI i) h = some (nI v, h) ∧ zz_cell T R b i v := by
  have h1 := s_has_in (F := F) hnb H hb hi
  obtain ⟨f, H0, H1, H2, H3⟩ := H
  have key : ∃ v, f (16 * b + i) = nI v ∧ zz_cell T R b i v := by
    cases hu : (zz_ub R).testBit b
    · exact ⟨0, H3 b hb hu i hi, Or.inr ⟨hu, rfl⟩⟩
    · obtain ⟨r, hr, hbt⟩ := zz_ub_bit.mp hu
      have hm : b ∈ zz_bl r.2.1 := zz_bl_mem.mpr ⟨by omega, hbt⟩
      obtain ⟨j, hj⟩ := List.mem_iff_getElem?.mp hm
      exact ⟨_, H2 r hr j b hj i hi, Or.inl ⟨r, hr, j, hj, rfl⟩⟩
  obtain ⟨v, hv, hc⟩ := key
  refine ⟨v, ?_, hc⟩
  unfold f_Disk_cellAt
  rw [q_is H0.1]
  show hp_cb (f_Disk_has F 7 (nI b) (nI i) h) _ = _
  rw [h1, q_cb, if_neg (by decide), q_ga H0.1 rfl]
  show ((hp_ai h 8 (nI b * 16 + nI i)).bind _) = _
  have e : nI b * 16 + nI i = nI (16 * b + i) := by
    rw [show nI b * 16 = nI (b * 16) from pk_mul b 16, nI_add]
    congr 1
    omega
  rw [e, q_ai H0.2.1 (by omega) (zz_row_get (by omega)), hv]
  rfl
-- takeLeast
theorem zz_u_set {u b : Nat} {n : Nat} : (zz_row n (fun j => if j = b then (1 : Int32) else zz_b01 (u.testBit j))) = zz_row n (fun j => zz_b01 ((u ||| 2 ^ b).testBit j)) := zz_row_eq (fun k _ => by
  rw [Nat.testBit_or, Nat.testBit_two_pow]
  by_cases h : k = b
  · subst h
    simp [zz_b01]
  · simp [h, Ne.symm h])
theorem zz_nar1 : vp_nar .boolean 1 = 1 := by decide
theorem zz_nar0 : vp_nar .boolean 0 = 0 := by decide
theorem zz_free_or {nb u b : Nat} (hb : b < nb) (hu : u.testBit b = false) : (zz_free nb (u ||| 2 ^ b)).length + 1 = (zz_free nb u).length := by
  have h1 := zz_cnt_or (p := fun x => !(u ||| 2 ^ b).testBit x) (q := fun x => x == b) (List.range nb) (by
    rintro x _ ⟨h1, h2⟩
    simp at h2
    subst h2
    rw [Nat.testBit_or, Nat.testBit_two_pow] at h1
    simp at h1)
  have h2 : (List.range nb).filter (fun x => x == b) = [b] := zz_ext (zz_up_filter (zz_up_range nb) _) (List.pairwise_singleton _ _) (fun x => by
    simp
    intro q
    omega)
  rw [h2] at h1
  unfold zz_free
  have h3 : (fun x => !(u ||| 2 ^ b).testBit x || x == b) = (fun x => !u.testBit x) := by
    funext x
    rw [Nat.testBit_or, Nat.testBit_two_pow]
    by_cases hx : x = b
    · subst hx
      simp [hu]
    · simp [hx, Ne.symm hx]
  rw [h3] at h1
  simpa using h1.symm
theorem s_take_loop (hnb : nb ≤ 60) {q wanted u0 : Nat} (hq : 9 < q) : ∀ (k n j : Nat) (A : List Nat) (js : List Int32) (u1 : Nat) (h1 : hh_H), j + k = nb → k < n → A.length + js.length = wanted → wanted ≤ 60 → (∀ b, j ≤ b → u1.testBit b = u0.testBit b) → zK0 h1 nb u1 f → h1[q]? = some (.inl (0, .inl (A.map nI ++ js))) →
    wanted ≤ A.length + ((List.range' j k).filter (fun b => !u0.testBit b)).length →
    zw (hp_it (fun _ _ _ _ _ _ => none) (f_Disk_takeLeast_9 F) n 7 (nI wanted) q (nI A.length) (nI j) h1) (fun r => r.1 = q ∧ ∃ A', A' = ((List.range' j k).filter (fun b => !u0.testBit b)).take js.length ∧ zK0 r.2 nb (u1 ||| zz_bs A') f ∧ r.2[q]? = some (.inl (0, .inl ((A ++ A').map nI))) ∧ zz_fr [7, 9, q] h1 r.2 ∧ r.2.length = h1.length) := by
  intro k
  induction k with
  | zero =>
    intro n j A js u1 h1 hj hn hw hw60 hu H0 hA hr
    obtain ⟨n, rfl⟩ : ∃ m, n = m + 1 := ⟨n - 1, by omega⟩
    rw [hp_it_s]
    unfold f_Disk_takeLeast_9
    refine zw.ga H0.1 rfl ?_
    refine zw.len H0.2.2 (by decide) ?_
    rw [zz_row_len']
    refine zw.ifp (nI_le (by omega) (by omega)) ?_
    simp at hr
    have : js = [] := List.length_eq_zero_iff.mp (by omega)
    subst this
    refine zw.ret ⟨rfl, [], by simp, by simpa [zz_bs] using H0, by simpa using hA, zz_fr.rf _ _, rfl⟩
  | succ k ih =>
    intro n j A js u1 h1 hj hn hw hw60 hu H0 hA hr
    obtain ⟨n, rfl⟩ : ∃ m, n = m + 1 := ⟨n - 1, by omega⟩
    rw [hp_it_s]
    unfold f_Disk_takeLeast_9
    refine zw.ga H0.1 rfl ?_
    refine zw.len H0.2.2 (by decide) ?_
    rw [zz_row_len']
    refine zw.ifn (nI_ge (by omega) (by omega)) ?_
    cases js with
    | nil =>
      simp at hw
      refine zw.ifp (nI_le (by omega) (by omega)) ?_
      refine zw.ret ⟨rfl, [], by simp, by simpa [zz_bs] using H0, by simpa using hA, zz_fr.rf _ _, rfl⟩
    | cons x js =>
      simp only [List.length_cons] at hw
      refine zw.ifn (nI_ge (by omega) (by omega)) ?_
      refine zw.ga H0.1 rfl ?_
      refine zw.az H0.2.2 j rfl (by omega) (zz_row_get (by omega)) ?_
      rw [List.range'_succ, List.filter_cons] at hr ⊢
      have huj := hu j (Nat.le_refl _)
      cases hb : u0.testBit j
      · rw [hb] at huj
        rw [huj]
        refine zw.ifp rfl ?_
        refine zw.ga H0.1 rfl ?_
        refine zw.sz H0.2.2 j rfl (by rw [zz_row_len']; omega) (by omega) fun h2 s2 => ?_
        have c7 := s2.at H0.1 (by decide)
        refine zw.gi c7 rfl ?_
        refine zw.pi c7 (Nat.le_of_ble_eq_true rfl) fun h3 s3 => ?_
        have cA := s3.at (s2.at hA (by omega)) (by omega)
        refine zw.si cA A.length rfl (by simp) (by omega) fun h4 s4 => ?_
        have hfl := zz_free_or (nb := nb) (u := u1) (b := j) (by omega) huj
        have H4 : zK0 h4 nb (u1 ||| 2 ^ j) f := by
          refine ⟨?_, ?_, ?_⟩
          · refine (s4.2.1 7 (by omega)).trans (s3.1.trans ?_)
            rw [← hfl]
            show some (Sum.inr (2, [_, _, Sum.inl (nI _ - 1)])) = _
            rw [nI_pred]
          · exact s4.at (s3.at (s2.at H0.2.1 (by decide)) (by decide)) (by omega)
          · refine (s4.2.1 9 (by omega)).trans ((s3.2.1 9 (by decide)).trans (s2.1.trans ?_))
            rw [zz_row_set, zz_nar1, zz_u_set]
        have hA4 : h4[q]? = some (.inl (0, .inl ((A ++ [j]).map nI ++ js))) := by
          refine s4.1.trans ?_
          rw [List.set_append_right _ _ (by simp)]
          simp
        have e1 : nI A.length + 1 = nI (A ++ [j]).length := by rw [nI_1]; simp
        have e2 : nI j + 1 = nI (j + 1) := nI_1 j
        rw [e1, e2]
        have hi := ih n (j + 1) (A ++ [j]) js (u1 ||| 2 ^ j) h4 (by omega) (by omega) (by simp; omega) hw60 (fun b hb2 => by
          rw [Nat.testBit_or, Nat.testBit_two_pow, hu b (by omega)]
          simp
          omega) H4 hA4 (by
            rw [hb] at hr
            simp at hr ⊢
            omega)
        refine hi.mono ?_
        rintro r ⟨q1, A', q2, q3, q4, q5, q6⟩
        refine ⟨q1, j :: A', ?_, ?_, by simpa using q4, ((s2.fr (by simp)).tr (s3.fr (by simp))).tr ((s4.fr (by simp)).tr q5), by rw [q6, s4.2.2, s3.2.2, s2.2.2]⟩
        · simp [q2]
        · have e3 : u1 ||| 2 ^ j ||| zz_bs A' = u1 ||| zz_bs (j :: A') := by
            show _ = u1 ||| (2 ^ j ||| zz_bs A')
            rw [Nat.or_assoc]
          rw [← e3]
          exact q3
      · rw [hb] at huj
        rw [huj]
        refine zw.ifn (by decide) ?_
        have e2 : nI j + 1 = nI (j + 1) := nI_1 j
        rw [e2]
        have hi := ih n (j + 1) A (x :: js) u1 h1 (by omega) (by omega) (by simp; omega) hw60 (fun b hb2 => hu b (by omega)) H0 hA (by
            rw [hb] at hr
            simpa using hr)
        refine zw.mono hi ?_
        intro r hr
        simpa using hr
theorem s_takeLeast (hnb : nb ≤ 60) (hF : 60 < F) (hlen : 9 < h.length) {n : Nat} (H0 : zK0 h nb u f) (hn : n ≤ (zz_free nb u).length) :
    zw (f_Disk_takeLeast F 7 (nI n) h) (fun r => r.1 = h.length ∧ zK0 r.2 nb (u ||| zz_at nb u n) f ∧ r.2[h.length]? = some (.inl (0, .inl (((zz_free nb u).take n).map nI))) ∧ zz_fr [7, 9] h r.2 ∧ r.2.length = h.length + 1) := by
  have hle := zz_free_le nb u
  unfold f_Disk_takeLeast l_Disk_takeLeast_9
  refine zw.na n rfl (by omega) (by omega) ?_
  have H1 : zK0 (h ++ [.inl (0, hp_zero 0 n)]) nb u f := H0.fr (W := []) zz_fr.app (by simp) (by simp) (by simp)
  have e1 : List.range' 0 nb = List.range nb := List.range_eq_range'.symm
  have := s_take_loop (F := F) (f := f) hnb (q := h.length) (wanted := n) (u0 := u) hlen nb F 0 [] (List.replicate n 0) u _ (by omega) (by omega) (by simp) (by omega) (fun _ _ => rfl) H1 (by rw [q_new]; rfl) (by rw [e1]; simpa [zz_free] using hn)
  refine this.mono ?_
  rintro r ⟨q1, A', q2, q3, q4, q5, q6⟩
  have e2 : A' = (zz_free nb u).take n := by
    rw [q2, e1, List.length_replicate]
    rfl
  subst e2
  refine ⟨q1, q3, by simpa using q4, ⟨by rw [q6]; simp, fun i hi hn => ?_⟩, by rw [q6]; simp⟩
  rw [q5.2 i (by simp; omega) (fun q => by
    simp at q hn
    rcases q with q | q | q
    · exact hn.1 q
    · exact hn.2 q
    · omega), List.getElem?_append_left hi]
end Disk
