-- Answer at 22, its documents at 23, its scores at 24
def zA (h : hh_H) (res : List (Nat × UInt64)) (rk : Int32) : Prop :=
  h[22]? = some (.inr (0, [.inr (.inl (some 23)), .inr (.inl (some 24)), .inl (nI res.length), .inl rk])) ∧ (∃ js, h[23]? = some (.inl (0, .inl (res.map (fun x => nI x.1) ++ js))) ∧ res.length + js.length = 40) ∧ ∃ ks, h[24]? = some (.inl (2, .inr (.inl (res.map (fun x => x.2) ++ ks)))) ∧ res.length + ks.length = 40
/-- is the score of a less than y? -/
def zz_less (a : Nat × UInt64) (y : UInt64) : Bool := !decide (0 ≤ Op.cmpValue (FP.dcmp a.2 y) .g)
/-- x goes behind the last of the row (given from behind) that isn't less -/
def zz_gr (x : Nat × UInt64) : List (Nat × UInt64) → List (Nat × UInt64) → List (Nat × UInt64)
  | [], S => x :: S
  | a :: A, S => if zz_less a x.2 = true then zz_gr x A (a :: S) else (a :: A).reverse ++ x :: S
def zz_put (x : Nat × UInt64) (res : List (Nat × UInt64)) : List (Nat × UInt64) := zz_gr x res.reverse []
theorem zz_gr_len (x : Nat × UInt64) : ∀ (A S : List (Nat × UInt64)), (zz_gr x A S).length = A.length + S.length + 1 := by
  intro A
  induction A with
  | nil => intro S; simp [zz_gr]
  | cons a A ih =>
    intro S
    rw [zz_gr]
    split
    · rw [ih]
      simp
      omega
    · simp
      omega
theorem zz_put_len (x : Nat × UInt64) (res : List (Nat × UInt64)) : (zz_put x res).length = res.length + 1 := by
  unfold zz_put
  rw [zz_gr_len]
  simp
theorem zz_set_gap {α : Type} (A S : List α) (j x : α) : (A ++ j :: S).set A.length x = A ++ x :: S := by
  rw [List.set_append_right _ _ (Nat.le_refl _)]
  simp
section Answer
variable {h : hh_H} {F : Nat} {res : List (Nat × UInt64)} {rk : Int32}
theorem zA.fr {W : List Nat} {h' : hh_H} (H : zA h res rk) (f : zz_fr W h h') (h1 : 22 ∉ W) (h2 : 23 ∉ W) (h3 : 24 ∉ W) : zA h' res rk := by
  obtain ⟨g1, ⟨js, g2, g3⟩, ks, g4, g5⟩ := H
  exact ⟨f.at g1 h1, ⟨js, f.at g2 h2, g3⟩, ks, f.at g4 h3, g5⟩
theorem zA.keep {h' : hh_H} (H : zA h res rk) (h1 : h'[22]? = h[22]?) (h2 : h'[23]? = h[23]?) (h3 : h'[24]? = h[24]?) : zA h' res rk := by
  obtain ⟨g1, ⟨js, g2, g3⟩, ks, g4, g5⟩ := H
  exact ⟨h1.trans g1, ⟨js, h2.trans g2, g3⟩, ks, h3.trans g4, g5⟩
theorem s_Answer_begin {x : Int32} (hx : x = 0 ∨ x = 1) (H : zA h res rk) : zw (f_Answer_begin F 22 x h) (fun r => zA r.2 [] x ∧ zz_fr [22] h r.2 ∧ r.2.length = h.length) := by
  obtain ⟨g1, ⟨js, g2, g3⟩, ks, g4, g5⟩ := H
  unfold f_Answer_begin
  refine zw.pi g1 (Nat.le_of_ble_eq_true rfl) fun h1 s1 => ?_
  refine zw.pz s1.1 (Nat.le_of_ble_eq_true rfl) hx fun h2 s2 => ?_
  refine zw.ret ⟨⟨s2.1, ⟨res.map (fun x => nI x.1) ++ js, ?_, by simp; omega⟩, ⟨res.map (fun x => x.2) ++ ks, ?_, by simp; omega⟩⟩, (s1.fr (by simp)).tr (s2.fr (by simp)), by rw [s2.2.2, s1.2.2]⟩
  · exact s2.at (s1.at g2 (by decide)) (by decide)
  · exact s2.at (s1.at g4 (by decide)) (by decide)
theorem s_put76 {d : Nat} {y : UInt64} {N : Nat} {A S : List (Nat × UInt64)} {j : Int32} {k : UInt64} {js : List Int32} {ks : List UInt64} (hN : A.length + S.length = N) (hN2 : N < 40) (hj : N + 1 + js.length = 40) (hk : N + 1 + ks.length = 40) (g1 : h[22]? = some (.inr (0, [.inr (.inl (some 23)), .inr (.inl (some 24)), .inl (nI N), .inl rk]))) (g2 : h[23]? = some (.inl (0, .inl (A.map (fun x => nI x.1) ++ j :: (S.map (fun x => nI x.1) ++ js))))) (g4 : h[24]? = some (.inl (2, .inr (.inl (A.map (fun x => x.2) ++ k :: (S.map (fun x => x.2) ++ ks)))))) :
    zw (f_Answer_put_76 F 22 (nI d) y (nI A.length) h) (fun r => zA r.2 (A ++ (d, y) :: S) rk ∧ zz_fr [22, 23, 24] h r.2 ∧ r.2.length = h.length) := by
  unfold f_Answer_put_76
  refine zw.ga g1 rfl ?_
  refine zw.sd g4 A.length rfl (by simp) (by omega) fun h1 s1 => ?_
  have c1 := s1.at g1 (by decide)
  refine zw.ga c1 rfl ?_
  refine zw.si (s1.at g2 (by decide)) A.length rfl (by simp) (by omega) fun h2 s2 => ?_
  have c2 := s2.at c1 (by decide)
  refine zw.gi c2 rfl ?_
  refine zw.pi c2 (Nat.le_of_ble_eq_true rfl) fun h3 s3 => ?_
  have hl : (A ++ (d, y) :: S).length = N + 1 := by simp; omega
  refine zw.ret ⟨⟨?_, ⟨js, ?_, by rw [hl]; exact hj⟩, ⟨ks, ?_, by rw [hl]; exact hk⟩⟩, (s1.fr (by simp)).tr ((s2.fr (by simp)).tr (s3.fr (by simp))), by rw [s3.2.2, s2.2.2, s1.2.2]⟩
  · refine s3.1.trans ?_
    show some (Sum.inr (0, [_, _, Sum.inl (nI N + 1), _])) = _
    rw [nI_1, hl]
  · refine (s3.2.1 23 (by decide)).trans (s2.1.trans ?_)
    have := zz_set_gap (A.map (fun x => nI x.1)) (S.map (fun x => nI x.1) ++ js) j (nI d)
    rw [List.length_map] at this
    rw [this]
    simp
  · refine (s3.2.1 24 (by decide)).trans ((s2.2.1 24 (by decide)).trans (s1.1.trans ?_))
    have := zz_set_gap (A.map (fun x => x.2)) (S.map (fun x => x.2) ++ ks) k y
    rw [List.length_map] at this
    rw [this]
    simp
theorem s_put_loop {d : Nat} {y : UInt64} {N : Nat} {js : List Int32} {ks : List UInt64} (hN2 : N < 40) (hj : N + 1 + js.length = 40) (hk : N + 1 + ks.length = 40) : ∀ (B : List (Nat × UInt64)) (n : Nat) (S : List (Nat × UInt64)) (j : Int32) (k : UInt64) (h1 : hh_H), B.length < n → B.length + S.length = N → h1[22]? = some (.inr (0, [.inr (.inl (some 23)), .inr (.inl (some 24)), .inl (nI N), .inl rk])) → h1[23]? = some (.inl (0, .inl (B.reverse.map (fun x => nI x.1) ++ j :: (S.map (fun x => nI x.1) ++ js)))) → h1[24]? = some (.inl (2, .inr (.inl (B.reverse.map (fun x => x.2) ++ k :: (S.map (fun x => x.2) ++ ks))))) →
    zw (hp_it (fun _ _ _ _ _ => none) (f_Answer_put_19 F) n 22 (nI d) y (nI B.length) h1) (fun r => zA r.2 (zz_gr (d, y) B S) rk ∧ zz_fr [22, 23, 24] h1 r.2 ∧ r.2.length = h1.length) := by
  intro B
  induction B with
  | nil =>
    intro n S j k h1 hn hN g1 g2 g4
    obtain ⟨n, rfl⟩ : ∃ m, n = m + 1 := ⟨n - 1, by omega⟩
    rw [hp_it_s, f_Answer_put_19]
    refine zw.ifp (by decide) ?_
    have := s_put76 (F := F) (d := d) (y := y) (A := []) (S := S) hN hN2 hj hk g1 g2 g4
    exact this
  | cons a B ih =>
    intro n S j k h1 hn hN g1 g2 g4
    obtain ⟨n, rfl⟩ : ∃ m, n = m + 1 := ⟨n - 1, by omega⟩
    simp only [List.length_cons] at hn hN
    have hrev : (a :: B).reverse = B.reverse ++ [a] := by simp
    have e1 : nI (a :: B).length - 1 = nI B.length := nI_pred _
    rw [hp_it_s, f_Answer_put_19]
    refine zw.ifn (by rw [List.length_cons]; exact nI_nle (by omega) (by omega)) ?_
    refine zw.ga g1 rfl ?_
    rw [e1]
    have x4 : (((a :: B).reverse.map (fun x => x.2)) ++ k :: (S.map (fun x => x.2) ++ ks))[B.length]? = some a.2 := by
      rw [hrev, List.map_append, List.append_assoc, List.getElem?_append_right (by simp)]
      simp
    have x3 : (((a :: B).reverse.map (fun x => nI x.1)) ++ j :: (S.map (fun x => nI x.1) ++ js))[B.length]? = some (nI a.1) := by
      rw [hrev, List.map_append, List.append_assoc, List.getElem?_append_right (by simp)]
      simp
    refine zw.ad (w := a.2) g4 B.length rfl (by omega) x4 ?_
    rw [zz_gr]
    by_cases hl : 0 ≤ Op.cmpValue (FP.dcmp a.2 y) .g
    · refine zw.ifp hl ?_
      rw [if_neg (by simp [zz_less, hl])]
      have hlen : (a :: B).length = (a :: B).reverse.length := by simp
      rw [hlen]
      exact s_put76 (F := F) (d := d) (y := y) (A := (a :: B).reverse) (S := S) (by simp; omega) hN2 hj hk g1 g2 g4
    · refine zw.ifn hl ?_
      rw [if_pos (by simp [zz_less, hl])]
      refine zw.ga g1 rfl ?_
      refine zw.ga g1 rfl ?_
      refine zw.ad (w := a.2) g4 B.length rfl (by omega) x4 ?_
      refine zw.sd g4 (B.length + 1) rfl (by simp) (by omega) fun h2 s2 => ?_
      have c2 := s2.at g1 (by decide)
      refine zw.ga c2 rfl ?_
      refine zw.ga c2 rfl ?_
      have g2' := s2.at g2 (by decide)
      refine zw.ai (w := nI a.1) g2' B.length rfl (by omega) x3 ?_
      refine zw.si g2' (B.length + 1) rfl (by simp) (by omega) fun h3 s3 => ?_
      rw [zz_dec, e1]
      have hl1 : ((a :: B).reverse.map (fun x => nI x.1)).length = B.length + 1 := by simp
      have hl2 : ((a :: B).reverse.map (fun x => x.2)).length = B.length + 1 := by simp
      have y3 : h3[23]? = some (.inl (0, .inl (B.reverse.map (fun x => nI x.1) ++ nI a.1 :: ((a :: S).map (fun x => nI x.1) ++ js)))) := by
        refine s3.1.trans ?_
        have := zz_set_gap ((a :: B).reverse.map (fun x => nI x.1)) (S.map (fun x => nI x.1) ++ js) j (nI a.1)
        rw [hl1] at this
        rw [this]
        simp
      have y4 : h3[24]? = some (.inl (2, .inr (.inl (B.reverse.map (fun x => x.2) ++ a.2 :: ((a :: S).map (fun x => x.2) ++ ks))))) := by
        refine (s3.2.1 24 (by decide)).trans (s2.1.trans ?_)
        have := zz_set_gap ((a :: B).reverse.map (fun x => x.2)) (S.map (fun x => x.2) ++ ks) k a.2
        rw [hl2] at this
        rw [this]
        simp
      refine (ih n (a :: S) (nI a.1) a.2 h3 (by omega) (by simp; omega) (s3.at c2 (by decide)) y3 y4).mono ?_
      rintro r ⟨q1, q2, q3⟩
      exact ⟨q1, ((s2.fr (by simp)).tr (s3.fr (by simp))).tr q2, by rw [q3, s3.2.2, s2.2.2]⟩
theorem s_Answer_put {d : Nat} {y : UInt64} (hF : 5000 < F) (hl : res.length < 40) (H : zA h res rk) : zw (f_Answer_put F 22 (nI d) y h) (fun r => zA r.2 (zz_put (d, y) res) rk ∧ zz_fr [22, 23, 24] h r.2 ∧ r.2.length = h.length) := by
  obtain ⟨g1, ⟨js, g2, g3⟩, ks, g4, g5⟩ := H
  unfold f_Answer_put
  refine zw.gi g1 rfl ?_
  refine zw.ga g1 rfl ?_
  refine zw.len g2 (by decide) ?_
  have e : (res.map (fun x => nI x.1) ++ js).length = 40 := by simp; omega
  rw [e]
  refine zw.ifp (nI_lt hl (by decide)) ?_
  refine zw.gi g1 rfl ?_
  unfold l_Answer_put_19
  cases js with
  | nil => simp at g3; omega
  | cons j js =>
    cases ks with
    | nil => simp at g5; omega
    | cons k ks =>
      simp only [List.length_cons] at g3 g5
      have := s_put_loop (F := F) (d := d) (y := y) (rk := rk) (N := res.length) (js := js) (ks := ks) hl (by omega) (by omega) res.reverse F [] j k h (by simp; omega) (by simp) g1 (by simpa using g2) (by simpa using g4)
      rw [List.length_reverse] at this
      exact this
theorem s_Answer_size (H : zA h res rk) : f_Answer_size F 22 h = some (nI res.length, h) := by
  unfold f_Answer_size
  rw [q_gi H.1 rfl]
  rfl
theorem s_isRanked (hr : rk = 0 ∨ rk = 1) (H : zA h res rk) : f_Answer_isRanked F 22 h = some (rk, h) := by
  unfold f_Answer_isRanked
  rw [q_gi H.1 rfl]
  show ((hp_zb rk).bind _) = _
  unfold hp_zb
  rw [if_pos hr]
  rfl
theorem s_documentAt (H : zA h res rk) {k : Nat} (hk : k < res.length) : f_Answer_documentAt F 22 (nI k) h = some (nI (res[k]).1, h) := by
  obtain ⟨g1, ⟨js, g2, g3⟩, ks, g4, g5⟩ := H
  unfold f_Answer_documentAt
  rw [if_neg (nI_pos (by omega)), q_gi g1 rfl]
  show (if nI res.length ≤ nI k then _ else _) = _
  rw [if_neg (nI_ge hk (by omega)), q_ga g1 rfl]
  show ((hp_ai h 23 (nI k)).bind _) = _
  rw [q_ai g2 (by omega) (x := nI (res[k]).1) (by rw [List.getElem?_append_left (by simp; exact hk)]; simp [hk])]
  rfl
theorem s_scoreAt (H : zA h res rk) {k : Nat} (hk : k < res.length) : f_Answer_scoreAt F 22 (nI k) h = some ((res[k]).2, h) := by
  obtain ⟨g1, ⟨js, g2, g3⟩, ks, g4, g5⟩ := H
  unfold f_Answer_scoreAt
  rw [if_neg (nI_pos (by omega)), q_gi g1 rfl]
  show (if nI res.length ≤ nI k then _ else _) = _
  rw [if_neg (nI_ge hk (by omega)), q_ga g1 rfl]
  show ((hp_ad h 24 (nI k)).bind _) = _
  rw [q_ad g4 (by omega) (x := (res[k]).2) (by rw [List.getElem?_append_left (by simp; exact hk)]; simp [hk])]
  rfl
end Answer
