-- the constructors
section Init
variable {h : hh_H} {F a : Nat}
theorem i_Documents (hc : h[a]? = some (.inr (3, hh_dfl 3))) : zw (f_Documents_init F a h) (fun x => x.2[a]? = some (.inr (3, [.inr (.inl (some h.length)), .inl 0, .inl 0])) ∧ x.2[h.length]? = some (.inl (1, hp_zero 1 40)) ∧ zz_fr [a] h x.2 ∧ x.2.length = h.length + 1) := by
  have hl := q_lt hc
  unfold f_Documents_init
  refine zw.na 40 rfl (by decide) (by decide) ?_
  refine zw.pa (q_app hc) (Nat.le_of_ble_eq_true rfl) fun h1 s1 => ?_
  refine zw.pi s1.1 (Nat.le_of_ble_eq_true rfl) fun h2 s2 => ?_
  refine zw.pi s2.1 (Nat.le_of_ble_eq_true rfl) fun h3 s3 => ?_
  exact zw.ret ⟨s3.1, (s3.2.1 _ (by omega)).trans ((s2.2.1 _ (by omega)).trans ((s1.2.1 _ (by omega)).trans q_new)), zz_fr.app.tr ((s1.fr (by simp)).tr ((s2.fr (by simp)).tr (s3.fr (by simp)))), by rw [s3.2.2, s2.2.2, s1.2.2]; simp⟩
theorem i_Postings {n : Nat} (hn : n ≤ 800) (hc : h[a]? = some (.inr (5, hh_dfl 5))) : zw (f_Postings_init F a (nI n) h) (fun x => x.2[a]? = some (.inr (5, [.inr (.inl (some h.length)), .inl 0])) ∧ x.2[h.length]? = some (.inl (0, hp_zero 0 n)) ∧ zz_fr [a] h x.2 ∧ x.2.length = h.length + 1) := by
  have hl := q_lt hc
  unfold f_Postings_init
  refine zw.na n rfl hn (by omega) ?_
  refine zw.pa (q_app hc) (Nat.le_of_ble_eq_true rfl) fun h1 s1 => ?_
  refine zw.pi s1.1 (Nat.le_of_ble_eq_true rfl) fun h2 s2 => ?_
  exact zw.ret ⟨s2.1, (s2.2.1 _ (by omega)).trans ((s1.2.1 _ (by omega)).trans q_new), zz_fr.app.tr ((s1.fr (by simp)).tr (s2.fr (by simp))), by rw [s2.2.2, s1.2.2]; simp⟩
theorem i_Bytes {n : Nat} (hn : n ≤ 960) (hc : h[a]? = some (.inr (1, hh_dfl 1))) : zw (f_Bytes_init F a (nI n) h) (fun x => x.2[a]? = some (.inr (1, [.inr (.inl (some h.length)), .inl 0, .inl 0])) ∧ x.2[h.length]? = some (.inl (0, hp_zero 0 n)) ∧ zz_fr [a] h x.2 ∧ x.2.length = h.length + 1) := by
  have hl := q_lt hc
  unfold f_Bytes_init
  refine zw.na n rfl hn (by omega) ?_
  refine zw.pa (q_app hc) (Nat.le_of_ble_eq_true rfl) fun h1 s1 => ?_
  refine zw.pi s1.1 (Nat.le_of_ble_eq_true rfl) fun h2 s2 => ?_
  refine zw.pi s2.1 (Nat.le_of_ble_eq_true rfl) fun h3 s3 => ?_
  exact zw.ret ⟨s3.1, (s3.2.1 _ (by omega)).trans ((s2.2.1 _ (by omega)).trans ((s1.2.1 _ (by omega)).trans q_new)), zz_fr.app.tr ((s1.fr (by simp)).tr ((s2.fr (by simp)).tr (s3.fr (by simp)))), by rw [s3.2.2, s2.2.2, s1.2.2]; simp⟩
theorem i_Disk {n : Nat} (hn : n ≤ 60) (hc : h[a]? = some (.inr (2, hh_dfl 2))) : zw (f_Disk_init F a (nI n) h) (fun x => x.2[a]? = some (.inr (2, [.inr (.inl (some h.length)), .inr (.inl (some (h.length + 1))), .inl (nI n)])) ∧ x.2[h.length]? = some (.inl (0, hp_zero 0 (16 * n))) ∧ x.2[h.length + 1]? = some (.inl (1, hp_zero 1 n)) ∧ zz_fr [a] h x.2 ∧ x.2.length = h.length + 2) := by
  have hl := q_lt hc
  unfold f_Disk_init
  refine zw.na (16 * n) (by rw [show nI n * 16 = nI (n * 16) from pk_mul n 16, Nat.mul_comm]) (by omega) (by omega) ?_
  refine zw.pa (q_app hc) (Nat.le_of_ble_eq_true rfl) fun h1 s1 => ?_
  have l1 : h1.length = h.length + 1 := by rw [s1.2.2]; simp
  refine zw.na n rfl (by omega) (by omega) ?_
  rw [l1]
  refine zw.pa (q_app s1.1) (Nat.le_of_ble_eq_true rfl) fun h2 s2 => ?_
  refine zw.pi s2.1 (Nat.le_of_ble_eq_true rfl) fun h3 s3 => ?_
  have c1 : h1[h.length]? = some (.inl (0, hp_zero 0 (16 * n))) := (s1.2.1 _ (by omega)).trans q_new
  have c2 : (h1 ++ [(.inl (1, hp_zero 1 n) : hh_C)])[h.length + 1]? = some (.inl (1, hp_zero 1 n)) := by rw [← l1]; exact q_new
  exact zw.ret ⟨s3.1, s3.at (s2.at (q_app c1) (by omega)) (by omega), s3.at (s2.at c2 (by omega)) (by omega), zz_fr.app.tr ((s1.fr (by simp)).tr (zz_fr.app.tr ((s2.fr (by simp)).tr (s3.fr (by simp))))), by rw [s3.2.2, s2.2.2, List.length_append, l1]; rfl⟩
theorem i_List (hc : h[a]? = some (.inr (10, hh_dfl 10))) : zw (f_ArrayList_init F a h) (fun x => x.2[a]? = some (.inr (10, [.inl 0, .inr (.inl (some 0)), .inl 0])) ∧ zz_fr [a] h x.2 ∧ x.2.length = h.length) := by
  unfold f_ArrayList_init f_AbstractList_init f_AbstractCollection_init
  have main : zw (hp_cb (some ((), h)) fun (_ : Unit) h2 => (hp_pi h2 a 10 0 0).bind fun h4 => some ((), h4)) (fun x => x.2[a]? = some (.inr (10, hh_dfl 10)) ∧ zz_fr [a] h x.2 ∧ x.2.length = h.length) := by
    refine zw.cbe rfl ?_
    refine zw.pi hc (Nat.le_of_ble_eq_true rfl) fun h1 s1 => ?_
    exact zw.ret ⟨s1.1, s1.fr (by simp), s1.2.2⟩
  refine zw.cb main ?_
  rintro _ h1 ⟨g1, g2, g3⟩
  refine zw.pa g1 (Nat.le_of_ble_eq_true rfl) fun h2 s2 => ?_
  exact zw.ret ⟨s2.1, g2.tr (s2.fr (by simp)), by rw [s2.2.2, g3]⟩
theorem i_Places (hc : h[a]? = some (.inr (4, hh_dfl 4))) : zw (f_Places_init F a h) (fun x => x.2[a]? = some (.inr (4, [.inr (.inl (some h.length)), .inl 0])) ∧ x.2[h.length]? = some (.inl (0, hp_zero 0 40)) ∧ zz_fr [a] h x.2 ∧ x.2.length = h.length + 1) := by
  have hl := q_lt hc
  unfold f_Places_init
  refine zw.na 40 rfl (by decide) (by decide) ?_
  refine zw.pa (q_app hc) (Nat.le_of_ble_eq_true rfl) fun h1 s1 => ?_
  refine zw.pi s1.1 (Nat.le_of_ble_eq_true rfl) fun h2 s2 => ?_
  exact zw.ret ⟨s2.1, (s2.2.1 _ (by omega)).trans ((s1.2.1 _ (by omega)).trans q_new), zz_fr.app.tr ((s1.fr (by simp)).tr (s2.fr (by simp))), by rw [s2.2.2, s1.2.2]; simp⟩
theorem i_Answer (hc : h[a]? = some (.inr (0, hh_dfl 0))) : zw (f_Answer_init F a h) (fun x => x.2[a]? = some (.inr (0, [.inr (.inl (some h.length)), .inr (.inl (some (h.length + 1))), .inl 0, .inl 0])) ∧ x.2[h.length]? = some (.inl (0, hp_zero 0 40)) ∧ x.2[h.length + 1]? = some (.inl (2, hp_zero 2 40)) ∧ zz_fr [a] h x.2 ∧ x.2.length = h.length + 2) := by
  have hl := q_lt hc
  unfold f_Answer_init
  refine zw.na 40 rfl (by decide) (by decide) ?_
  refine zw.pa (q_app hc) (Nat.le_of_ble_eq_true rfl) fun h1 s1 => ?_
  have l1 : h1.length = h.length + 1 := by rw [s1.2.2]; simp
  refine zw.na 40 rfl (by decide) (by decide) ?_
  rw [l1]
  refine zw.pa (q_app s1.1) (Nat.le_of_ble_eq_true rfl) fun h2 s2 => ?_
  refine zw.pi s2.1 (Nat.le_of_ble_eq_true rfl) fun h3 s3 => ?_
  refine zw.pz s3.1 (Nat.le_of_ble_eq_true rfl) (Or.inl rfl) fun h4 s4 => ?_
  have c1 : h1[h.length]? = some (.inl (0, hp_zero 0 40)) := (s1.2.1 _ (by omega)).trans q_new
  have c2 : (h1 ++ [(.inl (2, hp_zero 2 40) : hh_C)])[h.length + 1]? = some (.inl (2, hp_zero 2 40)) := by rw [← l1]; exact q_new
  exact zw.ret ⟨s4.1, s4.at (s3.at (s2.at (q_app c1) (by omega)) (by omega)) (by omega), s4.at (s3.at (s2.at c2 (by omega)) (by omega)) (by omega), zz_fr.app.tr ((s1.fr (by simp)).tr (zz_fr.app.tr ((s2.fr (by simp)).tr ((s3.fr (by simp)).tr (s4.fr (by simp)))))), by rw [s4.2.2, s3.2.2, s2.2.2, List.length_append, l1]; rfl⟩
/-- the row of runs, at its place -/
theorem i_RunRow {nb fan : Nat} (hnb : nb ≤ 60) (hl : h.length = 11) (hc : h[10]? = some (.inr (7, hh_dfl 7))) (h7 : h[7]? = some (.inr (2, [.inr (.inl (some 8)), .inr (.inl (some 9)), .inl (nI nb)]))) (h8 : h[8]? = some (.inl (0, hp_zero 0 (16 * nb)))) :
    zw (f_RunRow_init F 10 3 7 (nI fan) h) (fun x => x.2[10]? = some (.inr (7, [.inr (.inl (some 3)), .inr (.inl (some 7)), .inl (nI fan), .inr (.inl (some 11)), .inr (.inl (some 12)), .inr (.inl (some 14)), .inr (.inl (some 16)), .inl 0, .inl 0, .inl 0, .inl 0])) ∧ x.2[11]? = some (.inr (10, [.inl 0, .inr (.inl (some 0)), .inl 0])) ∧ x.2[12]? = some (.inr (5, [.inr (.inl (some 13)), .inl 0])) ∧ x.2[13]? = some (.inl (0, hp_zero 0 800)) ∧ x.2[14]? = some (.inr (5, [.inr (.inl (some 15)), .inl 0])) ∧ x.2[15]? = some (.inl (0, hp_zero 0 800)) ∧ x.2[16]? = some (.inr (1, [.inr (.inl (some 17)), .inl 0, .inl 0])) ∧ x.2[17]? = some (.inl (0, hp_zero 0 (16 * nb))) ∧ zz_fr [10] h x.2 ∧ x.2.length = 18) := by
  unfold f_RunRow_init
  refine zw.pa hc (Nat.le_of_ble_eq_true rfl) fun h1 s1 => ?_
  refine zw.pa s1.1 (Nat.le_of_ble_eq_true rfl) fun h2 s2 => ?_
  refine zw.pi s2.1 (Nat.le_of_ble_eq_true rfl) fun h3 s3 => ?_
  have l3 : h3.length = 11 := by rw [s3.2.2, s2.2.2, s1.2.2, hl]
  have f3 : zz_fr [10] h h3 := (s1.fr (by simp)).tr ((s2.fr (by simp)).tr (s3.fr (by simp)))
  have c3 := s3.1
  refine zw.new ?_
  rw [l3]
  refine zw.cb (i_List (a := 11) (by rw [← l3]; exact q_new)) ?_
  rintro _ h4 ⟨a1, a2, a3⟩
  have l4 : h4.length = 12 := by rw [show h4.length = _ from a3]; simp [l3]
  have f4 : zz_fr [] h3 h4 := ⟨by omega, fun i hi _ => (a2.2 i (by simp; omega) (by simp; omega)).trans (List.getElem?_append_left hi)⟩
  refine zw.pa (f4.at c3 (by simp)) (Nat.le_of_ble_eq_true rfl) fun h5 s5 => ?_
  have l5 : h5.length = 12 := by rw [s5.2.2, l4]
  have f5 : zz_fr [10] h h5 := f3.tr ((f4.mono (by simp)).tr (s5.fr (by simp)))
  have k11 := s5.at a1 (by decide)
  refine zw.new ?_
  rw [l5]
  refine zw.cb (i_Postings (n := 800) (a := 12) (by decide) (by rw [← l5]; exact q_new)) ?_
  rintro _ h6 ⟨b1, b2, b3, b4⟩
  have e6 : (h5 ++ [(.inr (5, hh_dfl 5) : hh_C)]).length = 13 := by simp [l5]
  rw [e6] at b1 b2 b4
  have l6 : h6.length = 14 := b4
  have f6 : zz_fr [] h5 h6 := ⟨by omega, fun i hi _ => (b3.2 i (by simp; omega) (by simp; omega)).trans (List.getElem?_append_left hi)⟩
  refine zw.pa (f6.at s5.1 (by simp)) (Nat.le_of_ble_eq_true rfl) fun h7' s7 => ?_
  have l7 : h7'.length = 14 := by rw [s7.2.2, l6]
  have f7 : zz_fr [10] h h7' := f5.tr ((f6.mono (by simp)).tr (s7.fr (by simp)))
  have m11 := s7.at (f6.at k11 (by simp)) (by decide)
  have m12 := s7.at b1 (by decide)
  have m13 := s7.at b2 (by decide)
  refine zw.new ?_
  rw [l7]
  refine zw.cb (i_Postings (n := 800) (a := 14) (by decide) (by rw [← l7]; exact q_new)) ?_
  rintro _ h8' ⟨d1, d2, d3, d4⟩
  have e8 : (h7' ++ [(.inr (5, hh_dfl 5) : hh_C)]).length = 15 := by simp [l7]
  rw [e8] at d1 d2 d4
  have l8 : h8'.length = 16 := d4
  have f8 : zz_fr [] h7' h8' := ⟨by omega, fun i hi _ => (d3.2 i (by simp; omega) (by simp; omega)).trans (List.getElem?_append_left hi)⟩
  refine zw.pa (f8.at s7.1 (by simp)) (Nat.le_of_ble_eq_true rfl) fun h9 s9 => ?_
  have l9 : h9.length = 16 := by rw [s9.2.2, l8]
  have f9 : zz_fr [10] h h9 := f7.tr ((f8.mono (by simp)).tr (s9.fr (by simp)))
  have n11 := s9.at (f8.at m11 (by simp)) (by decide)
  have n12 := s9.at (f8.at m12 (by simp)) (by decide)
  have n13 := s9.at (f8.at m13 (by simp)) (by decide)
  have n14 := s9.at d1 (by decide)
  have n15 := s9.at d2 (by decide)
  refine zw.new ?_
  rw [l9]
  have g7 := q_app (c := .inr (1, hh_dfl 1)) (f9.at h7 (by decide))
  have g8 := q_app (c := .inr (1, hh_dfl 1)) (f9.at h8 (by decide))
  refine zw.is g7 ?_
  have ds : f_Disk_size F 7 (h9 ++ [.inr (1, hh_dfl 1)]) = some (nI (16 * nb), h9 ++ [.inr (1, hh_dfl 1)]) := by
    unfold f_Disk_size
    rw [q_ga g7 rfl]
    show ((hp_len _ 8).bind _) = _
    rw [q_len (l := List.replicate (16 * nb) 0) g8 (by decide), List.length_replicate]
    rfl
  refine zw.cbe ds ?_
  refine zw.cb (i_Bytes (n := 16 * nb) (a := 16) (by omega) (by rw [← l9]; exact q_new)) ?_
  rintro _ h10 ⟨p1, p2, p3, p4⟩
  have e10 : (h9 ++ [(.inr (1, hh_dfl 1) : hh_C)]).length = 17 := by simp [l9]
  rw [e10] at p1 p2 p4
  have l10 : h10.length = 18 := p4
  have f10 : zz_fr [] h9 h10 := ⟨by omega, fun i hi _ => (p3.2 i (by simp; omega) (by simp; omega)).trans (List.getElem?_append_left hi)⟩
  refine zw.pa (f10.at s9.1 (by simp)) (Nat.le_of_ble_eq_true rfl) fun h11 s11 => ?_
  refine zw.pi s11.1 (Nat.le_of_ble_eq_true rfl) fun h12 s12 => ?_
  refine zw.pi s12.1 (Nat.le_of_ble_eq_true rfl) fun h13 s13 => ?_
  refine zw.pi s13.1 (Nat.le_of_ble_eq_true rfl) fun h14 s14 => ?_
  refine zw.pi s14.1 (Nat.le_of_ble_eq_true rfl) fun h15 s15 => ?_
  have fe : zz_fr [10] h10 h15 := (s11.fr (by simp)).tr ((s12.fr (by simp)).tr ((s13.fr (by simp)).tr ((s14.fr (by simp)).tr (s15.fr (by simp)))))
  exact zw.ret ⟨s15.1, fe.at (f10.at n11 (by simp)) (by decide), fe.at (f10.at n12 (by simp)) (by decide), fe.at (f10.at n13 (by simp)) (by decide), fe.at (f10.at n14 (by simp)) (by decide), fe.at (f10.at n15 (by simp)) (by decide), fe.at p1 (by decide), fe.at p2 (by decide), f9.tr ((f10.mono (by simp)).tr fe), by rw [s15.2.2, s14.2.2, s13.2.2, s12.2.2, s11.2.2, l10]⟩
-- clamping
theorem i_clamp (x : Int32) {lo hi : Nat} (hlo : lo ≤ hi) (hhi : hi < 2 ^ 31) : ∃ m, lo ≤ m ∧ m ≤ hi ∧ (∀ h : hh_H, f_IB_clamp F x (nI lo) (nI hi) h = some (nI m, h)) ∧ ∀ h : hh_H, f_Mo_clamp F x (nI lo) (nI hi) h = some (nI m, h) := by
  unfold f_IB_clamp f_Mo_clamp
  by_cases h1 : x < nI lo
  · refine ⟨lo, Nat.le_refl _, hlo, fun h => ?_, fun h => ?_⟩
    · have h2 : x < nI hi := Int32.lt_of_lt_of_le h1 (nI_le hlo hhi)
      rw [if_pos h2, if_neg (Int32.not_lt.mpr (Int32.le_of_lt h1))]
    · rw [if_neg (Int32.not_le.mpr h1)]
  · have h1' := Int32.not_lt.mp h1
    have h0 : ¬ x < 0 := fun q => h1 (Int32.lt_of_lt_of_le q (nI_pos' (by omega)))
    obtain ⟨m, hm, rfl⟩ := nI_of h0
    have hlm : lo ≤ m := (nI_leI (by omega) hm).mp h1'
    by_cases h2 : m < hi
    · refine ⟨m, hlm, by omega, fun h => ?_, fun h => ?_⟩
      · rw [if_pos (nI_lt h2 hhi)]
        by_cases h3 : lo < m
        · rw [if_pos (nI_lt h3 hm)]
        · rw [if_neg (nI_nlt (by omega) (by omega)), show lo = m by omega]
      · rw [if_pos h1', if_pos (nI_le (by omega) hhi)]
    · refine ⟨hi, hlo, Nat.le_refl _, fun h => ?_, fun h => ?_⟩
      · rw [if_neg (nI_nlt (by omega) hm)]
        by_cases h3 : lo < hi
        · rw [if_pos (nI_lt h3 hhi)]
        · rw [if_neg (nI_nlt (by omega) (by omega)), show lo = hi by omega]
      · rw [if_pos h1']
        by_cases h3 : m = hi
        · rw [if_pos (by rw [h3]; exact nI_le (Nat.le_refl _) hhi), h3]
        · rw [if_neg (nI_ge (by omega) hm)]
end Init
