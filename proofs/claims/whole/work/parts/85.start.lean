-- both constructors
/-- the class as it is made -/
def zC0 (h : hh_H) (mem fan nb : Nat) : Prop :=
  h[0]? = some hh_nil ∧ h[1]? = some (.inr (8, [.inl (nI mem), .inr (.inl (some 2)), .inl 0, .inr (.inl (some 3)), .inr (.inl (some 5)), .inr (.inl (some 10)), .inr (.inl (some 18)), .inr (.inl (some 20)), .inr (.inl (some 22))])) ∧ h[2]? = some (.inl (0, hp_zero 0 20)) ∧
  (h[3]? = some (.inr (3, [.inr (.inl (some 4)), .inl 0, .inl 0])) ∧ h[4]? = some (.inl (1, hp_zero 1 40))) ∧ (h[5]? = some (.inr (5, [.inr (.inl (some 6)), .inl 0])) ∧ h[6]? = some (.inl (0, hp_zero 0 mem))) ∧
  (h[7]? = some (.inr (2, [.inr (.inl (some 8)), .inr (.inl (some 9)), .inl (nI nb)])) ∧ h[8]? = some (.inl (0, hp_zero 0 (16 * nb))) ∧ h[9]? = some (.inl (1, hp_zero 1 nb))) ∧
  (h[10]? = some (.inr (7, [.inr (.inl (some 3)), .inr (.inl (some 7)), .inl (nI fan), .inr (.inl (some 11)), .inr (.inl (some 12)), .inr (.inl (some 14)), .inr (.inl (some 16)), .inl 0, .inl 0, .inl 0, .inl 0])) ∧ h[11]? = some (.inr (10, [.inl 0, .inr (.inl (some 0)), .inl 0])) ∧ h[12]? = some (.inr (5, [.inr (.inl (some 13)), .inl 0])) ∧ h[13]? = some (.inl (0, hp_zero 0 800)) ∧ h[14]? = some (.inr (5, [.inr (.inl (some 15)), .inl 0])) ∧ h[15]? = some (.inl (0, hp_zero 0 800)) ∧ h[16]? = some (.inr (1, [.inr (.inl (some 17)), .inl 0, .inl 0])) ∧ h[17]? = some (.inl (0, hp_zero 0 (16 * nb)))) ∧
  (h[18]? = some (.inr (4, [.inr (.inl (some 19)), .inl 0])) ∧ h[19]? = some (.inl (0, hp_zero 0 40))) ∧ (h[20]? = some (.inr (4, [.inr (.inl (some 21)), .inl 0])) ∧ h[21]? = some (.inl (0, hp_zero 0 40))) ∧
  h[22]? = some (.inr (0, [.inr (.inl (some 23)), .inr (.inl (some 24)), .inl 0, .inl 0])) ∧ h[23]? = some (.inl (0, hp_zero 0 40)) ∧ h[24]? = some (.inl (2, hp_zero 2 40))
theorem zz_fr.nil {W : List Nat} {h h1 h2 : hh_H} {a : Nat} (hl : h1.length = h.length + 1) (f : zz_fr [] h h1) (g : zz_fr [a] h1 h2) (ha : a = h.length) : zz_fr W h h2 := ⟨by have := f.1; have := g.1; omega, fun i hi _ => (g.2 i (by omega) (by simp; omega)).trans (f.2 i hi (by simp))⟩
section Start
variable {h : hh_H} {F : Nat}
theorem i_IB {mem fan nb : Nat} {x1 x2 x3 : Int32} (hm : mem ≤ 48) (hnb : nb ≤ 60) (k1 : ∀ h : hh_H, f_IB_clamp F x1 20 48 h = some (nI mem, h)) (k2 : ∀ h : hh_H, f_IB_clamp F x2 2 4 h = some (nI fan, h)) (k3 : ∀ h : hh_H, f_IB_clamp F x3 8 60 h = some (nI nb, h)) (hl : h.length = 2) (h0 : h[0]? = some hh_nil) (hc : h[1]? = some (.inr (8, hh_dfl 8))) :
    zw (f_IB_init F 1 x1 x2 x3 h) (fun x => zC0 x.2 mem fan nb ∧ x.2.length = 25) := by
  unfold f_IB_init
  refine zw.cbe (k1 h) ?_
  refine zw.pi hc (Nat.le_of_ble_eq_true rfl) fun h1 s1 => ?_
  have l1 : h1.length = 2 := by rw [s1.2.2, hl]
  refine zw.na 20 rfl (by decide) (by decide) ?_
  rw [l1]
  have z2 : (h1 ++ [(.inl (0, hp_zero 0 20) : hh_C)])[2]? = some (.inl (0, hp_zero 0 20)) := by rw [← l1]; exact q_new
  refine zw.pa (q_app s1.1) (Nat.le_of_ble_eq_true rfl) fun h2 s2 => ?_
  refine zw.pi s2.1 (Nat.le_of_ble_eq_true rfl) fun h3 s3 => ?_
  have l3 : h3.length = 3 := by rw [s3.2.2, s2.2.2]; simp [l1]
  have a0 : h3[0]? = some hh_nil := s3.at (s2.at (q_app (s1.at h0 (by decide))) (by decide)) (by decide)
  have a2 : h3[2]? = some (.inl (0, hp_zero 0 20)) := s3.at (s2.at z2 (by decide)) (by decide)
  refine zw.new ?_
  rw [l3]
  refine zw.cb (i_Documents (a := 3) (by rw [← l3]; exact q_new)) ?_
  rintro _ h4 ⟨b1, b2, b3, b4⟩
  have e4 : (h3 ++ [(.inr (3, hh_dfl 3) : hh_C)]).length = 4 := by simp [l3]
  rw [e4] at b1 b2 b4
  have l4 : h4.length = 5 := b4
  have f4 : zz_fr [] h3 h4 := zz_fr.nil (by simp) zz_fr.app b3 l3.symm
  refine zw.pa (f4.at s3.1 (by simp)) (Nat.le_of_ble_eq_true rfl) fun h5 s5 => ?_
  have l5 : h5.length = 5 := by rw [s5.2.2, l4]
  have c5 := s5.1
  have c0 := s5.at (f4.at a0 (by simp)) (by decide)
  have c2 := s5.at (f4.at a2 (by simp)) (by decide)
  have c3 := s5.at b1 (by decide)
  have c4 := s5.at b2 (by decide)
  refine zw.new ?_
  rw [l5]
  refine zw.gi (q_app c5) rfl ?_
  refine zw.cb (i_Postings (n := mem) (a := 5) (by omega) (by rw [← l5]; exact q_new)) ?_
  rintro _ h6 ⟨d1, d2, d3, d4⟩
  have e6 : (h5 ++ [(.inr (5, hh_dfl 5) : hh_C)]).length = 6 := by simp [l5]
  rw [e6] at d1 d2 d4
  have l6 : h6.length = 7 := d4
  have f6 : zz_fr [] h5 h6 := zz_fr.nil (by simp) zz_fr.app d3 l5.symm
  refine zw.pa (f6.at c5 (by simp)) (Nat.le_of_ble_eq_true rfl) fun h7 s7 => ?_
  have l7 : h7.length = 7 := by rw [s7.2.2, l6]
  have g1 := s7.1
  have g0 := s7.at (f6.at c0 (by simp)) (by decide)
  have g2 := s7.at (f6.at c2 (by simp)) (by decide)
  have g3 := s7.at (f6.at c3 (by simp)) (by decide)
  have g4 := s7.at (f6.at c4 (by simp)) (by decide)
  have g5 := s7.at d1 (by decide)
  have g6 := s7.at d2 (by decide)
  refine zw.new ?_
  rw [l7]
  refine zw.cbe (k3 _) ?_
  refine zw.cb (i_Disk (n := nb) (a := 7) hnb (by rw [← l7]; exact q_new)) ?_
  rintro _ h8 ⟨m1, m2, m2', m3, m4⟩
  have e8 : (h7 ++ [(.inr (2, hh_dfl 2) : hh_C)]).length = 8 := by simp [l7]
  rw [e8] at m1 m2 m2' m4
  have l8 : h8.length = 10 := m4
  have f8 : zz_fr [] h7 h8 := zz_fr.nil (by simp) zz_fr.app m3 l7.symm
  refine zw.new ?_
  rw [l8]
  have fq : zz_fr [] h8 (h8 ++ [(.inr (7, hh_dfl 7) : hh_C)]) := zz_fr.app
  refine zw.ga (fq.at (f8.at g1 (by simp)) (by simp)) rfl ?_
  refine zw.cbe (k2 _) ?_
  refine zw.cb (i_RunRow (nb := nb) (fan := fan) hnb (by simp [l8]) (by rw [← l8]; exact q_new) (fq.at m1 (by simp)) (fq.at m2 (by simp))) ?_
  rintro _ h9 ⟨r10, r11, r12, r13, r14, r15, r16, r17, rf, rl⟩
  have l9 : h9.length = 18 := rl
  have f9 : zz_fr [] h8 h9 := zz_fr.nil (by simp) zz_fr.app rf l8.symm
  refine zw.pa (f9.at (f8.at g1 (by simp)) (by simp)) (Nat.le_of_ble_eq_true rfl) fun h10 s10 => ?_
  have l10 : h10.length = 18 := by rw [s10.2.2, l9]
  have fA : zz_fr [1] h9 h10 := s10.fr (by simp)
  have f78 : zz_fr [] h7 h9 := f8.tr f9
  have n0 := fA.at (f78.at g0 (by simp)) (by decide)
  have n2 := fA.at (f78.at g2 (by simp)) (by decide)
  have n3 := fA.at (f78.at g3 (by simp)) (by decide)
  have n4 := fA.at (f78.at g4 (by simp)) (by decide)
  have n5 := fA.at (f78.at g5 (by simp)) (by decide)
  have n6 := fA.at (f78.at g6 (by simp)) (by decide)
  have n7 := fA.at (f9.at m1 (by simp)) (by decide)
  have n8 := fA.at (f9.at m2 (by simp)) (by decide)
  have n9 := fA.at (f9.at m2' (by simp)) (by decide)
  refine zw.new ?_
  rw [l10]
  refine zw.cb (i_Places (a := 18) (by rw [← l10]; exact q_new)) ?_
  rintro _ h11 ⟨p1, p2, p3, p4⟩
  have e11 : (h10 ++ [(.inr (4, hh_dfl 4) : hh_C)]).length = 19 := by simp [l10]
  rw [e11] at p1 p2 p4
  have l11 : h11.length = 20 := p4
  have f11 : zz_fr [] h10 h11 := zz_fr.nil (by simp) zz_fr.app p3 l10.symm
  refine zw.pa (f11.at s10.1 (by simp)) (Nat.le_of_ble_eq_true rfl) fun h12 s12 => ?_
  have l12 : h12.length = 20 := by rw [s12.2.2, l11]
  have fB : zz_fr [1] h11 h12 := s12.fr (by simp)
  refine zw.new ?_
  rw [l12]
  refine zw.cb (i_Places (a := 20) (by rw [← l12]; exact q_new)) ?_
  rintro _ h13 ⟨t1, t2, t3, t4⟩
  have e13 : (h12 ++ [(.inr (4, hh_dfl 4) : hh_C)]).length = 21 := by simp [l12]
  rw [e13] at t1 t2 t4
  have l13 : h13.length = 22 := t4
  have f13 : zz_fr [] h12 h13 := zz_fr.nil (by simp) zz_fr.app t3 l12.symm
  refine zw.pa (f13.at s12.1 (by simp)) (Nat.le_of_ble_eq_true rfl) fun h14 s14 => ?_
  have l14 : h14.length = 22 := by rw [s14.2.2, l13]
  have fC : zz_fr [1] h13 h14 := s14.fr (by simp)
  refine zw.new ?_
  rw [l14]
  refine zw.cb (i_Answer (a := 22) (by rw [← l14]; exact q_new)) ?_
  rintro _ h15 ⟨u1, u2, u2', u3, u4⟩
  have e15 : (h14 ++ [(.inr (0, hh_dfl 0) : hh_C)]).length = 23 := by simp [l14]
  rw [e15] at u1 u2 u2' u4
  have l15 : h15.length = 25 := u4
  have f15 : zz_fr [] h14 h15 := zz_fr.nil (by simp) zz_fr.app u3 l14.symm
  refine zw.pa (f15.at s14.1 (by simp)) (Nat.le_of_ble_eq_true rfl) fun h16 s16 => ?_
  have fD : zz_fr [1] h15 h16 := s16.fr (by simp)
  -- all that came later leaves it
  have g15 : zz_fr [1] h13 h16 := fC.tr ((f15.mono (by simp)).tr fD)
  have g13 : zz_fr [1] h11 h16 := fB.tr ((f13.mono (by simp)).tr g15)
  have g10 : zz_fr [1] h10 h16 := (f11.mono (by simp)).tr g13
  have g9 : zz_fr [1] h9 h16 := fA.tr g10
  exact zw.ret ⟨⟨g10.at n0 (by decide), s16.1, g10.at n2 (by decide), ⟨g10.at n3 (by decide), g10.at n4 (by decide)⟩, ⟨g10.at n5 (by decide), g10.at n6 (by decide)⟩, ⟨g10.at n7 (by decide), g10.at n8 (by decide), g10.at n9 (by decide)⟩, ⟨g9.at r10 (by decide), g9.at r11 (by decide), g9.at r12 (by decide), g9.at r13 (by decide), g9.at r14 (by decide), g9.at r15 (by decide), g9.at r16 (by decide), g9.at r17 (by decide)⟩, ⟨g13.at p1 (by decide), g13.at p2 (by decide)⟩, ⟨g15.at t1 (by decide), g15.at t2 (by decide)⟩, fD.at u1 (by decide), fD.at u2 (by decide), fD.at u2' (by decide)⟩, by rw [s16.2.2, l15]⟩
theorem zC0.fr {h' : hh_H} {mem fan nb : Nat} (H : zC0 h mem fan nb) (f : zz_fr [25] h h') : zC0 h' mem fan nb := by
  obtain ⟨a0, a1, a2, ⟨a3, a4⟩, ⟨a5, a6⟩, ⟨a7, a8, a9⟩, ⟨a10, a11, a12, a13, a14, a15, a16, a17⟩, ⟨a18, a19⟩, ⟨a20, a21⟩, a22, a23, a24⟩ := H
  exact ⟨f.at a0 (by decide), f.at a1 (by decide), f.at a2 (by decide), ⟨f.at a3 (by decide), f.at a4 (by decide)⟩, ⟨f.at a5 (by decide), f.at a6 (by decide)⟩, ⟨f.at a7 (by decide), f.at a8 (by decide), f.at a9 (by decide)⟩, ⟨f.at a10 (by decide), f.at a11 (by decide), f.at a12 (by decide), f.at a13 (by decide), f.at a14 (by decide), f.at a15 (by decide), f.at a16 (by decide), f.at a17 (by decide)⟩, ⟨f.at a18 (by decide), f.at a19 (by decide)⟩, ⟨f.at a20 (by decide), f.at a21 (by decide)⟩, f.at a22 (by decide), f.at a23 (by decide), f.at a24 (by decide)⟩
theorem zz_rep_row (n : Nat) (x : Int32) : List.replicate n x = zz_row n (fun _ => x) := by
  unfold zz_row
  apply List.ext_getElem?
  intro i
  by_cases hi : i < n
  · simp [hi]
  · rw [List.getElem?_eq_none (by simp; omega), List.getElem?_eq_none (by simp; omega)]
theorem zC_start {mem fan nb : Nat} (hl : 38 ≤ h.length) (H : zC0 h mem fan nb) : zC h mem fan nb [] [] [] 0 ([], 0, 0, 0, 0) [] 0 := by
  obtain ⟨a0, a1, a2, ⟨a3, a4⟩, ⟨a5, a6⟩, ⟨a7, a8, a9⟩, ⟨a10, a11, a12, a13, a14, a15, a16, a17⟩, ⟨a18, a19⟩, ⟨a20, a21⟩, a22, a23, a24⟩ := H
  have hp : zz_posts [] (zz_wm [] 0) = [] := by
    have : zz_wm [] 0 = 0 := rfl
    rw [this, zz_posts_0]
  have hfree : (zz_free nb (zz_ub [])).length = nb := by
    show ((List.range nb).filter (fun b => !(0 : Nat).testBit b)).length = nb
    rw [List.filter_eq_self.mpr (by simp)]
    simp
  refine ⟨a1, ⟨List.replicate 20 0, a2, by simp⟩, ?_, ⟨hl, ?_, ?_, ?_, a10⟩, ⟨⟨[], ?_⟩, ⟨[], ?_⟩, ⟨[], 0, ?_⟩⟩, ⟨⟨_, a18⟩, ⟨_, by rw [a19]; show some (Sum.inl (0, Sum.inl (List.replicate 40 0))) = _; rw [zz_rep_row]⟩⟩, ⟨⟨_, a20⟩, ⟨_, by rw [a21]; show some (Sum.inl (0, Sum.inl (List.replicate 40 0))) = _; rw [zz_rep_row]⟩⟩, ⟨a22, ⟨List.replicate 40 0, a23, by simp⟩, ⟨List.replicate 40 0, a24, by simp⟩⟩⟩
  · rw [hp]
    exact ⟨a5, List.replicate mem 0, a6, by simp⟩
  · exact ⟨by decide, a3, List.replicate 40 0, a4, by simp, fun x hx => (List.mem_replicate.mp hx).2⟩
  · refine ⟨fun _ => 0, ⟨?_, ?_, ?_⟩, ⟨fun r hr => (by cases hr), List.Pairwise.nil⟩, fun r hr => (by cases hr), fun _ _ _ _ _ => rfl⟩
    · show _ = some (Sum.inr (2, [_, _, Sum.inl (nI (zz_free nb (zz_ub [])).length)]))
      rw [hfree]
      exact a7
    · rw [a8, ← zz_rep_row]
      rfl
    · rw [a9]
      show some (Sum.inl (1, Sum.inl (List.replicate nb 0))) = some (Sum.inl (1, Sum.inl (zz_row nb (fun b => zz_b01 ((0 : Nat).testBit b)))))
      rw [zz_rep_row]
      refine congrArg some ?_
      have : zz_row nb (fun _ => (0 : Int32)) = zz_row nb (fun b => zz_b01 ((0 : Nat).testBit b)) := zz_row_eq (fun k _ => by simp [zz_b01])
      rw [this]
  · exact ⟨[], 0, [], 0, rfl, fun x hx => (by cases hx), a11, a0, Or.inl ⟨rfl, rfl⟩⟩
  · exact ⟨a12, List.replicate 800 0, a13, by rw [List.length_replicate]; rfl⟩
  · exact ⟨a14, List.replicate 800 0, a15, by rw [List.length_replicate]; rfl⟩
  · exact ⟨a16, List.replicate (16 * nb) 0, a17, by simp, fun i _ hi => by simp at hi⟩
theorem zz_I_start {mem fan nb : Nat} (h1 : 20 ≤ mem ∧ mem ≤ 48) (h2 : 2 ≤ fan ∧ fan ≤ 4) (h3 : 8 ≤ nb ∧ nb ≤ 60) : zz_I mem fan nb [] [] [] 0 0 ([], 0, 0, 0, 0) [] 0 := by
  have hp : zz_posts [] (zz_wm [] 0) = [] := by
    have : zz_wm [] 0 = 0 := rfl
    rw [this, zz_posts_0]
  refine ⟨h1, h2, h3, ⟨by simp, by simp⟩, by simp, rfl, by simp, by simp, ⟨⟨fun r hr => (by cases hr), List.Pairwise.nil⟩, fun r hr => (by cases hr), fun d hd => (by omega)⟩, by simp [zz_bf], by rw [hp]; rfl, by simp, Or.inl rfl, ⟨fun r hr => (by cases hr), List.Pairwise.nil⟩⟩
/-- the reference as it is made -/
theorem i_Mo {mem fan nb : Nat} {x1 x2 x3 : Int32} (k1 : ∀ h : hh_H, f_Mo_clamp F x1 20 48 h = some (nI mem, h)) (k2 : ∀ h : hh_H, f_Mo_clamp F x2 2 4 h = some (nI fan, h)) (k3 : ∀ h : hh_H, f_Mo_clamp F x3 8 60 h = some (nI nb, h)) (hl : h.length = 26) (hc : h[25]? = some (.inr (9, hh_dfl 9))) :
    zw (f_Mo_init F 25 x1 x2 x3 h) (fun x => zM x.2 0 mem fan nb [] [] [] 0 ([], 0, 0, 0, 0) [] 0 ∧ zz_fr [25] h x.2 ∧ x.2.length = 36) := by
  unfold f_Mo_init
  refine zw.na 20 rfl (by decide) (by decide) ?_
  rw [hl]
  have z1 : (h ++ [(.inl (0, hp_zero 0 20) : hh_C)])[26]? = some (.inl (0, hp_zero 0 20)) := by rw [← hl]; exact q_new
  refine zw.pa (q_app hc) (Nat.le_of_ble_eq_true rfl) fun h1 s1 => ?_
  have l1 : h1.length = 27 := by rw [s1.2.2]; simp [hl]
  have b1 := s1.at z1 (by decide)
  refine zw.na 800 rfl (by decide) (by decide) ?_
  rw [l1]
  have z2 : (h1 ++ [(.inl (0, hp_zero 0 800) : hh_C)])[27]? = some (.inl (0, hp_zero 0 800)) := by rw [← l1]; exact q_new
  refine zw.pa (q_app s1.1) (Nat.le_of_ble_eq_true rfl) fun h2 s2 => ?_
  have l2 : h2.length = 28 := by rw [s2.2.2]; simp [l1]
  have f2 : zz_fr [25] h1 h2 := zz_fr.app.tr (s2.fr (by simp))
  have b2 := s2.at z2 (by decide)
  refine zw.na 40 rfl (by decide) (by decide) ?_
  rw [l2]
  have z3 : (h2 ++ [(.inl (0, hp_zero 0 40) : hh_C)])[28]? = some (.inl (0, hp_zero 0 40)) := by rw [← l2]; exact q_new
  refine zw.pa (q_app s2.1) (Nat.le_of_ble_eq_true rfl) fun h3 s3 => ?_
  have l3 : h3.length = 29 := by rw [s3.2.2]; simp [l2]
  have f3 : zz_fr [25] h2 h3 := zz_fr.app.tr (s3.fr (by simp))
  have b3 := s3.at z3 (by decide)
  refine zw.na 4000 rfl (by decide) (by decide) ?_
  rw [l3]
  have z4 : (h3 ++ [(.inl (0, hp_zero 0 4000) : hh_C)])[29]? = some (.inl (0, hp_zero 0 4000)) := by rw [← l3]; exact q_new
  refine zw.pa (q_app s3.1) (Nat.le_of_ble_eq_true rfl) fun h4 s4 => ?_
  have l4 : h4.length = 30 := by rw [s4.2.2]; simp [l3]
  have f4 : zz_fr [25] h3 h4 := zz_fr.app.tr (s4.fr (by simp))
  have b4 := s4.at z4 (by decide)
  refine zw.na 60 rfl (by decide) (by decide) ?_
  rw [l4]
  have z5 : (h4 ++ [(.inl (3, hp_zero 3 60) : hh_C)])[30]? = some (.inl (3, hp_zero 3 60)) := by rw [← l4]; exact q_new
  refine zw.pa (q_app s4.1) (Nat.le_of_ble_eq_true rfl) fun h5 s5 => ?_
  have l5 : h5.length = 31 := by rw [s5.2.2]; simp [l4]
  have f5 : zz_fr [25] h4 h5 := zz_fr.app.tr (s5.fr (by simp))
  have b5 := s5.at z5 (by decide)
  refine zw.na 60 rfl (by decide) (by decide) ?_
  rw [l5]
  have z6 : (h5 ++ [(.inl (3, hp_zero 3 60) : hh_C)])[31]? = some (.inl (3, hp_zero 3 60)) := by rw [← l5]; exact q_new
  refine zw.pa (q_app s5.1) (Nat.le_of_ble_eq_true rfl) fun h6 s6 => ?_
  have l6 : h6.length = 32 := by rw [s6.2.2]; simp [l5]
  have f6 : zz_fr [25] h5 h6 := zz_fr.app.tr (s6.fr (by simp))
  have b6 := s6.at z6 (by decide)
  refine zw.na 60 rfl (by decide) (by decide) ?_
  rw [l6]
  have z7 : (h6 ++ [(.inl (0, hp_zero 0 60) : hh_C)])[32]? = some (.inl (0, hp_zero 0 60)) := by rw [← l6]; exact q_new
  refine zw.pa (q_app s6.1) (Nat.le_of_ble_eq_true rfl) fun h7 s7 => ?_
  have l7 : h7.length = 33 := by rw [s7.2.2]; simp [l6]
  have f7 : zz_fr [25] h6 h7 := zz_fr.app.tr (s7.fr (by simp))
  have b7 := s7.at z7 (by decide)
  refine zw.na 40 rfl (by decide) (by decide) ?_
  rw [l7]
  have z8 : (h7 ++ [(.inl (0, hp_zero 0 40) : hh_C)])[33]? = some (.inl (0, hp_zero 0 40)) := by rw [← l7]; exact q_new
  refine zw.pa (q_app s7.1) (Nat.le_of_ble_eq_true rfl) fun h8 s8 => ?_
  have l8 : h8.length = 34 := by rw [s8.2.2]; simp [l7]
  have f8 : zz_fr [25] h7 h8 := zz_fr.app.tr (s8.fr (by simp))
  have b8 := s8.at z8 (by decide)
  refine zw.na 40 rfl (by decide) (by decide) ?_
  rw [l8]
  have z9 : (h8 ++ [(.inl (2, hp_zero 2 40) : hh_C)])[34]? = some (.inl (2, hp_zero 2 40)) := by rw [← l8]; exact q_new
  refine zw.pa (q_app s8.1) (Nat.le_of_ble_eq_true rfl) fun h9 s9 => ?_
  have l9 : h9.length = 35 := by rw [s9.2.2]; simp [l8]
  have f9 : zz_fr [25] h8 h9 := zz_fr.app.tr (s9.fr (by simp))
  have b9 := s9.at z9 (by decide)
  refine zw.na 4001 rfl (by decide) (by decide) ?_
  rw [l9]
  have z10 : (h9 ++ [(.inl (5, hp_zero 5 4001) : hh_C)])[35]? = some (.inl (5, hp_zero 5 4001)) := by rw [← l9]; exact q_new
  refine zw.pa (q_app s9.1) (Nat.le_of_ble_eq_true rfl) fun h10 s10 => ?_
  have l10 : h10.length = 36 := by rw [s10.2.2]; simp [l9]
  have f10 : zz_fr [25] h9 h10 := zz_fr.app.tr (s10.fr (by simp))
  have b10 := s10.at z10 (by decide)
  refine zw.cbe (k1 _) ?_
  refine zw.pi s10.1 (Nat.le_of_ble_eq_true rfl) fun h11 s11 => ?_
  refine zw.cbe (k2 _) ?_
  refine zw.pi s11.1 (Nat.le_of_ble_eq_true rfl) fun h12 s12 => ?_
  refine zw.cbe (k3 _) ?_
  refine zw.pi s12.1 (Nat.le_of_ble_eq_true rfl) fun h13 s13 => ?_
  have fe : zz_fr [25] h10 h13 := (s11.fr (by simp)).tr ((s12.fr (by simp)).tr (s13.fr (by simp)))
  have e9 : zz_fr [25] h9 h13 := f10.tr fe
  have e8 : zz_fr [25] h8 h13 := f9.tr e9
  have e7 : zz_fr [25] h7 h13 := f8.tr e8
  have e6 : zz_fr [25] h6 h13 := f7.tr e7
  have e5 : zz_fr [25] h5 h13 := f6.tr e6
  have e4 : zz_fr [25] h4 h13 := f5.tr e5
  have e3 : zz_fr [25] h3 h13 := f4.tr e4
  have e2 : zz_fr [25] h2 h13 := f3.tr e3
  have e1 : zz_fr [25] h1 h13 := f2.tr e2
  have hrow : ∀ n, (.inl (0, hp_zero 0 n) : hh_C) = .inl (0, .inl (zz_row n (fun _ => 0))) := fun n => by
    show (.inl (0, .inl (List.replicate n 0)) : hh_C) = _
    rw [zz_rep_row]
  have htx : ∀ d, zz_tx [] d = [] := fun d => by simp [zz_tx]
  refine zw.ret ⟨⟨⟨0, 0, s13.1, ⟨⟨fun _ => 0, (e2.at b2 (by decide)).trans (by rw [hrow]), fun d p w hq => by rw [htx d] at hq; simp at hq⟩, ⟨fun _ => 0, (e3.at b3 (by decide)).trans (by rw [hrow]), fun d hd => by simp at hd⟩, ?_⟩, ⟨⟨List.replicate 60 0, e5.at b5 (by decide), by simp⟩, ⟨List.replicate 60 0, e6.at b6 (by decide), by simp⟩, ⟨List.replicate 60 0, e7.at b7 (by decide), by simp⟩⟩, ⟨by decide, Or.inl rfl, ⟨[], List.replicate 4001 0, fe.at b10 (by decide), by rw [List.length_replicate], fun i hi => by simp at hi⟩⟩⟩, ⟨List.replicate 20 0, e1.at b1 (by decide), by simp⟩, ⟨⟨List.replicate 40 0, e8.at b8 (by decide), by simp⟩, ⟨List.replicate 40 0, e9.at b9 (by decide), by simp, fun q => absurd q (by decide)⟩⟩⟩, zz_fr.app.tr ((s1.fr (by simp)).tr e1), by rw [s13.2.2, s12.2.2, s11.2.2, l10]⟩
  refine (e4.at b4 (by decide)).trans ?_
  rw [hrow]
  refine congrArg some (zz_row_eq2 (fun j _ => ?_))
  rw [htx, zz_pl_nil]
  rfl
end Start
