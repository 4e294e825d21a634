-- the library's bit count: how many bits, for numbers under 2^20
theorem zz_land {a b c d : Nat} (ha : a < 256) (hc : c < 256) : (a + 256 * b) &&& (c + 256 * d) = (a &&& c) + 256 * (b &&& d) := by
  have h1 : ((a + 256 * b) &&& (c + 256 * d)) % 2 ^ 8 = (a &&& c) := by
    rw [Nat.and_mod_two_pow]
    congr 1 <;> omega
  have h2 : ((a + 256 * b) &&& (c + 256 * d)) / 2 ^ 8 = (b &&& d) := by
    rw [Nat.and_div_two_pow]
    congr 1 <;> omega
  omega
def zz_c1 (m : Nat) : Nat := m - (m / 2 &&& 1431655765)
def zz_c2 (m : Nat) : Nat := (m &&& 858993459) + (m / 4 &&& 858993459)
def zz_c3 (m : Nat) : Nat := (m + m / 16) &&& 252645135
def zz_by (b : Nat) : Nat := ((List.range 8).filter b.testBit).length
theorem zz_m55 : (1431655765 : Nat) = 0x55 + 256 * 0x555555 := by decide
theorem zz_m33 : (858993459 : Nat) = 0x33 + 256 * 0x333333 := by decide
theorem zz_m0f : (252645135 : Nat) = 0x0f + 256 * 0x0f0f0f := by decide
theorem zz_b1 : ∀ b, b < 256 → ∀ k, k < 2 → (b / 2 + 128 * k) &&& 0x55 = (b / 2) &&& 0x55 := by decide +kernel
theorem zz_b2 : ∀ b, b < 256 → ∀ k, k < 4 → (b / 4 + 64 * k) &&& 0x33 = (b / 4) &&& 0x33 := by decide +kernel
theorem zz_b3 : ∀ b, b < 69 → ∀ k, k < 5 → (b + b / 16 + 16 * k) &&& 0x0f = (b + b / 16) &&& 0x0f := by decide +kernel
theorem zz_b4 : ∀ b, b < 256 → (b / 2 &&& 0x55) ≤ b ∧ (((b - (b / 2 &&& 0x55)) &&& 0x33) + ((b - (b / 2 &&& 0x55)) / 4 &&& 0x33)) < 69 ∧ (((b - (b / 2 &&& 0x55)) &&& 0x33) + ((b - (b / 2 &&& 0x55)) / 4 &&& 0x33)) % 16 < 5 ∧ (((((b - (b / 2 &&& 0x55)) &&& 0x33) + ((b - (b / 2 &&& 0x55)) / 4 &&& 0x33)) + (((b - (b / 2 &&& 0x55)) &&& 0x33) + ((b - (b / 2 &&& 0x55)) / 4 &&& 0x33)) / 16) &&& 0x0f) = zz_by b := by decide +kernel
/-- the first step, with the masks cut to the bytes that are left -/
theorem zz_s1 {b r M : Nat} (hb : b < 256) : ((b + 256 * r) / 2 &&& (0x55 + 256 * M)) = (b / 2 &&& 0x55) + 256 * (r / 2 &&& M) := by
  have e : (b + 256 * r) / 2 = (b / 2 + 128 * (r % 2)) + 256 * (r / 2) := by omega
  rw [e, zz_land (by omega) (by decide), zz_b1 b hb _ (by omega)]
theorem zz_s2 {b r M : Nat} (hb : b < 256) : ((b + 256 * r) / 4 &&& (0x33 + 256 * M)) = (b / 4 &&& 0x33) + 256 * (r / 4 &&& M) := by
  have e : (b + 256 * r) / 4 = (b / 4 + 64 * (r % 4)) + 256 * (r / 4) := by omega
  rw [e, zz_land (by omega) (by decide), zz_b2 b hb _ (by omega)]
theorem zz_s3 {b r M : Nat} (hb : b < 69) (hr : r % 16 < 5) : ((b + 256 * r) + (b + 256 * r) / 16 &&& (0x0f + 256 * M)) = (b + b / 16 &&& 0x0f) + 256 * (r + r / 16 &&& M) := by
  have e : (b + 256 * r) + (b + 256 * r) / 16 = (b + b / 16 + 16 * (r % 16)) + 256 * (r + r / 16) := by omega
  rw [e, zz_land (by omega) (by decide), zz_b3 b hb _ hr]
def zz_d1 (M b : Nat) : Nat := b - (b / 2 &&& M)
def zz_d2 (M b : Nat) : Nat := (b &&& M) + (b / 4 &&& M)
theorem zz_d1_split {b r M : Nat} (hb : b < 256) : zz_d1 (0x55 + 256 * M) (b + 256 * r) = zz_d1 0x55 b + 256 * zz_d1 M r := by
  unfold zz_d1
  rw [zz_s1 hb]
  have h1 := (zz_b4 b hb).1
  have h2 : (r / 2 &&& M) ≤ r := Nat.le_trans Nat.and_le_left (Nat.div_le_self _ _)
  omega
theorem zz_d2_split {b r M : Nat} (hb : b < 256) : zz_d2 (0x33 + 256 * M) (b + 256 * r) = zz_d2 0x33 b + 256 * zz_d2 M r := by
  unfold zz_d2
  rw [zz_s2 hb, zz_land hb (by decide)]
  omega
theorem zz_steps {b0 b1 b2 : Nat} (h0 : b0 < 256) (h1 : b1 < 256) (h2 : b2 < 256) : zz_c3 (zz_c2 (zz_c1 (b0 + 256 * (b1 + 256 * b2)))) = zz_by b0 + 256 * (zz_by b1 + 256 * zz_by b2) := by
  obtain ⟨p0, q0, r0, t0⟩ := zz_b4 b0 h0
  obtain ⟨p1, q1, r1, t1⟩ := zz_b4 b1 h1
  obtain ⟨p2, q2, r2, t2⟩ := zz_b4 b2 h2
  have e1 : zz_c1 (b0 + 256 * (b1 + 256 * b2)) = zz_d1 0x55 b0 + 256 * (zz_d1 0x55 b1 + 256 * zz_d1 0x5555 b2) := by
    show zz_d1 (0x55 + 256 * (0x55 + 256 * 0x5555)) _ = _
    rw [zz_d1_split h0, zz_d1_split h1]
  have l0 : zz_d1 0x55 b0 < 256 := by unfold zz_d1; omega
  have l1 : zz_d1 0x55 b1 < 256 := by unfold zz_d1; omega
  have l2 : zz_d1 0x5555 b2 < 256 := by unfold zz_d1; omega
  have m55 : zz_d1 0x5555 b2 = zz_d1 0x55 b2 := by
    have := zz_d1_split (b := b2) (r := 0) (M := 0x55) h2
    simpa [zz_d1] using this
  have e2 : zz_c2 (zz_d1 0x55 b0 + 256 * (zz_d1 0x55 b1 + 256 * zz_d1 0x5555 b2)) = zz_d2 0x33 (zz_d1 0x55 b0) + 256 * (zz_d2 0x33 (zz_d1 0x55 b1) + 256 * zz_d2 0x3333 (zz_d1 0x5555 b2)) := by
    show zz_d2 (0x33 + 256 * (0x33 + 256 * 0x3333)) _ = _
    rw [zz_d2_split l0, zz_d2_split l1]
  have m33 : zz_d2 0x3333 (zz_d1 0x55 b2) = zz_d2 0x33 (zz_d1 0x55 b2) := by
    have := zz_d2_split (b := zz_d1 0x55 b2) (r := 0) (M := 0x33) (by rw [← m55]; exact l2)
    simpa [zz_d2] using this
  rw [e1, e2, m55, m33]
  have g0 : zz_d2 0x33 (zz_d1 0x55 b0) < 69 := q0
  have g1 : zz_d2 0x33 (zz_d1 0x55 b1) < 69 := q1
  have g2 : zz_d2 0x33 (zz_d1 0x55 b2) < 69 := q2
  have k1 : zz_d2 0x33 (zz_d1 0x55 b1) % 16 < 5 := r1
  have k2 : zz_d2 0x33 (zz_d1 0x55 b2) % 16 < 5 := r2
  show (_ + _ / 16 &&& (0x0f + 256 * (0x0f + 256 * 0x0f0f))) = _
  rw [zz_s3 g0 (by omega), zz_s3 g1 k2]
  have t0' : (zz_d2 0x33 (zz_d1 0x55 b0) + zz_d2 0x33 (zz_d1 0x55 b0) / 16 &&& 0x0f) = zz_by b0 := t0
  have t1' : (zz_d2 0x33 (zz_d1 0x55 b1) + zz_d2 0x33 (zz_d1 0x55 b1) / 16 &&& 0x0f) = zz_by b1 := t1
  have t2' : (zz_d2 0x33 (zz_d1 0x55 b2) + zz_d2 0x33 (zz_d1 0x55 b2) / 16 &&& 0x0f) = zz_by b2 := t2
  have m0f := zz_s3 (b := zz_d2 0x33 (zz_d1 0x55 b2)) (r := 0) (M := 0x0f) g2 (by decide)
  simp at m0f
  rw [t0', t1', ← t2']
  omega
def zz_pc (m : Nat) : Nat := ((List.range 20).filter m.testBit).length
theorem zz_by_le (b : Nat) : zz_by b ≤ 8 := by
  unfold zz_by
  exact Nat.le_trans (List.length_filter_le _ _) (by simp)
theorem zz_pc_by {m : Nat} (hm : m < 2 ^ 20) : zz_pc m = zz_by (m % 256) + (zz_by (m / 256 % 256) + zz_by (m / 65536)) := by
  have e : List.range 20 = List.range 8 ++ ((List.range 8).map (fun i => 8 + i) ++ (List.range 4).map (fun i => 16 + i)) := by decide
  have h4 : zz_by (m / 65536) = ((List.range 4).filter (m / 65536).testBit).length := by
    have e8 : List.range 8 = List.range 4 ++ [4, 5, 6, 7] := by decide
    unfold zz_by
    rw [e8, List.filter_append]
    have : [4, 5, 6, 7].filter (m / 65536).testBit = [] := by
      rw [List.filter_eq_nil_iff]
      intro x hx hb
      have := zz_bit_lt (n := 4) (s := m / 65536) (by omega) hb
      simp at hx
      omega
    rw [this, List.append_nil]
  rw [h4]
  unfold zz_pc zz_by
  rw [e, List.filter_append, List.filter_append, List.filter_map, List.filter_map, List.length_append, List.length_append, List.length_map, List.length_map]
  congr 1
  · congr 1
    apply List.filter_congr
    intro i hi
    have hi := List.mem_range.mp hi
    rw [show (256 : Nat) = 2 ^ 8 from rfl, Nat.testBit_mod_two_pow]
    simp [hi]
  · congr 1
    · congr 1
      apply List.filter_congr
      intro i hi
      have hi := List.mem_range.mp hi
      show m.testBit (8 + i) = _
      rw [show (256 : Nat) = 2 ^ 8 from rfl, Nat.testBit_mod_two_pow, Nat.testBit_div_two_pow, Nat.add_comm]
      simp [hi]
    · congr 1
      apply List.filter_congr
      intro i hi
      show m.testBit (16 + i) = _
      rw [show (65536 : Nat) = 2 ^ 16 from rfl, Nat.testBit_div_two_pow, Nat.add_comm]
theorem zz_nand (a b : Nat) : nI a &&& nI b = nI (a &&& b) := by
  apply Int32.toBitVec_inj.1
  show BitVec.ofNat 32 a &&& BitVec.ofNat 32 b = BitVec.ofNat 32 (a &&& b)
  apply BitVec.eq_of_getLsbD_eq
  intro i hi
  simp [hi]
theorem zz_nor (a b : Nat) : nI a ||| nI b = nI (a ||| b) := by
  apply Int32.toBitVec_inj.1
  show BitVec.ofNat 32 a ||| BitVec.ofNat 32 b = BitVec.ofNat 32 (a ||| b)
  apply BitVec.eq_of_getLsbD_eq
  intro i hi
  simp [hi]
theorem zz_land_le {a b : Nat} : (a &&& b) ≤ a := Nat.and_le_left
theorem s_bitCount {F m : Nat} {h : hh_H} (hm : m < 2 ^ 20) : f_Integer_bitCount F (nI m) h = some (nI (zz_pc m), h) := by
  have hs := zz_steps (b0 := m % 256) (b1 := m / 256 % 256) (b2 := m / 65536) (by omega) (by omega) (by omega)
  rw [show m % 256 + 256 * (m / 256 % 256 + 256 * (m / 65536)) = m by omega] at hs
  have hp := zz_pc_by hm
  have y0 := zz_by_le (m % 256)
  have y1 := zz_by_le (m / 256 % 256)
  have y2 := zz_by_le (m / 65536)
  have u : ∀ (n k : Nat) (s : Int32), n < 2 ^ 32 → ((s.toUInt32 &&& Int32.toUInt32 31).toBitVec % 32).toNat = k → ((nI n).toUInt32 >>> (s.toUInt32 &&& Int32.toUInt32 31)).toInt32 = nI (n / 2 ^ k) := fun n k s hn hs => pk_ushrN hn s k hs
  have e1 : nI m - ((((nI m).toUInt32 >>> ((1 : Int32).toUInt32 &&& Int32.toUInt32 31)).toInt32) &&& 1431655765) = nI (zz_c1 m) := by
    rw [u m 1 1 (by omega) (by decide)]
    show nI m - (nI (m / 2 ^ 1) &&& nI 1431655765) = _
    rw [zz_nand, pk_sub (Nat.le_trans Nat.and_le_left (Nat.div_le_self _ _))]
    rfl
  have b1 : zz_c1 m < 2 ^ 20 := by
    unfold zz_c1
    omega
  have e2 : (nI (zz_c1 m) &&& 858993459) + ((((nI (zz_c1 m)).toUInt32 >>> ((2 : Int32).toUInt32 &&& Int32.toUInt32 31)).toInt32) &&& 858993459) = nI (zz_c2 (zz_c1 m)) := by
    rw [u _ 2 2 (by omega) (by decide)]
    show (nI _ &&& nI 858993459) + (nI _ &&& nI 858993459) = _
    rw [zz_nand, zz_nand, nI_add]
    rfl
  have b2 : zz_c2 (zz_c1 m) < 2 ^ 21 := by
    unfold zz_c2
    have g1 : (zz_c1 m &&& 858993459) ≤ zz_c1 m := Nat.and_le_left
    have g2 : (zz_c1 m / 4 &&& 858993459) ≤ zz_c1 m / 4 := Nat.and_le_left
    omega
  have e3 : (nI (zz_c2 (zz_c1 m)) + (((nI (zz_c2 (zz_c1 m))).toUInt32 >>> ((4 : Int32).toUInt32 &&& Int32.toUInt32 31)).toInt32)) &&& 252645135 = nI (zz_c3 (zz_c2 (zz_c1 m))) := by
    rw [u _ 4 4 (by omega) (by decide)]
    show (nI _ + nI _) &&& nI 252645135 = _
    rw [nI_add, zz_nand]
    rfl
  unfold f_Integer_bitCount
  rw [e1, e2, e3, hs]
  generalize hw : zz_by (m % 256) + 256 * (zz_by (m / 256 % 256) + 256 * zz_by (m / 65536)) = w
  rw [u w 8 8 (by omega) (by decide), nI_add, u _ 16 16 (by omega) (by decide), nI_add]
  show some (nI _ &&& nI 63, h) = _
  rw [zz_nand, show (63 : Nat) = 2 ^ 6 - 1 from rfl, Nat.and_two_pow_sub_one_eq_mod, hp]
  revert y0 y1 y2 hw
  generalize zz_by (m % 256) = c0
  generalize zz_by (m / 256 % 256) = c1
  generalize zz_by (m / 65536) = c2
  intro y0 y1 y2 hw
  have g1 : w / 2 ^ 8 = c1 + 256 * c2 := by omega
  have g2 : (w + (c1 + 256 * c2)) / 2 ^ 16 = c2 := by omega
  rw [g1, g2]
  congr 3
  omega
