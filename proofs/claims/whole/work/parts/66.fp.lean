-- no sum and no quotient of the reference is NaN
def zz_fin64 (x : UInt64) : Bool := match FP.Core.decode FP.Core.b64 x.toNat with
  | .fin _ _ _ => true
  | _ => false
theorem zz_and63 {n : Nat} (h1 : n < 2 ^ 64) (h2 : n % 2 ^ 63 ≤ 0x7ff0000000000000) : hp_nn (UInt64.ofNat n) = some (UInt64.ofNat n) := by
  unfold hp_nn
  rw [if_pos]
  rw [UInt64.le_iff_toNat_le, UInt64.toNat_and]
  have e1 : (UInt64.ofNat n).toNat = n := Nat.mod_eq_of_lt h1
  have e2 : (0x7fffffffffffffff : UInt64).toNat = 2 ^ 63 - 1 := by decide
  have e3 : (0x7ff0000000000000 : UInt64).toNat = 0x7ff0000000000000 := by decide
  rw [e1, e2, e3, Nat.and_two_pow_sub_one_eq_mod]
  exact h2
theorem zz_asm {s : Bool} {e t : Nat} (he : e ≤ 2046) (ht : t < 2 ^ 52) : FP.Core.assemble FP.Core.b64 s e t < 2 ^ 64 ∧ FP.Core.assemble FP.Core.b64 s e t % 2 ^ 63 ≤ 0x7ff0000000000000 := by
  have : FP.Core.assemble FP.Core.b64 s e t = (s.toNat * 2 ^ 11 + e) * 2 ^ 52 + t := rfl
  rw [this]
  cases s
  · simp only [Bool.toNat_false]
    omega
  · simp only [Bool.toNat_true]
    omega
theorem zz_asmI {s : Bool} : FP.Core.assemble FP.Core.b64 s (FP.Core.b64.exps - 1) 0 < 2 ^ 64 ∧ FP.Core.assemble FP.Core.b64 s (FP.Core.b64.exps - 1) 0 % 2 ^ 63 ≤ 0x7ff0000000000000 := by
  cases s <;> decide
theorem zz_encF {s : Bool} {c : Nat} {q : Int} (hc : c < 2 ^ 53) (hq : q ≤ FP.Core.b64.qmax) : FP.Core.encode FP.Core.b64 (.fin s c q) < 2 ^ 64 ∧ FP.Core.encode FP.Core.b64 (.fin s c q) % 2 ^ 63 ≤ 0x7ff0000000000000 := by
  have e1 : FP.Core.b64.qmax = 971 := by decide
  have e2 : FP.Core.b64.qmin = -1074 := by decide
  have e3 : FP.Core.b64.tails = 2 ^ 52 := by decide
  rw [e1] at hq
  unfold FP.Core.encode
  simp only [e2, e3]
  split
  · exact zz_asm (by omega) (by omega)
  · exact zz_asm (by omega) (by omega)
theorem zz_encB {s : Bool} {c : Nat} {q : Int} (hc : c < 2 ^ 53) : FP.Core.encode FP.Core.b64 (FP.Core.bound FP.Core.b64 s c q) < 2 ^ 64 ∧ FP.Core.encode FP.Core.b64 (FP.Core.bound FP.Core.b64 s c q) % 2 ^ 63 ≤ 0x7ff0000000000000 := by
  unfold FP.Core.bound
  split
  · rename_i hq
    exact zz_encF hc hq
  · exact zz_asmI
theorem zz_encR {s : Bool} {c : Nat} {q : Int} : FP.Core.encode FP.Core.b64 (FP.Core.round FP.Core.b64 (.fin s c q)) < 2 ^ 64 ∧ FP.Core.encode FP.Core.b64 (FP.Core.round FP.Core.b64 (.fin s c q)) % 2 ^ 63 ≤ 0x7ff0000000000000 := by
  rw [show FP.Core.round FP.Core.b64 (.fin s c q) = FP.Core.roundRatio FP.Core.b64 s c 1 q from rfl]
  unfold FP.Core.roundRatio
  split
  · exact zz_encF (by decide) (by decide)
  · unfold FP.Core.roundAt FP.Core.settle
    split
    · rename_i hc
      exact zz_encB hc
    · exact zz_encB (by decide)
theorem zz_dadd {x y : UInt64} (hx : zz_fin64 x = true) (hy : zz_fin64 y = true) : hp_nn (FP.dadd x y) = some (FP.dadd x y) := by
  unfold zz_fin64 at hx hy
  show hp_nn (UInt64.ofNat (FP.Core.encode FP.Core.b64 (FP.Core.round FP.Core.b64 (FP.Core.exactSum (FP.Core.decode FP.Core.b64 x.toNat) (FP.Core.decode FP.Core.b64 y.toNat))))) = some (UInt64.ofNat (FP.Core.encode FP.Core.b64 (FP.Core.round FP.Core.b64 (FP.Core.exactSum (FP.Core.decode FP.Core.b64 x.toNat) (FP.Core.decode FP.Core.b64 y.toNat)))))
  revert hx hy
  rcases FP.Core.decode FP.Core.b64 x.toNat with _ | _ | ⟨s, c, q⟩
  · intro hx
    cases hx
  · intro hx
    cases hx
  · rcases FP.Core.decode FP.Core.b64 y.toNat with _ | _ | ⟨t, d, r⟩
    · intro _ hy
      cases hy
    · intro _ hy
      cases hy
    · intro _ _
      exact zz_and63 zz_encR.1 zz_encR.2
set_option maxRecDepth 20000 in
theorem zz_quo : ∀ a, a < 21 → ∀ b, b < 41 → b = 0 ∨ (zz_fin64 (FP.ddiv (FP.i2d (nI a)) (FP.i2d (nI b))) = true ∧ FP.ddiv (FP.i2d (nI a)) (FP.i2d (nI b)) &&& 0x7fffffffffffffff ≤ 0x7ff0000000000000) := by decide +kernel
theorem zz_ddiv {a b : Nat} (ha : a ≤ 20) (h0 : 0 < b) (hb : b ≤ 40) : zz_fin64 (FP.ddiv (FP.i2d (nI a)) (FP.i2d (nI b))) = true ∧ hp_nn (FP.ddiv (FP.i2d (nI a)) (FP.i2d (nI b))) = some (FP.ddiv (FP.i2d (nI a)) (FP.i2d (nI b))) := by
  rcases zz_quo a (by omega) b (by omega) with h | ⟨h1, h2⟩
  · omega
  · refine ⟨h1, ?_⟩
    unfold hp_nn
    rw [if_pos h2]
theorem zz_fin0 : zz_fin64 FP.dconst0 = true := by decide +kernel
/-- the score of a word that stands a times in a document, b documents having it -/
def zz_sh (a b : Nat) : UInt64 := if a = 0 ∨ b = 0 then FP.dconst0 else FP.ddiv (FP.i2d (nI a)) (FP.i2d (nI b))
theorem zz_sh_fin {a b : Nat} (ha : a ≤ 20) (hb : b ≤ 40) : zz_fin64 (zz_sh a b) = true := by
  unfold zz_sh
  split
  · exact zz_fin0
  · exact (zz_ddiv ha (by omega) hb).1
