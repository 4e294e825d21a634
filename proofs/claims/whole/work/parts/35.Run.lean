def f_Run_init (F : Nat) (a0 : Nat) (x1 : Int32) (a2 : Nat) (x3 : Int32) (h : hh_H) : Option (Unit × hh_H) :=
  (hp_pi h a0 6 0 x1).bind fun h1 =>
  (hp_pa h1 a0 6 1 a2).bind fun h3 =>
  (hp_pi h3 a0 6 2 x3).bind fun h5 =>
  some ((), h5)
def f_Run_isBetween (F : Nat) (a0 : Nat) (x1 : Int32) (x2 : Int32) (h : hh_H) : Option (Int32 × hh_H) :=
  (hp_gi h a0 6 0).bind fun v1 =>
  if v1 < x1 then
    some (0, h)
  else
    (hp_gi h a0 6 0).bind fun v4 =>
    if x2 < v4 then
      some (0, h)
    else
      some (1, h)
theorem oi_RX6_1 : Cond.methodLink RX6 1 Lib.objectInit ∈ hh_T := hh_at 532 (by decide +kernel) (by decide +kernel)
theorem lay_X6 : ∀ w ∈ u_ws RX6 TX6 3, w ∈ hh_T := hh_sub (by decide +kernel) (by decide +kernel)
theorem tyok_X6 : ∀ k, k < 3 → parseFieldDescriptor (TX6 k).2.2.1 = some (tyX6 k) := by decide +kernel
theorem nmok_X6 : ∀ a, a < 3 → ∀ b, b < 3 → a ≠ b → (TX6 a).2.1 ≠ (TX6 b).2.1 := by decide +kernel
theorem fl_RX6_7 : hh_FL RX6 7 6 0 .int true := ⟨_, _, _, tyX6, "IndexBuilder$Run", rfl, by decide, lay_X6, ⟨hh_at 533 (by decide +kernel) (by decide +kernel), Or.inl rfl⟩, rfl, by decide +kernel, tyok_X6, nmok_X6⟩
theorem fl_RX6_13 : hh_FL RX6 13 6 1 (.array .int) true := ⟨_, _, _, tyX6, "IndexBuilder$Run", rfl, by decide, lay_X6, ⟨hh_at 535 (by decide +kernel) (by decide +kernel), Or.inl rfl⟩, rfl, by decide +kernel, tyok_X6, nmok_X6⟩
theorem fl_RX6_17 : hh_FL RX6 17 6 2 .int true := ⟨_, _, _, tyX6, "IndexBuilder$Run", rfl, by decide, lay_X6, ⟨hh_at 538 (by decide +kernel) (by decide +kernel), Or.inl rfl⟩, rfl, by decide +kernel, tyok_X6, nmok_X6⟩
def mc_Run_init : Nat := 0
def ms_Run_init : Nat := 0
def rm_Run_init : Room := { frames := 1, cells := 0, slots := 0, locals := 20 }
abbrev ok_Run_init (X : hh_X) (B e0 : Nat) : Prop := hh_ok X B e0 cX6_init RX6 4 none "<init>" rm_Run_init
set_option maxRecDepth 100000 in
set_option maxHeartbeats 4000000 in
theorem w_Run_init {X : hh_X} {B e0 : Nat} {rr : Unit × hh_H} (C : ok_Run_init X B e0) (E : hh_End X B e0 (.returned none) rr.2 mc_Run_init ms_Run_init) (F : Nat) (a0 : Nat) (x1 : Int32) (a2 : Nat) (x3 : Int32) (h : hh_H)
    (hf : f_Run_init F a0 x1 a2 x3 h = some rr) : hh_W X 0 0 0 [(0, .ref (hh_ad B e0 a0)), (1, .int x1), (2, .ref (hh_ad B e0 a2)), (3, .int x3)] [] h := by
  unfold f_Run_init at hf
  refine r_aload_n C dX6_init_0 rfl 0 rfl ?_
  refine r_objInit C dX6_init_1 oi_RX6_1 oi_inst oi_code (by decide) (Nat.le_of_ble_eq_true rfl) ?_
  refine r_aload_n C dX6_init_4 rfl 0 rfl ?_
  refine r_iload_n C dX6_init_5 rfl 1 rfl ?_
  obtain ⟨h1, e2, hf⟩ := hp_bind hf
  refine r_putIF C dX6_init_6 fl_RX6_7 rfl (fun _ _ _ q => by cases q; rfl) e2 ?_
  refine r_aload_n C dX6_init_9 rfl 0 rfl ?_
  refine r_aload_n C dX6_init_10 rfl 2 rfl ?_
  obtain ⟨h3, e4, hf⟩ := hp_bind hf
  refine r_putAF C dX6_init_11 fl_RX6_13 rfl (fun _ _ _ q => by cases q; rfl) (fun _ => ⟨rfl, rfl⟩) e4 ?_
  refine r_aload_n C dX6_init_14 rfl 0 rfl ?_
  refine r_iload_n C dX6_init_15 rfl 3 rfl ?_
  obtain ⟨h5, e6, hf⟩ := hp_bind hf
  refine r_putIF C dX6_init_16 fl_RX6_17 rfl (fun _ _ _ q => by cases q; rfl) e6 ?_
  exact r_return C E dX6_init_19 (by decide) (by decide) hf
theorem c_Run_init (B e0 F : Nat) (a0 : Nat) (x1 : Int32) (a2 : Nat) (x3 : Int32) (h : hh_H) (rr : Unit × hh_H) (hf : f_Run_init F a0 x1 a2 x3 h = some rr) : hh_Met yX6_init cX6_init 4 none rm_Run_init mc_Run_init ms_Run_init B e0 [.ref (hh_ad B e0 a0), .int x1, .ref (hh_ad B e0 a2), .int x3] h (.returned none) rr.2 :=
  hh_met (by decide) (Nat.le_of_ble_eq_true rfl) fun X C E => hh_pick [0, 1, 2, 3] rfl (w_Run_init C E F a0 x1 a2 x3 h hf)
def mc_Run_isBetween : Nat := 0
def ms_Run_isBetween : Nat := 0
def rm_Run_isBetween : Room := { frames := 0, cells := 0, slots := 0, locals := 0 }
abbrev ok_Run_isBetween (X : hh_X) (B e0 : Nat) : Prop := hh_ok X B e0 cX6_isBetween RX6 3 (some .boolean) "isBetween" rm_Run_isBetween
set_option maxRecDepth 100000 in
set_option maxHeartbeats 4000000 in
theorem w_Run_isBetween {X : hh_X} {B e0 : Nat} {rr : Int32 × hh_H} (C : ok_Run_isBetween X B e0) (E : hh_End X B e0 (.returned (some (.int rr.1))) rr.2 mc_Run_isBetween ms_Run_isBetween) (F : Nat) (a0 : Nat) (x1 : Int32) (x2 : Int32) (h : hh_H)
    (hf : f_Run_isBetween F a0 x1 x2 h = some rr) : hh_W X 0 0 0 [(0, .ref (hh_ad B e0 a0)), (1, .int x1), (2, .int x2)] [] h := by
  unfold f_Run_isBetween at hf
  refine r_aload_n C dX6_isBetween_0 rfl 0 rfl ?_
  obtain ⟨v1, e2, hf⟩ := hp_bind hf
  refine r_getI C dX6_isBetween_1 fl_RX6_7 e2 ?_
  refine r_iload_n C dX6_isBetween_4 rfl 1 rfl ?_
  refine r_icmp_lt C dX6_isBetween_5 (tgt := 20) (by decide) (fun c3 => ?_) (fun c3 => ?_)
  · rw [if_pos c3] at hf
    refine r_iconst C dX6_isBetween_20 (v := 0) (by decide) ?_
    exact r_ireturnz C E dX6_isBetween_21 rfl (by decide) (by decide) hf
  · rw [if_neg c3] at hf
    refine r_aload_n C dX6_isBetween_8 rfl 0 rfl ?_
    obtain ⟨v4, e5, hf⟩ := hp_bind hf
    refine r_getI C dX6_isBetween_9 fl_RX6_7 e5 ?_
    refine r_iload_n C dX6_isBetween_12 rfl 2 rfl ?_
    refine r_icmp_gt C dX6_isBetween_13 (tgt := 20) (by decide) (fun c6 => ?_) (fun c6 => ?_)
    · rw [if_pos c6] at hf
      refine r_iconst C dX6_isBetween_20 (v := 0) (by decide) ?_
      exact r_ireturnz C E dX6_isBetween_21 rfl (by decide) (by decide) hf
    · rw [if_neg c6] at hf
      refine r_iconst C dX6_isBetween_16 (v := 1) (by decide) ?_
      refine r_goto C dX6_isBetween_17 (tgt := 21) (by decide) ?_
      exact r_ireturnz C E dX6_isBetween_21 rfl (by decide) (by decide) hf
theorem c_Run_isBetween (B e0 F : Nat) (a0 : Nat) (x1 : Int32) (x2 : Int32) (h : hh_H) (rr : Int32 × hh_H) (hf : f_Run_isBetween F a0 x1 x2 h = some rr) : hh_Met yX6_isBetween cX6_isBetween 3 (some .boolean) rm_Run_isBetween mc_Run_isBetween ms_Run_isBetween B e0 [.ref (hh_ad B e0 a0), .int x1, .int x2] h (.returned (some (.int rr.1))) rr.2 :=
  hh_met (by decide) (Nat.le_of_ble_eq_true rfl) fun X C E => hh_pick [0, 1, 2] rfl (w_Run_isBetween C E F a0 x1 x2 h hf)
