def f_Documents_init (F : Nat) (a0 : Nat) (h : hh_H) : Option (Unit × hh_H) :=
  hp_cb (hp_na h 1 40 40) fun b1 h3 =>
  (hp_pa h3 a0 3 0 b1).bind fun h4 =>
  (hp_pi h4 a0 3 1 0).bind fun h6 =>
  (hp_pi h6 a0 3 2 0).bind fun h8 =>
  some ((), h8)
def f_Documents_size (F : Nat) (a0 : Nat) (h : hh_H) : Option (Int32 × hh_H) :=
  (hp_gi h a0 3 1).bind fun v1 =>
  some (v1, h)
def f_Documents_live (F : Nat) (a0 : Nat) (h : hh_H) : Option (Int32 × hh_H) :=
  (hp_gi h a0 3 2).bind fun v1 =>
  some (v1, h)
def f_Documents_addNext (F : Nat) (a0 : Nat) (h : hh_H) : Option (Int32 × hh_H) :=
  (hp_gi h a0 3 1).bind fun v1 =>
  (hp_pi h a0 3 1 (v1 + 1)).bind fun h3 =>
  (hp_gi h3 a0 3 2).bind fun v5 =>
  (hp_pi h3 a0 3 2 (v5 + 1)).bind fun h7 =>
  (hp_gi h7 a0 3 1).bind fun v9 =>
  some (v9 - 1, h7)
def f_Documents_isLive (F : Nat) (a0 : Nat) (x1 : Int32) (h : hh_H) : Option (Int32 × hh_H) :=
  if x1 < 0 then
    some (0, h)
  else
    (hp_gi h a0 3 1).bind fun v2 =>
    if v2 ≤ x1 then
      some (0, h)
    else
      (hp_ga h a0 3 0).bind fun v5 =>
      (hp_len h v5).bind fun v7 =>
      if v7 ≤ x1 then
        some (0, h)
      else
        (hp_ga h a0 3 0).bind fun v10 =>
        (hp_az h v10 x1).bind fun v12 =>
        if v12 = 0 then
          some (1, h)
        else
          some (0, h)
def f_Documents_leaveOut (F : Nat) (a0 : Nat) (x1 : Int32) (h : hh_H) : Option (Unit × hh_H) :=
  (hp_is h a0 3).bind fun _ =>
  hp_cb (f_Documents_isLive F a0 x1 h) fun q1 h2 =>
  if q1 = 0 then
    some ((), h2)
  else
    (hp_ga h2 a0 3 0).bind fun v7 =>
    (hp_sz h2 v7 x1 1).bind fun h9 =>
    (hp_gi h9 a0 3 2).bind fun v11 =>
    (hp_pi h9 a0 3 2 (v11 - 1)).bind fun h13 =>
    some ((), h13)
theorem oi_RX3_3 : Cond.methodLink RX3 3 Lib.objectInit ∈ hh_T := hh_at 90 (by decide +kernel) (by decide +kernel)
theorem lay_X3 : ∀ w ∈ u_ws RX3 TX3 3, w ∈ hh_T := hh_sub (by decide +kernel) (by decide +kernel)
theorem tyok_X3 : ∀ k, k < 3 → parseFieldDescriptor (TX3 k).2.2.1 = some (tyX3 k) := by decide +kernel
theorem nmok_X3 : ∀ a, a < 3 → ∀ b, b < 3 → a ≠ b → (TX3 a).2.1 ≠ (TX3 b).2.1 := by decide +kernel
theorem fl_RX3_9 : hh_FL RX3 9 3 0 (.array .boolean) true := ⟨_, _, _, tyX3, "IndexBuilder$Documents", rfl, by decide, lay_X3, ⟨hh_at 91 (by decide +kernel) (by decide +kernel), Or.inl rfl⟩, rfl, by decide +kernel, tyok_X3, nmok_X3⟩
theorem fl_RX3_15 : hh_FL RX3 15 3 1 .int false := ⟨_, _, _, tyX3, "IndexBuilder$Documents", rfl, by decide, lay_X3, ⟨hh_at 92 (by decide +kernel) (by decide +kernel), Or.inl rfl⟩, rfl, by decide +kernel, tyok_X3, nmok_X3⟩
theorem fl_RX3_19 : hh_FL RX3 19 3 2 .int false := ⟨_, _, _, tyX3, "IndexBuilder$Documents", rfl, by decide, lay_X3, ⟨hh_at 93 (by decide +kernel) (by decide +kernel), Or.inl rfl⟩, rfl, by decide +kernel, tyok_X3, nmok_X3⟩
theorem cw_X3_isLive : Cond.code yX3_isLive cX3_isLive 2 (some .boolean) ∈ hh_T := hh_at 469 (by decide +kernel) (by decide +kernel)
theorem cs_RX3_22 : hh_CS RX3 22 yX3_isLive cX3_isLive 2 (some .boolean) 1 [.instanceMethod yX3_isLive, .selects yX3_isLive.cls yX3_isLive yX3_isLive] := ⟨cw_X3_isLive, hh_at 994 (by decide +kernel) (by decide +kernel), hh_at 37 (by decide +kernel) (by decide +kernel), hh_all2 (hh_at 467 (by decide +kernel) (by decide +kernel)) (hh_at 468 (by decide +kernel) (by decide +kernel)), by decide +kernel⟩
def mc_Documents_init : Nat := 1
def ms_Documents_init : Nat := 40
def rm_Documents_init : Room := { frames := 1, cells := 1, slots := 40, locals := 20 }
abbrev ok_Documents_init (X : hh_X) (B e0 : Nat) : Prop := hh_ok X B e0 cX3_init RX3 1 none "<init>" rm_Documents_init
set_option maxRecDepth 100000 in
set_option maxHeartbeats 4000000 in
theorem w_Documents_init {X : hh_X} {B e0 : Nat} {rr : Unit × hh_H} (C : ok_Documents_init X B e0) (E : hh_End X B e0 (.returned none) rr.2 mc_Documents_init ms_Documents_init) (F : Nat) (a0 : Nat) (h : hh_H)
    (hf : f_Documents_init F a0 h = some rr) : hh_W X 0 0 0 [(0, .ref (hh_ad B e0 a0))] [] h := by
  unfold f_Documents_init at hf
  refine r_aload_n C dX3_init_0 rfl 0 rfl ?_
  refine r_objInit C dX3_init_1 oi_RX3_3 oi_inst oi_code (by decide) (Nat.le_of_ble_eq_true rfl) ?_
  refine r_aload_n C dX3_init_4 rfl 0 rfl ?_
  refine r_bipush C dX3_init_5 (v := 40) (by decide) ?_
  obtain ⟨b1, h3, e2, hf⟩ := hp_cbe hf
  refine r_na_boolean (bd := 40) C dX3_init_7 (by decide) (by decide) (by decide) e2 ?_
  obtain ⟨h4, e5, hf⟩ := hp_bind hf
  refine r_putAF C dX3_init_9 fl_RX3_9 rfl (fun _ _ _ q => by cases q; rfl) (fun _ => ⟨rfl, rfl⟩) e5 ?_
  refine r_aload_n C dX3_init_12 rfl 0 rfl ?_
  refine r_iconst C dX3_init_13 (v := 0) (by decide) ?_
  obtain ⟨h6, e7, hf⟩ := hp_bind hf
  refine r_putI C dX3_init_14 fl_RX3_15 e7 ?_
  refine r_aload_n C dX3_init_17 rfl 0 rfl ?_
  refine r_iconst C dX3_init_18 (v := 0) (by decide) ?_
  obtain ⟨h8, e9, hf⟩ := hp_bind hf
  refine r_putI C dX3_init_19 fl_RX3_19 e9 ?_
  exact r_return C E dX3_init_22 (by decide) (by decide) hf
theorem c_Documents_init (B e0 F : Nat) (a0 : Nat) (h : hh_H) (rr : Unit × hh_H) (hf : f_Documents_init F a0 h = some rr) : hh_Met yX3_init cX3_init 1 none rm_Documents_init mc_Documents_init ms_Documents_init B e0 [.ref (hh_ad B e0 a0)] h (.returned none) rr.2 :=
  hh_met (by decide) (Nat.le_of_ble_eq_true rfl) fun X C E => hh_pick [0] rfl (w_Documents_init C E F a0 h hf)
def mc_Documents_size : Nat := 0
def ms_Documents_size : Nat := 0
def rm_Documents_size : Room := { frames := 0, cells := 0, slots := 0, locals := 0 }
abbrev ok_Documents_size (X : hh_X) (B e0 : Nat) : Prop := hh_ok X B e0 cX3_size RX3 1 (some .int) "size" rm_Documents_size
set_option maxRecDepth 100000 in
set_option maxHeartbeats 4000000 in
theorem w_Documents_size {X : hh_X} {B e0 : Nat} {rr : Int32 × hh_H} (C : ok_Documents_size X B e0) (E : hh_End X B e0 (.returned (some (.int rr.1))) rr.2 mc_Documents_size ms_Documents_size) (F : Nat) (a0 : Nat) (h : hh_H)
    (hf : f_Documents_size F a0 h = some rr) : hh_W X 0 0 0 [(0, .ref (hh_ad B e0 a0))] [] h := by
  unfold f_Documents_size at hf
  refine r_aload_n C dX3_size_0 rfl 0 rfl ?_
  obtain ⟨v1, e2, hf⟩ := hp_bind hf
  refine r_getI C dX3_size_1 fl_RX3_15 e2 ?_
  exact r_ireturn C E dX3_size_4 (by decide) (by decide) hf
theorem c_Documents_size (B e0 F : Nat) (a0 : Nat) (h : hh_H) (rr : Int32 × hh_H) (hf : f_Documents_size F a0 h = some rr) : hh_Met yX3_size cX3_size 1 (some .int) rm_Documents_size mc_Documents_size ms_Documents_size B e0 [.ref (hh_ad B e0 a0)] h (.returned (some (.int rr.1))) rr.2 :=
  hh_met (by decide) (Nat.le_of_ble_eq_true rfl) fun X C E => hh_pick [0] rfl (w_Documents_size C E F a0 h hf)
def mc_Documents_live : Nat := 0
def ms_Documents_live : Nat := 0
def rm_Documents_live : Room := { frames := 0, cells := 0, slots := 0, locals := 0 }
abbrev ok_Documents_live (X : hh_X) (B e0 : Nat) : Prop := hh_ok X B e0 cX3_live RX3 1 (some .int) "live" rm_Documents_live
set_option maxRecDepth 100000 in
set_option maxHeartbeats 4000000 in
theorem w_Documents_live {X : hh_X} {B e0 : Nat} {rr : Int32 × hh_H} (C : ok_Documents_live X B e0) (E : hh_End X B e0 (.returned (some (.int rr.1))) rr.2 mc_Documents_live ms_Documents_live) (F : Nat) (a0 : Nat) (h : hh_H)
    (hf : f_Documents_live F a0 h = some rr) : hh_W X 0 0 0 [(0, .ref (hh_ad B e0 a0))] [] h := by
  unfold f_Documents_live at hf
  refine r_aload_n C dX3_live_0 rfl 0 rfl ?_
  obtain ⟨v1, e2, hf⟩ := hp_bind hf
  refine r_getI C dX3_live_1 fl_RX3_19 e2 ?_
  exact r_ireturn C E dX3_live_4 (by decide) (by decide) hf
theorem c_Documents_live (B e0 F : Nat) (a0 : Nat) (h : hh_H) (rr : Int32 × hh_H) (hf : f_Documents_live F a0 h = some rr) : hh_Met yX3_live cX3_live 1 (some .int) rm_Documents_live mc_Documents_live ms_Documents_live B e0 [.ref (hh_ad B e0 a0)] h (.returned (some (.int rr.1))) rr.2 :=
  hh_met (by decide) (Nat.le_of_ble_eq_true rfl) fun X C E => hh_pick [0] rfl (w_Documents_live C E F a0 h hf)
def mc_Documents_addNext : Nat := 0
def ms_Documents_addNext : Nat := 0
def rm_Documents_addNext : Room := { frames := 0, cells := 0, slots := 0, locals := 0 }
abbrev ok_Documents_addNext (X : hh_X) (B e0 : Nat) : Prop := hh_ok X B e0 cX3_addNext RX3 1 (some .int) "addNext" rm_Documents_addNext
set_option maxRecDepth 100000 in
set_option maxHeartbeats 4000000 in
theorem w_Documents_addNext {X : hh_X} {B e0 : Nat} {rr : Int32 × hh_H} (C : ok_Documents_addNext X B e0) (E : hh_End X B e0 (.returned (some (.int rr.1))) rr.2 mc_Documents_addNext ms_Documents_addNext) (F : Nat) (a0 : Nat) (h : hh_H)
    (hf : f_Documents_addNext F a0 h = some rr) : hh_W X 0 0 0 [(0, .ref (hh_ad B e0 a0))] [] h := by
  unfold f_Documents_addNext at hf
  refine r_aload_n C dX3_addNext_0 rfl 0 rfl ?_
  refine r_dup C dX3_addNext_1 rfl ?_
  obtain ⟨v1, e2, hf⟩ := hp_bind hf
  refine r_getI C dX3_addNext_2 fl_RX3_15 e2 ?_
  refine r_iconst C dX3_addNext_5 (v := 1) (by decide) ?_
  refine r_iadd C dX3_addNext_6 ?_
  obtain ⟨h3, e4, hf⟩ := hp_bind hf
  refine r_putI C dX3_addNext_7 fl_RX3_15 e4 ?_
  refine r_aload_n C dX3_addNext_10 rfl 0 rfl ?_
  refine r_dup C dX3_addNext_11 rfl ?_
  obtain ⟨v5, e6, hf⟩ := hp_bind hf
  refine r_getI C dX3_addNext_12 fl_RX3_19 e6 ?_
  refine r_iconst C dX3_addNext_15 (v := 1) (by decide) ?_
  refine r_iadd C dX3_addNext_16 ?_
  obtain ⟨h7, e8, hf⟩ := hp_bind hf
  refine r_putI C dX3_addNext_17 fl_RX3_19 e8 ?_
  refine r_aload_n C dX3_addNext_20 rfl 0 rfl ?_
  obtain ⟨v9, e10, hf⟩ := hp_bind hf
  refine r_getI C dX3_addNext_21 fl_RX3_15 e10 ?_
  refine r_iconst C dX3_addNext_24 (v := 1) (by decide) ?_
  refine r_isub C dX3_addNext_25 ?_
  exact r_ireturn C E dX3_addNext_26 (by decide) (by decide) hf
theorem c_Documents_addNext (B e0 F : Nat) (a0 : Nat) (h : hh_H) (rr : Int32 × hh_H) (hf : f_Documents_addNext F a0 h = some rr) : hh_Met yX3_addNext cX3_addNext 1 (some .int) rm_Documents_addNext mc_Documents_addNext ms_Documents_addNext B e0 [.ref (hh_ad B e0 a0)] h (.returned (some (.int rr.1))) rr.2 :=
  hh_met (by decide) (Nat.le_of_ble_eq_true rfl) fun X C E => hh_pick [0] rfl (w_Documents_addNext C E F a0 h hf)
def mc_Documents_isLive : Nat := 0
def ms_Documents_isLive : Nat := 0
def rm_Documents_isLive : Room := { frames := 0, cells := 0, slots := 0, locals := 0 }
abbrev ok_Documents_isLive (X : hh_X) (B e0 : Nat) : Prop := hh_ok X B e0 cX3_isLive RX3 2 (some .boolean) "isLive" rm_Documents_isLive
set_option maxRecDepth 100000 in
set_option maxHeartbeats 4000000 in
theorem w_Documents_isLive {X : hh_X} {B e0 : Nat} {rr : Int32 × hh_H} (C : ok_Documents_isLive X B e0) (E : hh_End X B e0 (.returned (some (.int rr.1))) rr.2 mc_Documents_isLive ms_Documents_isLive) (F : Nat) (a0 : Nat) (x1 : Int32) (h : hh_H)
    (hf : f_Documents_isLive F a0 x1 h = some rr) : hh_W X 0 0 0 [(0, .ref (hh_ad B e0 a0)), (1, .int x1)] [] h := by
  unfold f_Documents_isLive at hf
  refine r_iload_n C dX3_isLive_0 rfl 1 rfl ?_
  refine r_if_lt C dX3_isLive_1 (tgt := 34) (by decide) (fun c1 => ?_) (fun c1 => ?_)
  · rw [if_pos c1] at hf
    refine r_iconst C dX3_isLive_34 (v := 0) (by decide) ?_
    exact r_ireturnz C E dX3_isLive_35 rfl (by decide) (by decide) hf
  · rw [if_neg c1] at hf
    refine r_iload_n C dX3_isLive_4 rfl 1 rfl ?_
    refine r_aload_n C dX3_isLive_5 rfl 0 rfl ?_
    obtain ⟨v2, e3, hf⟩ := hp_bind hf
    refine r_getI C dX3_isLive_6 fl_RX3_15 e3 ?_
    refine r_icmp_ge C dX3_isLive_9 (tgt := 34) (by decide) (fun c4 => ?_) (fun c4 => ?_)
    · rw [if_pos c4] at hf
      refine r_iconst C dX3_isLive_34 (v := 0) (by decide) ?_
      exact r_ireturnz C E dX3_isLive_35 rfl (by decide) (by decide) hf
    · rw [if_neg c4] at hf
      refine r_iload_n C dX3_isLive_12 rfl 1 rfl ?_
      refine r_aload_n C dX3_isLive_13 rfl 0 rfl ?_
      obtain ⟨v5, e6, hf⟩ := hp_bind hf
      refine r_getA C dX3_isLive_14 fl_RX3_9 e6 ?_
      obtain ⟨v7, e8, hf⟩ := hp_bind hf
      refine r_alen C dX3_isLive_17 e8 ?_
      refine r_icmp_ge C dX3_isLive_18 (tgt := 34) (by decide) (fun c9 => ?_) (fun c9 => ?_)
      · rw [if_pos c9] at hf
        refine r_iconst C dX3_isLive_34 (v := 0) (by decide) ?_
        exact r_ireturnz C E dX3_isLive_35 rfl (by decide) (by decide) hf
      · rw [if_neg c9] at hf
        refine r_aload_n C dX3_isLive_21 rfl 0 rfl ?_
        obtain ⟨v10, e11, hf⟩ := hp_bind hf
        refine r_getA C dX3_isLive_22 fl_RX3_9 e11 ?_
        refine r_iload_n C dX3_isLive_25 rfl 1 rfl ?_
        obtain ⟨v12, e13, hf⟩ := hp_bind hf
        refine r_az C dX3_isLive_26 e13 ?_
        refine r_if_ne C dX3_isLive_27 (tgt := 34) (by decide) (fun c14 => ?_) (fun c14 => ?_)
        · rw [if_neg c14] at hf
          refine r_iconst C dX3_isLive_34 (v := 0) (by decide) ?_
          exact r_ireturnz C E dX3_isLive_35 rfl (by decide) (by decide) hf
        · rw [if_pos c14] at hf
          refine r_iconst C dX3_isLive_30 (v := 1) (by decide) ?_
          refine r_goto C dX3_isLive_31 (tgt := 35) (by decide) ?_
          exact r_ireturnz C E dX3_isLive_35 rfl (by decide) (by decide) hf
theorem c_Documents_isLive (B e0 F : Nat) (a0 : Nat) (x1 : Int32) (h : hh_H) (rr : Int32 × hh_H) (hf : f_Documents_isLive F a0 x1 h = some rr) : hh_Met yX3_isLive cX3_isLive 2 (some .boolean) rm_Documents_isLive mc_Documents_isLive ms_Documents_isLive B e0 [.ref (hh_ad B e0 a0), .int x1] h (.returned (some (.int rr.1))) rr.2 :=
  hh_met (by decide) (Nat.le_of_ble_eq_true rfl) fun X C E => hh_pick [0, 1] rfl (w_Documents_isLive C E F a0 x1 h hf)
def mc_Documents_leaveOut : Nat := 0
def ms_Documents_leaveOut : Nat := 0
def rm_Documents_leaveOut : Room := { frames := 1, cells := 0, slots := 0, locals := 21 }
abbrev ok_Documents_leaveOut (X : hh_X) (B e0 : Nat) : Prop := hh_ok X B e0 cX3_leaveOut RX3 2 none "leaveOut" rm_Documents_leaveOut
set_option maxRecDepth 100000 in
set_option maxHeartbeats 4000000 in
theorem w_Documents_leaveOut {X : hh_X} {B e0 : Nat} {rr : Unit × hh_H} (C : ok_Documents_leaveOut X B e0) (E : hh_End X B e0 (.returned none) rr.2 mc_Documents_leaveOut ms_Documents_leaveOut) (F : Nat) (a0 : Nat) (x1 : Int32) (h : hh_H)
    (hf : f_Documents_leaveOut F a0 x1 h = some rr) : hh_W X 0 0 0 [(0, .ref (hh_ad B e0 a0)), (1, .int x1)] [] h := by
  unfold f_Documents_leaveOut at hf
  refine r_aload_n C dX3_leaveOut_0 rfl 0 rfl ?_
  refine r_iload_n C dX3_leaveOut_1 rfl 1 rfl ?_
  obtain ⟨_, e4, hf⟩ := hp_bind hf
  obtain ⟨g5, e4⟩ := hp_is_of e4
  obtain ⟨q1, h2, e3, hf⟩ := hp_cbe hf
  refine r_callV C dX3_leaveOut_2 cs_RX3_22 rfl e4 (c_Documents_isLive B e0 F a0 x1 h _ e3) rfl rfl rfl ⟨by decide, by decide⟩ ⟨by decide, by decide⟩ (Nat.le_of_ble_eq_true rfl) rfl ?_
  refine r_if_eq C dX3_leaveOut_5 (tgt := 25) (by decide) (fun c6 => ?_) (fun c6 => ?_)
  · rw [if_pos c6] at hf
    exact r_return C E dX3_leaveOut_25 (by decide) (by decide) hf
  · rw [if_neg c6] at hf
    refine r_aload_n C dX3_leaveOut_8 rfl 0 rfl ?_
    obtain ⟨v7, e8, hf⟩ := hp_bind hf
    refine r_getA C dX3_leaveOut_9 fl_RX3_9 e8 ?_
    refine r_iload_n C dX3_leaveOut_12 rfl 1 rfl ?_
    refine r_iconst C dX3_leaveOut_13 (v := 1) (by decide) ?_
    obtain ⟨h9, e10, hf⟩ := hp_bind hf
    refine r_sz C dX3_leaveOut_14 e10 ?_
    refine r_aload_n C dX3_leaveOut_15 rfl 0 rfl ?_
    refine r_dup C dX3_leaveOut_16 rfl ?_
    obtain ⟨v11, e12, hf⟩ := hp_bind hf
    refine r_getI C dX3_leaveOut_17 fl_RX3_19 e12 ?_
    refine r_iconst C dX3_leaveOut_20 (v := 1) (by decide) ?_
    refine r_isub C dX3_leaveOut_21 ?_
    obtain ⟨h13, e14, hf⟩ := hp_bind hf
    refine r_putI C dX3_leaveOut_22 fl_RX3_19 e14 ?_
    exact r_return C E dX3_leaveOut_25 (by decide) (by decide) hf
theorem c_Documents_leaveOut (B e0 F : Nat) (a0 : Nat) (x1 : Int32) (h : hh_H) (rr : Unit × hh_H) (hf : f_Documents_leaveOut F a0 x1 h = some rr) : hh_Met yX3_leaveOut cX3_leaveOut 2 none rm_Documents_leaveOut mc_Documents_leaveOut ms_Documents_leaveOut B e0 [.ref (hh_ad B e0 a0), .int x1] h (.returned none) rr.2 :=
  hh_met (by decide) (Nat.le_of_ble_eq_true rfl) fun X C E => hh_pick [0, 1] rfl (w_Documents_leaveOut C E F a0 x1 h hf)
