def f_Places_init (F : Nat) (a0 : Nat) (h : hh_H) : Option (Unit × hh_H) :=
  hp_cb (hp_na h 0 40 40) fun b1 h3 =>
  (hp_pa h3 a0 4 0 b1).bind fun h4 =>
  (hp_pi h4 a0 4 1 0).bind fun h6 =>
  some ((), h6)
def f_Places_begin (F : Nat) (a0 : Nat) (x1 : Int32) (h : hh_H) : Option (Unit × hh_H) :=
  (hp_pi h a0 4 1 x1).bind fun h1 =>
  (hp_ga h1 a0 4 0).bind fun v3 =>
  hp_cb (f_Arrays_fill F v3 0 h1) fun q5 h6 =>
  some ((), h6)
def f_Places_take_2 (F : Nat) (r2 : Nat → Nat → Nat → Int32 → hh_H → Option (Unit × hh_H)) (a0 : Nat) (a1 : Nat) (a2 : Nat) (x3 : Int32) (h : hh_H) : Option (Unit × hh_H) :=
  (hp_is h a1 5).bind fun _ =>
  hp_cb (f_Postings_size F a1 h) fun q1 h2 =>
  if q1 ≤ x3 then
    some ((), h2)
  else
    (hp_is h2 a1 5).bind fun _ =>
    hp_cb (f_Postings_keyAt F a1 x3 h2) fun q7 h8 =>
    hp_cb (f_Postings_documentOf F q7 h8) fun q12 h13 =>
    hp_cb (f_Postings_wordOf F q7 h13) fun q15 h16 =>
    (hp_gi h16 a0 4 1).bind fun v18 =>
    if q15 = v18 then
      (hp_is h16 a2 3).bind fun _ =>
      hp_cb (f_Documents_isLive F a2 q12 h16) fun q21 h22 =>
      if q21 = 0 then
        r2 a0 a1 a2 (x3 + 1) h22
      else
        (hp_ga h22 a0 4 0).bind fun v27 =>
        (hp_ai h22 v27 q12).bind fun v29 =>
        hp_cb (f_Postings_placeOf F q7 h22) fun q31 h32 =>
        (hp_si h32 v27 q12 (v29 ||| (1 <<< (q31 &&& 31)))).bind fun h34 =>
        r2 a0 a1 a2 (x3 + 1) h34
    else
      r2 a0 a1 a2 (x3 + 1) h16
def l_Places_take_2 (F : Nat) : Nat → Nat → Nat → Int32 → hh_H → Option (Unit × hh_H) := hp_it (fun _ _ _ _ _ => none) (f_Places_take_2 F) F
def f_Places_take (F : Nat) (a0 : Nat) (a1 : Nat) (a2 : Nat) (h : hh_H) : Option (Unit × hh_H) :=
  l_Places_take_2 F a0 a1 a2 0 h
def f_Places_bitsOf (F : Nat) (a0 : Nat) (x1 : Int32) (h : hh_H) : Option (Int32 × hh_H) :=
  if x1 < 0 then
    some (0, h)
  else
    (hp_ga h a0 4 0).bind fun v2 =>
    (hp_len h v2).bind fun v4 =>
    if v4 ≤ x1 then
      some (0, h)
    else
      (hp_ga h a0 4 0).bind fun v7 =>
      (hp_ai h v7 x1).bind fun v9 =>
      some (v9, h)
def f_Places_frequency_13 (F : Nat) (r13 : Int32 → Nat → Int32 → Int32 → hh_H → Option (Int32 × hh_H)) (x1 : Int32) (a2 : Nat) (x3 : Int32) (x4 : Int32) (h : hh_H) : Option (Int32 × hh_H) :=
  if x3 ≤ x4 then
    some (x1, h)
  else
    (hp_ai h a2 x4).bind fun v2 =>
    if v2 = 0 then
      r13 x1 a2 x3 (x4 + 1) h
    else
      r13 (x1 + 1) a2 x3 (x4 + 1) h
def l_Places_frequency_13 (F : Nat) : Int32 → Nat → Int32 → Int32 → hh_H → Option (Int32 × hh_H) := hp_it (fun _ _ _ _ _ => none) (f_Places_frequency_13 F) F
def f_Places_frequency (F : Nat) (a0 : Nat) (h : hh_H) : Option (Int32 × hh_H) :=
  (hp_ga h a0 4 0).bind fun v5 =>
  (hp_len h v5).bind fun v7 =>
  l_Places_frequency_13 F 0 v5 v7 0 h
def f_Places_share (F : Nat) (a0 : Nat) (x1 : Int32) (x2 : Int32) (h : hh_H) : Option (UInt64 × hh_H) :=
  (hp_is h a0 4).bind fun _ =>
  hp_cb (f_Places_bitsOf F a0 x1 h) fun q1 h2 =>
  hp_cb (f_Integer_bitCount F q1 h2) fun q6 h7 =>
  if q6 = 0 then
    some (FP.dconst0, h7)
  else
    if x2 = 0 then
      some (FP.dconst0, h7)
    else
      (hp_nn (FP.ddiv (FP.i2d q6) (FP.i2d x2))).bind fun y11 =>
      some (y11, h7)
theorem oi_RX4_3 : Cond.methodLink RX4 3 Lib.objectInit ∈ hh_T := hh_at 225 (by decide +kernel) (by decide +kernel)
theorem lay_X4 : ∀ w ∈ u_ws RX4 TX4 2, w ∈ hh_T := hh_sub (by decide +kernel) (by decide +kernel)
theorem tyok_X4 : ∀ k, k < 2 → parseFieldDescriptor (TX4 k).2.2.1 = some (tyX4 k) := by decide +kernel
theorem nmok_X4 : ∀ a, a < 2 → ∀ b, b < 2 → a ≠ b → (TX4 a).2.1 ≠ (TX4 b).2.1 := by decide +kernel
theorem fl_RX4_9 : hh_FL RX4 9 4 0 (.array .int) true := ⟨_, _, _, tyX4, "IndexBuilder$Places", rfl, by decide, lay_X4, ⟨hh_at 226 (by decide +kernel) (by decide +kernel), Or.inl rfl⟩, rfl, by decide +kernel, tyok_X4, nmok_X4⟩
theorem fl_RX4_15 : hh_FL RX4 15 4 1 .int false := ⟨_, _, _, tyX4, "IndexBuilder$Places", rfl, by decide, lay_X4, ⟨hh_at 227 (by decide +kernel) (by decide +kernel), Or.inl rfl⟩, rfl, by decide +kernel, tyok_X4, nmok_X4⟩
theorem cw_J5_fill : Cond.code yJ5_fill cJ5_fill 4 none ∈ hh_T := hh_at 1037 (by decide +kernel) (by decide +kernel)
theorem cs_RX4_19 : hh_CS RX4 19 yJ5_fill cJ5_fill 4 none 2 [.static yJ5_fill] := ⟨cw_J5_fill, hh_at 1035 (by decide +kernel) (by decide +kernel), hh_at 60 (by decide +kernel) (by decide +kernel), hh_all1 (hh_at 1036 (by decide +kernel) (by decide +kernel)), by decide +kernel⟩
theorem cs_RX4_25 : hh_CS RX4 25 yX5_size cX5_size 1 (some .int) 0 [.instanceMethod yX5_size, .selects yX5_size.cls yX5_size yX5_size] := ⟨cw_X5_size, hh_at 1046 (by decide +kernel) (by decide +kernel), hh_at 38 (by decide +kernel) (by decide +kernel), hh_all2 (hh_at 294 (by decide +kernel) (by decide +kernel)) (hh_at 295 (by decide +kernel) (by decide +kernel)), by decide +kernel⟩
theorem cs_RX4_31 : hh_CS RX4 31 yX5_keyAt cX5_keyAt 2 (some .int) 1 [.instanceMethod yX5_keyAt, .selects yX5_keyAt.cls yX5_keyAt yX5_keyAt] := ⟨cw_X5_keyAt, hh_at 1047 (by decide +kernel) (by decide +kernel), hh_at 38 (by decide +kernel) (by decide +kernel), hh_all2 (hh_at 480 (by decide +kernel) (by decide +kernel)) (hh_at 481 (by decide +kernel) (by decide +kernel)), by decide +kernel⟩
theorem cs_RX4_35 : hh_CS RX4 35 yX5_documentOf cX5_documentOf 1 (some .int) 1 [.static yX5_documentOf] := ⟨cw_X5_documentOf, hh_at 1048 (by decide +kernel) (by decide +kernel), hh_at 38 (by decide +kernel) (by decide +kernel), hh_all1 (hh_at 464 (by decide +kernel) (by decide +kernel)), by decide +kernel⟩
theorem cs_RX4_38 : hh_CS RX4 38 yX5_wordOf cX5_wordOf 1 (some .int) 1 [.static yX5_wordOf] := ⟨cw_X5_wordOf, hh_at 1049 (by decide +kernel) (by decide +kernel), hh_at 38 (by decide +kernel) (by decide +kernel), hh_all1 (hh_at 484 (by decide +kernel) (by decide +kernel)), by decide +kernel⟩
theorem cs_RX4_41 : hh_CS RX4 41 yX3_isLive cX3_isLive 2 (some .boolean) 1 [.instanceMethod yX3_isLive, .selects yX3_isLive.cls yX3_isLive yX3_isLive] := ⟨cw_X3_isLive, hh_at 1050 (by decide +kernel) (by decide +kernel), hh_at 37 (by decide +kernel) (by decide +kernel), hh_all2 (hh_at 467 (by decide +kernel) (by decide +kernel)) (hh_at 468 (by decide +kernel) (by decide +kernel)), by decide +kernel⟩
theorem cs_RX4_47 : hh_CS RX4 47 yX5_placeOf cX5_placeOf 1 (some .int) 1 [.static yX5_placeOf] := ⟨cw_X5_placeOf, hh_at 1051 (by decide +kernel) (by decide +kernel), hh_at 38 (by decide +kernel) (by decide +kernel), hh_all1 (hh_at 496 (by decide +kernel) (by decide +kernel)), by decide +kernel⟩
theorem cw_X4_bitsOf : Cond.code yX4_bitsOf cX4_bitsOf 2 (some .int) ∈ hh_T := hh_at 1064 (by decide +kernel) (by decide +kernel)
theorem cs_RX4_50 : hh_CS RX4 50 yX4_bitsOf cX4_bitsOf 2 (some .int) 1 [.instanceMethod yX4_bitsOf, .selects yX4_bitsOf.cls yX4_bitsOf yX4_bitsOf] := ⟨cw_X4_bitsOf, hh_at 1088 (by decide +kernel) (by decide +kernel), hh_at 45 (by decide +kernel) (by decide +kernel), hh_all2 (hh_at 1062 (by decide +kernel) (by decide +kernel)) (hh_at 1063 (by decide +kernel) (by decide +kernel)), by decide +kernel⟩
theorem cw_J8_bitCount : Cond.code yJ8_bitCount cJ8_bitCount 1 (some .int) ∈ hh_T := hh_at 1091 (by decide +kernel) (by decide +kernel)
theorem cs_RX4_53 : hh_CS RX4 53 yJ8_bitCount cJ8_bitCount 1 (some .int) 1 [.static yJ8_bitCount] := ⟨cw_J8_bitCount, hh_at 1089 (by decide +kernel) (by decide +kernel), hh_at 64 (by decide +kernel) (by decide +kernel), hh_all1 (hh_at 1090 (by decide +kernel) (by decide +kernel)), by decide +kernel⟩
def mc_Places_init : Nat := 1
def ms_Places_init : Nat := 40
def rm_Places_init : Room := { frames := 1, cells := 1, slots := 40, locals := 20 }
abbrev ok_Places_init (X : hh_X) (B e0 : Nat) : Prop := hh_ok X B e0 cX4_init RX4 1 none "<init>" rm_Places_init
set_option maxRecDepth 100000 in
set_option maxHeartbeats 4000000 in
theorem w_Places_init {X : hh_X} {B e0 : Nat} {rr : Unit × hh_H} (C : ok_Places_init X B e0) (E : hh_End X B e0 (.returned none) rr.2 mc_Places_init ms_Places_init) (F : Nat) (a0 : Nat) (h : hh_H)
    (hf : f_Places_init F a0 h = some rr) : hh_W X 0 0 0 [(0, .ref (hh_ad B e0 a0))] [] h := by
  unfold f_Places_init at hf
  refine r_aload_n C dX4_init_0 rfl 0 rfl ?_
  refine r_objInit C dX4_init_1 oi_RX4_3 oi_inst oi_code (by decide) (Nat.le_of_ble_eq_true rfl) ?_
  refine r_aload_n C dX4_init_4 rfl 0 rfl ?_
  refine r_bipush C dX4_init_5 (v := 40) (by decide) ?_
  obtain ⟨b1, h3, e2, hf⟩ := hp_cbe hf
  refine r_na_int (bd := 40) C dX4_init_7 (by decide) (by decide) (by decide) e2 ?_
  obtain ⟨h4, e5, hf⟩ := hp_bind hf
  refine r_putAF C dX4_init_9 fl_RX4_9 rfl (fun _ _ _ q => by cases q; rfl) (fun _ => ⟨rfl, rfl⟩) e5 ?_
  refine r_aload_n C dX4_init_12 rfl 0 rfl ?_
  refine r_iconst C dX4_init_13 (v := 0) (by decide) ?_
  obtain ⟨h6, e7, hf⟩ := hp_bind hf
  refine r_putI C dX4_init_14 fl_RX4_15 e7 ?_
  exact r_return C E dX4_init_17 (by decide) (by decide) hf
theorem c_Places_init (B e0 F : Nat) (a0 : Nat) (h : hh_H) (rr : Unit × hh_H) (hf : f_Places_init F a0 h = some rr) : hh_Met yX4_init cX4_init 1 none rm_Places_init mc_Places_init ms_Places_init B e0 [.ref (hh_ad B e0 a0)] h (.returned none) rr.2 :=
  hh_met (by decide) (Nat.le_of_ble_eq_true rfl) fun X C E => hh_pick [0] rfl (w_Places_init C E F a0 h hf)
def mc_Places_begin : Nat := 0
def ms_Places_begin : Nat := 0
def rm_Places_begin : Room := { frames := 1, cells := 0, slots := 0, locals := 23 }
abbrev ok_Places_begin (X : hh_X) (B e0 : Nat) : Prop := hh_ok X B e0 cX4_begin RX4 2 none "begin" rm_Places_begin
set_option maxRecDepth 100000 in
set_option maxHeartbeats 4000000 in
theorem w_Places_begin {X : hh_X} {B e0 : Nat} {rr : Unit × hh_H} (C : ok_Places_begin X B e0) (E : hh_End X B e0 (.returned none) rr.2 mc_Places_begin ms_Places_begin) (F : Nat) (a0 : Nat) (x1 : Int32) (h : hh_H)
    (hf : f_Places_begin F a0 x1 h = some rr) : hh_W X 0 0 0 [(0, .ref (hh_ad B e0 a0)), (1, .int x1)] [] h := by
  unfold f_Places_begin at hf
  refine r_aload_n C dX4_begin_0 rfl 0 rfl ?_
  refine r_iload_n C dX4_begin_1 rfl 1 rfl ?_
  obtain ⟨h1, e2, hf⟩ := hp_bind hf
  refine r_putI C dX4_begin_2 fl_RX4_15 e2 ?_
  refine r_aload_n C dX4_begin_5 rfl 0 rfl ?_
  obtain ⟨v3, e4, hf⟩ := hp_bind hf
  refine r_getA C dX4_begin_6 fl_RX4_9 e4 ?_
  refine r_iconst C dX4_begin_9 (v := 0) (by decide) ?_
  obtain ⟨q5, h6, e7, hf⟩ := hp_cbe hf
  refine r_callS C dX4_begin_10 cs_RX4_19 (c_Arrays_fill B e0 F v3 0 h1 _ e7) rfl rfl rfl ⟨by decide, by decide⟩ ⟨by decide, by decide⟩ (Nat.le_of_ble_eq_true rfl) rfl ?_
  exact r_return C E dX4_begin_13 (by decide) (by decide) hf
theorem c_Places_begin (B e0 F : Nat) (a0 : Nat) (x1 : Int32) (h : hh_H) (rr : Unit × hh_H) (hf : f_Places_begin F a0 x1 h = some rr) : hh_Met yX4_begin cX4_begin 2 none rm_Places_begin mc_Places_begin ms_Places_begin B e0 [.ref (hh_ad B e0 a0), .int x1] h (.returned none) rr.2 :=
  hh_met (by decide) (Nat.le_of_ble_eq_true rfl) fun X C E => hh_pick [0, 1] rfl (w_Places_begin C E F a0 x1 h hf)
def mc_Places_take : Nat := 0
def ms_Places_take : Nat := 0
def rm_Places_take : Room := { frames := 1, cells := 0, slots := 0, locals := 21 }
abbrev ok_Places_take (X : hh_X) (B e0 : Nat) : Prop := hh_ok X B e0 cX4_take RX4 6 none "take" rm_Places_take
set_option maxRecDepth 100000 in
set_option maxHeartbeats 4000000 in
theorem w_Places_take_2 {X : hh_X} {B e0 : Nat} {rr : Unit × hh_H} (C : ok_Places_take X B e0) (E : hh_End X B e0 (.returned none) rr.2 mc_Places_take ms_Places_take) (F : Nat) (r2 : Nat → Nat → Nat → Int32 → hh_H → Option (Unit × hh_H)) (H2 : ∀ (a0 : Nat) (a1 : Nat) (a2 : Nat) (x3 : Int32) (h : hh_H), r2 a0 a1 a2 x3 h = some rr → hh_W X 0 0 2 [(0, .ref (hh_ad B e0 a0)), (1, .ref (hh_ad B e0 a1)), (2, .ref (hh_ad B e0 a2)), (3, .int x3)] [] h) (a0 : Nat) (a1 : Nat) (a2 : Nat) (x3 : Int32) (h : hh_H)
    (hf : f_Places_take_2 F r2 a0 a1 a2 x3 h = some rr) : hh_W X 0 0 2 [(0, .ref (hh_ad B e0 a0)), (1, .ref (hh_ad B e0 a1)), (2, .ref (hh_ad B e0 a2)), (3, .int x3)] [] h := by
  unfold f_Places_take_2 at hf
  refine r_iload_n C dX4_take_2 rfl 3 rfl ?_
  refine r_aload_n C dX4_take_3 rfl 1 rfl ?_
  obtain ⟨_, e4, hf⟩ := hp_bind hf
  obtain ⟨g5, e4⟩ := hp_is_of e4
  obtain ⟨q1, h2, e3, hf⟩ := hp_cbe hf
  refine r_callV C dX4_take_4 cs_RX4_25 rfl e4 (c_Postings_size B e0 F a1 h _ e3) rfl rfl rfl ⟨by decide, by decide⟩ ⟨by decide, by decide⟩ (Nat.le_of_ble_eq_true rfl) rfl ?_
  refine r_icmp_ge C dX4_take_7 (tgt := 68) (by decide) (fun c6 => ?_) (fun c6 => ?_)
  · rw [if_pos c6] at hf
    exact r_return C E dX4_take_68 (by decide) (by decide) hf
  · rw [if_neg c6] at hf
    refine r_aload_n C dX4_take_10 rfl 1 rfl ?_
    refine r_iload_n C dX4_take_11 rfl 3 rfl ?_
    obtain ⟨_, e10, hf⟩ := hp_bind hf
    obtain ⟨g11, e10⟩ := hp_is_of e10
    obtain ⟨q7, h8, e9, hf⟩ := hp_cbe hf
    refine r_callV C dX4_take_12 cs_RX4_31 rfl e10 (c_Postings_keyAt B e0 F a1 x3 h2 _ e9) rfl rfl rfl ⟨by decide, by decide⟩ ⟨by decide, by decide⟩ (Nat.le_of_ble_eq_true rfl) rfl ?_
    refine r_istore (lv' := [(4, .int q7), (0, .ref (hh_ad B e0 a0)), (1, .ref (hh_ad B e0 a1)), (2, .ref (hh_ad B e0 a2)), (3, .int x3)]) C dX4_take_15 (by decide) rfl ?_
    refine r_iload C dX4_take_17 0 rfl ?_
    obtain ⟨q12, h13, e14, hf⟩ := hp_cbe hf
    refine r_callS C dX4_take_19 cs_RX4_35 (c_Postings_documentOf B e0 F q7 h8 _ e14) rfl rfl rfl ⟨by decide, by decide⟩ ⟨by decide, by decide⟩ (Nat.le_of_ble_eq_true rfl) rfl ?_
    refine r_istore (lv' := [(5, .int q12), (4, .int q7), (0, .ref (hh_ad B e0 a0)), (1, .ref (hh_ad B e0 a1)), (2, .ref (hh_ad B e0 a2)), (3, .int x3)]) C dX4_take_22 (by decide) rfl ?_
    refine r_iload C dX4_take_24 1 rfl ?_
    obtain ⟨q15, h16, e17, hf⟩ := hp_cbe hf
    refine r_callS C dX4_take_26 cs_RX4_38 (c_Postings_wordOf B e0 F q7 h13 _ e17) rfl rfl rfl ⟨by decide, by decide⟩ ⟨by decide, by decide⟩ (Nat.le_of_ble_eq_true rfl) rfl ?_
    refine r_aload_n C dX4_take_29 rfl 2 rfl ?_
    obtain ⟨v18, e19, hf⟩ := hp_bind hf
    refine r_getI C dX4_take_30 fl_RX4_15 e19 ?_
    refine r_icmp_ne C dX4_take_33 (tgt := 62) (by decide) (fun c20 => ?_) (fun c20 => ?_)
    · rw [if_neg c20] at hf
      refine r_iinc (lv' := [(3, .int (x3 + 1)), (5, .int q12), (4, .int q7), (0, .ref (hh_ad B e0 a0)), (1, .ref (hh_ad B e0 a1)), (2, .ref (hh_ad B e0 a2))]) C dX4_take_62 5 rfl rfl (by decide) rfl ?_
      refine r_goto C dX4_take_65 (tgt := 2) (by decide) ?_
      refine hh_pick [3, 4, 5, 0] rfl ?_
      exact H2 a0 a1 a2 (x3 + 1) h16 hf
    · rw [if_pos c20] at hf
      refine r_aload_n C dX4_take_36 rfl 4 rfl ?_
      refine r_iload C dX4_take_37 0 rfl ?_
      obtain ⟨_, e24, hf⟩ := hp_bind hf
      obtain ⟨g25, e24⟩ := hp_is_of e24
      obtain ⟨q21, h22, e23, hf⟩ := hp_cbe hf
      refine r_callV C dX4_take_39 cs_RX4_41 rfl e24 (c_Documents_isLive B e0 F a2 q12 h16 _ e23) rfl rfl rfl ⟨by decide, by decide⟩ ⟨by decide, by decide⟩ (Nat.le_of_ble_eq_true rfl) rfl ?_
      refine r_if_eq C dX4_take_42 (tgt := 62) (by decide) (fun c26 => ?_) (fun c26 => ?_)
      · rw [if_pos c26] at hf
        refine r_iinc (lv' := [(3, .int (x3 + 1)), (5, .int q12), (4, .int q7), (0, .ref (hh_ad B e0 a0)), (1, .ref (hh_ad B e0 a1)), (2, .ref (hh_ad B e0 a2))]) C dX4_take_62 5 rfl rfl (by decide) rfl ?_
        refine r_goto C dX4_take_65 (tgt := 2) (by decide) ?_
        refine hh_pick [3, 4, 5, 0] rfl ?_
        exact H2 a0 a1 a2 (x3 + 1) h22 hf
      · rw [if_neg c26] at hf
        refine r_aload_n C dX4_take_45 rfl 2 rfl ?_
        obtain ⟨v27, e28, hf⟩ := hp_bind hf
        refine r_getA C dX4_take_46 fl_RX4_9 e28 ?_
        refine r_iload C dX4_take_49 0 rfl ?_
        refine r_dup2 C dX4_take_51 rfl rfl ?_
        obtain ⟨v29, e30, hf⟩ := hp_bind hf
        refine r_ai C dX4_take_52 e30 ?_
        refine r_iconst C dX4_take_53 (v := 1) (by decide) ?_
        refine r_iload C dX4_take_54 1 rfl ?_
        obtain ⟨q31, h32, e33, hf⟩ := hp_cbe hf
        refine r_callS C dX4_take_56 cs_RX4_47 (c_Postings_placeOf B e0 F q7 h22 _ e33) rfl rfl rfl ⟨by decide, by decide⟩ ⟨by decide, by decide⟩ (Nat.le_of_ble_eq_true rfl) rfl ?_
        refine r_ishl C dX4_take_59 ?_
        refine r_ior C dX4_take_60 ?_
        obtain ⟨h34, e35, hf⟩ := hp_bind hf
        refine r_si C dX4_take_61 e35 ?_
        refine r_iinc (lv' := [(3, .int (x3 + 1)), (5, .int q12), (4, .int q7), (0, .ref (hh_ad B e0 a0)), (1, .ref (hh_ad B e0 a1)), (2, .ref (hh_ad B e0 a2))]) C dX4_take_62 5 rfl rfl (by decide) rfl ?_
        refine r_goto C dX4_take_65 (tgt := 2) (by decide) ?_
        refine hh_pick [3, 4, 5, 0] rfl ?_
        exact H2 a0 a1 a2 (x3 + 1) h34 hf
theorem wl_Places_take_2 {X : hh_X} {B e0 : Nat} {rr : Unit × hh_H} (C : ok_Places_take X B e0) (E : hh_End X B e0 (.returned none) rr.2 mc_Places_take ms_Places_take) (F : Nat) :
    ∀ (n : Nat) (a0 : Nat) (a1 : Nat) (a2 : Nat) (x3 : Int32) (h : hh_H), hp_it (fun _ _ _ _ _ => none) (f_Places_take_2 F) n a0 a1 a2 x3 h = some rr → hh_W X 0 0 2 [(0, .ref (hh_ad B e0 a0)), (1, .ref (hh_ad B e0 a1)), (2, .ref (hh_ad B e0 a2)), (3, .int x3)] [] h := by
  intro n
  induction n with
  | zero => intro a0 a1 a2 x3 h hf; cases hf
  | succ n ih =>
    intro a0 a1 a2 x3 h hf
    exact w_Places_take_2 C E F _ ih a0 a1 a2 x3 h hf
set_option maxRecDepth 100000 in
set_option maxHeartbeats 4000000 in
theorem w_Places_take {X : hh_X} {B e0 : Nat} {rr : Unit × hh_H} (C : ok_Places_take X B e0) (E : hh_End X B e0 (.returned none) rr.2 mc_Places_take ms_Places_take) (F : Nat) (a0 : Nat) (a1 : Nat) (a2 : Nat) (h : hh_H)
    (hf : f_Places_take F a0 a1 a2 h = some rr) : hh_W X 0 0 0 [(0, .ref (hh_ad B e0 a0)), (1, .ref (hh_ad B e0 a1)), (2, .ref (hh_ad B e0 a2))] [] h := by
  unfold f_Places_take at hf
  refine r_iconst C dX4_take_0 (v := 0) (by decide) ?_
  refine r_istore_n (lv' := [(3, .int 0), (0, .ref (hh_ad B e0 a0)), (1, .ref (hh_ad B e0 a1)), (2, .ref (hh_ad B e0 a2))]) C dX4_take_1 rfl (by decide) rfl ?_
  refine hh_pick [1, 2, 3, 0] rfl ?_
  exact wl_Places_take_2 C E F F a0 a1 a2 0 h hf
theorem c_Places_take (B e0 F : Nat) (a0 : Nat) (a1 : Nat) (a2 : Nat) (h : hh_H) (rr : Unit × hh_H) (hf : f_Places_take F a0 a1 a2 h = some rr) : hh_Met yX4_take cX4_take 6 none rm_Places_take mc_Places_take ms_Places_take B e0 [.ref (hh_ad B e0 a0), .ref (hh_ad B e0 a1), .ref (hh_ad B e0 a2)] h (.returned none) rr.2 :=
  hh_met (by decide) (Nat.le_of_ble_eq_true rfl) fun X C E => hh_pick [0, 1, 2] rfl (w_Places_take C E F a0 a1 a2 h hf)
def mc_Places_bitsOf : Nat := 0
def ms_Places_bitsOf : Nat := 0
def rm_Places_bitsOf : Room := { frames := 0, cells := 0, slots := 0, locals := 0 }
abbrev ok_Places_bitsOf (X : hh_X) (B e0 : Nat) : Prop := hh_ok X B e0 cX4_bitsOf RX4 2 (some .int) "bitsOf" rm_Places_bitsOf
set_option maxRecDepth 100000 in
set_option maxHeartbeats 4000000 in
theorem w_Places_bitsOf {X : hh_X} {B e0 : Nat} {rr : Int32 × hh_H} (C : ok_Places_bitsOf X B e0) (E : hh_End X B e0 (.returned (some (.int rr.1))) rr.2 mc_Places_bitsOf ms_Places_bitsOf) (F : Nat) (a0 : Nat) (x1 : Int32) (h : hh_H)
    (hf : f_Places_bitsOf F a0 x1 h = some rr) : hh_W X 0 0 0 [(0, .ref (hh_ad B e0 a0)), (1, .int x1)] [] h := by
  unfold f_Places_bitsOf at hf
  refine r_iload_n C dX4_bitsOf_0 rfl 1 rfl ?_
  refine r_if_lt C dX4_bitsOf_1 (tgt := 22) (by decide) (fun c1 => ?_) (fun c1 => ?_)
  · rw [if_pos c1] at hf
    refine r_iconst C dX4_bitsOf_22 (v := 0) (by decide) ?_
    exact r_ireturn C E dX4_bitsOf_23 (by decide) (by decide) hf
  · rw [if_neg c1] at hf
    refine r_iload_n C dX4_bitsOf_4 rfl 1 rfl ?_
    refine r_aload_n C dX4_bitsOf_5 rfl 0 rfl ?_
    obtain ⟨v2, e3, hf⟩ := hp_bind hf
    refine r_getA C dX4_bitsOf_6 fl_RX4_9 e3 ?_
    obtain ⟨v4, e5, hf⟩ := hp_bind hf
    refine r_alen C dX4_bitsOf_9 e5 ?_
    refine r_icmp_ge C dX4_bitsOf_10 (tgt := 22) (by decide) (fun c6 => ?_) (fun c6 => ?_)
    · rw [if_pos c6] at hf
      refine r_iconst C dX4_bitsOf_22 (v := 0) (by decide) ?_
      exact r_ireturn C E dX4_bitsOf_23 (by decide) (by decide) hf
    · rw [if_neg c6] at hf
      refine r_aload_n C dX4_bitsOf_13 rfl 0 rfl ?_
      obtain ⟨v7, e8, hf⟩ := hp_bind hf
      refine r_getA C dX4_bitsOf_14 fl_RX4_9 e8 ?_
      refine r_iload_n C dX4_bitsOf_17 rfl 1 rfl ?_
      obtain ⟨v9, e10, hf⟩ := hp_bind hf
      refine r_ai C dX4_bitsOf_18 e10 ?_
      refine r_goto C dX4_bitsOf_19 (tgt := 23) (by decide) ?_
      exact r_ireturn C E dX4_bitsOf_23 (by decide) (by decide) hf
theorem c_Places_bitsOf (B e0 F : Nat) (a0 : Nat) (x1 : Int32) (h : hh_H) (rr : Int32 × hh_H) (hf : f_Places_bitsOf F a0 x1 h = some rr) : hh_Met yX4_bitsOf cX4_bitsOf 2 (some .int) rm_Places_bitsOf mc_Places_bitsOf ms_Places_bitsOf B e0 [.ref (hh_ad B e0 a0), .int x1] h (.returned (some (.int rr.1))) rr.2 :=
  hh_met (by decide) (Nat.le_of_ble_eq_true rfl) fun X C E => hh_pick [0, 1] rfl (w_Places_bitsOf C E F a0 x1 h hf)
def mc_Places_frequency : Nat := 0
def ms_Places_frequency : Nat := 0
def rm_Places_frequency : Room := { frames := 0, cells := 0, slots := 0, locals := 0 }
abbrev ok_Places_frequency (X : hh_X) (B e0 : Nat) : Prop := hh_ok X B e0 cX4_frequency RX4 6 (some .int) "frequency" rm_Places_frequency
set_option maxRecDepth 100000 in
set_option maxHeartbeats 4000000 in
theorem w_Places_frequency_13 {X : hh_X} {B e0 : Nat} {rr : Int32 × hh_H} (C : ok_Places_frequency X B e0) (E : hh_End X B e0 (.returned (some (.int rr.1))) rr.2 mc_Places_frequency ms_Places_frequency) (F : Nat) (r13 : Int32 → Nat → Int32 → Int32 → hh_H → Option (Int32 × hh_H)) (H13 : ∀ (x1 : Int32) (a2 : Nat) (x3 : Int32) (x4 : Int32) (h : hh_H), r13 x1 a2 x3 x4 h = some rr → hh_W X 0 0 13 [(1, .int x1), (2, .ref (hh_ad B e0 a2)), (3, .int x3), (4, .int x4)] [] h) (x1 : Int32) (a2 : Nat) (x3 : Int32) (x4 : Int32) (h : hh_H)
    (hf : f_Places_frequency_13 F r13 x1 a2 x3 x4 h = some rr) : hh_W X 0 0 13 [(1, .int x1), (2, .ref (hh_ad B e0 a2)), (3, .int x3), (4, .int x4)] [] h := by
  unfold f_Places_frequency_13 at hf
  refine r_iload C dX4_frequency_13 3 rfl ?_
  refine r_iload_n C dX4_frequency_15 rfl 2 rfl ?_
  refine r_icmp_ge C dX4_frequency_16 (tgt := 39) (by decide) (fun c1 => ?_) (fun c1 => ?_)
  · rw [if_pos c1] at hf
    refine r_iload_n C dX4_frequency_39 rfl 0 rfl ?_
    exact r_ireturn C E dX4_frequency_40 (by decide) (by decide) hf
  · rw [if_neg c1] at hf
    refine r_aload_n C dX4_frequency_19 rfl 1 rfl ?_
    refine r_iload C dX4_frequency_20 3 rfl ?_
    obtain ⟨v2, e3, hf⟩ := hp_bind hf
    refine r_ai C dX4_frequency_22 e3 ?_
    refine r_istore (lv' := [(5, .int v2), (1, .int x1), (2, .ref (hh_ad B e0 a2)), (3, .int x3), (4, .int x4)]) C dX4_frequency_23 (by decide) rfl ?_
    refine r_iload C dX4_frequency_25 0 rfl ?_
    refine r_if_eq C dX4_frequency_27 (tgt := 33) (by decide) (fun c4 => ?_) (fun c4 => ?_)
    · rw [if_pos c4] at hf
      refine r_iinc (lv' := [(4, .int (x4 + 1)), (5, .int v2), (1, .int x1), (2, .ref (hh_ad B e0 a2)), (3, .int x3)]) C dX4_frequency_33 4 rfl rfl (by decide) rfl ?_
      refine r_goto C dX4_frequency_36 (tgt := 13) (by decide) ?_
      refine hh_pick [2, 3, 4, 0] rfl ?_
      exact H13 x1 a2 x3 (x4 + 1) h hf
    · rw [if_neg c4] at hf
      refine r_iinc (lv' := [(1, .int (x1 + 1)), (5, .int v2), (2, .ref (hh_ad B e0 a2)), (3, .int x3), (4, .int x4)]) C dX4_frequency_30 1 rfl rfl (by decide) rfl ?_
      refine r_iinc (lv' := [(4, .int (x4 + 1)), (1, .int (x1 + 1)), (5, .int v2), (2, .ref (hh_ad B e0 a2)), (3, .int x3)]) C dX4_frequency_33 4 rfl rfl (by decide) rfl ?_
      refine r_goto C dX4_frequency_36 (tgt := 13) (by decide) ?_
      refine hh_pick [1, 3, 4, 0] rfl ?_
      exact H13 (x1 + 1) a2 x3 (x4 + 1) h hf
theorem wl_Places_frequency_13 {X : hh_X} {B e0 : Nat} {rr : Int32 × hh_H} (C : ok_Places_frequency X B e0) (E : hh_End X B e0 (.returned (some (.int rr.1))) rr.2 mc_Places_frequency ms_Places_frequency) (F : Nat) :
    ∀ (n : Nat) (x1 : Int32) (a2 : Nat) (x3 : Int32) (x4 : Int32) (h : hh_H), hp_it (fun _ _ _ _ _ => none) (f_Places_frequency_13 F) n x1 a2 x3 x4 h = some rr → hh_W X 0 0 13 [(1, .int x1), (2, .ref (hh_ad B e0 a2)), (3, .int x3), (4, .int x4)] [] h := by
  intro n
  induction n with
  | zero => intro x1 a2 x3 x4 h hf; cases hf
  | succ n ih =>
    intro x1 a2 x3 x4 h hf
    exact w_Places_frequency_13 C E F _ ih x1 a2 x3 x4 h hf
set_option maxRecDepth 100000 in
set_option maxHeartbeats 4000000 in
theorem w_Places_frequency {X : hh_X} {B e0 : Nat} {rr : Int32 × hh_H} (C : ok_Places_frequency X B e0) (E : hh_End X B e0 (.returned (some (.int rr.1))) rr.2 mc_Places_frequency ms_Places_frequency) (F : Nat) (a0 : Nat) (h : hh_H)
    (hf : f_Places_frequency F a0 h = some rr) : hh_W X 0 0 0 [(0, .ref (hh_ad B e0 a0))] [] h := by
  unfold f_Places_frequency at hf
  refine r_iconst C dX4_frequency_0 (v := 0) (by decide) ?_
  refine r_istore_n (lv' := [(1, .int 0), (0, .ref (hh_ad B e0 a0))]) C dX4_frequency_1 rfl (by decide) rfl ?_
  refine r_aload_n C dX4_frequency_2 rfl 1 rfl ?_
  obtain ⟨v5, e6, hf⟩ := hp_bind hf
  refine r_getA C dX4_frequency_3 fl_RX4_9 e6 ?_
  refine r_astore_n (lv' := [(2, .ref (hh_ad B e0 v5)), (1, .int 0), (0, .ref (hh_ad B e0 a0))]) C dX4_frequency_6 rfl (by decide) rfl ?_
  refine r_aload_n C dX4_frequency_7 rfl 0 rfl ?_
  obtain ⟨v7, e8, hf⟩ := hp_bind hf
  refine r_alen C dX4_frequency_8 e8 ?_
  refine r_istore_n (lv' := [(3, .int v7), (2, .ref (hh_ad B e0 v5)), (1, .int 0), (0, .ref (hh_ad B e0 a0))]) C dX4_frequency_9 rfl (by decide) rfl ?_
  refine r_iconst C dX4_frequency_10 (v := 0) (by decide) ?_
  refine r_istore (lv' := [(4, .int 0), (3, .int v7), (2, .ref (hh_ad B e0 v5)), (1, .int 0), (0, .ref (hh_ad B e0 a0))]) C dX4_frequency_11 (by decide) rfl ?_
  refine hh_pick [3, 2, 1, 0] rfl ?_
  exact wl_Places_frequency_13 C E F F 0 v5 v7 0 h hf
theorem c_Places_frequency (B e0 F : Nat) (a0 : Nat) (h : hh_H) (rr : Int32 × hh_H) (hf : f_Places_frequency F a0 h = some rr) : hh_Met yX4_frequency cX4_frequency 6 (some .int) rm_Places_frequency mc_Places_frequency ms_Places_frequency B e0 [.ref (hh_ad B e0 a0)] h (.returned (some (.int rr.1))) rr.2 :=
  hh_met (by decide) (Nat.le_of_ble_eq_true rfl) fun X C E => hh_pick [0] rfl (w_Places_frequency C E F a0 h hf)
def mc_Places_share : Nat := 0
def ms_Places_share : Nat := 0
def rm_Places_share : Room := { frames := 1, cells := 0, slots := 0, locals := 21 }
abbrev ok_Places_share (X : hh_X) (B e0 : Nat) : Prop := hh_ok X B e0 cX4_share RX4 4 (some .double) "share" rm_Places_share
set_option maxRecDepth 100000 in
set_option maxHeartbeats 4000000 in
theorem w_Places_share {X : hh_X} {B e0 : Nat} {rr : UInt64 × hh_H} (C : ok_Places_share X B e0) (E : hh_End X B e0 (.returned (some (.double rr.1))) rr.2 mc_Places_share ms_Places_share) (F : Nat) (a0 : Nat) (x1 : Int32) (x2 : Int32) (h : hh_H)
    (hf : f_Places_share F a0 x1 x2 h = some rr) : hh_W X 0 0 0 [(0, .ref (hh_ad B e0 a0)), (1, .int x1), (2, .int x2)] [] h := by
  unfold f_Places_share at hf
  refine r_aload_n C dX4_share_0 rfl 0 rfl ?_
  refine r_iload_n C dX4_share_1 rfl 1 rfl ?_
  obtain ⟨_, e4, hf⟩ := hp_bind hf
  obtain ⟨g5, e4⟩ := hp_is_of e4
  obtain ⟨q1, h2, e3, hf⟩ := hp_cbe hf
  refine r_callV C dX4_share_2 cs_RX4_50 rfl e4 (c_Places_bitsOf B e0 F a0 x1 h _ e3) rfl rfl rfl ⟨by decide, by decide⟩ ⟨by decide, by decide⟩ (Nat.le_of_ble_eq_true rfl) rfl ?_
  obtain ⟨q6, h7, e8, hf⟩ := hp_cbe hf
  refine r_callS C dX4_share_5 cs_RX4_53 (c_Integer_bitCount B e0 F q1 h2 _ e8) rfl rfl rfl ⟨by decide, by decide⟩ ⟨by decide, by decide⟩ (Nat.le_of_ble_eq_true rfl) rfl ?_
  refine r_istore_n (lv' := [(3, .int q6), (0, .ref (hh_ad B e0 a0)), (1, .int x1), (2, .int x2)]) C dX4_share_8 rfl (by decide) rfl ?_
  refine r_iload_n C dX4_share_9 rfl 0 rfl ?_
  refine r_if_eq C dX4_share_10 (tgt := 17) (by decide) (fun c9 => ?_) (fun c9 => ?_)
  · rw [if_pos c9] at hf
    refine r_dconst0 C dX4_share_17 ?_
    refine r_goto C dX4_share_18 (tgt := 26) (by decide) ?_
    exact r_dreturn C E dX4_share_26 (by decide) (by decide) hf
  · rw [if_neg c9] at hf
    refine r_iload_n C dX4_share_13 rfl 3 rfl ?_
    refine r_if_ne C dX4_share_14 (tgt := 21) (by decide) (fun c10 => ?_) (fun c10 => ?_)
    · rw [if_neg c10] at hf
      refine r_iload_n C dX4_share_21 rfl 0 rfl ?_
      refine r_i2d C dX4_share_22 ?_
      refine r_iload_n C dX4_share_23 rfl 3 rfl ?_
      refine r_i2d C dX4_share_24 ?_
      obtain ⟨y11, e12, hf⟩ := hp_bind hf
      refine r_ddiv C dX4_share_25 e12 ?_
      exact r_dreturn C E dX4_share_26 (by decide) (by decide) hf
    · rw [if_pos c10] at hf
      refine r_dconst0 C dX4_share_17 ?_
      refine r_goto C dX4_share_18 (tgt := 26) (by decide) ?_
      exact r_dreturn C E dX4_share_26 (by decide) (by decide) hf
theorem c_Places_share (B e0 F : Nat) (a0 : Nat) (x1 : Int32) (x2 : Int32) (h : hh_H) (rr : UInt64 × hh_H) (hf : f_Places_share F a0 x1 x2 h = some rr) : hh_Met yX4_share cX4_share 4 (some .double) rm_Places_share mc_Places_share ms_Places_share B e0 [.ref (hh_ad B e0 a0), .int x1, .int x2] h (.returned (some (.double rr.1))) rr.2 :=
  hh_met (by decide) (Nat.le_of_ble_eq_true rfl) fun X C E => hh_pick [0, 1, 2] rfl (w_Places_share C E F a0 x1 x2 h hf)
