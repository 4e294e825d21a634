def f_Answer_init (F : Nat) (a0 : Nat) (h : hh_H) : Option (Unit × hh_H) :=
  hp_cb (hp_na h 0 40 40) fun b1 h3 =>
  (hp_pa h3 a0 0 0 b1).bind fun h4 =>
  hp_cb (hp_na h4 2 40 40) fun b6 h8 =>
  (hp_pa h8 a0 0 1 b6).bind fun h9 =>
  (hp_pi h9 a0 0 2 0).bind fun h11 =>
  (hp_pz h11 a0 0 3 0).bind fun h13 =>
  some ((), h13)
def f_Answer_begin (F : Nat) (a0 : Nat) (x1 : Int32) (h : hh_H) : Option (Unit × hh_H) :=
  (hp_pi h a0 0 2 0).bind fun h1 =>
  (hp_pz h1 a0 0 3 x1).bind fun h3 =>
  some ((), h3)
def f_Answer_put_76 (F : Nat) (a0 : Nat) (x1 : Int32) (y2 : UInt64) (x4 : Int32) (h : hh_H) : Option (Unit × hh_H) :=
  (hp_ga h a0 0 1).bind fun v1 =>
  (hp_sd h v1 x4 y2).bind fun h3 =>
  (hp_ga h3 a0 0 0).bind fun v5 =>
  (hp_si h3 v5 x4 x1).bind fun h7 =>
  (hp_gi h7 a0 0 2).bind fun v9 =>
  (hp_pi h7 a0 0 2 (v9 + 1)).bind fun h11 =>
  some ((), h11)
def f_Answer_put_19 (F : Nat) (r19 : Nat → Int32 → UInt64 → Int32 → hh_H → Option (Unit × hh_H)) (a0 : Nat) (x1 : Int32) (y2 : UInt64) (x4 : Int32) (h : hh_H) : Option (Unit × hh_H) :=
  if x4 ≤ 0 then
    f_Answer_put_76 F a0 x1 y2 x4 h
  else
    (hp_ga h a0 0 1).bind fun v14 =>
    (hp_ad h v14 (x4 - 1)).bind fun v16 =>
    if 0 ≤ (Op.cmpValue (FP.dcmp v16 y2) .g) then
      f_Answer_put_76 F a0 x1 y2 x4 h
    else
      (hp_ga h a0 0 1).bind fun v19 =>
      (hp_ga h a0 0 1).bind fun v21 =>
      (hp_ad h v21 (x4 - 1)).bind fun v23 =>
      (hp_sd h v19 x4 v23).bind fun h25 =>
      (hp_ga h25 a0 0 0).bind fun v27 =>
      (hp_ga h25 a0 0 0).bind fun v29 =>
      (hp_ai h25 v29 (x4 - 1)).bind fun v31 =>
      (hp_si h25 v27 x4 v31).bind fun h33 =>
      r19 a0 x1 y2 (x4 + (-1)) h33
def l_Answer_put_19 (F : Nat) : Nat → Int32 → UInt64 → Int32 → hh_H → Option (Unit × hh_H) := hp_it (fun _ _ _ _ _ => none) (f_Answer_put_19 F) F
def f_Answer_put (F : Nat) (a0 : Nat) (x1 : Int32) (y2 : UInt64) (h : hh_H) : Option (Unit × hh_H) :=
  (hp_gi h a0 0 2).bind fun v35 =>
  (hp_ga h a0 0 0).bind fun v37 =>
  (hp_len h v37).bind fun v39 =>
  if v35 < v39 then
    (hp_gi h a0 0 2).bind fun v42 =>
    l_Answer_put_19 F a0 x1 y2 v42 h
  else
    some ((), h)
def f_Answer_size (F : Nat) (a0 : Nat) (h : hh_H) : Option (Int32 × hh_H) :=
  (hp_gi h a0 0 2).bind fun v1 =>
  some (v1, h)
def f_Answer_isRanked (F : Nat) (a0 : Nat) (h : hh_H) : Option (Int32 × hh_H) :=
  (hp_gi h a0 0 3).bind fun v1 =>
  (hp_zb v1).bind fun w3 =>
  some (v1, h)
def f_Answer_documentAt (F : Nat) (a0 : Nat) (x1 : Int32) (h : hh_H) : Option (Int32 × hh_H) :=
  if x1 < 0 then
    some (0, h)
  else
    (hp_gi h a0 0 2).bind fun v2 =>
    if v2 ≤ x1 then
      some (0, h)
    else
      (hp_ga h a0 0 0).bind fun v5 =>
      (hp_ai h v5 x1).bind fun v7 =>
      some (v7, h)
def f_Answer_scoreAt (F : Nat) (a0 : Nat) (x1 : Int32) (h : hh_H) : Option (UInt64 × hh_H) :=
  if x1 < 0 then
    some (FP.dconst0, h)
  else
    (hp_gi h a0 0 2).bind fun v2 =>
    if v2 ≤ x1 then
      some (FP.dconst0, h)
    else
      (hp_ga h a0 0 1).bind fun v5 =>
      (hp_ad h v5 x1).bind fun v7 =>
      some (v7, h)
theorem oi_RX0_3 : Cond.methodLink RX0 3 Lib.objectInit ∈ hh_T := hh_at 238 (by decide +kernel) (by decide +kernel)
theorem lay_X0 : ∀ w ∈ u_ws RX0 TX0 4, w ∈ hh_T := hh_sub (by decide +kernel) (by decide +kernel)
theorem tyok_X0 : ∀ k, k < 4 → parseFieldDescriptor (TX0 k).2.2.1 = some (tyX0 k) := by decide +kernel
theorem nmok_X0 : ∀ a, a < 4 → ∀ b, b < 4 → a ≠ b → (TX0 a).2.1 ≠ (TX0 b).2.1 := by decide +kernel
theorem fl_RX0_9 : hh_FL RX0 9 0 0 (.array .int) true := ⟨_, _, _, tyX0, "IndexBuilder$Answer", rfl, by decide, lay_X0, ⟨hh_at 239 (by decide +kernel) (by decide +kernel), Or.inl rfl⟩, rfl, by decide +kernel, tyok_X0, nmok_X0⟩
theorem fl_RX0_15 : hh_FL RX0 15 0 1 (.array .double) true := ⟨_, _, _, tyX0, "IndexBuilder$Answer", rfl, by decide, lay_X0, ⟨hh_at 240 (by decide +kernel) (by decide +kernel), Or.inl rfl⟩, rfl, by decide +kernel, tyok_X0, nmok_X0⟩
theorem fl_RX0_19 : hh_FL RX0 19 0 2 .int false := ⟨_, _, _, tyX0, "IndexBuilder$Answer", rfl, by decide, lay_X0, ⟨hh_at 241 (by decide +kernel) (by decide +kernel), Or.inl rfl⟩, rfl, by decide +kernel, tyok_X0, nmok_X0⟩
theorem fl_RX0_23 : hh_FL RX0 23 0 3 .boolean false := ⟨_, _, _, tyX0, "IndexBuilder$Answer", rfl, by decide, lay_X0, ⟨hh_at 242 (by decide +kernel) (by decide +kernel), Or.inl rfl⟩, rfl, by decide +kernel, tyok_X0, nmok_X0⟩
def mc_Answer_init : Nat := 2
def ms_Answer_init : Nat := 80
def rm_Answer_init : Room := { frames := 1, cells := 2, slots := 80, locals := 20 }
abbrev ok_Answer_init (X : hh_X) (B e0 : Nat) : Prop := hh_ok X B e0 cX0_init RX0 1 none "<init>" rm_Answer_init
set_option maxRecDepth 100000 in
set_option maxHeartbeats 4000000 in
theorem w_Answer_init {X : hh_X} {B e0 : Nat} {rr : Unit × hh_H} (C : ok_Answer_init X B e0) (E : hh_End X B e0 (.returned none) rr.2 mc_Answer_init ms_Answer_init) (F : Nat) (a0 : Nat) (h : hh_H)
    (hf : f_Answer_init F a0 h = some rr) : hh_W X 0 0 0 [(0, .ref (hh_ad B e0 a0))] [] h := by
  unfold f_Answer_init at hf
  refine r_aload_n C dX0_init_0 rfl 0 rfl ?_
  refine r_objInit C dX0_init_1 oi_RX0_3 oi_inst oi_code (by decide) (Nat.le_of_ble_eq_true rfl) ?_
  refine r_aload_n C dX0_init_4 rfl 0 rfl ?_
  refine r_bipush C dX0_init_5 (v := 40) (by decide) ?_
  obtain ⟨b1, h3, e2, hf⟩ := hp_cbe hf
  refine r_na_int (bd := 40) C dX0_init_7 (by decide) (by decide) (by decide) e2 ?_
  obtain ⟨h4, e5, hf⟩ := hp_bind hf
  refine r_putAF C dX0_init_9 fl_RX0_9 rfl (fun _ _ _ q => by cases q; rfl) (fun _ => ⟨rfl, rfl⟩) e5 ?_
  refine r_aload_n C dX0_init_12 rfl 0 rfl ?_
  refine r_bipush C dX0_init_13 (v := 40) (by decide) ?_
  obtain ⟨b6, h8, e7, hf⟩ := hp_cbe hf
  refine r_na_double (bd := 40) C dX0_init_15 (by decide) (by decide) (by decide) e7 ?_
  obtain ⟨h9, e10, hf⟩ := hp_bind hf
  refine r_putAF C dX0_init_17 fl_RX0_15 rfl (fun _ _ _ q => by cases q; rfl) (fun _ => ⟨rfl, rfl⟩) e10 ?_
  refine r_aload_n C dX0_init_20 rfl 0 rfl ?_
  refine r_iconst C dX0_init_21 (v := 0) (by decide) ?_
  obtain ⟨h11, e12, hf⟩ := hp_bind hf
  refine r_putI C dX0_init_22 fl_RX0_19 e12 ?_
  refine r_aload_n C dX0_init_25 rfl 0 rfl ?_
  refine r_iconst C dX0_init_26 (v := 0) (by decide) ?_
  obtain ⟨h13, e14, hf⟩ := hp_bind hf
  refine r_putZ C dX0_init_27 fl_RX0_23 e14 ?_
  exact r_return C E dX0_init_30 (by decide) (by decide) hf
theorem c_Answer_init (B e0 F : Nat) (a0 : Nat) (h : hh_H) (rr : Unit × hh_H) (hf : f_Answer_init F a0 h = some rr) : hh_Met yX0_init cX0_init 1 none rm_Answer_init mc_Answer_init ms_Answer_init B e0 [.ref (hh_ad B e0 a0)] h (.returned none) rr.2 :=
  hh_met (by decide) (Nat.le_of_ble_eq_true rfl) fun X C E => hh_pick [0] rfl (w_Answer_init C E F a0 h hf)
def mc_Answer_begin : Nat := 0
def ms_Answer_begin : Nat := 0
def rm_Answer_begin : Room := { frames := 0, cells := 0, slots := 0, locals := 0 }
abbrev ok_Answer_begin (X : hh_X) (B e0 : Nat) : Prop := hh_ok X B e0 cX0_begin RX0 2 none "begin" rm_Answer_begin
set_option maxRecDepth 100000 in
set_option maxHeartbeats 4000000 in
theorem w_Answer_begin {X : hh_X} {B e0 : Nat} {rr : Unit × hh_H} (C : ok_Answer_begin X B e0) (E : hh_End X B e0 (.returned none) rr.2 mc_Answer_begin ms_Answer_begin) (F : Nat) (a0 : Nat) (x1 : Int32) (h : hh_H)
    (hf : f_Answer_begin F a0 x1 h = some rr) : hh_W X 0 0 0 [(0, .ref (hh_ad B e0 a0)), (1, .int x1)] [] h := by
  unfold f_Answer_begin at hf
  refine r_aload_n C dX0_begin_0 rfl 0 rfl ?_
  refine r_iconst C dX0_begin_1 (v := 0) (by decide) ?_
  obtain ⟨h1, e2, hf⟩ := hp_bind hf
  refine r_putI C dX0_begin_2 fl_RX0_19 e2 ?_
  refine r_aload_n C dX0_begin_5 rfl 0 rfl ?_
  refine r_iload_n C dX0_begin_6 rfl 1 rfl ?_
  obtain ⟨h3, e4, hf⟩ := hp_bind hf
  refine r_putZ C dX0_begin_7 fl_RX0_23 e4 ?_
  exact r_return C E dX0_begin_10 (by decide) (by decide) hf
theorem c_Answer_begin (B e0 F : Nat) (a0 : Nat) (x1 : Int32) (h : hh_H) (rr : Unit × hh_H) (hf : f_Answer_begin F a0 x1 h = some rr) : hh_Met yX0_begin cX0_begin 2 none rm_Answer_begin mc_Answer_begin ms_Answer_begin B e0 [.ref (hh_ad B e0 a0), .int x1] h (.returned none) rr.2 :=
  hh_met (by decide) (Nat.le_of_ble_eq_true rfl) fun X C E => hh_pick [0, 1] rfl (w_Answer_begin C E F a0 x1 h hf)
def mc_Answer_put : Nat := 0
def ms_Answer_put : Nat := 0
def rm_Answer_put : Room := { frames := 0, cells := 0, slots := 0, locals := 0 }
abbrev ok_Answer_put (X : hh_X) (B e0 : Nat) : Prop := hh_ok X B e0 cX0_put RX0 5 none "put" rm_Answer_put
set_option maxRecDepth 100000 in
set_option maxHeartbeats 4000000 in
theorem w_Answer_put_76 {X : hh_X} {B e0 : Nat} {rr : Unit × hh_H} (C : ok_Answer_put X B e0) (E : hh_End X B e0 (.returned none) rr.2 mc_Answer_put ms_Answer_put) (F : Nat) (a0 : Nat) (x1 : Int32) (y2 : UInt64) (x4 : Int32) (h : hh_H)
    (hf : f_Answer_put_76 F a0 x1 y2 x4 h = some rr) : hh_W X 0 0 76 [(0, .ref (hh_ad B e0 a0)), (1, .int x1), (2, .double y2), (4, .int x4)] [] h := by
  unfold f_Answer_put_76 at hf
  refine r_aload_n C dX0_put_76 rfl 0 rfl ?_
  obtain ⟨v1, e2, hf⟩ := hp_bind hf
  refine r_getA C dX0_put_77 fl_RX0_15 e2 ?_
  refine r_iload C dX0_put_80 3 rfl ?_
  refine r_dload_n C dX0_put_82 rfl 2 rfl ?_
  obtain ⟨h3, e4, hf⟩ := hp_bind hf
  refine r_sd C dX0_put_83 e4 ?_
  refine r_aload_n C dX0_put_84 rfl 0 rfl ?_
  obtain ⟨v5, e6, hf⟩ := hp_bind hf
  refine r_getA C dX0_put_85 fl_RX0_9 e6 ?_
  refine r_iload C dX0_put_88 3 rfl ?_
  refine r_iload_n C dX0_put_90 rfl 1 rfl ?_
  obtain ⟨h7, e8, hf⟩ := hp_bind hf
  refine r_si C dX0_put_91 e8 ?_
  refine r_aload_n C dX0_put_92 rfl 0 rfl ?_
  refine r_dup C dX0_put_93 rfl ?_
  obtain ⟨v9, e10, hf⟩ := hp_bind hf
  refine r_getI C dX0_put_94 fl_RX0_19 e10 ?_
  refine r_iconst C dX0_put_97 (v := 1) (by decide) ?_
  refine r_iadd C dX0_put_98 ?_
  obtain ⟨h11, e12, hf⟩ := hp_bind hf
  refine r_putI C dX0_put_99 fl_RX0_19 e12 ?_
  exact r_return C E dX0_put_102 (by decide) (by decide) hf
set_option maxRecDepth 100000 in
set_option maxHeartbeats 4000000 in
theorem w_Answer_put_19 {X : hh_X} {B e0 : Nat} {rr : Unit × hh_H} (C : ok_Answer_put X B e0) (E : hh_End X B e0 (.returned none) rr.2 mc_Answer_put ms_Answer_put) (F : Nat) (r19 : Nat → Int32 → UInt64 → Int32 → hh_H → Option (Unit × hh_H)) (H19 : ∀ (a0 : Nat) (x1 : Int32) (y2 : UInt64) (x4 : Int32) (h : hh_H), r19 a0 x1 y2 x4 h = some rr → hh_W X 0 0 19 [(0, .ref (hh_ad B e0 a0)), (1, .int x1), (2, .double y2), (4, .int x4)] [] h) (a0 : Nat) (x1 : Int32) (y2 : UInt64) (x4 : Int32) (h : hh_H)
    (hf : f_Answer_put_19 F r19 a0 x1 y2 x4 h = some rr) : hh_W X 0 0 19 [(0, .ref (hh_ad B e0 a0)), (1, .int x1), (2, .double y2), (4, .int x4)] [] h := by
  unfold f_Answer_put_19 at hf
  refine r_iload C dX0_put_19 3 rfl ?_
  refine r_if_le C dX0_put_21 (tgt := 76) (by decide) (fun c13 => ?_) (fun c13 => ?_)
  · rw [if_pos c13] at hf
    refine hh_pick [0, 1, 2, 3] rfl ?_
    exact w_Answer_put_76 C E F a0 x1 y2 x4 h hf
  · rw [if_neg c13] at hf
    refine r_aload_n C dX0_put_24 rfl 0 rfl ?_
    obtain ⟨v14, e15, hf⟩ := hp_bind hf
    refine r_getA C dX0_put_25 fl_RX0_15 e15 ?_
    refine r_iload C dX0_put_28 3 rfl ?_
    refine r_iconst C dX0_put_30 (v := 1) (by decide) ?_
    refine r_isub C dX0_put_31 ?_
    obtain ⟨v16, e17, hf⟩ := hp_bind hf
    refine r_ad C dX0_put_32 e17 ?_
    refine r_dload_n C dX0_put_33 rfl 2 rfl ?_
    refine r_dcmp C dX0_put_34 ?_
    refine r_if_ge C dX0_put_35 (tgt := 76) (by decide) (fun c18 => ?_) (fun c18 => ?_)
    · rw [if_pos c18] at hf
      refine hh_pick [0, 1, 2, 3] rfl ?_
      exact w_Answer_put_76 C E F a0 x1 y2 x4 h hf
    · rw [if_neg c18] at hf
      refine r_aload_n C dX0_put_38 rfl 0 rfl ?_
      obtain ⟨v19, e20, hf⟩ := hp_bind hf
      refine r_getA C dX0_put_39 fl_RX0_15 e20 ?_
      refine r_iload C dX0_put_42 3 rfl ?_
      refine r_aload_n C dX0_put_44 rfl 0 rfl ?_
      obtain ⟨v21, e22, hf⟩ := hp_bind hf
      refine r_getA C dX0_put_45 fl_RX0_15 e22 ?_
      refine r_iload C dX0_put_48 3 rfl ?_
      refine r_iconst C dX0_put_50 (v := 1) (by decide) ?_
      refine r_isub C dX0_put_51 ?_
      obtain ⟨v23, e24, hf⟩ := hp_bind hf
      refine r_ad C dX0_put_52 e24 ?_
      obtain ⟨h25, e26, hf⟩ := hp_bind hf
      refine r_sd C dX0_put_53 e26 ?_
      refine r_aload_n C dX0_put_54 rfl 0 rfl ?_
      obtain ⟨v27, e28, hf⟩ := hp_bind hf
      refine r_getA C dX0_put_55 fl_RX0_9 e28 ?_
      refine r_iload C dX0_put_58 3 rfl ?_
      refine r_aload_n C dX0_put_60 rfl 0 rfl ?_
      obtain ⟨v29, e30, hf⟩ := hp_bind hf
      refine r_getA C dX0_put_61 fl_RX0_9 e30 ?_
      refine r_iload C dX0_put_64 3 rfl ?_
      refine r_iconst C dX0_put_66 (v := 1) (by decide) ?_
      refine r_isub C dX0_put_67 ?_
      obtain ⟨v31, e32, hf⟩ := hp_bind hf
      refine r_ai C dX0_put_68 e32 ?_
      obtain ⟨h33, e34, hf⟩ := hp_bind hf
      refine r_si C dX0_put_69 e34 ?_
      refine r_iinc (lv' := [(4, .int (x4 + (-1))), (0, .ref (hh_ad B e0 a0)), (1, .int x1), (2, .double y2)]) C dX0_put_70 3 rfl rfl (by decide) rfl ?_
      refine r_goto C dX0_put_73 (tgt := 19) (by decide) ?_
      refine hh_pick [1, 2, 3, 0] rfl ?_
      exact H19 a0 x1 y2 (x4 + (-1)) h33 hf
theorem wl_Answer_put_19 {X : hh_X} {B e0 : Nat} {rr : Unit × hh_H} (C : ok_Answer_put X B e0) (E : hh_End X B e0 (.returned none) rr.2 mc_Answer_put ms_Answer_put) (F : Nat) :
    ∀ (n : Nat) (a0 : Nat) (x1 : Int32) (y2 : UInt64) (x4 : Int32) (h : hh_H), hp_it (fun _ _ _ _ _ => none) (f_Answer_put_19 F) n a0 x1 y2 x4 h = some rr → hh_W X 0 0 19 [(0, .ref (hh_ad B e0 a0)), (1, .int x1), (2, .double y2), (4, .int x4)] [] h := by
  intro n
  induction n with
  | zero => intro a0 x1 y2 x4 h hf; cases hf
  | succ n ih =>
    intro a0 x1 y2 x4 h hf
    exact w_Answer_put_19 C E F _ ih a0 x1 y2 x4 h hf
set_option maxRecDepth 100000 in
set_option maxHeartbeats 4000000 in
theorem w_Answer_put {X : hh_X} {B e0 : Nat} {rr : Unit × hh_H} (C : ok_Answer_put X B e0) (E : hh_End X B e0 (.returned none) rr.2 mc_Answer_put ms_Answer_put) (F : Nat) (a0 : Nat) (x1 : Int32) (y2 : UInt64) (h : hh_H)
    (hf : f_Answer_put F a0 x1 y2 h = some rr) : hh_W X 0 0 0 [(0, .ref (hh_ad B e0 a0)), (1, .int x1), (2, .double y2)] [] h := by
  unfold f_Answer_put at hf
  refine r_aload_n C dX0_put_0 rfl 0 rfl ?_
  obtain ⟨v35, e36, hf⟩ := hp_bind hf
  refine r_getI C dX0_put_1 fl_RX0_19 e36 ?_
  refine r_aload_n C dX0_put_4 rfl 0 rfl ?_
  obtain ⟨v37, e38, hf⟩ := hp_bind hf
  refine r_getA C dX0_put_5 fl_RX0_9 e38 ?_
  obtain ⟨v39, e40, hf⟩ := hp_bind hf
  refine r_alen C dX0_put_8 e40 ?_
  refine r_icmp_lt C dX0_put_9 (tgt := 13) (by decide) (fun c41 => ?_) (fun c41 => ?_)
  · rw [if_pos c41] at hf
    refine r_aload_n C dX0_put_13 rfl 0 rfl ?_
    obtain ⟨v42, e43, hf⟩ := hp_bind hf
    refine r_getI C dX0_put_14 fl_RX0_19 e43 ?_
    refine r_istore (lv' := [(4, .int v42), (0, .ref (hh_ad B e0 a0)), (1, .int x1), (2, .double y2)]) C dX0_put_17 (by decide) rfl ?_
    refine hh_pick [1, 2, 3, 0] rfl ?_
    exact wl_Answer_put_19 C E F F a0 x1 y2 v42 h hf
  · rw [if_neg c41] at hf
    exact r_return C E dX0_put_12 (by decide) (by decide) hf
theorem c_Answer_put (B e0 F : Nat) (a0 : Nat) (x1 : Int32) (y2 : UInt64) (h : hh_H) (rr : Unit × hh_H) (hf : f_Answer_put F a0 x1 y2 h = some rr) : hh_Met yX0_put cX0_put 5 none rm_Answer_put mc_Answer_put ms_Answer_put B e0 [.ref (hh_ad B e0 a0), .int x1, .double y2] h (.returned none) rr.2 :=
  hh_met (by decide) (Nat.le_of_ble_eq_true rfl) fun X C E => hh_pick [0, 1, 2] rfl (w_Answer_put C E F a0 x1 y2 h hf)
def mc_Answer_size : Nat := 0
def ms_Answer_size : Nat := 0
def rm_Answer_size : Room := { frames := 0, cells := 0, slots := 0, locals := 0 }
abbrev ok_Answer_size (X : hh_X) (B e0 : Nat) : Prop := hh_ok X B e0 cX0_size RX0 1 (some .int) "size" rm_Answer_size
set_option maxRecDepth 100000 in
set_option maxHeartbeats 4000000 in
theorem w_Answer_size {X : hh_X} {B e0 : Nat} {rr : Int32 × hh_H} (C : ok_Answer_size X B e0) (E : hh_End X B e0 (.returned (some (.int rr.1))) rr.2 mc_Answer_size ms_Answer_size) (F : Nat) (a0 : Nat) (h : hh_H)
    (hf : f_Answer_size F a0 h = some rr) : hh_W X 0 0 0 [(0, .ref (hh_ad B e0 a0))] [] h := by
  unfold f_Answer_size at hf
  refine r_aload_n C dX0_size_0 rfl 0 rfl ?_
  obtain ⟨v1, e2, hf⟩ := hp_bind hf
  refine r_getI C dX0_size_1 fl_RX0_19 e2 ?_
  exact r_ireturn C E dX0_size_4 (by decide) (by decide) hf
theorem c_Answer_size (B e0 F : Nat) (a0 : Nat) (h : hh_H) (rr : Int32 × hh_H) (hf : f_Answer_size F a0 h = some rr) : hh_Met yX0_size cX0_size 1 (some .int) rm_Answer_size mc_Answer_size ms_Answer_size B e0 [.ref (hh_ad B e0 a0)] h (.returned (some (.int rr.1))) rr.2 :=
  hh_met (by decide) (Nat.le_of_ble_eq_true rfl) fun X C E => hh_pick [0] rfl (w_Answer_size C E F a0 h hf)
def mc_Answer_isRanked : Nat := 0
def ms_Answer_isRanked : Nat := 0
def rm_Answer_isRanked : Room := { frames := 0, cells := 0, slots := 0, locals := 0 }
abbrev ok_Answer_isRanked (X : hh_X) (B e0 : Nat) : Prop := hh_ok X B e0 cX0_isRanked RX0 1 (some .boolean) "isRanked" rm_Answer_isRanked
set_option maxRecDepth 100000 in
set_option maxHeartbeats 4000000 in
theorem w_Answer_isRanked {X : hh_X} {B e0 : Nat} {rr : Int32 × hh_H} (C : ok_Answer_isRanked X B e0) (E : hh_End X B e0 (.returned (some (.int rr.1))) rr.2 mc_Answer_isRanked ms_Answer_isRanked) (F : Nat) (a0 : Nat) (h : hh_H)
    (hf : f_Answer_isRanked F a0 h = some rr) : hh_W X 0 0 0 [(0, .ref (hh_ad B e0 a0))] [] h := by
  unfold f_Answer_isRanked at hf
  refine r_aload_n C dX0_isRanked_0 rfl 0 rfl ?_
  obtain ⟨v1, e2, hf⟩ := hp_bind hf
  refine r_getI C dX0_isRanked_1 fl_RX0_23 e2 ?_
  obtain ⟨w3, e4, hf⟩ := hp_bind hf
  obtain ⟨rfl, e4⟩ := hp_zb_of e4
  exact r_ireturnz C E dX0_isRanked_4 e4 (by decide) (by decide) hf
theorem c_Answer_isRanked (B e0 F : Nat) (a0 : Nat) (h : hh_H) (rr : Int32 × hh_H) (hf : f_Answer_isRanked F a0 h = some rr) : hh_Met yX0_isRanked cX0_isRanked 1 (some .boolean) rm_Answer_isRanked mc_Answer_isRanked ms_Answer_isRanked B e0 [.ref (hh_ad B e0 a0)] h (.returned (some (.int rr.1))) rr.2 :=
  hh_met (by decide) (Nat.le_of_ble_eq_true rfl) fun X C E => hh_pick [0] rfl (w_Answer_isRanked C E F a0 h hf)
def mc_Answer_documentAt : Nat := 0
def ms_Answer_documentAt : Nat := 0
def rm_Answer_documentAt : Room := { frames := 0, cells := 0, slots := 0, locals := 0 }
abbrev ok_Answer_documentAt (X : hh_X) (B e0 : Nat) : Prop := hh_ok X B e0 cX0_documentAt RX0 2 (some .int) "documentAt" rm_Answer_documentAt
set_option maxRecDepth 100000 in
set_option maxHeartbeats 4000000 in
theorem w_Answer_documentAt {X : hh_X} {B e0 : Nat} {rr : Int32 × hh_H} (C : ok_Answer_documentAt X B e0) (E : hh_End X B e0 (.returned (some (.int rr.1))) rr.2 mc_Answer_documentAt ms_Answer_documentAt) (F : Nat) (a0 : Nat) (x1 : Int32) (h : hh_H)
    (hf : f_Answer_documentAt F a0 x1 h = some rr) : hh_W X 0 0 0 [(0, .ref (hh_ad B e0 a0)), (1, .int x1)] [] h := by
  unfold f_Answer_documentAt at hf
  refine r_iload_n C dX0_documentAt_0 rfl 1 rfl ?_
  refine r_if_lt C dX0_documentAt_1 (tgt := 21) (by decide) (fun c1 => ?_) (fun c1 => ?_)
  · rw [if_pos c1] at hf
    refine r_iconst C dX0_documentAt_21 (v := 0) (by decide) ?_
    exact r_ireturn C E dX0_documentAt_22 (by decide) (by decide) hf
  · rw [if_neg c1] at hf
    refine r_iload_n C dX0_documentAt_4 rfl 1 rfl ?_
    refine r_aload_n C dX0_documentAt_5 rfl 0 rfl ?_
    obtain ⟨v2, e3, hf⟩ := hp_bind hf
    refine r_getI C dX0_documentAt_6 fl_RX0_19 e3 ?_
    refine r_icmp_ge C dX0_documentAt_9 (tgt := 21) (by decide) (fun c4 => ?_) (fun c4 => ?_)
    · rw [if_pos c4] at hf
      refine r_iconst C dX0_documentAt_21 (v := 0) (by decide) ?_
      exact r_ireturn C E dX0_documentAt_22 (by decide) (by decide) hf
    · rw [if_neg c4] at hf
      refine r_aload_n C dX0_documentAt_12 rfl 0 rfl ?_
      obtain ⟨v5, e6, hf⟩ := hp_bind hf
      refine r_getA C dX0_documentAt_13 fl_RX0_9 e6 ?_
      refine r_iload_n C dX0_documentAt_16 rfl 1 rfl ?_
      obtain ⟨v7, e8, hf⟩ := hp_bind hf
      refine r_ai C dX0_documentAt_17 e8 ?_
      refine r_goto C dX0_documentAt_18 (tgt := 22) (by decide) ?_
      exact r_ireturn C E dX0_documentAt_22 (by decide) (by decide) hf
theorem c_Answer_documentAt (B e0 F : Nat) (a0 : Nat) (x1 : Int32) (h : hh_H) (rr : Int32 × hh_H) (hf : f_Answer_documentAt F a0 x1 h = some rr) : hh_Met yX0_documentAt cX0_documentAt 2 (some .int) rm_Answer_documentAt mc_Answer_documentAt ms_Answer_documentAt B e0 [.ref (hh_ad B e0 a0), .int x1] h (.returned (some (.int rr.1))) rr.2 :=
  hh_met (by decide) (Nat.le_of_ble_eq_true rfl) fun X C E => hh_pick [0, 1] rfl (w_Answer_documentAt C E F a0 x1 h hf)
def mc_Answer_scoreAt : Nat := 0
def ms_Answer_scoreAt : Nat := 0
def rm_Answer_scoreAt : Room := { frames := 0, cells := 0, slots := 0, locals := 0 }
abbrev ok_Answer_scoreAt (X : hh_X) (B e0 : Nat) : Prop := hh_ok X B e0 cX0_scoreAt RX0 2 (some .double) "scoreAt" rm_Answer_scoreAt
set_option maxRecDepth 100000 in
set_option maxHeartbeats 4000000 in
theorem w_Answer_scoreAt {X : hh_X} {B e0 : Nat} {rr : UInt64 × hh_H} (C : ok_Answer_scoreAt X B e0) (E : hh_End X B e0 (.returned (some (.double rr.1))) rr.2 mc_Answer_scoreAt ms_Answer_scoreAt) (F : Nat) (a0 : Nat) (x1 : Int32) (h : hh_H)
    (hf : f_Answer_scoreAt F a0 x1 h = some rr) : hh_W X 0 0 0 [(0, .ref (hh_ad B e0 a0)), (1, .int x1)] [] h := by
  unfold f_Answer_scoreAt at hf
  refine r_iload_n C dX0_scoreAt_0 rfl 1 rfl ?_
  refine r_if_lt C dX0_scoreAt_1 (tgt := 21) (by decide) (fun c1 => ?_) (fun c1 => ?_)
  · rw [if_pos c1] at hf
    refine r_dconst0 C dX0_scoreAt_21 ?_
    exact r_dreturn C E dX0_scoreAt_22 (by decide) (by decide) hf
  · rw [if_neg c1] at hf
    refine r_iload_n C dX0_scoreAt_4 rfl 1 rfl ?_
    refine r_aload_n C dX0_scoreAt_5 rfl 0 rfl ?_
    obtain ⟨v2, e3, hf⟩ := hp_bind hf
    refine r_getI C dX0_scoreAt_6 fl_RX0_19 e3 ?_
    refine r_icmp_ge C dX0_scoreAt_9 (tgt := 21) (by decide) (fun c4 => ?_) (fun c4 => ?_)
    · rw [if_pos c4] at hf
      refine r_dconst0 C dX0_scoreAt_21 ?_
      exact r_dreturn C E dX0_scoreAt_22 (by decide) (by decide) hf
    · rw [if_neg c4] at hf
      refine r_aload_n C dX0_scoreAt_12 rfl 0 rfl ?_
      obtain ⟨v5, e6, hf⟩ := hp_bind hf
      refine r_getA C dX0_scoreAt_13 fl_RX0_15 e6 ?_
      refine r_iload_n C dX0_scoreAt_16 rfl 1 rfl ?_
      obtain ⟨v7, e8, hf⟩ := hp_bind hf
      refine r_ad C dX0_scoreAt_17 e8 ?_
      refine r_goto C dX0_scoreAt_18 (tgt := 22) (by decide) ?_
      exact r_dreturn C E dX0_scoreAt_22 (by decide) (by decide) hf
theorem c_Answer_scoreAt (B e0 F : Nat) (a0 : Nat) (x1 : Int32) (h : hh_H) (rr : UInt64 × hh_H) (hf : f_Answer_scoreAt F a0 x1 h = some rr) : hh_Met yX0_scoreAt cX0_scoreAt 2 (some .double) rm_Answer_scoreAt mc_Answer_scoreAt ms_Answer_scoreAt B e0 [.ref (hh_ad B e0 a0), .int x1] h (.returned (some (.double rr.1))) rr.2 :=
  hh_met (by decide) (Nat.le_of_ble_eq_true rfl) fun X C E => hh_pick [0, 1] rfl (w_Answer_scoreAt C E F a0 x1 h hf)
