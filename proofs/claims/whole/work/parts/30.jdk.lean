def f_Arrays_fill_5 (F : Nat) (r5 : Nat → Int32 → Int32 → Int32 → hh_H → Option (Unit × hh_H)) (a0 : Nat) (x1 : Int32) (x2 : Int32) (x3 : Int32) (h : hh_H) : Option (Unit × hh_H) :=
  if x3 ≤ x2 then
    some ((), h)
  else
    (hp_si h a0 x2 x1).bind fun h2 =>
    r5 a0 x1 (x2 + 1) x3 h2
def l_Arrays_fill_5 (F : Nat) : Nat → Int32 → Int32 → Int32 → hh_H → Option (Unit × hh_H) := hp_it (fun _ _ _ _ _ => none) (f_Arrays_fill_5 F) F
def f_Arrays_fill (F : Nat) (a0 : Nat) (x1 : Int32) (h : hh_H) : Option (Unit × hh_H) :=
  (hp_len h a0).bind fun v4 =>
  l_Arrays_fill_5 F a0 x1 0 v4 h
def f_Integer_bitCount (F : Nat) (x0 : Int32) (h : hh_H) : Option (Int32 × hh_H) :=
  some ((((((((x0 - (((x0.toUInt32 >>> ((1 : Int32).toUInt32 &&& Int32.toUInt32 31)).toInt32) &&& 1431655765)) &&& 858993459) + ((((x0 - (((x0.toUInt32 >>> ((1 : Int32).toUInt32 &&& Int32.toUInt32 31)).toInt32) &&& 1431655765)).toUInt32 >>> ((2 : Int32).toUInt32 &&& Int32.toUInt32 31)).toInt32) &&& 858993459)) + (((((x0 - (((x0.toUInt32 >>> ((1 : Int32).toUInt32 &&& Int32.toUInt32 31)).toInt32) &&& 1431655765)) &&& 858993459) + ((((x0 - (((x0.toUInt32 >>> ((1 : Int32).toUInt32 &&& Int32.toUInt32 31)).toInt32) &&& 1431655765)).toUInt32 >>> ((2 : Int32).toUInt32 &&& Int32.toUInt32 31)).toInt32) &&& 858993459)).toUInt32 >>> ((4 : Int32).toUInt32 &&& Int32.toUInt32 31)).toInt32)) &&& 252645135) + (((((((x0 - (((x0.toUInt32 >>> ((1 : Int32).toUInt32 &&& Int32.toUInt32 31)).toInt32) &&& 1431655765)) &&& 858993459) + ((((x0 - (((x0.toUInt32 >>> ((1 : Int32).toUInt32 &&& Int32.toUInt32 31)).toInt32) &&& 1431655765)).toUInt32 >>> ((2 : Int32).toUInt32 &&& Int32.toUInt32 31)).toInt32) &&& 858993459)) + (((((x0 - (((x0.toUInt32 >>> ((1 : Int32).toUInt32 &&& Int32.toUInt32 31)).toInt32) &&& 1431655765)) &&& 858993459) + ((((x0 - (((x0.toUInt32 >>> ((1 : Int32).toUInt32 &&& Int32.toUInt32 31)).toInt32) &&& 1431655765)).toUInt32 >>> ((2 : Int32).toUInt32 &&& Int32.toUInt32 31)).toInt32) &&& 858993459)).toUInt32 >>> ((4 : Int32).toUInt32 &&& Int32.toUInt32 31)).toInt32)) &&& 252645135).toUInt32 >>> ((8 : Int32).toUInt32 &&& Int32.toUInt32 31)).toInt32)) + ((((((((x0 - (((x0.toUInt32 >>> ((1 : Int32).toUInt32 &&& Int32.toUInt32 31)).toInt32) &&& 1431655765)) &&& 858993459) + ((((x0 - (((x0.toUInt32 >>> ((1 : Int32).toUInt32 &&& Int32.toUInt32 31)).toInt32) &&& 1431655765)).toUInt32 >>> ((2 : Int32).toUInt32 &&& Int32.toUInt32 31)).toInt32) &&& 858993459)) + (((((x0 - (((x0.toUInt32 >>> ((1 : Int32).toUInt32 &&& Int32.toUInt32 31)).toInt32) &&& 1431655765)) &&& 858993459) + ((((x0 - (((x0.toUInt32 >>> ((1 : Int32).toUInt32 &&& Int32.toUInt32 31)).toInt32) &&& 1431655765)).toUInt32 >>> ((2 : Int32).toUInt32 &&& Int32.toUInt32 31)).toInt32) &&& 858993459)).toUInt32 >>> ((4 : Int32).toUInt32 &&& Int32.toUInt32 31)).toInt32)) &&& 252645135) + (((((((x0 - (((x0.toUInt32 >>> ((1 : Int32).toUInt32 &&& Int32.toUInt32 31)).toInt32) &&& 1431655765)) &&& 858993459) + ((((x0 - (((x0.toUInt32 >>> ((1 : Int32).toUInt32 &&& Int32.toUInt32 31)).toInt32) &&& 1431655765)).toUInt32 >>> ((2 : Int32).toUInt32 &&& Int32.toUInt32 31)).toInt32) &&& 858993459)) + (((((x0 - (((x0.toUInt32 >>> ((1 : Int32).toUInt32 &&& Int32.toUInt32 31)).toInt32) &&& 1431655765)) &&& 858993459) + ((((x0 - (((x0.toUInt32 >>> ((1 : Int32).toUInt32 &&& Int32.toUInt32 31)).toInt32) &&& 1431655765)).toUInt32 >>> ((2 : Int32).toUInt32 &&& Int32.toUInt32 31)).toInt32) &&& 858993459)).toUInt32 >>> ((4 : Int32).toUInt32 &&& Int32.toUInt32 31)).toInt32)) &&& 252645135).toUInt32 >>> ((8 : Int32).toUInt32 &&& Int32.toUInt32 31)).toInt32)).toUInt32 >>> ((16 : Int32).toUInt32 &&& Int32.toUInt32 31)).toInt32)) &&& 63, h)
def f_Preconditions_checkIndex (F : Nat) (x0 : Int32) (x1 : Int32) (h : hh_H) : Option (Int32 × hh_H) :=
  if x0 < 0 then
    none
  else
    if x0 < x1 then
      some (x0, h)
    else
      none
def f_Objects_checkIndex (F : Nat) (x0 : Int32) (x1 : Int32) (h : hh_H) : Option (Int32 × hh_H) :=
  hp_cb (f_Preconditions_checkIndex F x0 x1 h) fun q1 h2 =>
  some (q1, h2)
def f_ArraysSupport_newLength (F : Nat) (x0 : Int32) (x1 : Int32) (x2 : Int32) (h : hh_H) : Option (Int32 × hh_H) :=
  if (x0 + (if x1 < x2 then x2 else x1)) ≤ 0 then
    none
  else
    if 2147483639 < (x0 + (if x1 < x2 then x2 else x1)) then
      none
    else
      some (x0 + (if x1 < x2 then x2 else x1), h)
theorem kc_RJ8_265 : Jvm.Cond.constant RJ8 265 1431655765 ∈ hh_T := hh_at 1092 (by decide +kernel) (by decide +kernel)
theorem kc_RJ8_266 : Jvm.Cond.constant RJ8 266 858993459 ∈ hh_T := hh_at 1093 (by decide +kernel) (by decide +kernel)
theorem kc_RJ8_267 : Jvm.Cond.constant RJ8 267 252645135 ∈ hh_T := hh_at 1094 (by decide +kernel) (by decide +kernel)
theorem cw_J4_checkIndex : Cond.code yJ4_checkIndex cJ4_checkIndex 3 (some .int) ∈ hh_T := hh_at 878 (by decide +kernel) (by decide +kernel)
theorem cs_RJ3_105 : hh_CS RJ3 105 yJ4_checkIndex cJ4_checkIndex 3 (some .int) 3 [.static yJ4_checkIndex] := ⟨cw_J4_checkIndex, hh_at 876 (by decide +kernel) (by decide +kernel), hh_at 62 (by decide +kernel) (by decide +kernel), hh_all1 (hh_at 877 (by decide +kernel) (by decide +kernel)), by decide +kernel⟩
theorem mm_RJ6_194 : Cond.methodLink RJ6 194 Lib.Math.max.name ∈ hh_T := hh_at 623 (by decide +kernel) (by decide +kernel)
theorem kc_RJ6_200 : Jvm.Cond.constant RJ6 200 2147483639 ∈ hh_T := hh_at 624 (by decide +kernel) (by decide +kernel)
def mc_Arrays_fill : Nat := 0
def ms_Arrays_fill : Nat := 0
def rm_Arrays_fill : Room := { frames := 0, cells := 0, slots := 0, locals := 0 }
abbrev ok_Arrays_fill (X : hh_X) (B e0 : Nat) : Prop := hh_ok X B e0 cJ5_fill RJ5 4 none "fill" rm_Arrays_fill
set_option maxRecDepth 100000 in
set_option maxHeartbeats 4000000 in
theorem w_Arrays_fill_5 {X : hh_X} {B e0 : Nat} {rr : Unit × hh_H} (C : ok_Arrays_fill X B e0) (E : hh_End X B e0 (.returned none) rr.2 mc_Arrays_fill ms_Arrays_fill) (F : Nat) (r5 : Nat → Int32 → Int32 → Int32 → hh_H → Option (Unit × hh_H)) (H5 : ∀ (a0 : Nat) (x1 : Int32) (x2 : Int32) (x3 : Int32) (h : hh_H), r5 a0 x1 x2 x3 h = some rr → hh_W X 0 0 5 [(0, .ref (hh_ad B e0 a0)), (1, .int x1), (2, .int x2), (3, .int x3)] [] h) (a0 : Nat) (x1 : Int32) (x2 : Int32) (x3 : Int32) (h : hh_H)
    (hf : f_Arrays_fill_5 F r5 a0 x1 x2 x3 h = some rr) : hh_W X 0 0 5 [(0, .ref (hh_ad B e0 a0)), (1, .int x1), (2, .int x2), (3, .int x3)] [] h := by
  unfold f_Arrays_fill_5 at hf
  refine r_iload_n C dJ5_fill_5 rfl 2 rfl ?_
  refine r_iload_n C dJ5_fill_6 rfl 3 rfl ?_
  refine r_icmp_ge C dJ5_fill_7 (tgt := 20) (by decide) (fun c1 => ?_) (fun c1 => ?_)
  · rw [if_pos c1] at hf
    exact r_return C E dJ5_fill_20 (by decide) (by decide) hf
  · rw [if_neg c1] at hf
    refine r_aload_n C dJ5_fill_10 rfl 0 rfl ?_
    refine r_iload_n C dJ5_fill_11 rfl 2 rfl ?_
    refine r_iload_n C dJ5_fill_12 rfl 1 rfl ?_
    obtain ⟨h2, e3, hf⟩ := hp_bind hf
    refine r_si C dJ5_fill_13 e3 ?_
    refine r_iinc (lv' := [(2, .int (x2 + 1)), (0, .ref (hh_ad B e0 a0)), (1, .int x1), (3, .int x3)]) C dJ5_fill_14 2 rfl rfl (by decide) rfl ?_
    refine r_goto C dJ5_fill_17 (tgt := 5) (by decide) ?_
    refine hh_pick [1, 2, 0, 3] rfl ?_
    exact H5 a0 x1 (x2 + 1) x3 h2 hf
theorem wl_Arrays_fill_5 {X : hh_X} {B e0 : Nat} {rr : Unit × hh_H} (C : ok_Arrays_fill X B e0) (E : hh_End X B e0 (.returned none) rr.2 mc_Arrays_fill ms_Arrays_fill) (F : Nat) :
    ∀ (n : Nat) (a0 : Nat) (x1 : Int32) (x2 : Int32) (x3 : Int32) (h : hh_H), hp_it (fun _ _ _ _ _ => none) (f_Arrays_fill_5 F) n a0 x1 x2 x3 h = some rr → hh_W X 0 0 5 [(0, .ref (hh_ad B e0 a0)), (1, .int x1), (2, .int x2), (3, .int x3)] [] h := by
  intro n
  induction n with
  | zero => intro a0 x1 x2 x3 h hf; cases hf
  | succ n ih =>
    intro a0 x1 x2 x3 h hf
    exact w_Arrays_fill_5 C E F _ ih a0 x1 x2 x3 h hf
set_option maxRecDepth 100000 in
set_option maxHeartbeats 4000000 in
theorem w_Arrays_fill {X : hh_X} {B e0 : Nat} {rr : Unit × hh_H} (C : ok_Arrays_fill X B e0) (E : hh_End X B e0 (.returned none) rr.2 mc_Arrays_fill ms_Arrays_fill) (F : Nat) (a0 : Nat) (x1 : Int32) (h : hh_H)
    (hf : f_Arrays_fill F a0 x1 h = some rr) : hh_W X 0 0 0 [(0, .ref (hh_ad B e0 a0)), (1, .int x1)] [] h := by
  unfold f_Arrays_fill at hf
  refine r_iconst C dJ5_fill_0 (v := 0) (by decide) ?_
  refine r_istore_n (lv' := [(2, .int 0), (0, .ref (hh_ad B e0 a0)), (1, .int x1)]) C dJ5_fill_1 rfl (by decide) rfl ?_
  refine r_aload_n C dJ5_fill_2 rfl 1 rfl ?_
  obtain ⟨v4, e5, hf⟩ := hp_bind hf
  refine r_alen C dJ5_fill_3 e5 ?_
  refine r_istore_n (lv' := [(3, .int v4), (2, .int 0), (0, .ref (hh_ad B e0 a0)), (1, .int x1)]) C dJ5_fill_4 rfl (by decide) rfl ?_
  refine hh_pick [2, 3, 1, 0] rfl ?_
  exact wl_Arrays_fill_5 C E F F a0 x1 0 v4 h hf
theorem c_Arrays_fill (B e0 F : Nat) (a0 : Nat) (x1 : Int32) (h : hh_H) (rr : Unit × hh_H) (hf : f_Arrays_fill F a0 x1 h = some rr) : hh_Met yJ5_fill cJ5_fill 4 none rm_Arrays_fill mc_Arrays_fill ms_Arrays_fill B e0 [.ref (hh_ad B e0 a0), .int x1] h (.returned none) rr.2 :=
  hh_met (by decide) (Nat.le_of_ble_eq_true rfl) fun X C E => hh_pick [0, 1] rfl (w_Arrays_fill C E F a0 x1 h hf)
def mc_Integer_bitCount : Nat := 0
def ms_Integer_bitCount : Nat := 0
def rm_Integer_bitCount : Room := { frames := 0, cells := 0, slots := 0, locals := 0 }
abbrev ok_Integer_bitCount (X : hh_X) (B e0 : Nat) : Prop := hh_ok X B e0 cJ8_bitCount RJ8 1 (some .int) "bitCount" rm_Integer_bitCount
set_option maxRecDepth 100000 in
set_option maxHeartbeats 4000000 in
theorem w_Integer_bitCount {X : hh_X} {B e0 : Nat} {rr : Int32 × hh_H} (C : ok_Integer_bitCount X B e0) (E : hh_End X B e0 (.returned (some (.int rr.1))) rr.2 mc_Integer_bitCount ms_Integer_bitCount) (F : Nat) (x0 : Int32) (h : hh_H)
    (hf : f_Integer_bitCount F x0 h = some rr) : hh_W X 0 0 0 [(0, .int x0)] [] h := by
  unfold f_Integer_bitCount at hf
  refine r_iload_n C dJ8_bitCount_0 rfl 0 rfl ?_
  refine r_iload_n C dJ8_bitCount_1 rfl 0 rfl ?_
  refine r_iconst C dJ8_bitCount_2 (v := 1) (by decide) ?_
  refine r_iushr C dJ8_bitCount_3 rfl ?_
  refine r_ldcw C dJ8_bitCount_4 (v := 1431655765) kc_RJ8_265 ?_
  refine r_iand C dJ8_bitCount_7 ?_
  refine r_isub C dJ8_bitCount_8 ?_
  refine r_istore_n (lv' := [(0, .int (x0 - (((x0.toUInt32 >>> ((1 : Int32).toUInt32 &&& Int32.toUInt32 31)).toInt32) &&& 1431655765)))]) C dJ8_bitCount_9 rfl (by decide) rfl ?_
  refine r_iload_n C dJ8_bitCount_10 rfl 0 rfl ?_
  refine r_ldcw C dJ8_bitCount_11 (v := 858993459) kc_RJ8_266 ?_
  refine r_iand C dJ8_bitCount_14 ?_
  refine r_iload_n C dJ8_bitCount_15 rfl 0 rfl ?_
  refine r_iconst C dJ8_bitCount_16 (v := 2) (by decide) ?_
  refine r_iushr C dJ8_bitCount_17 rfl ?_
  refine r_ldcw C dJ8_bitCount_18 (v := 858993459) kc_RJ8_266 ?_
  refine r_iand C dJ8_bitCount_21 ?_
  refine r_iadd C dJ8_bitCount_22 ?_
  refine r_istore_n (lv' := [(0, .int (((x0 - (((x0.toUInt32 >>> ((1 : Int32).toUInt32 &&& Int32.toUInt32 31)).toInt32) &&& 1431655765)) &&& 858993459) + ((((x0 - (((x0.toUInt32 >>> ((1 : Int32).toUInt32 &&& Int32.toUInt32 31)).toInt32) &&& 1431655765)).toUInt32 >>> ((2 : Int32).toUInt32 &&& Int32.toUInt32 31)).toInt32) &&& 858993459)))]) C dJ8_bitCount_23 rfl (by decide) rfl ?_
  refine r_iload_n C dJ8_bitCount_24 rfl 0 rfl ?_
  refine r_iload_n C dJ8_bitCount_25 rfl 0 rfl ?_
  refine r_iconst C dJ8_bitCount_26 (v := 4) (by decide) ?_
  refine r_iushr C dJ8_bitCount_27 rfl ?_
  refine r_iadd C dJ8_bitCount_28 ?_
  refine r_ldcw C dJ8_bitCount_29 (v := 252645135) kc_RJ8_267 ?_
  refine r_iand C dJ8_bitCount_32 ?_
  refine r_istore_n (lv' := [(0, .int (((((x0 - (((x0.toUInt32 >>> ((1 : Int32).toUInt32 &&& Int32.toUInt32 31)).toInt32) &&& 1431655765)) &&& 858993459) + ((((x0 - (((x0.toUInt32 >>> ((1 : Int32).toUInt32 &&& Int32.toUInt32 31)).toInt32) &&& 1431655765)).toUInt32 >>> ((2 : Int32).toUInt32 &&& Int32.toUInt32 31)).toInt32) &&& 858993459)) + (((((x0 - (((x0.toUInt32 >>> ((1 : Int32).toUInt32 &&& Int32.toUInt32 31)).toInt32) &&& 1431655765)) &&& 858993459) + ((((x0 - (((x0.toUInt32 >>> ((1 : Int32).toUInt32 &&& Int32.toUInt32 31)).toInt32) &&& 1431655765)).toUInt32 >>> ((2 : Int32).toUInt32 &&& Int32.toUInt32 31)).toInt32) &&& 858993459)).toUInt32 >>> ((4 : Int32).toUInt32 &&& Int32.toUInt32 31)).toInt32)) &&& 252645135))]) C dJ8_bitCount_33 rfl (by decide) rfl ?_
  refine r_iload_n C dJ8_bitCount_34 rfl 0 rfl ?_
  refine r_iload_n C dJ8_bitCount_35 rfl 0 rfl ?_
  refine r_bipush C dJ8_bitCount_36 (v := 8) (by decide) ?_
  refine r_iushr C dJ8_bitCount_38 rfl ?_
  refine r_iadd C dJ8_bitCount_39 ?_
  refine r_istore_n (lv' := [(0, .int ((((((x0 - (((x0.toUInt32 >>> ((1 : Int32).toUInt32 &&& Int32.toUInt32 31)).toInt32) &&& 1431655765)) &&& 858993459) + ((((x0 - (((x0.toUInt32 >>> ((1 : Int32).toUInt32 &&& Int32.toUInt32 31)).toInt32) &&& 1431655765)).toUInt32 >>> ((2 : Int32).toUInt32 &&& Int32.toUInt32 31)).toInt32) &&& 858993459)) + (((((x0 - (((x0.toUInt32 >>> ((1 : Int32).toUInt32 &&& Int32.toUInt32 31)).toInt32) &&& 1431655765)) &&& 858993459) + ((((x0 - (((x0.toUInt32 >>> ((1 : Int32).toUInt32 &&& Int32.toUInt32 31)).toInt32) &&& 1431655765)).toUInt32 >>> ((2 : Int32).toUInt32 &&& Int32.toUInt32 31)).toInt32) &&& 858993459)).toUInt32 >>> ((4 : Int32).toUInt32 &&& Int32.toUInt32 31)).toInt32)) &&& 252645135) + (((((((x0 - (((x0.toUInt32 >>> ((1 : Int32).toUInt32 &&& Int32.toUInt32 31)).toInt32) &&& 1431655765)) &&& 858993459) + ((((x0 - (((x0.toUInt32 >>> ((1 : Int32).toUInt32 &&& Int32.toUInt32 31)).toInt32) &&& 1431655765)).toUInt32 >>> ((2 : Int32).toUInt32 &&& Int32.toUInt32 31)).toInt32) &&& 858993459)) + (((((x0 - (((x0.toUInt32 >>> ((1 : Int32).toUInt32 &&& Int32.toUInt32 31)).toInt32) &&& 1431655765)) &&& 858993459) + ((((x0 - (((x0.toUInt32 >>> ((1 : Int32).toUInt32 &&& Int32.toUInt32 31)).toInt32) &&& 1431655765)).toUInt32 >>> ((2 : Int32).toUInt32 &&& Int32.toUInt32 31)).toInt32) &&& 858993459)).toUInt32 >>> ((4 : Int32).toUInt32 &&& Int32.toUInt32 31)).toInt32)) &&& 252645135).toUInt32 >>> ((8 : Int32).toUInt32 &&& Int32.toUInt32 31)).toInt32)))]) C dJ8_bitCount_40 rfl (by decide) rfl ?_
  refine r_iload_n C dJ8_bitCount_41 rfl 0 rfl ?_
  refine r_iload_n C dJ8_bitCount_42 rfl 0 rfl ?_
  refine r_bipush C dJ8_bitCount_43 (v := 16) (by decide) ?_
  refine r_iushr C dJ8_bitCount_45 rfl ?_
  refine r_iadd C dJ8_bitCount_46 ?_
  refine r_istore_n (lv' := [(0, .int (((((((x0 - (((x0.toUInt32 >>> ((1 : Int32).toUInt32 &&& Int32.toUInt32 31)).toInt32) &&& 1431655765)) &&& 858993459) + ((((x0 - (((x0.toUInt32 >>> ((1 : Int32).toUInt32 &&& Int32.toUInt32 31)).toInt32) &&& 1431655765)).toUInt32 >>> ((2 : Int32).toUInt32 &&& Int32.toUInt32 31)).toInt32) &&& 858993459)) + (((((x0 - (((x0.toUInt32 >>> ((1 : Int32).toUInt32 &&& Int32.toUInt32 31)).toInt32) &&& 1431655765)) &&& 858993459) + ((((x0 - (((x0.toUInt32 >>> ((1 : Int32).toUInt32 &&& Int32.toUInt32 31)).toInt32) &&& 1431655765)).toUInt32 >>> ((2 : Int32).toUInt32 &&& Int32.toUInt32 31)).toInt32) &&& 858993459)).toUInt32 >>> ((4 : Int32).toUInt32 &&& Int32.toUInt32 31)).toInt32)) &&& 252645135) + (((((((x0 - (((x0.toUInt32 >>> ((1 : Int32).toUInt32 &&& Int32.toUInt32 31)).toInt32) &&& 1431655765)) &&& 858993459) + ((((x0 - (((x0.toUInt32 >>> ((1 : Int32).toUInt32 &&& Int32.toUInt32 31)).toInt32) &&& 1431655765)).toUInt32 >>> ((2 : Int32).toUInt32 &&& Int32.toUInt32 31)).toInt32) &&& 858993459)) + (((((x0 - (((x0.toUInt32 >>> ((1 : Int32).toUInt32 &&& Int32.toUInt32 31)).toInt32) &&& 1431655765)) &&& 858993459) + ((((x0 - (((x0.toUInt32 >>> ((1 : Int32).toUInt32 &&& Int32.toUInt32 31)).toInt32) &&& 1431655765)).toUInt32 >>> ((2 : Int32).toUInt32 &&& Int32.toUInt32 31)).toInt32) &&& 858993459)).toUInt32 >>> ((4 : Int32).toUInt32 &&& Int32.toUInt32 31)).toInt32)) &&& 252645135).toUInt32 >>> ((8 : Int32).toUInt32 &&& Int32.toUInt32 31)).toInt32)) + ((((((((x0 - (((x0.toUInt32 >>> ((1 : Int32).toUInt32 &&& Int32.toUInt32 31)).toInt32) &&& 1431655765)) &&& 858993459) + ((((x0 - (((x0.toUInt32 >>> ((1 : Int32).toUInt32 &&& Int32.toUInt32 31)).toInt32) &&& 1431655765)).toUInt32 >>> ((2 : Int32).toUInt32 &&& Int32.toUInt32 31)).toInt32) &&& 858993459)) + (((((x0 - (((x0.toUInt32 >>> ((1 : Int32).toUInt32 &&& Int32.toUInt32 31)).toInt32) &&& 1431655765)) &&& 858993459) + ((((x0 - (((x0.toUInt32 >>> ((1 : Int32).toUInt32 &&& Int32.toUInt32 31)).toInt32) &&& 1431655765)).toUInt32 >>> ((2 : Int32).toUInt32 &&& Int32.toUInt32 31)).toInt32) &&& 858993459)).toUInt32 >>> ((4 : Int32).toUInt32 &&& Int32.toUInt32 31)).toInt32)) &&& 252645135) + (((((((x0 - (((x0.toUInt32 >>> ((1 : Int32).toUInt32 &&& Int32.toUInt32 31)).toInt32) &&& 1431655765)) &&& 858993459) + ((((x0 - (((x0.toUInt32 >>> ((1 : Int32).toUInt32 &&& Int32.toUInt32 31)).toInt32) &&& 1431655765)).toUInt32 >>> ((2 : Int32).toUInt32 &&& Int32.toUInt32 31)).toInt32) &&& 858993459)) + (((((x0 - (((x0.toUInt32 >>> ((1 : Int32).toUInt32 &&& Int32.toUInt32 31)).toInt32) &&& 1431655765)) &&& 858993459) + ((((x0 - (((x0.toUInt32 >>> ((1 : Int32).toUInt32 &&& Int32.toUInt32 31)).toInt32) &&& 1431655765)).toUInt32 >>> ((2 : Int32).toUInt32 &&& Int32.toUInt32 31)).toInt32) &&& 858993459)).toUInt32 >>> ((4 : Int32).toUInt32 &&& Int32.toUInt32 31)).toInt32)) &&& 252645135).toUInt32 >>> ((8 : Int32).toUInt32 &&& Int32.toUInt32 31)).toInt32)).toUInt32 >>> ((16 : Int32).toUInt32 &&& Int32.toUInt32 31)).toInt32)))]) C dJ8_bitCount_47 rfl (by decide) rfl ?_
  refine r_iload_n C dJ8_bitCount_48 rfl 0 rfl ?_
  refine r_bipush C dJ8_bitCount_49 (v := 63) (by decide) ?_
  refine r_iand C dJ8_bitCount_51 ?_
  exact r_ireturn C E dJ8_bitCount_52 (by decide) (by decide) hf
theorem c_Integer_bitCount (B e0 F : Nat) (x0 : Int32) (h : hh_H) (rr : Int32 × hh_H) (hf : f_Integer_bitCount F x0 h = some rr) : hh_Met yJ8_bitCount cJ8_bitCount 1 (some .int) rm_Integer_bitCount mc_Integer_bitCount ms_Integer_bitCount B e0 [.int x0] h (.returned (some (.int rr.1))) rr.2 :=
  hh_met (by decide) (Nat.le_of_ble_eq_true rfl) fun X C E => hh_pick [0] rfl (w_Integer_bitCount C E F x0 h hf)
def mc_Preconditions_checkIndex : Nat := 0
def ms_Preconditions_checkIndex : Nat := 0
def rm_Preconditions_checkIndex : Room := { frames := 0, cells := 0, slots := 0, locals := 0 }
abbrev ok_Preconditions_checkIndex (X : hh_X) (B e0 : Nat) : Prop := hh_ok X B e0 cJ4_checkIndex RJ4 3 (some .int) "checkIndex" rm_Preconditions_checkIndex
set_option maxRecDepth 100000 in
set_option maxHeartbeats 4000000 in
theorem w_Preconditions_checkIndex {X : hh_X} {B e0 : Nat} {rr : Int32 × hh_H} (C : ok_Preconditions_checkIndex X B e0) (E : hh_End X B e0 (.returned (some (.int rr.1))) rr.2 mc_Preconditions_checkIndex ms_Preconditions_checkIndex) (F : Nat) (x0 : Int32) (x1 : Int32) (h : hh_H)
    (hf : f_Preconditions_checkIndex F x0 x1 h = some rr) : hh_W X 0 0 0 [(0, .int x0), (1, .int x1)] [] h := by
  unfold f_Preconditions_checkIndex at hf
  refine r_iload_n C dJ4_checkIndex_0 rfl 0 rfl ?_
  refine r_if_lt C dJ4_checkIndex_1 (tgt := 9) (by decide) (fun c1 => ?_) (fun c1 => ?_)
  · rw [if_pos c1] at hf
    cases hf
  · rw [if_neg c1] at hf
    refine r_iload_n C dJ4_checkIndex_4 rfl 0 rfl ?_
    refine r_iload_n C dJ4_checkIndex_5 rfl 1 rfl ?_
    refine r_icmp_lt C dJ4_checkIndex_6 (tgt := 16) (by decide) (fun c2 => ?_) (fun c2 => ?_)
    · rw [if_pos c2] at hf
      refine r_iload_n C dJ4_checkIndex_16 rfl 0 rfl ?_
      exact r_ireturn C E dJ4_checkIndex_17 (by decide) (by decide) hf
    · rw [if_neg c2] at hf
      cases hf
theorem c_Preconditions_checkIndex (B e0 F : Nat) (x0 : Int32) (x1 : Int32) (h : hh_H) (rr : Int32 × hh_H) (hf : f_Preconditions_checkIndex F x0 x1 h = some rr) : hh_Met yJ4_checkIndex cJ4_checkIndex 3 (some .int) rm_Preconditions_checkIndex mc_Preconditions_checkIndex ms_Preconditions_checkIndex B e0 [.int x0, .int x1, .null] h (.returned (some (.int rr.1))) rr.2 :=
  hh_met (by decide) (Nat.le_of_ble_eq_true rfl) fun X C E => hh_pick [0, 1] rfl (w_Preconditions_checkIndex C E F x0 x1 h hf)
def mc_Objects_checkIndex : Nat := 0
def ms_Objects_checkIndex : Nat := 0
def rm_Objects_checkIndex : Room := { frames := 1, cells := 0, slots := 0, locals := 22 }
abbrev ok_Objects_checkIndex (X : hh_X) (B e0 : Nat) : Prop := hh_ok X B e0 cJ3_checkIndex RJ3 2 (some .int) "checkIndex" rm_Objects_checkIndex
set_option maxRecDepth 100000 in
set_option maxHeartbeats 4000000 in
theorem w_Objects_checkIndex {X : hh_X} {B e0 : Nat} {rr : Int32 × hh_H} (C : ok_Objects_checkIndex X B e0) (E : hh_End X B e0 (.returned (some (.int rr.1))) rr.2 mc_Objects_checkIndex ms_Objects_checkIndex) (F : Nat) (x0 : Int32) (x1 : Int32) (h : hh_H)
    (hf : f_Objects_checkIndex F x0 x1 h = some rr) : hh_W X 0 0 0 [(0, .int x0), (1, .int x1)] [] h := by
  unfold f_Objects_checkIndex at hf
  refine r_iload_n C dJ3_checkIndex_0 rfl 0 rfl ?_
  refine r_iload_n C dJ3_checkIndex_1 rfl 1 rfl ?_
  refine r_null C dJ3_checkIndex_2 ?_
  obtain ⟨q1, h2, e3, hf⟩ := hp_cbe hf
  refine r_callS C dJ3_checkIndex_3 cs_RJ3_105 (c_Preconditions_checkIndex B e0 F x0 x1 h _ e3) rfl rfl rfl ⟨by decide, by decide⟩ ⟨by decide, by decide⟩ (Nat.le_of_ble_eq_true rfl) rfl ?_
  exact r_ireturn C E dJ3_checkIndex_6 (by decide) (by decide) hf
theorem c_Objects_checkIndex (B e0 F : Nat) (x0 : Int32) (x1 : Int32) (h : hh_H) (rr : Int32 × hh_H) (hf : f_Objects_checkIndex F x0 x1 h = some rr) : hh_Met yJ3_checkIndex cJ3_checkIndex 2 (some .int) rm_Objects_checkIndex mc_Objects_checkIndex ms_Objects_checkIndex B e0 [.int x0, .int x1] h (.returned (some (.int rr.1))) rr.2 :=
  hh_met (by decide) (Nat.le_of_ble_eq_true rfl) fun X C E => hh_pick [0, 1] rfl (w_Objects_checkIndex C E F x0 x1 h hf)
def mc_ArraysSupport_newLength : Nat := 0
def ms_ArraysSupport_newLength : Nat := 0
def rm_ArraysSupport_newLength : Room := { frames := 1, cells := 0, slots := 0, locals := 21 }
abbrev ok_ArraysSupport_newLength (X : hh_X) (B e0 : Nat) : Prop := hh_ok X B e0 cJ6_newLength RJ6 4 (some .int) "newLength" rm_ArraysSupport_newLength
set_option maxRecDepth 100000 in
set_option maxHeartbeats 4000000 in
theorem w_ArraysSupport_newLength {X : hh_X} {B e0 : Nat} {rr : Int32 × hh_H} (C : ok_ArraysSupport_newLength X B e0) (E : hh_End X B e0 (.returned (some (.int rr.1))) rr.2 mc_ArraysSupport_newLength ms_ArraysSupport_newLength) (F : Nat) (x0 : Int32) (x1 : Int32) (x2 : Int32) (h : hh_H)
    (hf : f_ArraysSupport_newLength F x0 x1 x2 h = some rr) : hh_W X 0 0 0 [(0, .int x0), (1, .int x1), (2, .int x2)] [] h := by
  unfold f_ArraysSupport_newLength at hf
  refine r_iload_n C dJ6_newLength_0 rfl 0 rfl ?_
  refine r_iload_n C dJ6_newLength_1 rfl 1 rfl ?_
  refine r_iload_n C dJ6_newLength_2 rfl 2 rfl ?_
  refine r_mmax C dJ6_newLength_3 mm_RJ6_194 (by decide) (Nat.le_of_ble_eq_true rfl) (by decide) (by decide) ?_
  refine r_iadd C dJ6_newLength_6 ?_
  refine r_istore_n (lv' := [(3, .int (x0 + (if x1 < x2 then x2 else x1))), (0, .int x0), (1, .int x1), (2, .int x2)]) C dJ6_newLength_7 rfl (by decide) rfl ?_
  refine r_iconst C dJ6_newLength_8 (v := 0) (by decide) ?_
  refine r_iload_n C dJ6_newLength_9 rfl 0 rfl ?_
  refine r_icmp_ge C dJ6_newLength_10 (tgt := 21) (by decide) (fun c1 => ?_) (fun c1 => ?_)
  · rw [if_pos c1] at hf
    cases hf
  · rw [if_neg c1] at hf
    refine r_iload_n C dJ6_newLength_13 rfl 0 rfl ?_
    refine r_ldc C dJ6_newLength_14 (v := 2147483639) kc_RJ6_200 ?_
    refine r_icmp_gt C dJ6_newLength_16 (tgt := 21) (by decide) (fun c2 => ?_) (fun c2 => ?_)
    · rw [if_pos c2] at hf
      cases hf
    · rw [if_neg c2] at hf
      refine r_iload_n C dJ6_newLength_19 rfl 0 rfl ?_
      exact r_ireturn C E dJ6_newLength_20 (by decide) (by decide) hf
theorem c_ArraysSupport_newLength (B e0 F : Nat) (x0 : Int32) (x1 : Int32) (x2 : Int32) (h : hh_H) (rr : Int32 × hh_H) (hf : f_ArraysSupport_newLength F x0 x1 x2 h = some rr) : hh_Met yJ6_newLength cJ6_newLength 4 (some .int) rm_ArraysSupport_newLength mc_ArraysSupport_newLength ms_ArraysSupport_newLength B e0 [.int x0, .int x1, .int x2] h (.returned (some (.int rr.1))) rr.2 :=
  hh_met (by decide) (Nat.le_of_ble_eq_true rfl) fun X C E => hh_pick [0, 1, 2] rfl (w_ArraysSupport_newLength C E F x0 x1 x2 h hf)
