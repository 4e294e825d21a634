def f_AbstractCollection_init (F : Nat) (a0 : Nat) (h : hh_H) : Option (Unit × hh_H) :=
  some ((), h)
def f_AbstractList_init (F : Nat) (a0 : Nat) (h : hh_H) : Option (Unit × hh_H) :=
  hp_cb (f_AbstractCollection_init F a0 h) fun q1 h2 =>
  (hp_pi h2 a0 10 0 0).bind fun h4 =>
  some ((), h4)
def f_ArrayList_init (F : Nat) (a0 : Nat) (h : hh_H) : Option (Unit × hh_H) :=
  hp_cb (f_AbstractList_init F a0 h) fun q1 h2 =>
  (hp_pa h2 a0 10 1 0).bind fun h4 =>
  some ((), h4)
def f_ArrayList_size (F : Nat) (a0 : Nat) (h : hh_H) : Option (Int32 × hh_H) :=
  (hp_gi h a0 10 2).bind fun v1 =>
  some (v1, h)
def f_ArrayList_isEmpty (F : Nat) (a0 : Nat) (h : hh_H) : Option (Int32 × hh_H) :=
  (hp_gi h a0 10 2).bind fun v1 =>
  if v1 = 0 then
    some (1, h)
  else
    some (0, h)
def f_ArrayList_elementData (F : Nat) (a0 : Nat) (x1 : Int32) (h : hh_H) : Option (Nat × hh_H) :=
  (hp_ga h a0 10 1).bind fun v1 =>
  (hp_aq h v1 x1).bind fun v3 =>
  some (v3, h)
def f_ArrayList_rangeCheckForAdd_12 (F : Nat) (h : hh_H) : Option (Unit × hh_H) :=
  none
def f_ArrayList_rangeCheckForAdd (F : Nat) (a0 : Nat) (x1 : Int32) (h : hh_H) : Option (Unit × hh_H) :=
  (hp_gi h a0 10 2).bind fun v1 =>
  if v1 < x1 then
    f_ArrayList_rangeCheckForAdd_12 F h
  else
    if 0 ≤ x1 then
      some ((), h)
    else
      f_ArrayList_rangeCheckForAdd_12 F h
def f_ArrayList_grow1_20 (F : Nat) (a0 : Nat) (x1 : Int32) (x2 : Int32) (h : hh_H) : Option (Nat × hh_H) :=
  hp_cb (f_ArraysSupport_newLength F x2 (x1 - x2) (x2 >>> (1 &&& 31)) h) fun q1 h2 =>
  (hp_ga h2 a0 10 1).bind fun v4 =>
  hp_cb (f_Arrays_copyOf F v4 q1 h2) fun q6 h7 =>
  (hp_pa h7 a0 10 1 q6).bind fun h9 =>
  some (q6, h9)
def f_ArrayList_grow1 (F : Nat) (a0 : Nat) (x1 : Int32) (h : hh_H) : Option (Nat × hh_H) :=
  (hp_ga h a0 10 1).bind fun v11 =>
  (hp_len h v11).bind fun v13 =>
  if 0 < v13 then
    f_ArrayList_grow1_20 F a0 x1 v13 h
  else
    (hp_ga h a0 10 1).bind fun v16 =>
    if v16 = 0 then
      hp_cb (hp_na h 4 (if 10 < x1 then x1 else 10) 80) fun b19 h21 =>
      (hp_pa h21 a0 10 1 b19).bind fun h22 =>
      some (b19, h22)
    else
      f_ArrayList_grow1_20 F a0 x1 v13 h
def f_ArrayList_fastRemove_34 (F : Nat) (a0 : Nat) (a1 : Nat) (x3 : Int32) (h : hh_H) : Option (Unit × hh_H) :=
  (hp_pi h a0 10 2 x3).bind fun h1 =>
  (hp_sq h1 a1 x3 none).bind fun h3 =>
  some ((), h3)
def f_ArrayList_fastRemove (F : Nat) (a0 : Nat) (a1 : Nat) (x2 : Int32) (h : hh_H) : Option (Unit × hh_H) :=
  (hp_gi h a0 10 0).bind fun v5 =>
  (hp_pi h a0 10 0 (v5 + 1)).bind fun h7 =>
  (hp_gi h7 a0 10 2).bind fun v9 =>
  if (v9 - 1) ≤ x2 then
    f_ArrayList_fastRemove_34 F a0 a1 (v9 - 1) h7
  else
    hp_cb (hp_cp h7 a1 (x2 + 1) a1 x2 ((v9 - 1) - x2)) fun q12 h13 =>
    f_ArrayList_fastRemove_34 F a0 a1 (v9 - 1) h13
def f_ArrayList_get (F : Nat) (a0 : Nat) (x1 : Int32) (h : hh_H) : Option (Nat × hh_H) :=
  (hp_gi h a0 10 2).bind fun v1 =>
  hp_cb (f_Objects_checkIndex F x1 v1 h) fun q3 h4 =>
  (hp_is h4 a0 10).bind fun _ =>
  hp_cb (f_ArrayList_elementData F a0 x1 h4) fun q6 h7 =>
  some (q6, h7)
def f_ArrayList_grow (F : Nat) (a0 : Nat) (h : hh_H) : Option (Nat × hh_H) :=
  (hp_gi h a0 10 2).bind fun v1 =>
  (hp_is h a0 10).bind fun _ =>
  hp_cb (f_ArrayList_grow1 F a0 (v1 + 1) h) fun q3 h4 =>
  some (q3, h4)
def f_ArrayList_remove (F : Nat) (a0 : Nat) (x1 : Int32) (h : hh_H) : Option (Nat × hh_H) :=
  (hp_gi h a0 10 2).bind fun v1 =>
  hp_cb (f_Objects_checkIndex F x1 v1 h) fun q3 h4 =>
  (hp_ga h4 a0 10 1).bind fun v6 =>
  (hp_aq h4 v6 x1).bind fun v8 =>
  (hp_is h4 a0 10).bind fun _ =>
  hp_cb (f_ArrayList_fastRemove F a0 v6 x1 h4) fun q10 h11 =>
  some (v8, h11)
def f_ArrayList_add_38 (F : Nat) (a0 : Nat) (x1 : Int32) (a2 : Nat) (x3 : Int32) (a4 : Nat) (h : hh_H) : Option (Unit × hh_H) :=
  hp_cb (hp_cp h a4 x1 a4 (x1 + 1) (x3 - x1)) fun q1 h2 =>
  (hp_is h2 a2 6).bind fun _ =>
  (hp_sq h2 a4 x1 (some a2)).bind fun h4 =>
  (hp_pi h4 a0 10 2 (x3 + 1)).bind fun h7 =>
  some ((), h7)
def f_ArrayList_add (F : Nat) (a0 : Nat) (x1 : Int32) (a2 : Nat) (h : hh_H) : Option (Unit × hh_H) :=
  (hp_is h a0 10).bind fun _ =>
  hp_cb (f_ArrayList_rangeCheckForAdd F a0 x1 h) fun q9 h10 =>
  (hp_gi h10 a0 10 0).bind fun v14 =>
  (hp_pi h10 a0 10 0 (v14 + 1)).bind fun h16 =>
  (hp_gi h16 a0 10 2).bind fun v18 =>
  (hp_ga h16 a0 10 1).bind fun v20 =>
  (hp_len h16 v20).bind fun v22 =>
  if v18 = v22 then
    (hp_is h16 a0 10).bind fun _ =>
    hp_cb (f_ArrayList_grow F a0 h16) fun q25 h26 =>
    f_ArrayList_add_38 F a0 x1 a2 v18 q25 h26
  else
    f_ArrayList_add_38 F a0 x1 a2 v18 v20 h16
theorem oi_RJ2_1 : Cond.methodLink RJ2 1 Lib.objectInit ∈ hh_T := hh_at 149 (by decide +kernel) (by decide +kernel)
theorem cw_J2_init : Cond.code yJ2_init cJ2_init 1 none ∈ hh_T := hh_at 148 (by decide +kernel) (by decide +kernel)
theorem cs_RJ1_1 : hh_CS RJ1 1 yJ2_init cJ2_init 1 none 0 [.instanceMethod yJ2_init] := ⟨cw_J2_init, hh_at 146 (by decide +kernel) (by decide +kernel), hh_at 41 (by decide +kernel) (by decide +kernel), hh_all1 (hh_at 147 (by decide +kernel) (by decide +kernel)), by decide +kernel⟩
theorem lay_J0 : ∀ w ∈ u_ws RJ0 TJ0 3, w ∈ hh_T := hh_sub (by decide +kernel) (by decide +kernel)
theorem tyok_J0 : ∀ k, k < 3 → parseFieldDescriptor (TJ0 k).2.2.1 = some (tyJ0 k) := by decide +kernel
theorem nmok_J0 : ∀ a, a < 3 → ∀ b, b < 3 → a ≠ b → (TJ0 a).2.1 ≠ (TJ0 b).2.1 := by decide +kernel
theorem fl_RJ1_7 : hh_FL RJ1 7 10 0 .int false := ⟨_, _, _, tyJ0, "java/util/AbstractList", rfl, by decide, lay_J0, ⟨hh_at 154 (by decide +kernel) (by decide +kernel), Or.inl rfl⟩, rfl, by decide +kernel, tyok_J0, nmok_J0⟩
theorem cw_J1_init : Cond.code yJ1_init cJ1_init 1 none ∈ hh_T := hh_at 145 (by decide +kernel) (by decide +kernel)
theorem cs_RJ0_1 : hh_CS RJ0 1 yJ1_init cJ1_init 1 none 0 [.instanceMethod yJ1_init] := ⟨cw_J1_init, hh_at 143 (by decide +kernel) (by decide +kernel), hh_at 42 (by decide +kernel) (by decide +kernel), hh_all1 (hh_at 144 (by decide +kernel) (by decide +kernel)), by decide +kernel⟩
theorem gs_RJ0_39 : Cond.fieldLink RJ0 39 "java/util/ArrayList" "DEFAULTCAPACITY_EMPTY_ELEMENTDATA" "[Ljava/lang/Object;" ∈ hh_T := hh_at 150 (by decide +kernel) (by decide +kernel)
theorem fl_RJ0_9 : hh_FL RJ0 9 10 1 (.array (.object "java/lang/Object")) false := ⟨_, _, _, tyJ0, "java/util/ArrayList", rfl, by decide, lay_J0, ⟨hh_at 152 (by decide +kernel) (by decide +kernel), Or.inl rfl⟩, rfl, by decide +kernel, tyok_J0, nmok_J0⟩
theorem fl_RJ0_48 : hh_FL RJ0 48 10 2 .int false := ⟨_, _, _, tyJ0, "java/util/ArrayList", rfl, by decide, lay_J0, ⟨hh_at 153 (by decide +kernel) (by decide +kernel), Or.inl rfl⟩, rfl, by decide +kernel, tyok_J0, nmok_J0⟩
theorem cw_J6_newLength : Cond.code yJ6_newLength cJ6_newLength 4 (some .int) ∈ hh_T := hh_at 622 (by decide +kernel) (by decide +kernel)
theorem cs_RJ0_73 : hh_CS RJ0 73 yJ6_newLength cJ6_newLength 4 (some .int) 3 [.static yJ6_newLength] := ⟨cw_J6_newLength, hh_at 825 (by decide +kernel) (by decide +kernel), hh_at 59 (by decide +kernel) (by decide +kernel), hh_all1 (hh_at 621 (by decide +kernel) (by decide +kernel)), by decide +kernel⟩
theorem cw_J5_copyOf : Cond.code yJ5_copyOf cJ5_copyOf 2 (some (.array (.object "java/lang/Object"))) ∈ hh_T := hh_at 828 (by decide +kernel) (by decide +kernel)
theorem cs_RJ0_66 : hh_CS RJ0 66 yJ5_copyOf cJ5_copyOf 2 (some (.array (.object "java/lang/Object"))) 2 [.static yJ5_copyOf] := ⟨cw_J5_copyOf, hh_at 826 (by decide +kernel) (by decide +kernel), hh_at 60 (by decide +kernel) (by decide +kernel), hh_all1 (hh_at 827 (by decide +kernel) (by decide +kernel)), by decide +kernel⟩
theorem mm_RJ0_79 : Cond.methodLink RJ0 79 Lib.Math.max.name ∈ hh_T := hh_at 857 (by decide +kernel) (by decide +kernel)
theorem an_RJ0_7 : Cond.classLink RJ0 7 "java/lang/Object" ∈ hh_T := hh_at 858 (by decide +kernel) (by decide +kernel)
theorem fl_RJ0_63 : hh_FL RJ0 63 10 0 .int false := ⟨_, _, _, tyJ0, "java/util/ArrayList", rfl, by decide, lay_J0, ⟨hh_at 155 (by decide +kernel) (by decide +kernel), Or.inr (hh_at 156 (by decide +kernel) (by decide +kernel))⟩, rfl, by decide +kernel, tyok_J0, nmok_J0⟩
theorem ac_RJ0_112 : Cond.methodLink RJ0 112 arraycopyName ∈ hh_T := hh_at 859 (by decide +kernel) (by decide +kernel)
theorem cw_J3_checkIndex : Cond.code yJ3_checkIndex cJ3_checkIndex 2 (some .int) ∈ hh_T := hh_at 875 (by decide +kernel) (by decide +kernel)
theorem cs_RJ0_118 : hh_CS RJ0 118 yJ3_checkIndex cJ3_checkIndex 2 (some .int) 2 [.static yJ3_checkIndex] := ⟨cw_J3_checkIndex, hh_at 873 (by decide +kernel) (by decide +kernel), hh_at 65 (by decide +kernel) (by decide +kernel), hh_all1 (hh_at 874 (by decide +kernel) (by decide +kernel)), by decide +kernel⟩
theorem cw_J0_elementData : Cond.code yJ0_elementData cJ0_elementData 2 (some (.object "java/lang/Object")) ∈ hh_T := hh_at 882 (by decide +kernel) (by decide +kernel)
theorem cs_RJ0_123 : hh_CS RJ0 123 yJ0_elementData cJ0_elementData 2 (some (.object "java/lang/Object")) 1 [.instanceMethod yJ0_elementData, .selects yJ0_elementData.cls yJ0_elementData yJ0_elementData] := ⟨cw_J0_elementData, hh_at 879 (by decide +kernel) (by decide +kernel), hh_at 43 (by decide +kernel) (by decide +kernel), hh_all2 (hh_at 880 (by decide +kernel) (by decide +kernel)) (hh_at 881 (by decide +kernel) (by decide +kernel)), by decide +kernel⟩
theorem cw_J0_grow1 : Cond.code yJ0_grow1 cJ0_grow1 4 (some (.array (.object "java/lang/Object"))) ∈ hh_T := hh_at 824 (by decide +kernel) (by decide +kernel)
theorem cs_RJ0_69 : hh_CS RJ0 69 yJ0_grow1 cJ0_grow1 4 (some (.array (.object "java/lang/Object"))) 1 [.instanceMethod yJ0_grow1, .selects yJ0_grow1.cls yJ0_grow1 yJ0_grow1] := ⟨cw_J0_grow1, hh_at 821 (by decide +kernel) (by decide +kernel), hh_at 43 (by decide +kernel) (by decide +kernel), hh_all2 (hh_at 823 (by decide +kernel) (by decide +kernel)) (hh_at 9 (by decide +kernel) (by decide +kernel)), by decide +kernel⟩
theorem cw_J0_fastRemove : Cond.code yJ0_fastRemove cJ0_fastRemove 4 none ∈ hh_T := hh_at 942 (by decide +kernel) (by decide +kernel)
theorem cs_RJ0_144 : hh_CS RJ0 144 yJ0_fastRemove cJ0_fastRemove 4 none 2 [.instanceMethod yJ0_fastRemove, .selects yJ0_fastRemove.cls yJ0_fastRemove yJ0_fastRemove] := ⟨cw_J0_fastRemove, hh_at 939 (by decide +kernel) (by decide +kernel), hh_at 43 (by decide +kernel) (by decide +kernel), hh_all2 (hh_at 941 (by decide +kernel) (by decide +kernel)) (hh_at 17 (by decide +kernel) (by decide +kernel)), by decide +kernel⟩
theorem cw_J0_rangeCheckForAdd : Cond.code yJ0_rangeCheckForAdd cJ0_rangeCheckForAdd 2 none ∈ hh_T := hh_at 555 (by decide +kernel) (by decide +kernel)
theorem cs_RJ0_135 : hh_CS RJ0 135 yJ0_rangeCheckForAdd cJ0_rangeCheckForAdd 2 none 1 [.instanceMethod yJ0_rangeCheckForAdd, .selects yJ0_rangeCheckForAdd.cls yJ0_rangeCheckForAdd yJ0_rangeCheckForAdd] := ⟨cw_J0_rangeCheckForAdd, hh_at 552 (by decide +kernel) (by decide +kernel), hh_at 43 (by decide +kernel) (by decide +kernel), hh_all2 (hh_at 554 (by decide +kernel) (by decide +kernel)) (hh_at 6 (by decide +kernel) (by decide +kernel)), by decide +kernel⟩
theorem cw_J0_grow : Cond.code yJ0_grow cJ0_grow 1 (some (.array (.object "java/lang/Object"))) ∈ hh_T := hh_at 820 (by decide +kernel) (by decide +kernel)
theorem cs_RJ0_129 : hh_CS RJ0 129 yJ0_grow cJ0_grow 1 (some (.array (.object "java/lang/Object"))) 0 [.instanceMethod yJ0_grow, .selects yJ0_grow.cls yJ0_grow yJ0_grow] := ⟨cw_J0_grow, hh_at 817 (by decide +kernel) (by decide +kernel), hh_at 43 (by decide +kernel) (by decide +kernel), hh_all2 (hh_at 819 (by decide +kernel) (by decide +kernel)) (hh_at 8 (by decide +kernel) (by decide +kernel)), by decide +kernel⟩
def mc_AbstractCollection_init : Nat := 0
def ms_AbstractCollection_init : Nat := 0
def rm_AbstractCollection_init : Room := { frames := 1, cells := 0, slots := 0, locals := 20 }
abbrev ok_AbstractCollection_init (X : hh_X) (B e0 : Nat) : Prop := hh_ok X B e0 cJ2_init RJ2 1 none "<init>" rm_AbstractCollection_init
set_option maxRecDepth 100000 in
set_option maxHeartbeats 4000000 in
theorem w_AbstractCollection_init {X : hh_X} {B e0 : Nat} {rr : Unit × hh_H} (C : ok_AbstractCollection_init X B e0) (E : hh_End X B e0 (.returned none) rr.2 mc_AbstractCollection_init ms_AbstractCollection_init) (F : Nat) (a0 : Nat) (h : hh_H)
    (hf : f_AbstractCollection_init F a0 h = some rr) : hh_W X 0 0 0 [(0, .ref (hh_ad B e0 a0))] [] h := by
  unfold f_AbstractCollection_init at hf
  refine r_aload_n C dJ2_init_0 rfl 0 rfl ?_
  refine r_objInit C dJ2_init_1 oi_RJ2_1 oi_inst oi_code (by decide) (Nat.le_of_ble_eq_true rfl) ?_
  exact r_return C E dJ2_init_4 (by decide) (by decide) hf
theorem c_AbstractCollection_init (B e0 F : Nat) (a0 : Nat) (h : hh_H) (rr : Unit × hh_H) (hf : f_AbstractCollection_init F a0 h = some rr) : hh_Met yJ2_init cJ2_init 1 none rm_AbstractCollection_init mc_AbstractCollection_init ms_AbstractCollection_init B e0 [.ref (hh_ad B e0 a0)] h (.returned none) rr.2 :=
  hh_met (by decide) (Nat.le_of_ble_eq_true rfl) fun X C E => hh_pick [0] rfl (w_AbstractCollection_init C E F a0 h hf)
def mc_AbstractList_init : Nat := 0
def ms_AbstractList_init : Nat := 0
def rm_AbstractList_init : Room := { frames := 2, cells := 0, slots := 0, locals := 40 }
abbrev ok_AbstractList_init (X : hh_X) (B e0 : Nat) : Prop := hh_ok X B e0 cJ1_init RJ1 1 none "<init>" rm_AbstractList_init
set_option maxRecDepth 100000 in
set_option maxHeartbeats 4000000 in
theorem w_AbstractList_init {X : hh_X} {B e0 : Nat} {rr : Unit × hh_H} (C : ok_AbstractList_init X B e0) (E : hh_End X B e0 (.returned none) rr.2 mc_AbstractList_init ms_AbstractList_init) (F : Nat) (a0 : Nat) (h : hh_H)
    (hf : f_AbstractList_init F a0 h = some rr) : hh_W X 0 0 0 [(0, .ref (hh_ad B e0 a0))] [] h := by
  unfold f_AbstractList_init at hf
  refine r_aload_n C dJ1_init_0 rfl 0 rfl ?_
  obtain ⟨q1, h2, e3, hf⟩ := hp_cbe hf
  refine r_callI C dJ1_init_1 cs_RJ1_1 rfl (c_AbstractCollection_init B e0 F a0 h _ e3) rfl rfl rfl ⟨by decide, by decide⟩ ⟨by decide, by decide⟩ (Nat.le_of_ble_eq_true rfl) rfl ?_
  refine r_aload_n C dJ1_init_4 rfl 0 rfl ?_
  refine r_iconst C dJ1_init_5 (v := 0) (by decide) ?_
  obtain ⟨h4, e5, hf⟩ := hp_bind hf
  refine r_putI C dJ1_init_6 fl_RJ1_7 e5 ?_
  exact r_return C E dJ1_init_9 (by decide) (by decide) hf
theorem c_AbstractList_init (B e0 F : Nat) (a0 : Nat) (h : hh_H) (rr : Unit × hh_H) (hf : f_AbstractList_init F a0 h = some rr) : hh_Met yJ1_init cJ1_init 1 none rm_AbstractList_init mc_AbstractList_init ms_AbstractList_init B e0 [.ref (hh_ad B e0 a0)] h (.returned none) rr.2 :=
  hh_met (by decide) (Nat.le_of_ble_eq_true rfl) fun X C E => hh_pick [0] rfl (w_AbstractList_init C E F a0 h hf)
def mc_ArrayList_init : Nat := 0
def ms_ArrayList_init : Nat := 0
def rm_ArrayList_init : Room := { frames := 3, cells := 0, slots := 0, locals := 60 }
abbrev ok_ArrayList_init (X : hh_X) (B e0 : Nat) : Prop := hh_ok X B e0 cJ0_init RJ0 1 none "<init>" rm_ArrayList_init
set_option maxRecDepth 100000 in
set_option maxHeartbeats 4000000 in
theorem w_ArrayList_init {X : hh_X} {B e0 : Nat} {rr : Unit × hh_H} (C : ok_ArrayList_init X B e0) (E : hh_End X B e0 (.returned none) rr.2 mc_ArrayList_init ms_ArrayList_init) (F : Nat) (a0 : Nat) (h : hh_H)
    (hf : f_ArrayList_init F a0 h = some rr) : hh_W X 0 0 0 [(0, .ref (hh_ad B e0 a0))] [] h := by
  unfold f_ArrayList_init at hf
  refine r_aload_n C dJ0_init_0 rfl 0 rfl ?_
  obtain ⟨q1, h2, e3, hf⟩ := hp_cbe hf
  refine r_callI C dJ0_init_1 cs_RJ0_1 rfl (c_AbstractList_init B e0 F a0 h _ e3) rfl rfl rfl ⟨by decide, by decide⟩ ⟨by decide, by decide⟩ (Nat.le_of_ble_eq_true rfl) rfl ?_
  refine r_aload_n C dJ0_init_4 rfl 0 rfl ?_
  refine r_getsE C dJ0_init_5 gs_RJ0_39 ?_
  obtain ⟨h4, e5, hf⟩ := hp_bind hf
  refine r_putA C dJ0_init_8 fl_RJ0_9 (fun _ => ⟨rfl, rfl⟩) e5 ?_
  exact r_return C E dJ0_init_11 (by decide) (by decide) hf
theorem c_ArrayList_init (B e0 F : Nat) (a0 : Nat) (h : hh_H) (rr : Unit × hh_H) (hf : f_ArrayList_init F a0 h = some rr) : hh_Met yJ0_init cJ0_init 1 none rm_ArrayList_init mc_ArrayList_init ms_ArrayList_init B e0 [.ref (hh_ad B e0 a0)] h (.returned none) rr.2 :=
  hh_met (by decide) (Nat.le_of_ble_eq_true rfl) fun X C E => hh_pick [0] rfl (w_ArrayList_init C E F a0 h hf)
def mc_ArrayList_size : Nat := 0
def ms_ArrayList_size : Nat := 0
def rm_ArrayList_size : Room := { frames := 0, cells := 0, slots := 0, locals := 0 }
abbrev ok_ArrayList_size (X : hh_X) (B e0 : Nat) : Prop := hh_ok X B e0 cJ0_size RJ0 1 (some .int) "size" rm_ArrayList_size
set_option maxRecDepth 100000 in
set_option maxHeartbeats 4000000 in
theorem w_ArrayList_size {X : hh_X} {B e0 : Nat} {rr : Int32 × hh_H} (C : ok_ArrayList_size X B e0) (E : hh_End X B e0 (.returned (some (.int rr.1))) rr.2 mc_ArrayList_size ms_ArrayList_size) (F : Nat) (a0 : Nat) (h : hh_H)
    (hf : f_ArrayList_size F a0 h = some rr) : hh_W X 0 0 0 [(0, .ref (hh_ad B e0 a0))] [] h := by
  unfold f_ArrayList_size at hf
  refine r_aload_n C dJ0_size_0 rfl 0 rfl ?_
  obtain ⟨v1, e2, hf⟩ := hp_bind hf
  refine r_getI C dJ0_size_1 fl_RJ0_48 e2 ?_
  exact r_ireturn C E dJ0_size_4 (by decide) (by decide) hf
theorem c_ArrayList_size (B e0 F : Nat) (a0 : Nat) (h : hh_H) (rr : Int32 × hh_H) (hf : f_ArrayList_size F a0 h = some rr) : hh_Met yJ0_size cJ0_size 1 (some .int) rm_ArrayList_size mc_ArrayList_size ms_ArrayList_size B e0 [.ref (hh_ad B e0 a0)] h (.returned (some (.int rr.1))) rr.2 :=
  hh_met (by decide) (Nat.le_of_ble_eq_true rfl) fun X C E => hh_pick [0] rfl (w_ArrayList_size C E F a0 h hf)
def mc_ArrayList_isEmpty : Nat := 0
def ms_ArrayList_isEmpty : Nat := 0
def rm_ArrayList_isEmpty : Room := { frames := 0, cells := 0, slots := 0, locals := 0 }
abbrev ok_ArrayList_isEmpty (X : hh_X) (B e0 : Nat) : Prop := hh_ok X B e0 cJ0_isEmpty RJ0 1 (some .boolean) "isEmpty" rm_ArrayList_isEmpty
set_option maxRecDepth 100000 in
set_option maxHeartbeats 4000000 in
theorem w_ArrayList_isEmpty {X : hh_X} {B e0 : Nat} {rr : Int32 × hh_H} (C : ok_ArrayList_isEmpty X B e0) (E : hh_End X B e0 (.returned (some (.int rr.1))) rr.2 mc_ArrayList_isEmpty ms_ArrayList_isEmpty) (F : Nat) (a0 : Nat) (h : hh_H)
    (hf : f_ArrayList_isEmpty F a0 h = some rr) : hh_W X 0 0 0 [(0, .ref (hh_ad B e0 a0))] [] h := by
  unfold f_ArrayList_isEmpty at hf
  refine r_aload_n C dJ0_isEmpty_0 rfl 0 rfl ?_
  obtain ⟨v1, e2, hf⟩ := hp_bind hf
  refine r_getI C dJ0_isEmpty_1 fl_RJ0_48 e2 ?_
  refine r_if_ne C dJ0_isEmpty_4 (tgt := 11) (by decide) (fun c3 => ?_) (fun c3 => ?_)
  · rw [if_neg c3] at hf
    refine r_iconst C dJ0_isEmpty_11 (v := 0) (by decide) ?_
    exact r_ireturnz C E dJ0_isEmpty_12 rfl (by decide) (by decide) hf
  · rw [if_pos c3] at hf
    refine r_iconst C dJ0_isEmpty_7 (v := 1) (by decide) ?_
    refine r_goto C dJ0_isEmpty_8 (tgt := 12) (by decide) ?_
    exact r_ireturnz C E dJ0_isEmpty_12 rfl (by decide) (by decide) hf
theorem c_ArrayList_isEmpty (B e0 F : Nat) (a0 : Nat) (h : hh_H) (rr : Int32 × hh_H) (hf : f_ArrayList_isEmpty F a0 h = some rr) : hh_Met yJ0_isEmpty cJ0_isEmpty 1 (some .boolean) rm_ArrayList_isEmpty mc_ArrayList_isEmpty ms_ArrayList_isEmpty B e0 [.ref (hh_ad B e0 a0)] h (.returned (some (.int rr.1))) rr.2 :=
  hh_met (by decide) (Nat.le_of_ble_eq_true rfl) fun X C E => hh_pick [0] rfl (w_ArrayList_isEmpty C E F a0 h hf)
def mc_ArrayList_elementData : Nat := 0
def ms_ArrayList_elementData : Nat := 0
def rm_ArrayList_elementData : Room := { frames := 0, cells := 0, slots := 0, locals := 0 }
abbrev ok_ArrayList_elementData (X : hh_X) (B e0 : Nat) : Prop := hh_ok X B e0 cJ0_elementData RJ0 2 (some (.object "java/lang/Object")) "elementData" rm_ArrayList_elementData
set_option maxRecDepth 100000 in
set_option maxHeartbeats 4000000 in
theorem w_ArrayList_elementData {X : hh_X} {B e0 : Nat} {rr : Nat × hh_H} (C : ok_ArrayList_elementData X B e0) (E : hh_End X B e0 (.returned (some (.ref (hh_ad B e0 rr.1)))) rr.2 mc_ArrayList_elementData ms_ArrayList_elementData) (F : Nat) (a0 : Nat) (x1 : Int32) (h : hh_H)
    (hf : f_ArrayList_elementData F a0 x1 h = some rr) : hh_W X 0 0 0 [(0, .ref (hh_ad B e0 a0)), (1, .int x1)] [] h := by
  unfold f_ArrayList_elementData at hf
  refine r_aload_n C dJ0_elementData_0 rfl 0 rfl ?_
  obtain ⟨v1, e2, hf⟩ := hp_bind hf
  refine r_getA C dJ0_elementData_1 fl_RJ0_9 e2 ?_
  refine r_iload_n C dJ0_elementData_4 rfl 1 rfl ?_
  obtain ⟨v3, e4, hf⟩ := hp_bind hf
  refine r_aq C dJ0_elementData_5 e4 ?_
  exact r_areturn C E dJ0_elementData_6 (Or.inl ⟨_, rfl⟩) (by decide) (by decide) hf
theorem c_ArrayList_elementData (B e0 F : Nat) (a0 : Nat) (x1 : Int32) (h : hh_H) (rr : Nat × hh_H) (hf : f_ArrayList_elementData F a0 x1 h = some rr) : hh_Met yJ0_elementData cJ0_elementData 2 (some (.object "java/lang/Object")) rm_ArrayList_elementData mc_ArrayList_elementData ms_ArrayList_elementData B e0 [.ref (hh_ad B e0 a0), .int x1] h (.returned (some (.ref (hh_ad B e0 rr.1)))) rr.2 :=
  hh_met (by decide) (Nat.le_of_ble_eq_true rfl) fun X C E => hh_pick [0, 1] rfl (w_ArrayList_elementData C E F a0 x1 h hf)
def mc_ArrayList_rangeCheckForAdd : Nat := 0
def ms_ArrayList_rangeCheckForAdd : Nat := 0
def rm_ArrayList_rangeCheckForAdd : Room := { frames := 0, cells := 0, slots := 0, locals := 0 }
abbrev ok_ArrayList_rangeCheckForAdd (X : hh_X) (B e0 : Nat) : Prop := hh_ok X B e0 cJ0_rangeCheckForAdd RJ0 2 none "rangeCheckForAdd" rm_ArrayList_rangeCheckForAdd
set_option maxRecDepth 100000 in
set_option maxHeartbeats 4000000 in
theorem w_ArrayList_rangeCheckForAdd_12 {X : hh_X} {B e0 : Nat} {rr : Unit × hh_H} (C : ok_ArrayList_rangeCheckForAdd X B e0) (E : hh_End X B e0 (.returned none) rr.2 mc_ArrayList_rangeCheckForAdd ms_ArrayList_rangeCheckForAdd) (F : Nat) (h : hh_H)
    (hf : f_ArrayList_rangeCheckForAdd_12 F h = some rr) : hh_W X 0 0 12 [] [] h := by
  unfold f_ArrayList_rangeCheckForAdd_12 at hf
  cases hf
set_option maxRecDepth 100000 in
set_option maxHeartbeats 4000000 in
theorem w_ArrayList_rangeCheckForAdd {X : hh_X} {B e0 : Nat} {rr : Unit × hh_H} (C : ok_ArrayList_rangeCheckForAdd X B e0) (E : hh_End X B e0 (.returned none) rr.2 mc_ArrayList_rangeCheckForAdd ms_ArrayList_rangeCheckForAdd) (F : Nat) (a0 : Nat) (x1 : Int32) (h : hh_H)
    (hf : f_ArrayList_rangeCheckForAdd F a0 x1 h = some rr) : hh_W X 0 0 0 [(0, .ref (hh_ad B e0 a0)), (1, .int x1)] [] h := by
  unfold f_ArrayList_rangeCheckForAdd at hf
  refine r_iload_n C dJ0_rangeCheckForAdd_0 rfl 1 rfl ?_
  refine r_aload_n C dJ0_rangeCheckForAdd_1 rfl 0 rfl ?_
  obtain ⟨v1, e2, hf⟩ := hp_bind hf
  refine r_getI C dJ0_rangeCheckForAdd_2 fl_RJ0_48 e2 ?_
  refine r_icmp_gt C dJ0_rangeCheckForAdd_5 (tgt := 12) (by decide) (fun c3 => ?_) (fun c3 => ?_)
  · rw [if_pos c3] at hf
    refine hh_pick [] rfl ?_
    exact w_ArrayList_rangeCheckForAdd_12 C E F h hf
  · rw [if_neg c3] at hf
    refine r_iload_n C dJ0_rangeCheckForAdd_8 rfl 1 rfl ?_
    refine r_if_ge C dJ0_rangeCheckForAdd_9 (tgt := 25) (by decide) (fun c4 => ?_) (fun c4 => ?_)
    · rw [if_pos c4] at hf
      exact r_return C E dJ0_rangeCheckForAdd_25 (by decide) (by decide) hf
    · rw [if_neg c4] at hf
      refine hh_pick [] rfl ?_
      exact w_ArrayList_rangeCheckForAdd_12 C E F h hf
theorem c_ArrayList_rangeCheckForAdd (B e0 F : Nat) (a0 : Nat) (x1 : Int32) (h : hh_H) (rr : Unit × hh_H) (hf : f_ArrayList_rangeCheckForAdd F a0 x1 h = some rr) : hh_Met yJ0_rangeCheckForAdd cJ0_rangeCheckForAdd 2 none rm_ArrayList_rangeCheckForAdd mc_ArrayList_rangeCheckForAdd ms_ArrayList_rangeCheckForAdd B e0 [.ref (hh_ad B e0 a0), .int x1] h (.returned none) rr.2 :=
  hh_met (by decide) (Nat.le_of_ble_eq_true rfl) fun X C E => hh_pick [0, 1] rfl (w_ArrayList_rangeCheckForAdd C E F a0 x1 h hf)
def mc_ArrayList_grow1 : Nat := 1
def ms_ArrayList_grow1 : Nat := 80
def rm_ArrayList_grow1 : Room := { frames := 3, cells := 1, slots := 80, locals := 91 }
abbrev ok_ArrayList_grow1 (X : hh_X) (B e0 : Nat) : Prop := hh_ok X B e0 cJ0_grow1 RJ0 4 (some (.array (.object "java/lang/Object"))) "grow" rm_ArrayList_grow1
set_option maxRecDepth 100000 in
set_option maxHeartbeats 4000000 in
theorem w_ArrayList_grow1_20 {X : hh_X} {B e0 : Nat} {rr : Nat × hh_H} (C : ok_ArrayList_grow1 X B e0) (E : hh_End X B e0 (.returned (some (.ref (hh_ad B e0 rr.1)))) rr.2 mc_ArrayList_grow1 ms_ArrayList_grow1) (F : Nat) (a0 : Nat) (x1 : Int32) (x2 : Int32) (h : hh_H)
    (hf : f_ArrayList_grow1_20 F a0 x1 x2 h = some rr) : hh_W X 0 0 20 [(0, .ref (hh_ad B e0 a0)), (1, .int x1), (2, .int x2)] [] h := by
  unfold f_ArrayList_grow1_20 at hf
  refine r_iload_n C dJ0_grow1_20 rfl 2 rfl ?_
  refine r_iload_n C dJ0_grow1_21 rfl 1 rfl ?_
  refine r_iload_n C dJ0_grow1_22 rfl 2 rfl ?_
  refine r_isub C dJ0_grow1_23 ?_
  refine r_iload_n C dJ0_grow1_24 rfl 2 rfl ?_
  refine r_iconst C dJ0_grow1_25 (v := 1) (by decide) ?_
  refine r_ishr C dJ0_grow1_26 ?_
  obtain ⟨q1, h2, e3, hf⟩ := hp_cbe hf
  refine r_callS C dJ0_grow1_27 cs_RJ0_73 (c_ArraysSupport_newLength B e0 F x2 (x1 - x2) (x2 >>> (1 &&& 31)) h _ e3) rfl rfl rfl ⟨by decide, by decide⟩ ⟨by decide, by decide⟩ (Nat.le_of_ble_eq_true rfl) rfl ?_
  refine r_istore_n (lv' := [(3, .int q1), (0, .ref (hh_ad B e0 a0)), (1, .int x1), (2, .int x2)]) C dJ0_grow1_30 rfl (by decide) rfl ?_
  refine r_aload_n C dJ0_grow1_31 rfl 1 rfl ?_
  refine r_aload_n C dJ0_grow1_32 rfl 1 rfl ?_
  obtain ⟨v4, e5, hf⟩ := hp_bind hf
  refine r_getA C dJ0_grow1_33 fl_RJ0_9 e5 ?_
  refine r_iload_n C dJ0_grow1_36 rfl 0 rfl ?_
  obtain ⟨q6, h7, e8, hf⟩ := hp_cbe hf
  refine r_callS C dJ0_grow1_37 cs_RJ0_66 (c_Arrays_copyOf B e0 F v4 q1 h2 _ e8) rfl rfl rfl ⟨by decide, by decide⟩ ⟨by decide, by decide⟩ (Nat.le_of_ble_eq_true rfl) rfl ?_
  refine r_dup_x1 C dJ0_grow1_40 rfl rfl ?_
  obtain ⟨h9, e10, hf⟩ := hp_bind hf
  refine r_putA C dJ0_grow1_41 fl_RJ0_9 (fun _ => ⟨rfl, rfl⟩) e10 ?_
  exact r_areturn C E dJ0_grow1_44 (Or.inr ⟨_, rfl⟩) (by decide) (by decide) hf
set_option maxRecDepth 100000 in
set_option maxHeartbeats 4000000 in
theorem w_ArrayList_grow1 {X : hh_X} {B e0 : Nat} {rr : Nat × hh_H} (C : ok_ArrayList_grow1 X B e0) (E : hh_End X B e0 (.returned (some (.ref (hh_ad B e0 rr.1)))) rr.2 mc_ArrayList_grow1 ms_ArrayList_grow1) (F : Nat) (a0 : Nat) (x1 : Int32) (h : hh_H)
    (hf : f_ArrayList_grow1 F a0 x1 h = some rr) : hh_W X 0 0 0 [(0, .ref (hh_ad B e0 a0)), (1, .int x1)] [] h := by
  unfold f_ArrayList_grow1 at hf
  refine r_aload_n C dJ0_grow1_0 rfl 0 rfl ?_
  obtain ⟨v11, e12, hf⟩ := hp_bind hf
  refine r_getA C dJ0_grow1_1 fl_RJ0_9 e12 ?_
  obtain ⟨v13, e14, hf⟩ := hp_bind hf
  refine r_alen C dJ0_grow1_4 e14 ?_
  refine r_istore_n (lv' := [(2, .int v13), (0, .ref (hh_ad B e0 a0)), (1, .int x1)]) C dJ0_grow1_5 rfl (by decide) rfl ?_
  refine r_iload_n C dJ0_grow1_6 rfl 0 rfl ?_
  refine r_if_gt C dJ0_grow1_7 (tgt := 20) (by decide) (fun c15 => ?_) (fun c15 => ?_)
  · rw [if_pos c15] at hf
    refine hh_pick [1, 2, 0] rfl ?_
    exact w_ArrayList_grow1_20 C E F a0 x1 v13 h hf
  · rw [if_neg c15] at hf
    refine r_aload_n C dJ0_grow1_10 rfl 1 rfl ?_
    obtain ⟨v16, e17, hf⟩ := hp_bind hf
    refine r_getA C dJ0_grow1_11 fl_RJ0_9 e17 ?_
    refine r_getsE C dJ0_grow1_14 gs_RJ0_39 ?_
    refine r_acmp_eq C dJ0_grow1_17 (tgt := 45) (by decide) (fun c18 => ?_) (fun c18 => ?_)
    · rw [if_pos c18] at hf
      refine r_aload_n C dJ0_grow1_45 rfl 1 rfl ?_
      refine r_bipush C dJ0_grow1_46 (v := 10) (by decide) ?_
      refine r_iload_n C dJ0_grow1_48 rfl 2 rfl ?_
      refine r_mmax C dJ0_grow1_49 mm_RJ0_79 (by decide) (Nat.le_of_ble_eq_true rfl) (by decide) (by decide) ?_
      obtain ⟨b19, h21, e20, hf⟩ := hp_cbe hf
      refine r_naq (bd := 80) C dJ0_grow1_52 an_RJ0_7 (by decide) (by decide) (by decide) e20 ?_
      refine r_dup_x1 C dJ0_grow1_55 rfl rfl ?_
      obtain ⟨h22, e23, hf⟩ := hp_bind hf
      refine r_putA C dJ0_grow1_56 fl_RJ0_9 (fun _ => ⟨rfl, rfl⟩) e23 ?_
      exact r_areturn C E dJ0_grow1_59 (Or.inr ⟨_, rfl⟩) (by decide) (by decide) hf
    · rw [if_neg c18] at hf
      refine hh_pick [1, 2, 0] rfl ?_
      exact w_ArrayList_grow1_20 C E F a0 x1 v13 h hf
theorem c_ArrayList_grow1 (B e0 F : Nat) (a0 : Nat) (x1 : Int32) (h : hh_H) (rr : Nat × hh_H) (hf : f_ArrayList_grow1 F a0 x1 h = some rr) : hh_Met yJ0_grow1 cJ0_grow1 4 (some (.array (.object "java/lang/Object"))) rm_ArrayList_grow1 mc_ArrayList_grow1 ms_ArrayList_grow1 B e0 [.ref (hh_ad B e0 a0), .int x1] h (.returned (some (.ref (hh_ad B e0 rr.1)))) rr.2 :=
  hh_met (by decide) (Nat.le_of_ble_eq_true rfl) fun X C E => hh_pick [0, 1] rfl (w_ArrayList_grow1 C E F a0 x1 h hf)
def mc_ArrayList_fastRemove : Nat := 0
def ms_ArrayList_fastRemove : Nat := 0
def rm_ArrayList_fastRemove : Room := { frames := 1, cells := 0, slots := 0, locals := 30 }
abbrev ok_ArrayList_fastRemove (X : hh_X) (B e0 : Nat) : Prop := hh_ok X B e0 cJ0_fastRemove RJ0 4 none "fastRemove" rm_ArrayList_fastRemove
set_option maxRecDepth 100000 in
set_option maxHeartbeats 4000000 in
theorem w_ArrayList_fastRemove_34 {X : hh_X} {B e0 : Nat} {rr : Unit × hh_H} (C : ok_ArrayList_fastRemove X B e0) (E : hh_End X B e0 (.returned none) rr.2 mc_ArrayList_fastRemove ms_ArrayList_fastRemove) (F : Nat) (a0 : Nat) (a1 : Nat) (x3 : Int32) (h : hh_H)
    (hf : f_ArrayList_fastRemove_34 F a0 a1 x3 h = some rr) : hh_W X 0 0 34 [(0, .ref (hh_ad B e0 a0)), (1, .ref (hh_ad B e0 a1)), (3, .int x3)] [] h := by
  unfold f_ArrayList_fastRemove_34 at hf
  refine r_aload_n C dJ0_fastRemove_34 rfl 1 rfl ?_
  refine r_aload_n C dJ0_fastRemove_35 rfl 0 rfl ?_
  refine r_iload_n C dJ0_fastRemove_36 rfl 2 rfl ?_
  refine r_dup_x1 C dJ0_fastRemove_37 rfl rfl ?_
  obtain ⟨h1, e2, hf⟩ := hp_bind hf
  refine r_putI C dJ0_fastRemove_38 fl_RJ0_48 e2 ?_
  refine r_null C dJ0_fastRemove_41 ?_
  obtain ⟨h3, e4, hf⟩ := hp_bind hf
  refine r_sqN C dJ0_fastRemove_42 e4 ?_
  exact r_return C E dJ0_fastRemove_43 (by decide) (by decide) hf
set_option maxRecDepth 100000 in
set_option maxHeartbeats 4000000 in
theorem w_ArrayList_fastRemove {X : hh_X} {B e0 : Nat} {rr : Unit × hh_H} (C : ok_ArrayList_fastRemove X B e0) (E : hh_End X B e0 (.returned none) rr.2 mc_ArrayList_fastRemove ms_ArrayList_fastRemove) (F : Nat) (a0 : Nat) (a1 : Nat) (x2 : Int32) (h : hh_H)
    (hf : f_ArrayList_fastRemove F a0 a1 x2 h = some rr) : hh_W X 0 0 0 [(0, .ref (hh_ad B e0 a0)), (1, .ref (hh_ad B e0 a1)), (2, .int x2)] [] h := by
  unfold f_ArrayList_fastRemove at hf
  refine r_aload_n C dJ0_fastRemove_0 rfl 0 rfl ?_
  refine r_dup C dJ0_fastRemove_1 rfl ?_
  obtain ⟨v5, e6, hf⟩ := hp_bind hf
  refine r_getI C dJ0_fastRemove_2 fl_RJ0_63 e6 ?_
  refine r_iconst C dJ0_fastRemove_5 (v := 1) (by decide) ?_
  refine r_iadd C dJ0_fastRemove_6 ?_
  obtain ⟨h7, e8, hf⟩ := hp_bind hf
  refine r_putI C dJ0_fastRemove_7 fl_RJ0_63 e8 ?_
  refine r_aload_n C dJ0_fastRemove_10 rfl 0 rfl ?_
  obtain ⟨v9, e10, hf⟩ := hp_bind hf
  refine r_getI C dJ0_fastRemove_11 fl_RJ0_48 e10 ?_
  refine r_iconst C dJ0_fastRemove_14 (v := 1) (by decide) ?_
  refine r_isub C dJ0_fastRemove_15 ?_
  refine r_dup C dJ0_fastRemove_16 rfl ?_
  refine r_istore_n (lv' := [(3, .int (v9 - 1)), (0, .ref (hh_ad B e0 a0)), (1, .ref (hh_ad B e0 a1)), (2, .int x2)]) C dJ0_fastRemove_17 rfl (by decide) rfl ?_
  refine r_iload_n C dJ0_fastRemove_18 rfl 3 rfl ?_
  refine r_icmp_le C dJ0_fastRemove_19 (tgt := 34) (by decide) (fun c11 => ?_) (fun c11 => ?_)
  · rw [if_pos c11] at hf
    refine hh_pick [1, 2, 0] rfl ?_
    exact w_ArrayList_fastRemove_34 C E F a0 a1 (v9 - 1) h7 hf
  · rw [if_neg c11] at hf
    refine r_aload_n C dJ0_fastRemove_22 rfl 2 rfl ?_
    refine r_iload_n C dJ0_fastRemove_23 rfl 3 rfl ?_
    refine r_iconst C dJ0_fastRemove_24 (v := 1) (by decide) ?_
    refine r_iadd C dJ0_fastRemove_25 ?_
    refine r_aload_n C dJ0_fastRemove_26 rfl 2 rfl ?_
    refine r_iload_n C dJ0_fastRemove_27 rfl 3 rfl ?_
    refine r_iload_n C dJ0_fastRemove_28 rfl 0 rfl ?_
    refine r_iload_n C dJ0_fastRemove_29 rfl 3 rfl ?_
    refine r_isub C dJ0_fastRemove_30 ?_
    obtain ⟨q12, h13, e14, hf⟩ := hp_cbe hf
    refine r_arraycopy C dJ0_fastRemove_31 ac_RJ0_112 (by decide) (Nat.le_of_ble_eq_true rfl) e14 ?_
    refine hh_pick [1, 2, 0] rfl ?_
    exact w_ArrayList_fastRemove_34 C E F a0 a1 (v9 - 1) h13 hf
theorem c_ArrayList_fastRemove (B e0 F : Nat) (a0 : Nat) (a1 : Nat) (x2 : Int32) (h : hh_H) (rr : Unit × hh_H) (hf : f_ArrayList_fastRemove F a0 a1 x2 h = some rr) : hh_Met yJ0_fastRemove cJ0_fastRemove 4 none rm_ArrayList_fastRemove mc_ArrayList_fastRemove ms_ArrayList_fastRemove B e0 [.ref (hh_ad B e0 a0), .ref (hh_ad B e0 a1), .int x2] h (.returned none) rr.2 :=
  hh_met (by decide) (Nat.le_of_ble_eq_true rfl) fun X C E => hh_pick [0, 1, 2] rfl (w_ArrayList_fastRemove C E F a0 a1 x2 h hf)
def mc_ArrayList_get : Nat := 0
def ms_ArrayList_get : Nat := 0
def rm_ArrayList_get : Room := { frames := 2, cells := 0, slots := 0, locals := 43 }
abbrev ok_ArrayList_get (X : hh_X) (B e0 : Nat) : Prop := hh_ok X B e0 cJ0_get RJ0 2 (some (.object "java/lang/Object")) "get" rm_ArrayList_get
set_option maxRecDepth 100000 in
set_option maxHeartbeats 4000000 in
theorem w_ArrayList_get {X : hh_X} {B e0 : Nat} {rr : Nat × hh_H} (C : ok_ArrayList_get X B e0) (E : hh_End X B e0 (.returned (some (.ref (hh_ad B e0 rr.1)))) rr.2 mc_ArrayList_get ms_ArrayList_get) (F : Nat) (a0 : Nat) (x1 : Int32) (h : hh_H)
    (hf : f_ArrayList_get F a0 x1 h = some rr) : hh_W X 0 0 0 [(0, .ref (hh_ad B e0 a0)), (1, .int x1)] [] h := by
  unfold f_ArrayList_get at hf
  refine r_iload_n C dJ0_get_0 rfl 1 rfl ?_
  refine r_aload_n C dJ0_get_1 rfl 0 rfl ?_
  obtain ⟨v1, e2, hf⟩ := hp_bind hf
  refine r_getI C dJ0_get_2 fl_RJ0_48 e2 ?_
  obtain ⟨q3, h4, e5, hf⟩ := hp_cbe hf
  refine r_callS C dJ0_get_5 cs_RJ0_118 (c_Objects_checkIndex B e0 F x1 v1 h _ e5) rfl rfl rfl ⟨by decide, by decide⟩ ⟨by decide, by decide⟩ (Nat.le_of_ble_eq_true rfl) rfl ?_
  refine r_pop C dJ0_get_8 rfl ?_
  refine r_aload_n C dJ0_get_9 rfl 0 rfl ?_
  refine r_iload_n C dJ0_get_10 rfl 1 rfl ?_
  obtain ⟨_, e9, hf⟩ := hp_bind hf
  obtain ⟨g10, e9⟩ := hp_is_of e9
  obtain ⟨q6, h7, e8, hf⟩ := hp_cbe hf
  refine r_callV C dJ0_get_11 cs_RJ0_123 rfl e9 (c_ArrayList_elementData B e0 F a0 x1 h4 _ e8) rfl rfl rfl ⟨by decide, by decide⟩ ⟨by decide, by decide⟩ (Nat.le_of_ble_eq_true rfl) rfl ?_
  exact r_areturn C E dJ0_get_14 (Or.inl ⟨_, rfl⟩) (by decide) (by decide) hf
theorem c_ArrayList_get (B e0 F : Nat) (a0 : Nat) (x1 : Int32) (h : hh_H) (rr : Nat × hh_H) (hf : f_ArrayList_get F a0 x1 h = some rr) : hh_Met yJ0_get cJ0_get 2 (some (.object "java/lang/Object")) rm_ArrayList_get mc_ArrayList_get ms_ArrayList_get B e0 [.ref (hh_ad B e0 a0), .int x1] h (.returned (some (.ref (hh_ad B e0 rr.1)))) rr.2 :=
  hh_met (by decide) (Nat.le_of_ble_eq_true rfl) fun X C E => hh_pick [0, 1] rfl (w_ArrayList_get C E F a0 x1 h hf)
def mc_ArrayList_grow : Nat := 1
def ms_ArrayList_grow : Nat := 80
def rm_ArrayList_grow : Room := { frames := 4, cells := 1, slots := 80, locals := 114 }
abbrev ok_ArrayList_grow (X : hh_X) (B e0 : Nat) : Prop := hh_ok X B e0 cJ0_grow RJ0 1 (some (.array (.object "java/lang/Object"))) "grow" rm_ArrayList_grow
set_option maxRecDepth 100000 in
set_option maxHeartbeats 4000000 in
theorem w_ArrayList_grow {X : hh_X} {B e0 : Nat} {rr : Nat × hh_H} (C : ok_ArrayList_grow X B e0) (E : hh_End X B e0 (.returned (some (.ref (hh_ad B e0 rr.1)))) rr.2 mc_ArrayList_grow ms_ArrayList_grow) (F : Nat) (a0 : Nat) (h : hh_H)
    (hf : f_ArrayList_grow F a0 h = some rr) : hh_W X 0 0 0 [(0, .ref (hh_ad B e0 a0))] [] h := by
  unfold f_ArrayList_grow at hf
  refine r_aload_n C dJ0_grow_0 rfl 0 rfl ?_
  refine r_aload_n C dJ0_grow_1 rfl 0 rfl ?_
  obtain ⟨v1, e2, hf⟩ := hp_bind hf
  refine r_getI C dJ0_grow_2 fl_RJ0_48 e2 ?_
  refine r_iconst C dJ0_grow_5 (v := 1) (by decide) ?_
  refine r_iadd C dJ0_grow_6 ?_
  obtain ⟨_, e6, hf⟩ := hp_bind hf
  obtain ⟨g7, e6⟩ := hp_is_of e6
  obtain ⟨q3, h4, e5, hf⟩ := hp_cbe hf
  refine r_callV C dJ0_grow_7 cs_RJ0_69 rfl e6 (c_ArrayList_grow1 B e0 F a0 (v1 + 1) h _ e5) rfl rfl rfl ⟨by decide, by decide⟩ ⟨by decide, by decide⟩ (Nat.le_of_ble_eq_true rfl) rfl ?_
  exact r_areturn C E dJ0_grow_10 (Or.inr ⟨_, rfl⟩) (by decide) (by decide) hf
theorem c_ArrayList_grow (B e0 F : Nat) (a0 : Nat) (h : hh_H) (rr : Nat × hh_H) (hf : f_ArrayList_grow F a0 h = some rr) : hh_Met yJ0_grow cJ0_grow 1 (some (.array (.object "java/lang/Object"))) rm_ArrayList_grow mc_ArrayList_grow ms_ArrayList_grow B e0 [.ref (hh_ad B e0 a0)] h (.returned (some (.ref (hh_ad B e0 rr.1)))) rr.2 :=
  hh_met (by decide) (Nat.le_of_ble_eq_true rfl) fun X C E => hh_pick [0] rfl (w_ArrayList_grow C E F a0 h hf)
def mc_ArrayList_remove : Nat := 0
def ms_ArrayList_remove : Nat := 0
def rm_ArrayList_remove : Room := { frames := 2, cells := 0, slots := 0, locals := 53 }
abbrev ok_ArrayList_remove (X : hh_X) (B e0 : Nat) : Prop := hh_ok X B e0 cJ0_remove RJ0 4 (some (.object "java/lang/Object")) "remove" rm_ArrayList_remove
set_option maxRecDepth 100000 in
set_option maxHeartbeats 4000000 in
theorem w_ArrayList_remove {X : hh_X} {B e0 : Nat} {rr : Nat × hh_H} (C : ok_ArrayList_remove X B e0) (E : hh_End X B e0 (.returned (some (.ref (hh_ad B e0 rr.1)))) rr.2 mc_ArrayList_remove ms_ArrayList_remove) (F : Nat) (a0 : Nat) (x1 : Int32) (h : hh_H)
    (hf : f_ArrayList_remove F a0 x1 h = some rr) : hh_W X 0 0 0 [(0, .ref (hh_ad B e0 a0)), (1, .int x1)] [] h := by
  unfold f_ArrayList_remove at hf
  refine r_iload_n C dJ0_remove_0 rfl 1 rfl ?_
  refine r_aload_n C dJ0_remove_1 rfl 0 rfl ?_
  obtain ⟨v1, e2, hf⟩ := hp_bind hf
  refine r_getI C dJ0_remove_2 fl_RJ0_48 e2 ?_
  obtain ⟨q3, h4, e5, hf⟩ := hp_cbe hf
  refine r_callS C dJ0_remove_5 cs_RJ0_118 (c_Objects_checkIndex B e0 F x1 v1 h _ e5) rfl rfl rfl ⟨by decide, by decide⟩ ⟨by decide, by decide⟩ (Nat.le_of_ble_eq_true rfl) rfl ?_
  refine r_pop C dJ0_remove_8 rfl ?_
  refine r_aload_n C dJ0_remove_9 rfl 0 rfl ?_
  obtain ⟨v6, e7, hf⟩ := hp_bind hf
  refine r_getA C dJ0_remove_10 fl_RJ0_9 e7 ?_
  refine r_astore_n (lv' := [(2, .ref (hh_ad B e0 v6)), (0, .ref (hh_ad B e0 a0)), (1, .int x1)]) C dJ0_remove_13 rfl (by decide) rfl ?_
  refine r_aload_n C dJ0_remove_14 rfl 0 rfl ?_
  refine r_iload_n C dJ0_remove_15 rfl 2 rfl ?_
  obtain ⟨v8, e9, hf⟩ := hp_bind hf
  refine r_aq C dJ0_remove_16 e9 ?_
  refine r_astore_n (lv' := [(3, .ref (hh_ad B e0 v8)), (2, .ref (hh_ad B e0 v6)), (0, .ref (hh_ad B e0 a0)), (1, .int x1)]) C dJ0_remove_17 rfl (by decide) rfl ?_
  refine r_aload_n C dJ0_remove_18 rfl 2 rfl ?_
  refine r_aload_n C dJ0_remove_19 rfl 1 rfl ?_
  refine r_iload_n C dJ0_remove_20 rfl 3 rfl ?_
  obtain ⟨_, e13, hf⟩ := hp_bind hf
  obtain ⟨g14, e13⟩ := hp_is_of e13
  obtain ⟨q10, h11, e12, hf⟩ := hp_cbe hf
  refine r_callV C dJ0_remove_21 cs_RJ0_144 rfl e13 (c_ArrayList_fastRemove B e0 F a0 v6 x1 h4 _ e12) rfl rfl rfl ⟨by decide, by decide⟩ ⟨by decide, by decide⟩ (Nat.le_of_ble_eq_true rfl) rfl ?_
  refine r_aload_n C dJ0_remove_24 rfl 0 rfl ?_
  exact r_areturn C E dJ0_remove_25 (Or.inl ⟨_, rfl⟩) (by decide) (by decide) hf
theorem c_ArrayList_remove (B e0 F : Nat) (a0 : Nat) (x1 : Int32) (h : hh_H) (rr : Nat × hh_H) (hf : f_ArrayList_remove F a0 x1 h = some rr) : hh_Met yJ0_remove cJ0_remove 4 (some (.object "java/lang/Object")) rm_ArrayList_remove mc_ArrayList_remove ms_ArrayList_remove B e0 [.ref (hh_ad B e0 a0), .int x1] h (.returned (some (.ref (hh_ad B e0 rr.1)))) rr.2 :=
  hh_met (by decide) (Nat.le_of_ble_eq_true rfl) fun X C E => hh_pick [0, 1] rfl (w_ArrayList_remove C E F a0 x1 h hf)
def mc_ArrayList_add : Nat := 1
def ms_ArrayList_add : Nat := 80
def rm_ArrayList_add : Room := { frames := 5, cells := 1, slots := 80, locals := 134 }
abbrev ok_ArrayList_add (X : hh_X) (B e0 : Nat) : Prop := hh_ok X B e0 cJ0_add RJ0 5 none "add" rm_ArrayList_add
set_option maxRecDepth 100000 in
set_option maxHeartbeats 4000000 in
theorem w_ArrayList_add_38 {X : hh_X} {B e0 : Nat} {rr : Unit × hh_H} (C : ok_ArrayList_add X B e0) (E : hh_End X B e0 (.returned none) rr.2 mc_ArrayList_add ms_ArrayList_add) (F : Nat) (a0 : Nat) (x1 : Int32) (a2 : Nat) (x3 : Int32) (a4 : Nat) (h : hh_H)
    (hf : f_ArrayList_add_38 F a0 x1 a2 x3 a4 h = some rr) : hh_W X 1 80 38 [(0, .ref (hh_ad B e0 a0)), (1, .int x1), (2, .ref (hh_ad B e0 a2)), (3, .int x3), (4, .ref (hh_ad B e0 a4))] [] h := by
  unfold f_ArrayList_add_38 at hf
  refine r_aload C dJ0_add_38 4 rfl ?_
  refine r_iload_n C dJ0_add_40 rfl 1 rfl ?_
  refine r_aload C dJ0_add_41 4 rfl ?_
  refine r_iload_n C dJ0_add_43 rfl 1 rfl ?_
  refine r_iconst C dJ0_add_44 (v := 1) (by decide) ?_
  refine r_iadd C dJ0_add_45 ?_
  refine r_iload_n C dJ0_add_46 rfl 3 rfl ?_
  refine r_iload_n C dJ0_add_47 rfl 1 rfl ?_
  refine r_isub C dJ0_add_48 ?_
  obtain ⟨q1, h2, e3, hf⟩ := hp_cbe hf
  refine r_arraycopy C dJ0_add_49 ac_RJ0_112 (by decide) (Nat.le_of_ble_eq_true rfl) e3 ?_
  refine r_aload C dJ0_add_52 4 rfl ?_
  refine r_iload_n C dJ0_add_54 rfl 1 rfl ?_
  refine r_aload_n C dJ0_add_55 rfl 2 rfl ?_
  obtain ⟨_, e6, hf⟩ := hp_bind hf
  obtain ⟨h4, e5, hf⟩ := hp_bind hf
  refine r_sq C dJ0_add_56 e6 e5 ?_
  refine r_aload_n C dJ0_add_57 rfl 0 rfl ?_
  refine r_iload_n C dJ0_add_58 rfl 3 rfl ?_
  refine r_iconst C dJ0_add_59 (v := 1) (by decide) ?_
  refine r_iadd C dJ0_add_60 ?_
  obtain ⟨h7, e8, hf⟩ := hp_bind hf
  refine r_putI C dJ0_add_61 fl_RJ0_48 e8 ?_
  exact r_return C E dJ0_add_64 (by decide) (by decide) hf
set_option maxRecDepth 100000 in
set_option maxHeartbeats 4000000 in
theorem w_ArrayList_add {X : hh_X} {B e0 : Nat} {rr : Unit × hh_H} (C : ok_ArrayList_add X B e0) (E : hh_End X B e0 (.returned none) rr.2 mc_ArrayList_add ms_ArrayList_add) (F : Nat) (a0 : Nat) (x1 : Int32) (a2 : Nat) (h : hh_H)
    (hf : f_ArrayList_add F a0 x1 a2 h = some rr) : hh_W X 0 0 0 [(0, .ref (hh_ad B e0 a0)), (1, .int x1), (2, .ref (hh_ad B e0 a2))] [] h := by
  unfold f_ArrayList_add at hf
  refine r_aload_n C dJ0_add_0 rfl 0 rfl ?_
  refine r_iload_n C dJ0_add_1 rfl 1 rfl ?_
  obtain ⟨_, e12, hf⟩ := hp_bind hf
  obtain ⟨g13, e12⟩ := hp_is_of e12
  obtain ⟨q9, h10, e11, hf⟩ := hp_cbe hf
  refine r_callV C dJ0_add_2 cs_RJ0_135 rfl e12 (c_ArrayList_rangeCheckForAdd B e0 F a0 x1 h _ e11) rfl rfl rfl ⟨by decide, by decide⟩ ⟨by decide, by decide⟩ (Nat.le_of_ble_eq_true rfl) rfl ?_
  refine r_aload_n C dJ0_add_5 rfl 0 rfl ?_
  refine r_dup C dJ0_add_6 rfl ?_
  obtain ⟨v14, e15, hf⟩ := hp_bind hf
  refine r_getI C dJ0_add_7 fl_RJ0_63 e15 ?_
  refine r_iconst C dJ0_add_10 (v := 1) (by decide) ?_
  refine r_iadd C dJ0_add_11 ?_
  obtain ⟨h16, e17, hf⟩ := hp_bind hf
  refine r_putI C dJ0_add_12 fl_RJ0_63 e17 ?_
  refine r_aload_n C dJ0_add_15 rfl 0 rfl ?_
  obtain ⟨v18, e19, hf⟩ := hp_bind hf
  refine r_getI C dJ0_add_16 fl_RJ0_48 e19 ?_
  refine r_dup C dJ0_add_19 rfl ?_
  refine r_istore_n (lv' := [(3, .int v18), (0, .ref (hh_ad B e0 a0)), (1, .int x1), (2, .ref (hh_ad B e0 a2))]) C dJ0_add_20 rfl (by decide) rfl ?_
  refine r_aload_n C dJ0_add_21 rfl 1 rfl ?_
  obtain ⟨v20, e21, hf⟩ := hp_bind hf
  refine r_getA C dJ0_add_22 fl_RJ0_9 e21 ?_
  refine r_dup C dJ0_add_25 rfl ?_
  refine r_astore (lv' := [(4, .ref (hh_ad B e0 v20)), (3, .int v18), (0, .ref (hh_ad B e0 a0)), (1, .int x1), (2, .ref (hh_ad B e0 a2))]) C dJ0_add_26 (by decide) rfl ?_
  obtain ⟨v22, e23, hf⟩ := hp_bind hf
  refine r_alen C dJ0_add_28 e23 ?_
  refine r_icmp_ne C dJ0_add_29 (tgt := 38) (by decide) (fun c24 => ?_) (fun c24 => ?_)
  · rw [if_neg c24] at hf
    refine hh_pick [2, 3, 4, 1, 0] rfl ?_
    refine hh_widen (cn' := 1) (sn' := 80) (by decide) (by decide) ?_
    exact w_ArrayList_add_38 C E F a0 x1 a2 v18 v20 h16 hf
  · rw [if_pos c24] at hf
    refine r_aload_n C dJ0_add_32 rfl 2 rfl ?_
    obtain ⟨_, e28, hf⟩ := hp_bind hf
    obtain ⟨g29, e28⟩ := hp_is_of e28
    obtain ⟨q25, h26, e27, hf⟩ := hp_cbe hf
    refine r_callV C dJ0_add_33 cs_RJ0_129 rfl e28 (c_ArrayList_grow B e0 F a0 h16 _ e27) rfl rfl rfl ⟨by decide, by decide⟩ ⟨by decide, by decide⟩ (Nat.le_of_ble_eq_true rfl) rfl ?_
    refine r_astore (lv' := [(4, .ref (hh_ad B e0 q25)), (3, .int v18), (0, .ref (hh_ad B e0 a0)), (1, .int x1), (2, .ref (hh_ad B e0 a2))]) C dJ0_add_36 (by decide) rfl ?_
    refine hh_pick [2, 3, 4, 1, 0] rfl ?_
    exact w_ArrayList_add_38 C E F a0 x1 a2 v18 q25 h26 hf
theorem c_ArrayList_add (B e0 F : Nat) (a0 : Nat) (x1 : Int32) (a2 : Nat) (h : hh_H) (rr : Unit × hh_H) (hf : f_ArrayList_add F a0 x1 a2 h = some rr) : hh_Met yJ0_add cJ0_add 5 none rm_ArrayList_add mc_ArrayList_add ms_ArrayList_add B e0 [.ref (hh_ad B e0 a0), .int x1, .ref (hh_ad B e0 a2)] h (.returned none) rr.2 :=
  hh_met (by decide) (Nat.le_of_ble_eq_true rfl) fun X C E => hh_pick [0, 1, 2] rfl (w_ArrayList_add C E F a0 x1 a2 h hf)
