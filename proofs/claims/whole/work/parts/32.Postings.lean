def f_Postings_init (F : Nat) (a0 : Nat) (x1 : Int32) (h : hh_H) : Option (Unit × hh_H) :=
  hp_cb (hp_na h 0 x1 800) fun b1 h3 =>
  (hp_pa h3 a0 5 0 b1).bind fun h4 =>
  (hp_pi h4 a0 5 1 0).bind fun h6 =>
  some ((), h6)
def f_Postings_keyOf (F : Nat) (x0 : Int32) (x1 : Int32) (x2 : Int32) (h : hh_H) : Option (Int32 × hh_H) :=
  some ((((x0 * 40) + x1) * 20) + x2, h)
def f_Postings_wordOf (F : Nat) (x0 : Int32) (h : hh_H) : Option (Int32 × hh_H) :=
  some (x0 / 800, h)
def f_Postings_documentOf (F : Nat) (x0 : Int32) (h : hh_H) : Option (Int32 × hh_H) :=
  some ((x0 / 20) - (x0 / 20) / 40 * 40, h)
def f_Postings_placeOf (F : Nat) (x0 : Int32) (h : hh_H) : Option (Int32 × hh_H) :=
  some (x0 - x0 / 20 * 20, h)
def f_Postings_size (F : Nat) (a0 : Nat) (h : hh_H) : Option (Int32 × hh_H) :=
  (hp_gi h a0 5 1).bind fun v1 =>
  some (v1, h)
def f_Postings_keyAt (F : Nat) (a0 : Nat) (x1 : Int32) (h : hh_H) : Option (Int32 × hh_H) :=
  if x1 < 0 then
    some (0, h)
  else
    (hp_gi h a0 5 1).bind fun v2 =>
    if v2 ≤ x1 then
      some (0, h)
    else
      (hp_ga h a0 5 0).bind fun v5 =>
      (hp_ai h v5 x1).bind fun v7 =>
      some (v7, h)
def f_Postings_clear (F : Nat) (a0 : Nat) (h : hh_H) : Option (Unit × hh_H) :=
  (hp_pi h a0 5 1 0).bind fun h1 =>
  some ((), h1)
def f_Postings_insert_54 (F : Nat) (a0 : Nat) (x1 : Int32) (x2 : Int32) (h : hh_H) : Option (Unit × hh_H) :=
  (hp_ga h a0 5 0).bind fun v1 =>
  (hp_si h v1 x2 x1).bind fun h3 =>
  (hp_gi h3 a0 5 1).bind fun v5 =>
  (hp_pi h3 a0 5 1 (v5 + 1)).bind fun h7 =>
  some ((), h7)
def f_Postings_insert_18 (F : Nat) (r18 : Nat → Int32 → Int32 → hh_H → Option (Unit × hh_H)) (a0 : Nat) (x1 : Int32) (x2 : Int32) (h : hh_H) : Option (Unit × hh_H) :=
  if x2 ≤ 0 then
    f_Postings_insert_54 F a0 x1 x2 h
  else
    (hp_ga h a0 5 0).bind fun v10 =>
    (hp_ai h v10 (x2 - 1)).bind fun v12 =>
    if v12 ≤ x1 then
      f_Postings_insert_54 F a0 x1 x2 h
    else
      (hp_ga h a0 5 0).bind fun v15 =>
      (hp_ga h a0 5 0).bind fun v17 =>
      (hp_ai h v17 (x2 - 1)).bind fun v19 =>
      (hp_si h v15 x2 v19).bind fun h21 =>
      r18 a0 x1 (x2 + (-1)) h21
def l_Postings_insert_18 (F : Nat) : Nat → Int32 → Int32 → hh_H → Option (Unit × hh_H) := hp_it (fun _ _ _ _ => none) (f_Postings_insert_18 F) F
def f_Postings_insert (F : Nat) (a0 : Nat) (x1 : Int32) (h : hh_H) : Option (Unit × hh_H) :=
  (hp_gi h a0 5 1).bind fun v23 =>
  (hp_ga h a0 5 0).bind fun v25 =>
  (hp_len h v25).bind fun v27 =>
  if v23 < v27 then
    (hp_gi h a0 5 1).bind fun v30 =>
    l_Postings_insert_18 F a0 x1 v30 h
  else
    some ((), h)
def f_Postings_mergeIn_89 (F : Nat) (r40 : Nat → Nat → Int32 → Int32 → Int32 → Int32 → hh_H → Option (Unit × hh_H)) (a0 : Nat) (a1 : Nat) (x2 : Int32) (x3 : Int32) (x4 : Int32) (x5 : Int32) (h : hh_H) : Option (Unit × hh_H) :=
  (hp_ga h a0 5 0).bind fun v1 =>
  (hp_ga h a1 5 0).bind fun v3 =>
  (hp_ai h v3 x4).bind fun v5 =>
  (hp_si h v1 x5 v5).bind fun h7 =>
  r40 a0 a1 x2 x3 (x4 + (-1)) (x5 + (-1)) h7
def f_Postings_mergeIn_40 (F : Nat) (r40 : Nat → Nat → Int32 → Int32 → Int32 → Int32 → hh_H → Option (Unit × hh_H)) (a0 : Nat) (a1 : Nat) (x2 : Int32) (x3 : Int32) (x4 : Int32) (x5 : Int32) (h : hh_H) : Option (Unit × hh_H) :=
  if x5 < 0 then
    (hp_pi h a0 5 1 x2).bind fun h10 =>
    some ((), h10)
  else
    if x4 < 0 then
      (hp_pi h a0 5 1 x2).bind fun h13 =>
      some ((), h13)
    else
      if x3 < 0 then
        f_Postings_mergeIn_89 F r40 a0 a1 x2 x3 x4 x5 h
      else
        (hp_ga h a0 5 0).bind fun v16 =>
        (hp_ai h v16 x3).bind fun v18 =>
        (hp_ga h a1 5 0).bind fun v20 =>
        (hp_ai h v20 x4).bind fun v22 =>
        if v18 ≤ v22 then
          f_Postings_mergeIn_89 F r40 a0 a1 x2 x3 x4 x5 h
        else
          (hp_ga h a0 5 0).bind fun v25 =>
          (hp_ga h a0 5 0).bind fun v27 =>
          (hp_ai h v27 x3).bind fun v29 =>
          (hp_si h v25 x5 v29).bind fun h31 =>
          r40 a0 a1 x2 (x3 + (-1)) x4 (x5 + (-1)) h31
def l_Postings_mergeIn_40 (F : Nat) : Nat → Nat → Int32 → Int32 → Int32 → Int32 → hh_H → Option (Unit × hh_H) := hp_it (fun _ _ _ _ _ _ _ => none) (f_Postings_mergeIn_40 F) F
def f_Postings_mergeIn (F : Nat) (a0 : Nat) (a1 : Nat) (h : hh_H) : Option (Unit × hh_H) :=
  (hp_gi h a0 5 1).bind fun v33 =>
  (hp_gi h a1 5 1).bind fun v35 =>
  (hp_ga h a0 5 0).bind fun v37 =>
  (hp_len h v37).bind fun v39 =>
  if (v33 + v35) ≤ v39 then
    (hp_gi h a0 5 1).bind fun v42 =>
    (hp_gi h a1 5 1).bind fun v44 =>
    l_Postings_mergeIn_40 F a0 a1 (v33 + v35) (v42 - 1) (v44 - 1) ((v33 + v35) - 1) h
  else
    some ((), h)
def f_Postings_keepLive_4 (F : Nat) (r4 : Nat → Nat → Int32 → Int32 → hh_H → Option (Unit × hh_H)) (a0 : Nat) (a1 : Nat) (x2 : Int32) (x3 : Int32) (h : hh_H) : Option (Unit × hh_H) :=
  (hp_gi h a0 5 1).bind fun v1 =>
  if v1 ≤ x3 then
    (hp_pi h a0 5 1 x2).bind fun h4 =>
    some ((), h4)
  else
    (hp_ga h a0 5 0).bind fun v6 =>
    (hp_ai h v6 x3).bind fun v8 =>
    hp_cb (f_Postings_documentOf F v8 h) fun q10 h11 =>
    (hp_is h11 a1 3).bind fun _ =>
    hp_cb (f_Documents_isLive F a1 q10 h11) fun q13 h14 =>
    if q13 = 0 then
      r4 a0 a1 x2 (x3 + 1) h14
    else
      (hp_ga h14 a0 5 0).bind fun v19 =>
      (hp_ga h14 a0 5 0).bind fun v21 =>
      (hp_ai h14 v21 x3).bind fun v23 =>
      (hp_si h14 v19 x2 v23).bind fun h25 =>
      r4 a0 a1 (x2 + 1) (x3 + 1) h25
def l_Postings_keepLive_4 (F : Nat) : Nat → Nat → Int32 → Int32 → hh_H → Option (Unit × hh_H) := hp_it (fun _ _ _ _ _ => none) (f_Postings_keepLive_4 F) F
def f_Postings_keepLive (F : Nat) (a0 : Nat) (a1 : Nat) (h : hh_H) : Option (Unit × hh_H) :=
  l_Postings_keepLive_4 F a0 a1 0 0 h
theorem oi_RX5_3 : Cond.methodLink RX5 3 Lib.objectInit ∈ hh_T := hh_at 108 (by decide +kernel) (by decide +kernel)
theorem lay_X5 : ∀ w ∈ u_ws RX5 TX5 2, w ∈ hh_T := hh_sub (by decide +kernel) (by decide +kernel)
theorem tyok_X5 : ∀ k, k < 2 → parseFieldDescriptor (TX5 k).2.2.1 = some (tyX5 k) := by decide +kernel
theorem nmok_X5 : ∀ a, a < 2 → ∀ b, b < 2 → a ≠ b → (TX5 a).2.1 ≠ (TX5 b).2.1 := by decide +kernel
theorem fl_RX5_9 : hh_FL RX5 9 5 0 (.array .int) true := ⟨_, _, _, tyX5, "IndexBuilder$Postings", rfl, by decide, lay_X5, ⟨hh_at 109 (by decide +kernel) (by decide +kernel), Or.inl rfl⟩, rfl, by decide +kernel, tyok_X5, nmok_X5⟩
theorem fl_RX5_15 : hh_FL RX5 15 5 1 .int false := ⟨_, _, _, tyX5, "IndexBuilder$Postings", rfl, by decide, lay_X5, ⟨hh_at 110 (by decide +kernel) (by decide +kernel), Or.inl rfl⟩, rfl, by decide +kernel, tyok_X5, nmok_X5⟩
theorem cw_X5_documentOf : Cond.code yX5_documentOf cX5_documentOf 1 (some .int) ∈ hh_T := hh_at 465 (by decide +kernel) (by decide +kernel)
theorem cs_RX5_19 : hh_CS RX5 19 yX5_documentOf cX5_documentOf 1 (some .int) 1 [.static yX5_documentOf] := ⟨cw_X5_documentOf, hh_at 463 (by decide +kernel) (by decide +kernel), hh_at 38 (by decide +kernel) (by decide +kernel), hh_all1 (hh_at 464 (by decide +kernel) (by decide +kernel)), by decide +kernel⟩
theorem cs_RX5_23 : hh_CS RX5 23 yX3_isLive cX3_isLive 2 (some .boolean) 1 [.instanceMethod yX3_isLive, .selects yX3_isLive.cls yX3_isLive yX3_isLive] := ⟨cw_X3_isLive, hh_at 466 (by decide +kernel) (by decide +kernel), hh_at 37 (by decide +kernel) (by decide +kernel), hh_all2 (hh_at 467 (by decide +kernel) (by decide +kernel)) (hh_at 468 (by decide +kernel) (by decide +kernel)), by decide +kernel⟩
def mc_Postings_init : Nat := 1
def ms_Postings_init : Nat := 800
def rm_Postings_init : Room := { frames := 1, cells := 1, slots := 800, locals := 20 }
abbrev ok_Postings_init (X : hh_X) (B e0 : Nat) : Prop := hh_ok X B e0 cX5_init RX5 2 none "<init>" rm_Postings_init
set_option maxRecDepth 100000 in
set_option maxHeartbeats 4000000 in
theorem w_Postings_init {X : hh_X} {B e0 : Nat} {rr : Unit × hh_H} (C : ok_Postings_init X B e0) (E : hh_End X B e0 (.returned none) rr.2 mc_Postings_init ms_Postings_init) (F : Nat) (a0 : Nat) (x1 : Int32) (h : hh_H)
    (hf : f_Postings_init F a0 x1 h = some rr) : hh_W X 0 0 0 [(0, .ref (hh_ad B e0 a0)), (1, .int x1)] [] h := by
  unfold f_Postings_init at hf
  refine r_aload_n C dX5_init_0 rfl 0 rfl ?_
  refine r_objInit C dX5_init_1 oi_RX5_3 oi_inst oi_code (by decide) (Nat.le_of_ble_eq_true rfl) ?_
  refine r_aload_n C dX5_init_4 rfl 0 rfl ?_
  refine r_iload_n C dX5_init_5 rfl 1 rfl ?_
  obtain ⟨b1, h3, e2, hf⟩ := hp_cbe hf
  refine r_na_int (bd := 800) C dX5_init_6 (by decide) (by decide) (by decide) e2 ?_
  obtain ⟨h4, e5, hf⟩ := hp_bind hf
  refine r_putAF C dX5_init_8 fl_RX5_9 rfl (fun _ _ _ q => by cases q; rfl) (fun _ => ⟨rfl, rfl⟩) e5 ?_
  refine r_aload_n C dX5_init_11 rfl 0 rfl ?_
  refine r_iconst C dX5_init_12 (v := 0) (by decide) ?_
  obtain ⟨h6, e7, hf⟩ := hp_bind hf
  refine r_putI C dX5_init_13 fl_RX5_15 e7 ?_
  exact r_return C E dX5_init_16 (by decide) (by decide) hf
theorem c_Postings_init (B e0 F : Nat) (a0 : Nat) (x1 : Int32) (h : hh_H) (rr : Unit × hh_H) (hf : f_Postings_init F a0 x1 h = some rr) : hh_Met yX5_init cX5_init 2 none rm_Postings_init mc_Postings_init ms_Postings_init B e0 [.ref (hh_ad B e0 a0), .int x1] h (.returned none) rr.2 :=
  hh_met (by decide) (Nat.le_of_ble_eq_true rfl) fun X C E => hh_pick [0, 1] rfl (w_Postings_init C E F a0 x1 h hf)
def mc_Postings_keyOf : Nat := 0
def ms_Postings_keyOf : Nat := 0
def rm_Postings_keyOf : Room := { frames := 0, cells := 0, slots := 0, locals := 0 }
abbrev ok_Postings_keyOf (X : hh_X) (B e0 : Nat) : Prop := hh_ok X B e0 cX5_keyOf RX5 3 (some .int) "keyOf" rm_Postings_keyOf
set_option maxRecDepth 100000 in
set_option maxHeartbeats 4000000 in
theorem w_Postings_keyOf {X : hh_X} {B e0 : Nat} {rr : Int32 × hh_H} (C : ok_Postings_keyOf X B e0) (E : hh_End X B e0 (.returned (some (.int rr.1))) rr.2 mc_Postings_keyOf ms_Postings_keyOf) (F : Nat) (x0 : Int32) (x1 : Int32) (x2 : Int32) (h : hh_H)
    (hf : f_Postings_keyOf F x0 x1 x2 h = some rr) : hh_W X 0 0 0 [(0, .int x0), (1, .int x1), (2, .int x2)] [] h := by
  unfold f_Postings_keyOf at hf
  refine r_iload_n C dX5_keyOf_0 rfl 0 rfl ?_
  refine r_bipush C dX5_keyOf_1 (v := 40) (by decide) ?_
  refine r_imul C dX5_keyOf_3 ?_
  refine r_iload_n C dX5_keyOf_4 rfl 1 rfl ?_
  refine r_iadd C dX5_keyOf_5 ?_
  refine r_bipush C dX5_keyOf_6 (v := 20) (by decide) ?_
  refine r_imul C dX5_keyOf_8 ?_
  refine r_iload_n C dX5_keyOf_9 rfl 2 rfl ?_
  refine r_iadd C dX5_keyOf_10 ?_
  exact r_ireturn C E dX5_keyOf_11 (by decide) (by decide) hf
theorem c_Postings_keyOf (B e0 F : Nat) (x0 : Int32) (x1 : Int32) (x2 : Int32) (h : hh_H) (rr : Int32 × hh_H) (hf : f_Postings_keyOf F x0 x1 x2 h = some rr) : hh_Met yX5_keyOf cX5_keyOf 3 (some .int) rm_Postings_keyOf mc_Postings_keyOf ms_Postings_keyOf B e0 [.int x0, .int x1, .int x2] h (.returned (some (.int rr.1))) rr.2 :=
  hh_met (by decide) (Nat.le_of_ble_eq_true rfl) fun X C E => hh_pick [0, 1, 2] rfl (w_Postings_keyOf C E F x0 x1 x2 h hf)
def mc_Postings_wordOf : Nat := 0
def ms_Postings_wordOf : Nat := 0
def rm_Postings_wordOf : Room := { frames := 0, cells := 0, slots := 0, locals := 0 }
abbrev ok_Postings_wordOf (X : hh_X) (B e0 : Nat) : Prop := hh_ok X B e0 cX5_wordOf RX5 1 (some .int) "wordOf" rm_Postings_wordOf
set_option maxRecDepth 100000 in
set_option maxHeartbeats 4000000 in
theorem w_Postings_wordOf {X : hh_X} {B e0 : Nat} {rr : Int32 × hh_H} (C : ok_Postings_wordOf X B e0) (E : hh_End X B e0 (.returned (some (.int rr.1))) rr.2 mc_Postings_wordOf ms_Postings_wordOf) (F : Nat) (x0 : Int32) (h : hh_H)
    (hf : f_Postings_wordOf F x0 h = some rr) : hh_W X 0 0 0 [(0, .int x0)] [] h := by
  unfold f_Postings_wordOf at hf
  refine r_iload_n C dX5_wordOf_0 rfl 0 rfl ?_
  refine r_sipush C dX5_wordOf_1 (v := 800) (by decide) ?_
  refine r_idiv C dX5_wordOf_4 (by decide) ?_
  exact r_ireturn C E dX5_wordOf_5 (by decide) (by decide) hf
theorem c_Postings_wordOf (B e0 F : Nat) (x0 : Int32) (h : hh_H) (rr : Int32 × hh_H) (hf : f_Postings_wordOf F x0 h = some rr) : hh_Met yX5_wordOf cX5_wordOf 1 (some .int) rm_Postings_wordOf mc_Postings_wordOf ms_Postings_wordOf B e0 [.int x0] h (.returned (some (.int rr.1))) rr.2 :=
  hh_met (by decide) (Nat.le_of_ble_eq_true rfl) fun X C E => hh_pick [0] rfl (w_Postings_wordOf C E F x0 h hf)
def mc_Postings_documentOf : Nat := 0
def ms_Postings_documentOf : Nat := 0
def rm_Postings_documentOf : Room := { frames := 0, cells := 0, slots := 0, locals := 0 }
abbrev ok_Postings_documentOf (X : hh_X) (B e0 : Nat) : Prop := hh_ok X B e0 cX5_documentOf RX5 1 (some .int) "documentOf" rm_Postings_documentOf
set_option maxRecDepth 100000 in
set_option maxHeartbeats 4000000 in
theorem w_Postings_documentOf {X : hh_X} {B e0 : Nat} {rr : Int32 × hh_H} (C : ok_Postings_documentOf X B e0) (E : hh_End X B e0 (.returned (some (.int rr.1))) rr.2 mc_Postings_documentOf ms_Postings_documentOf) (F : Nat) (x0 : Int32) (h : hh_H)
    (hf : f_Postings_documentOf F x0 h = some rr) : hh_W X 0 0 0 [(0, .int x0)] [] h := by
  unfold f_Postings_documentOf at hf
  refine r_iload_n C dX5_documentOf_0 rfl 0 rfl ?_
  refine r_bipush C dX5_documentOf_1 (v := 20) (by decide) ?_
  refine r_idiv C dX5_documentOf_3 (by decide) ?_
  refine r_bipush C dX5_documentOf_4 (v := 40) (by decide) ?_
  refine r_irem C dX5_documentOf_6 (by decide) ?_
  exact r_ireturn C E dX5_documentOf_7 (by decide) (by decide) hf
theorem c_Postings_documentOf (B e0 F : Nat) (x0 : Int32) (h : hh_H) (rr : Int32 × hh_H) (hf : f_Postings_documentOf F x0 h = some rr) : hh_Met yX5_documentOf cX5_documentOf 1 (some .int) rm_Postings_documentOf mc_Postings_documentOf ms_Postings_documentOf B e0 [.int x0] h (.returned (some (.int rr.1))) rr.2 :=
  hh_met (by decide) (Nat.le_of_ble_eq_true rfl) fun X C E => hh_pick [0] rfl (w_Postings_documentOf C E F x0 h hf)
def mc_Postings_placeOf : Nat := 0
def ms_Postings_placeOf : Nat := 0
def rm_Postings_placeOf : Room := { frames := 0, cells := 0, slots := 0, locals := 0 }
abbrev ok_Postings_placeOf (X : hh_X) (B e0 : Nat) : Prop := hh_ok X B e0 cX5_placeOf RX5 1 (some .int) "placeOf" rm_Postings_placeOf
set_option maxRecDepth 100000 in
set_option maxHeartbeats 4000000 in
theorem w_Postings_placeOf {X : hh_X} {B e0 : Nat} {rr : Int32 × hh_H} (C : ok_Postings_placeOf X B e0) (E : hh_End X B e0 (.returned (some (.int rr.1))) rr.2 mc_Postings_placeOf ms_Postings_placeOf) (F : Nat) (x0 : Int32) (h : hh_H)
    (hf : f_Postings_placeOf F x0 h = some rr) : hh_W X 0 0 0 [(0, .int x0)] [] h := by
  unfold f_Postings_placeOf at hf
  refine r_iload_n C dX5_placeOf_0 rfl 0 rfl ?_
  refine r_bipush C dX5_placeOf_1 (v := 20) (by decide) ?_
  refine r_irem C dX5_placeOf_3 (by decide) ?_
  exact r_ireturn C E dX5_placeOf_4 (by decide) (by decide) hf
theorem c_Postings_placeOf (B e0 F : Nat) (x0 : Int32) (h : hh_H) (rr : Int32 × hh_H) (hf : f_Postings_placeOf F x0 h = some rr) : hh_Met yX5_placeOf cX5_placeOf 1 (some .int) rm_Postings_placeOf mc_Postings_placeOf ms_Postings_placeOf B e0 [.int x0] h (.returned (some (.int rr.1))) rr.2 :=
  hh_met (by decide) (Nat.le_of_ble_eq_true rfl) fun X C E => hh_pick [0] rfl (w_Postings_placeOf C E F x0 h hf)
def mc_Postings_size : Nat := 0
def ms_Postings_size : Nat := 0
def rm_Postings_size : Room := { frames := 0, cells := 0, slots := 0, locals := 0 }
abbrev ok_Postings_size (X : hh_X) (B e0 : Nat) : Prop := hh_ok X B e0 cX5_size RX5 1 (some .int) "size" rm_Postings_size
set_option maxRecDepth 100000 in
set_option maxHeartbeats 4000000 in
theorem w_Postings_size {X : hh_X} {B e0 : Nat} {rr : Int32 × hh_H} (C : ok_Postings_size X B e0) (E : hh_End X B e0 (.returned (some (.int rr.1))) rr.2 mc_Postings_size ms_Postings_size) (F : Nat) (a0 : Nat) (h : hh_H)
    (hf : f_Postings_size F a0 h = some rr) : hh_W X 0 0 0 [(0, .ref (hh_ad B e0 a0))] [] h := by
  unfold f_Postings_size at hf
  refine r_aload_n C dX5_size_0 rfl 0 rfl ?_
  obtain ⟨v1, e2, hf⟩ := hp_bind hf
  refine r_getI C dX5_size_1 fl_RX5_15 e2 ?_
  exact r_ireturn C E dX5_size_4 (by decide) (by decide) hf
theorem c_Postings_size (B e0 F : Nat) (a0 : Nat) (h : hh_H) (rr : Int32 × hh_H) (hf : f_Postings_size F a0 h = some rr) : hh_Met yX5_size cX5_size 1 (some .int) rm_Postings_size mc_Postings_size ms_Postings_size B e0 [.ref (hh_ad B e0 a0)] h (.returned (some (.int rr.1))) rr.2 :=
  hh_met (by decide) (Nat.le_of_ble_eq_true rfl) fun X C E => hh_pick [0] rfl (w_Postings_size C E F a0 h hf)
def mc_Postings_keyAt : Nat := 0
def ms_Postings_keyAt : Nat := 0
def rm_Postings_keyAt : Room := { frames := 0, cells := 0, slots := 0, locals := 0 }
abbrev ok_Postings_keyAt (X : hh_X) (B e0 : Nat) : Prop := hh_ok X B e0 cX5_keyAt RX5 2 (some .int) "keyAt" rm_Postings_keyAt
set_option maxRecDepth 100000 in
set_option maxHeartbeats 4000000 in
theorem w_Postings_keyAt {X : hh_X} {B e0 : Nat} {rr : Int32 × hh_H} (C : ok_Postings_keyAt X B e0) (E : hh_End X B e0 (.returned (some (.int rr.1))) rr.2 mc_Postings_keyAt ms_Postings_keyAt) (F : Nat) (a0 : Nat) (x1 : Int32) (h : hh_H)
    (hf : f_Postings_keyAt F a0 x1 h = some rr) : hh_W X 0 0 0 [(0, .ref (hh_ad B e0 a0)), (1, .int x1)] [] h := by
  unfold f_Postings_keyAt at hf
  refine r_iload_n C dX5_keyAt_0 rfl 1 rfl ?_
  refine r_if_lt C dX5_keyAt_1 (tgt := 21) (by decide) (fun c1 => ?_) (fun c1 => ?_)
  · rw [if_pos c1] at hf
    refine r_iconst C dX5_keyAt_21 (v := 0) (by decide) ?_
    exact r_ireturn C E dX5_keyAt_22 (by decide) (by decide) hf
  · rw [if_neg c1] at hf
    refine r_iload_n C dX5_keyAt_4 rfl 1 rfl ?_
    refine r_aload_n C dX5_keyAt_5 rfl 0 rfl ?_
    obtain ⟨v2, e3, hf⟩ := hp_bind hf
    refine r_getI C dX5_keyAt_6 fl_RX5_15 e3 ?_
    refine r_icmp_ge C dX5_keyAt_9 (tgt := 21) (by decide) (fun c4 => ?_) (fun c4 => ?_)
    · rw [if_pos c4] at hf
      refine r_iconst C dX5_keyAt_21 (v := 0) (by decide) ?_
      exact r_ireturn C E dX5_keyAt_22 (by decide) (by decide) hf
    · rw [if_neg c4] at hf
      refine r_aload_n C dX5_keyAt_12 rfl 0 rfl ?_
      obtain ⟨v5, e6, hf⟩ := hp_bind hf
      refine r_getA C dX5_keyAt_13 fl_RX5_9 e6 ?_
      refine r_iload_n C dX5_keyAt_16 rfl 1 rfl ?_
      obtain ⟨v7, e8, hf⟩ := hp_bind hf
      refine r_ai C dX5_keyAt_17 e8 ?_
      refine r_goto C dX5_keyAt_18 (tgt := 22) (by decide) ?_
      exact r_ireturn C E dX5_keyAt_22 (by decide) (by decide) hf
theorem c_Postings_keyAt (B e0 F : Nat) (a0 : Nat) (x1 : Int32) (h : hh_H) (rr : Int32 × hh_H) (hf : f_Postings_keyAt F a0 x1 h = some rr) : hh_Met yX5_keyAt cX5_keyAt 2 (some .int) rm_Postings_keyAt mc_Postings_keyAt ms_Postings_keyAt B e0 [.ref (hh_ad B e0 a0), .int x1] h (.returned (some (.int rr.1))) rr.2 :=
  hh_met (by decide) (Nat.le_of_ble_eq_true rfl) fun X C E => hh_pick [0, 1] rfl (w_Postings_keyAt C E F a0 x1 h hf)
def mc_Postings_clear : Nat := 0
def ms_Postings_clear : Nat := 0
def rm_Postings_clear : Room := { frames := 0, cells := 0, slots := 0, locals := 0 }
abbrev ok_Postings_clear (X : hh_X) (B e0 : Nat) : Prop := hh_ok X B e0 cX5_clear RX5 1 none "clear" rm_Postings_clear
set_option maxRecDepth 100000 in
set_option maxHeartbeats 4000000 in
theorem w_Postings_clear {X : hh_X} {B e0 : Nat} {rr : Unit × hh_H} (C : ok_Postings_clear X B e0) (E : hh_End X B e0 (.returned none) rr.2 mc_Postings_clear ms_Postings_clear) (F : Nat) (a0 : Nat) (h : hh_H)
    (hf : f_Postings_clear F a0 h = some rr) : hh_W X 0 0 0 [(0, .ref (hh_ad B e0 a0))] [] h := by
  unfold f_Postings_clear at hf
  refine r_aload_n C dX5_clear_0 rfl 0 rfl ?_
  refine r_iconst C dX5_clear_1 (v := 0) (by decide) ?_
  obtain ⟨h1, e2, hf⟩ := hp_bind hf
  refine r_putI C dX5_clear_2 fl_RX5_15 e2 ?_
  exact r_return C E dX5_clear_5 (by decide) (by decide) hf
theorem c_Postings_clear (B e0 F : Nat) (a0 : Nat) (h : hh_H) (rr : Unit × hh_H) (hf : f_Postings_clear F a0 h = some rr) : hh_Met yX5_clear cX5_clear 1 none rm_Postings_clear mc_Postings_clear ms_Postings_clear B e0 [.ref (hh_ad B e0 a0)] h (.returned none) rr.2 :=
  hh_met (by decide) (Nat.le_of_ble_eq_true rfl) fun X C E => hh_pick [0] rfl (w_Postings_clear C E F a0 h hf)
def mc_Postings_insert : Nat := 0
def ms_Postings_insert : Nat := 0
def rm_Postings_insert : Room := { frames := 0, cells := 0, slots := 0, locals := 0 }
abbrev ok_Postings_insert (X : hh_X) (B e0 : Nat) : Prop := hh_ok X B e0 cX5_insert RX5 3 none "insert" rm_Postings_insert
set_option maxRecDepth 100000 in
set_option maxHeartbeats 4000000 in
theorem w_Postings_insert_54 {X : hh_X} {B e0 : Nat} {rr : Unit × hh_H} (C : ok_Postings_insert X B e0) (E : hh_End X B e0 (.returned none) rr.2 mc_Postings_insert ms_Postings_insert) (F : Nat) (a0 : Nat) (x1 : Int32) (x2 : Int32) (h : hh_H)
    (hf : f_Postings_insert_54 F a0 x1 x2 h = some rr) : hh_W X 0 0 54 [(0, .ref (hh_ad B e0 a0)), (1, .int x1), (2, .int x2)] [] h := by
  unfold f_Postings_insert_54 at hf
  refine r_aload_n C dX5_insert_54 rfl 0 rfl ?_
  obtain ⟨v1, e2, hf⟩ := hp_bind hf
  refine r_getA C dX5_insert_55 fl_RX5_9 e2 ?_
  refine r_iload_n C dX5_insert_58 rfl 2 rfl ?_
  refine r_iload_n C dX5_insert_59 rfl 1 rfl ?_
  obtain ⟨h3, e4, hf⟩ := hp_bind hf
  refine r_si C dX5_insert_60 e4 ?_
  refine r_aload_n C dX5_insert_61 rfl 0 rfl ?_
  refine r_dup C dX5_insert_62 rfl ?_
  obtain ⟨v5, e6, hf⟩ := hp_bind hf
  refine r_getI C dX5_insert_63 fl_RX5_15 e6 ?_
  refine r_iconst C dX5_insert_66 (v := 1) (by decide) ?_
  refine r_iadd C dX5_insert_67 ?_
  obtain ⟨h7, e8, hf⟩ := hp_bind hf
  refine r_putI C dX5_insert_68 fl_RX5_15 e8 ?_
  exact r_return C E dX5_insert_71 (by decide) (by decide) hf
set_option maxRecDepth 100000 in
set_option maxHeartbeats 4000000 in
theorem w_Postings_insert_18 {X : hh_X} {B e0 : Nat} {rr : Unit × hh_H} (C : ok_Postings_insert X B e0) (E : hh_End X B e0 (.returned none) rr.2 mc_Postings_insert ms_Postings_insert) (F : Nat) (r18 : Nat → Int32 → Int32 → hh_H → Option (Unit × hh_H)) (H18 : ∀ (a0 : Nat) (x1 : Int32) (x2 : Int32) (h : hh_H), r18 a0 x1 x2 h = some rr → hh_W X 0 0 18 [(0, .ref (hh_ad B e0 a0)), (1, .int x1), (2, .int x2)] [] h) (a0 : Nat) (x1 : Int32) (x2 : Int32) (h : hh_H)
    (hf : f_Postings_insert_18 F r18 a0 x1 x2 h = some rr) : hh_W X 0 0 18 [(0, .ref (hh_ad B e0 a0)), (1, .int x1), (2, .int x2)] [] h := by
  unfold f_Postings_insert_18 at hf
  refine r_iload_n C dX5_insert_18 rfl 2 rfl ?_
  refine r_if_le C dX5_insert_19 (tgt := 54) (by decide) (fun c9 => ?_) (fun c9 => ?_)
  · rw [if_pos c9] at hf
    refine hh_pick [0, 1, 2] rfl ?_
    exact w_Postings_insert_54 C E F a0 x1 x2 h hf
  · rw [if_neg c9] at hf
    refine r_aload_n C dX5_insert_22 rfl 0 rfl ?_
    obtain ⟨v10, e11, hf⟩ := hp_bind hf
    refine r_getA C dX5_insert_23 fl_RX5_9 e11 ?_
    refine r_iload_n C dX5_insert_26 rfl 2 rfl ?_
    refine r_iconst C dX5_insert_27 (v := 1) (by decide) ?_
    refine r_isub C dX5_insert_28 ?_
    obtain ⟨v12, e13, hf⟩ := hp_bind hf
    refine r_ai C dX5_insert_29 e13 ?_
    refine r_iload_n C dX5_insert_30 rfl 1 rfl ?_
    refine r_icmp_le C dX5_insert_31 (tgt := 54) (by decide) (fun c14 => ?_) (fun c14 => ?_)
    · rw [if_pos c14] at hf
      refine hh_pick [0, 1, 2] rfl ?_
      exact w_Postings_insert_54 C E F a0 x1 x2 h hf
    · rw [if_neg c14] at hf
      refine r_aload_n C dX5_insert_34 rfl 0 rfl ?_
      obtain ⟨v15, e16, hf⟩ := hp_bind hf
      refine r_getA C dX5_insert_35 fl_RX5_9 e16 ?_
      refine r_iload_n C dX5_insert_38 rfl 2 rfl ?_
      refine r_aload_n C dX5_insert_39 rfl 0 rfl ?_
      obtain ⟨v17, e18, hf⟩ := hp_bind hf
      refine r_getA C dX5_insert_40 fl_RX5_9 e18 ?_
      refine r_iload_n C dX5_insert_43 rfl 2 rfl ?_
      refine r_iconst C dX5_insert_44 (v := 1) (by decide) ?_
      refine r_isub C dX5_insert_45 ?_
      obtain ⟨v19, e20, hf⟩ := hp_bind hf
      refine r_ai C dX5_insert_46 e20 ?_
      obtain ⟨h21, e22, hf⟩ := hp_bind hf
      refine r_si C dX5_insert_47 e22 ?_
      refine r_iinc (lv' := [(2, .int (x2 + (-1))), (0, .ref (hh_ad B e0 a0)), (1, .int x1)]) C dX5_insert_48 2 rfl rfl (by decide) rfl ?_
      refine r_goto C dX5_insert_51 (tgt := 18) (by decide) ?_
      refine hh_pick [1, 2, 0] rfl ?_
      exact H18 a0 x1 (x2 + (-1)) h21 hf
theorem wl_Postings_insert_18 {X : hh_X} {B e0 : Nat} {rr : Unit × hh_H} (C : ok_Postings_insert X B e0) (E : hh_End X B e0 (.returned none) rr.2 mc_Postings_insert ms_Postings_insert) (F : Nat) :
    ∀ (n : Nat) (a0 : Nat) (x1 : Int32) (x2 : Int32) (h : hh_H), hp_it (fun _ _ _ _ => none) (f_Postings_insert_18 F) n a0 x1 x2 h = some rr → hh_W X 0 0 18 [(0, .ref (hh_ad B e0 a0)), (1, .int x1), (2, .int x2)] [] h := by
  intro n
  induction n with
  | zero => intro a0 x1 x2 h hf; cases hf
  | succ n ih =>
    intro a0 x1 x2 h hf
    exact w_Postings_insert_18 C E F _ ih a0 x1 x2 h hf
set_option maxRecDepth 100000 in
set_option maxHeartbeats 4000000 in
theorem w_Postings_insert {X : hh_X} {B e0 : Nat} {rr : Unit × hh_H} (C : ok_Postings_insert X B e0) (E : hh_End X B e0 (.returned none) rr.2 mc_Postings_insert ms_Postings_insert) (F : Nat) (a0 : Nat) (x1 : Int32) (h : hh_H)
    (hf : f_Postings_insert F a0 x1 h = some rr) : hh_W X 0 0 0 [(0, .ref (hh_ad B e0 a0)), (1, .int x1)] [] h := by
  unfold f_Postings_insert at hf
  refine r_aload_n C dX5_insert_0 rfl 0 rfl ?_
  obtain ⟨v23, e24, hf⟩ := hp_bind hf
  refine r_getI C dX5_insert_1 fl_RX5_15 e24 ?_
  refine r_aload_n C dX5_insert_4 rfl 0 rfl ?_
  obtain ⟨v25, e26, hf⟩ := hp_bind hf
  refine r_getA C dX5_insert_5 fl_RX5_9 e26 ?_
  obtain ⟨v27, e28, hf⟩ := hp_bind hf
  refine r_alen C dX5_insert_8 e28 ?_
  refine r_icmp_lt C dX5_insert_9 (tgt := 13) (by decide) (fun c29 => ?_) (fun c29 => ?_)
  · rw [if_pos c29] at hf
    refine r_aload_n C dX5_insert_13 rfl 0 rfl ?_
    obtain ⟨v30, e31, hf⟩ := hp_bind hf
    refine r_getI C dX5_insert_14 fl_RX5_15 e31 ?_
    refine r_istore_n (lv' := [(2, .int v30), (0, .ref (hh_ad B e0 a0)), (1, .int x1)]) C dX5_insert_17 rfl (by decide) rfl ?_
    refine hh_pick [1, 2, 0] rfl ?_
    exact wl_Postings_insert_18 C E F F a0 x1 v30 h hf
  · rw [if_neg c29] at hf
    exact r_return C E dX5_insert_12 (by decide) (by decide) hf
theorem c_Postings_insert (B e0 F : Nat) (a0 : Nat) (x1 : Int32) (h : hh_H) (rr : Unit × hh_H) (hf : f_Postings_insert F a0 x1 h = some rr) : hh_Met yX5_insert cX5_insert 3 none rm_Postings_insert mc_Postings_insert ms_Postings_insert B e0 [.ref (hh_ad B e0 a0), .int x1] h (.returned none) rr.2 :=
  hh_met (by decide) (Nat.le_of_ble_eq_true rfl) fun X C E => hh_pick [0, 1] rfl (w_Postings_insert C E F a0 x1 h hf)
def mc_Postings_mergeIn : Nat := 0
def ms_Postings_mergeIn : Nat := 0
def rm_Postings_mergeIn : Room := { frames := 0, cells := 0, slots := 0, locals := 0 }
abbrev ok_Postings_mergeIn (X : hh_X) (B e0 : Nat) : Prop := hh_ok X B e0 cX5_mergeIn RX5 6 none "mergeIn" rm_Postings_mergeIn
set_option maxRecDepth 100000 in
set_option maxHeartbeats 4000000 in
theorem w_Postings_mergeIn_89 {X : hh_X} {B e0 : Nat} {rr : Unit × hh_H} (C : ok_Postings_mergeIn X B e0) (E : hh_End X B e0 (.returned none) rr.2 mc_Postings_mergeIn ms_Postings_mergeIn) (F : Nat) (r40 : Nat → Nat → Int32 → Int32 → Int32 → Int32 → hh_H → Option (Unit × hh_H)) (H40 : ∀ (a0 : Nat) (a1 : Nat) (x2 : Int32) (x3 : Int32) (x4 : Int32) (x5 : Int32) (h : hh_H), r40 a0 a1 x2 x3 x4 x5 h = some rr → hh_W X 0 0 40 [(0, .ref (hh_ad B e0 a0)), (1, .ref (hh_ad B e0 a1)), (2, .int x2), (3, .int x3), (4, .int x4), (5, .int x5)] [] h) (a0 : Nat) (a1 : Nat) (x2 : Int32) (x3 : Int32) (x4 : Int32) (x5 : Int32) (h : hh_H)
    (hf : f_Postings_mergeIn_89 F r40 a0 a1 x2 x3 x4 x5 h = some rr) : hh_W X 0 0 89 [(0, .ref (hh_ad B e0 a0)), (1, .ref (hh_ad B e0 a1)), (2, .int x2), (3, .int x3), (4, .int x4), (5, .int x5)] [] h := by
  unfold f_Postings_mergeIn_89 at hf
  refine r_aload_n C dX5_mergeIn_89 rfl 0 rfl ?_
  obtain ⟨v1, e2, hf⟩ := hp_bind hf
  refine r_getA C dX5_mergeIn_90 fl_RX5_9 e2 ?_
  refine r_iload C dX5_mergeIn_93 5 rfl ?_
  refine r_aload_n C dX5_mergeIn_95 rfl 1 rfl ?_
  obtain ⟨v3, e4, hf⟩ := hp_bind hf
  refine r_getA C dX5_mergeIn_96 fl_RX5_9 e4 ?_
  refine r_iload C dX5_mergeIn_99 4 rfl ?_
  obtain ⟨v5, e6, hf⟩ := hp_bind hf
  refine r_ai C dX5_mergeIn_101 e6 ?_
  obtain ⟨h7, e8, hf⟩ := hp_bind hf
  refine r_si C dX5_mergeIn_102 e8 ?_
  refine r_iinc (lv' := [(4, .int (x4 + (-1))), (0, .ref (hh_ad B e0 a0)), (1, .ref (hh_ad B e0 a1)), (2, .int x2), (3, .int x3), (5, .int x5)]) C dX5_mergeIn_103 4 rfl rfl (by decide) rfl ?_
  refine r_iinc (lv' := [(5, .int (x5 + (-1))), (4, .int (x4 + (-1))), (0, .ref (hh_ad B e0 a0)), (1, .ref (hh_ad B e0 a1)), (2, .int x2), (3, .int x3)]) C dX5_mergeIn_106 5 rfl rfl (by decide) rfl ?_
  refine r_goto C dX5_mergeIn_109 (tgt := 40) (by decide) ?_
  refine hh_pick [2, 3, 4, 5, 1, 0] rfl ?_
  exact H40 a0 a1 x2 x3 (x4 + (-1)) (x5 + (-1)) h7 hf
set_option maxRecDepth 100000 in
set_option maxHeartbeats 4000000 in
theorem w_Postings_mergeIn_40 {X : hh_X} {B e0 : Nat} {rr : Unit × hh_H} (C : ok_Postings_mergeIn X B e0) (E : hh_End X B e0 (.returned none) rr.2 mc_Postings_mergeIn ms_Postings_mergeIn) (F : Nat) (r40 : Nat → Nat → Int32 → Int32 → Int32 → Int32 → hh_H → Option (Unit × hh_H)) (H40 : ∀ (a0 : Nat) (a1 : Nat) (x2 : Int32) (x3 : Int32) (x4 : Int32) (x5 : Int32) (h : hh_H), r40 a0 a1 x2 x3 x4 x5 h = some rr → hh_W X 0 0 40 [(0, .ref (hh_ad B e0 a0)), (1, .ref (hh_ad B e0 a1)), (2, .int x2), (3, .int x3), (4, .int x4), (5, .int x5)] [] h) (a0 : Nat) (a1 : Nat) (x2 : Int32) (x3 : Int32) (x4 : Int32) (x5 : Int32) (h : hh_H)
    (hf : f_Postings_mergeIn_40 F r40 a0 a1 x2 x3 x4 x5 h = some rr) : hh_W X 0 0 40 [(0, .ref (hh_ad B e0 a0)), (1, .ref (hh_ad B e0 a1)), (2, .int x2), (3, .int x3), (4, .int x4), (5, .int x5)] [] h := by
  unfold f_Postings_mergeIn_40 at hf
  refine r_iload C dX5_mergeIn_40 5 rfl ?_
  refine r_if_lt C dX5_mergeIn_42 (tgt := 112) (by decide) (fun c9 => ?_) (fun c9 => ?_)
  · rw [if_pos c9] at hf
    refine r_aload_n C dX5_mergeIn_112 rfl 0 rfl ?_
    refine r_iload_n C dX5_mergeIn_113 rfl 2 rfl ?_
    obtain ⟨h10, e11, hf⟩ := hp_bind hf
    refine r_putI C dX5_mergeIn_114 fl_RX5_15 e11 ?_
    exact r_return C E dX5_mergeIn_117 (by decide) (by decide) hf
  · rw [if_neg c9] at hf
    refine r_iload C dX5_mergeIn_45 4 rfl ?_
    refine r_if_lt C dX5_mergeIn_47 (tgt := 112) (by decide) (fun c12 => ?_) (fun c12 => ?_)
    · rw [if_pos c12] at hf
      refine r_aload_n C dX5_mergeIn_112 rfl 0 rfl ?_
      refine r_iload_n C dX5_mergeIn_113 rfl 2 rfl ?_
      obtain ⟨h13, e14, hf⟩ := hp_bind hf
      refine r_putI C dX5_mergeIn_114 fl_RX5_15 e14 ?_
      exact r_return C E dX5_mergeIn_117 (by decide) (by decide) hf
    · rw [if_neg c12] at hf
      refine r_iload_n C dX5_mergeIn_50 rfl 3 rfl ?_
      refine r_if_lt C dX5_mergeIn_51 (tgt := 89) (by decide) (fun c15 => ?_) (fun c15 => ?_)
      · rw [if_pos c15] at hf
        refine hh_pick [0, 1, 2, 3, 4, 5] rfl ?_
        exact w_Postings_mergeIn_89 C E F r40 H40 a0 a1 x2 x3 x4 x5 h hf
      · rw [if_neg c15] at hf
        refine r_aload_n C dX5_mergeIn_54 rfl 0 rfl ?_
        obtain ⟨v16, e17, hf⟩ := hp_bind hf
        refine r_getA C dX5_mergeIn_55 fl_RX5_9 e17 ?_
        refine r_iload_n C dX5_mergeIn_58 rfl 3 rfl ?_
        obtain ⟨v18, e19, hf⟩ := hp_bind hf
        refine r_ai C dX5_mergeIn_59 e19 ?_
        refine r_aload_n C dX5_mergeIn_60 rfl 1 rfl ?_
        obtain ⟨v20, e21, hf⟩ := hp_bind hf
        refine r_getA C dX5_mergeIn_61 fl_RX5_9 e21 ?_
        refine r_iload C dX5_mergeIn_64 4 rfl ?_
        obtain ⟨v22, e23, hf⟩ := hp_bind hf
        refine r_ai C dX5_mergeIn_66 e23 ?_
        refine r_icmp_le C dX5_mergeIn_67 (tgt := 89) (by decide) (fun c24 => ?_) (fun c24 => ?_)
        · rw [if_pos c24] at hf
          refine hh_pick [0, 1, 2, 3, 4, 5] rfl ?_
          exact w_Postings_mergeIn_89 C E F r40 H40 a0 a1 x2 x3 x4 x5 h hf
        · rw [if_neg c24] at hf
          refine r_aload_n C dX5_mergeIn_70 rfl 0 rfl ?_
          obtain ⟨v25, e26, hf⟩ := hp_bind hf
          refine r_getA C dX5_mergeIn_71 fl_RX5_9 e26 ?_
          refine r_iload C dX5_mergeIn_74 5 rfl ?_
          refine r_aload_n C dX5_mergeIn_76 rfl 0 rfl ?_
          obtain ⟨v27, e28, hf⟩ := hp_bind hf
          refine r_getA C dX5_mergeIn_77 fl_RX5_9 e28 ?_
          refine r_iload_n C dX5_mergeIn_80 rfl 3 rfl ?_
          obtain ⟨v29, e30, hf⟩ := hp_bind hf
          refine r_ai C dX5_mergeIn_81 e30 ?_
          obtain ⟨h31, e32, hf⟩ := hp_bind hf
          refine r_si C dX5_mergeIn_82 e32 ?_
          refine r_iinc (lv' := [(3, .int (x3 + (-1))), (0, .ref (hh_ad B e0 a0)), (1, .ref (hh_ad B e0 a1)), (2, .int x2), (4, .int x4), (5, .int x5)]) C dX5_mergeIn_83 3 rfl rfl (by decide) rfl ?_
          refine r_goto C dX5_mergeIn_86 (tgt := 106) (by decide) ?_
          refine r_iinc (lv' := [(5, .int (x5 + (-1))), (3, .int (x3 + (-1))), (0, .ref (hh_ad B e0 a0)), (1, .ref (hh_ad B e0 a1)), (2, .int x2), (4, .int x4)]) C dX5_mergeIn_106 5 rfl rfl (by decide) rfl ?_
          refine r_goto C dX5_mergeIn_109 (tgt := 40) (by decide) ?_
          refine hh_pick [2, 3, 4, 1, 5, 0] rfl ?_
          exact H40 a0 a1 x2 (x3 + (-1)) x4 (x5 + (-1)) h31 hf
theorem wl_Postings_mergeIn_40 {X : hh_X} {B e0 : Nat} {rr : Unit × hh_H} (C : ok_Postings_mergeIn X B e0) (E : hh_End X B e0 (.returned none) rr.2 mc_Postings_mergeIn ms_Postings_mergeIn) (F : Nat) :
    ∀ (n : Nat) (a0 : Nat) (a1 : Nat) (x2 : Int32) (x3 : Int32) (x4 : Int32) (x5 : Int32) (h : hh_H), hp_it (fun _ _ _ _ _ _ _ => none) (f_Postings_mergeIn_40 F) n a0 a1 x2 x3 x4 x5 h = some rr → hh_W X 0 0 40 [(0, .ref (hh_ad B e0 a0)), (1, .ref (hh_ad B e0 a1)), (2, .int x2), (3, .int x3), (4, .int x4), (5, .int x5)] [] h := by
  intro n
  induction n with
  | zero => intro a0 a1 x2 x3 x4 x5 h hf; cases hf
  | succ n ih =>
    intro a0 a1 x2 x3 x4 x5 h hf
    exact w_Postings_mergeIn_40 C E F _ ih a0 a1 x2 x3 x4 x5 h hf
set_option maxRecDepth 100000 in
set_option maxHeartbeats 4000000 in
theorem w_Postings_mergeIn {X : hh_X} {B e0 : Nat} {rr : Unit × hh_H} (C : ok_Postings_mergeIn X B e0) (E : hh_End X B e0 (.returned none) rr.2 mc_Postings_mergeIn ms_Postings_mergeIn) (F : Nat) (a0 : Nat) (a1 : Nat) (h : hh_H)
    (hf : f_Postings_mergeIn F a0 a1 h = some rr) : hh_W X 0 0 0 [(0, .ref (hh_ad B e0 a0)), (1, .ref (hh_ad B e0 a1))] [] h := by
  unfold f_Postings_mergeIn at hf
  refine r_aload_n C dX5_mergeIn_0 rfl 0 rfl ?_
  obtain ⟨v33, e34, hf⟩ := hp_bind hf
  refine r_getI C dX5_mergeIn_1 fl_RX5_15 e34 ?_
  refine r_aload_n C dX5_mergeIn_4 rfl 1 rfl ?_
  obtain ⟨v35, e36, hf⟩ := hp_bind hf
  refine r_getI C dX5_mergeIn_5 fl_RX5_15 e36 ?_
  refine r_iadd C dX5_mergeIn_8 ?_
  refine r_istore_n (lv' := [(2, .int (v33 + v35)), (0, .ref (hh_ad B e0 a0)), (1, .ref (hh_ad B e0 a1))]) C dX5_mergeIn_9 rfl (by decide) rfl ?_
  refine r_iload_n C dX5_mergeIn_10 rfl 0 rfl ?_
  refine r_aload_n C dX5_mergeIn_11 rfl 1 rfl ?_
  obtain ⟨v37, e38, hf⟩ := hp_bind hf
  refine r_getA C dX5_mergeIn_12 fl_RX5_9 e38 ?_
  obtain ⟨v39, e40, hf⟩ := hp_bind hf
  refine r_alen C dX5_mergeIn_15 e40 ?_
  refine r_icmp_le C dX5_mergeIn_16 (tgt := 20) (by decide) (fun c41 => ?_) (fun c41 => ?_)
  · rw [if_pos c41] at hf
    refine r_aload_n C dX5_mergeIn_20 rfl 1 rfl ?_
    obtain ⟨v42, e43, hf⟩ := hp_bind hf
    refine r_getI C dX5_mergeIn_21 fl_RX5_15 e43 ?_
    refine r_iconst C dX5_mergeIn_24 (v := 1) (by decide) ?_
    refine r_isub C dX5_mergeIn_25 ?_
    refine r_istore_n (lv' := [(3, .int (v42 - 1)), (2, .int (v33 + v35)), (0, .ref (hh_ad B e0 a0)), (1, .ref (hh_ad B e0 a1))]) C dX5_mergeIn_26 rfl (by decide) rfl ?_
    refine r_aload_n C dX5_mergeIn_27 rfl 3 rfl ?_
    obtain ⟨v44, e45, hf⟩ := hp_bind hf
    refine r_getI C dX5_mergeIn_28 fl_RX5_15 e45 ?_
    refine r_iconst C dX5_mergeIn_31 (v := 1) (by decide) ?_
    refine r_isub C dX5_mergeIn_32 ?_
    refine r_istore (lv' := [(4, .int (v44 - 1)), (3, .int (v42 - 1)), (2, .int (v33 + v35)), (0, .ref (hh_ad B e0 a0)), (1, .ref (hh_ad B e0 a1))]) C dX5_mergeIn_33 (by decide) rfl ?_
    refine r_iload_n C dX5_mergeIn_35 rfl 2 rfl ?_
    refine r_iconst C dX5_mergeIn_36 (v := 1) (by decide) ?_
    refine r_isub C dX5_mergeIn_37 ?_
    refine r_istore (lv' := [(5, .int ((v33 + v35) - 1)), (4, .int (v44 - 1)), (3, .int (v42 - 1)), (2, .int (v33 + v35)), (0, .ref (hh_ad B e0 a0)), (1, .ref (hh_ad B e0 a1))]) C dX5_mergeIn_38 (by decide) rfl ?_
    refine hh_pick [4, 5, 3, 2, 1, 0] rfl ?_
    exact wl_Postings_mergeIn_40 C E F F a0 a1 (v33 + v35) (v42 - 1) (v44 - 1) ((v33 + v35) - 1) h hf
  · rw [if_neg c41] at hf
    exact r_return C E dX5_mergeIn_19 (by decide) (by decide) hf
theorem c_Postings_mergeIn (B e0 F : Nat) (a0 : Nat) (a1 : Nat) (h : hh_H) (rr : Unit × hh_H) (hf : f_Postings_mergeIn F a0 a1 h = some rr) : hh_Met yX5_mergeIn cX5_mergeIn 6 none rm_Postings_mergeIn mc_Postings_mergeIn ms_Postings_mergeIn B e0 [.ref (hh_ad B e0 a0), .ref (hh_ad B e0 a1)] h (.returned none) rr.2 :=
  hh_met (by decide) (Nat.le_of_ble_eq_true rfl) fun X C E => hh_pick [0, 1] rfl (w_Postings_mergeIn C E F a0 a1 h hf)
def mc_Postings_keepLive : Nat := 0
def ms_Postings_keepLive : Nat := 0
def rm_Postings_keepLive : Room := { frames := 1, cells := 0, slots := 0, locals := 21 }
abbrev ok_Postings_keepLive (X : hh_X) (B e0 : Nat) : Prop := hh_ok X B e0 cX5_keepLive RX5 4 none "keepLive" rm_Postings_keepLive
set_option maxRecDepth 100000 in
set_option maxHeartbeats 4000000 in
theorem w_Postings_keepLive_4 {X : hh_X} {B e0 : Nat} {rr : Unit × hh_H} (C : ok_Postings_keepLive X B e0) (E : hh_End X B e0 (.returned none) rr.2 mc_Postings_keepLive ms_Postings_keepLive) (F : Nat) (r4 : Nat → Nat → Int32 → Int32 → hh_H → Option (Unit × hh_H)) (H4 : ∀ (a0 : Nat) (a1 : Nat) (x2 : Int32) (x3 : Int32) (h : hh_H), r4 a0 a1 x2 x3 h = some rr → hh_W X 0 0 4 [(0, .ref (hh_ad B e0 a0)), (1, .ref (hh_ad B e0 a1)), (2, .int x2), (3, .int x3)] [] h) (a0 : Nat) (a1 : Nat) (x2 : Int32) (x3 : Int32) (h : hh_H)
    (hf : f_Postings_keepLive_4 F r4 a0 a1 x2 x3 h = some rr) : hh_W X 0 0 4 [(0, .ref (hh_ad B e0 a0)), (1, .ref (hh_ad B e0 a1)), (2, .int x2), (3, .int x3)] [] h := by
  unfold f_Postings_keepLive_4 at hf
  refine r_iload_n C dX5_keepLive_4 rfl 3 rfl ?_
  refine r_aload_n C dX5_keepLive_5 rfl 0 rfl ?_
  obtain ⟨v1, e2, hf⟩ := hp_bind hf
  refine r_getI C dX5_keepLive_6 fl_RX5_15 e2 ?_
  refine r_icmp_ge C dX5_keepLive_9 (tgt := 49) (by decide) (fun c3 => ?_) (fun c3 => ?_)
  · rw [if_pos c3] at hf
    refine r_aload_n C dX5_keepLive_49 rfl 0 rfl ?_
    refine r_iload_n C dX5_keepLive_50 rfl 2 rfl ?_
    obtain ⟨h4, e5, hf⟩ := hp_bind hf
    refine r_putI C dX5_keepLive_51 fl_RX5_15 e5 ?_
    exact r_return C E dX5_keepLive_54 (by decide) (by decide) hf
  · rw [if_neg c3] at hf
    refine r_aload_n C dX5_keepLive_12 rfl 1 rfl ?_
    refine r_aload_n C dX5_keepLive_13 rfl 0 rfl ?_
    obtain ⟨v6, e7, hf⟩ := hp_bind hf
    refine r_getA C dX5_keepLive_14 fl_RX5_9 e7 ?_
    refine r_iload_n C dX5_keepLive_17 rfl 3 rfl ?_
    obtain ⟨v8, e9, hf⟩ := hp_bind hf
    refine r_ai C dX5_keepLive_18 e9 ?_
    obtain ⟨q10, h11, e12, hf⟩ := hp_cbe hf
    refine r_callS C dX5_keepLive_19 cs_RX5_19 (c_Postings_documentOf B e0 F v8 h _ e12) rfl rfl rfl ⟨by decide, by decide⟩ ⟨by decide, by decide⟩ (Nat.le_of_ble_eq_true rfl) rfl ?_
    obtain ⟨_, e16, hf⟩ := hp_bind hf
    obtain ⟨g17, e16⟩ := hp_is_of e16
    obtain ⟨q13, h14, e15, hf⟩ := hp_cbe hf
    refine r_callV C dX5_keepLive_22 cs_RX5_23 rfl e16 (c_Documents_isLive B e0 F a1 q10 h11 _ e15) rfl rfl rfl ⟨by decide, by decide⟩ ⟨by decide, by decide⟩ (Nat.le_of_ble_eq_true rfl) rfl ?_
    refine r_if_eq C dX5_keepLive_25 (tgt := 43) (by decide) (fun c18 => ?_) (fun c18 => ?_)
    · rw [if_pos c18] at hf
      refine r_iinc (lv' := [(3, .int (x3 + 1)), (0, .ref (hh_ad B e0 a0)), (1, .ref (hh_ad B e0 a1)), (2, .int x2)]) C dX5_keepLive_43 3 rfl rfl (by decide) rfl ?_
      refine r_goto C dX5_keepLive_46 (tgt := 4) (by decide) ?_
      refine hh_pick [1, 2, 3, 0] rfl ?_
      exact H4 a0 a1 x2 (x3 + 1) h14 hf
    · rw [if_neg c18] at hf
      refine r_aload_n C dX5_keepLive_28 rfl 0 rfl ?_
      obtain ⟨v19, e20, hf⟩ := hp_bind hf
      refine r_getA C dX5_keepLive_29 fl_RX5_9 e20 ?_
      refine r_iload_n C dX5_keepLive_32 rfl 2 rfl ?_
      refine r_aload_n C dX5_keepLive_33 rfl 0 rfl ?_
      obtain ⟨v21, e22, hf⟩ := hp_bind hf
      refine r_getA C dX5_keepLive_34 fl_RX5_9 e22 ?_
      refine r_iload_n C dX5_keepLive_37 rfl 3 rfl ?_
      obtain ⟨v23, e24, hf⟩ := hp_bind hf
      refine r_ai C dX5_keepLive_38 e24 ?_
      obtain ⟨h25, e26, hf⟩ := hp_bind hf
      refine r_si C dX5_keepLive_39 e26 ?_
      refine r_iinc (lv' := [(2, .int (x2 + 1)), (0, .ref (hh_ad B e0 a0)), (1, .ref (hh_ad B e0 a1)), (3, .int x3)]) C dX5_keepLive_40 2 rfl rfl (by decide) rfl ?_
      refine r_iinc (lv' := [(3, .int (x3 + 1)), (2, .int (x2 + 1)), (0, .ref (hh_ad B e0 a0)), (1, .ref (hh_ad B e0 a1))]) C dX5_keepLive_43 3 rfl rfl (by decide) rfl ?_
      refine r_goto C dX5_keepLive_46 (tgt := 4) (by decide) ?_
      refine hh_pick [2, 3, 1, 0] rfl ?_
      exact H4 a0 a1 (x2 + 1) (x3 + 1) h25 hf
theorem wl_Postings_keepLive_4 {X : hh_X} {B e0 : Nat} {rr : Unit × hh_H} (C : ok_Postings_keepLive X B e0) (E : hh_End X B e0 (.returned none) rr.2 mc_Postings_keepLive ms_Postings_keepLive) (F : Nat) :
    ∀ (n : Nat) (a0 : Nat) (a1 : Nat) (x2 : Int32) (x3 : Int32) (h : hh_H), hp_it (fun _ _ _ _ _ => none) (f_Postings_keepLive_4 F) n a0 a1 x2 x3 h = some rr → hh_W X 0 0 4 [(0, .ref (hh_ad B e0 a0)), (1, .ref (hh_ad B e0 a1)), (2, .int x2), (3, .int x3)] [] h := by
  intro n
  induction n with
  | zero => intro a0 a1 x2 x3 h hf; cases hf
  | succ n ih =>
    intro a0 a1 x2 x3 h hf
    exact w_Postings_keepLive_4 C E F _ ih a0 a1 x2 x3 h hf
set_option maxRecDepth 100000 in
set_option maxHeartbeats 4000000 in
theorem w_Postings_keepLive {X : hh_X} {B e0 : Nat} {rr : Unit × hh_H} (C : ok_Postings_keepLive X B e0) (E : hh_End X B e0 (.returned none) rr.2 mc_Postings_keepLive ms_Postings_keepLive) (F : Nat) (a0 : Nat) (a1 : Nat) (h : hh_H)
    (hf : f_Postings_keepLive F a0 a1 h = some rr) : hh_W X 0 0 0 [(0, .ref (hh_ad B e0 a0)), (1, .ref (hh_ad B e0 a1))] [] h := by
  unfold f_Postings_keepLive at hf
  refine r_iconst C dX5_keepLive_0 (v := 0) (by decide) ?_
  refine r_istore_n (lv' := [(2, .int 0), (0, .ref (hh_ad B e0 a0)), (1, .ref (hh_ad B e0 a1))]) C dX5_keepLive_1 rfl (by decide) rfl ?_
  refine r_iconst C dX5_keepLive_2 (v := 0) (by decide) ?_
  refine r_istore_n (lv' := [(3, .int 0), (2, .int 0), (0, .ref (hh_ad B e0 a0)), (1, .ref (hh_ad B e0 a1))]) C dX5_keepLive_3 rfl (by decide) rfl ?_
  refine hh_pick [2, 3, 1, 0] rfl ?_
  exact wl_Postings_keepLive_4 C E F F a0 a1 0 0 h hf
theorem c_Postings_keepLive (B e0 F : Nat) (a0 : Nat) (a1 : Nat) (h : hh_H) (rr : Unit × hh_H) (hf : f_Postings_keepLive F a0 a1 h = some rr) : hh_Met yX5_keepLive cX5_keepLive 4 none rm_Postings_keepLive mc_Postings_keepLive ms_Postings_keepLive B e0 [.ref (hh_ad B e0 a0), .ref (hh_ad B e0 a1)] h (.returned none) rr.2 :=
  hh_met (by decide) (Nat.le_of_ble_eq_true rfl) fun X C E => hh_pick [0, 1] rfl (w_Postings_keepLive C E F a0 a1 h hf)
