def f_Disk_init (F : Nat) (a0 : Nat) (x1 : Int32) (h : hh_H) : Option (Unit × hh_H) :=
  hp_cb (hp_na h 0 (x1 * 16) 960) fun b1 h3 =>
  (hp_pa h3 a0 2 0 b1).bind fun h4 =>
  hp_cb (hp_na h4 1 x1 960) fun b6 h8 =>
  (hp_pa h8 a0 2 1 b6).bind fun h9 =>
  (hp_pi h9 a0 2 2 x1).bind fun h11 =>
  some ((), h11)
def f_Disk_size (F : Nat) (a0 : Nat) (h : hh_H) : Option (Int32 × hh_H) :=
  (hp_ga h a0 2 0).bind fun v1 =>
  (hp_len h v1).bind fun v3 =>
  some (v3, h)
def f_Disk_free (F : Nat) (a0 : Nat) (h : hh_H) : Option (Int32 × hh_H) :=
  (hp_gi h a0 2 2).bind fun v1 =>
  some (v1, h)
def f_Disk_has (F : Nat) (a0 : Nat) (x1 : Int32) (x2 : Int32) (h : hh_H) : Option (Int32 × hh_H) :=
  if x1 < 0 then
    some (0, h)
  else
    (hp_ga h a0 2 1).bind fun v2 =>
    (hp_len h v2).bind fun v4 =>
    if v4 ≤ x1 then
      some (0, h)
    else
      if x2 < 0 then
        some (0, h)
      else
        if 16 ≤ x2 then
          some (0, h)
        else
          some (1, h)
def f_Disk_cellAt (F : Nat) (a0 : Nat) (x1 : Int32) (x2 : Int32) (h : hh_H) : Option (Int32 × hh_H) :=
  (hp_is h a0 2).bind fun _ =>
  hp_cb (f_Disk_has F a0 x1 x2 h) fun q1 h2 =>
  if q1 = 0 then
    some (0, h2)
  else
    (hp_ga h2 a0 2 0).bind fun v7 =>
    (hp_ai h2 v7 ((x1 * 16) + x2)).bind fun v9 =>
    some (v9, h2)
def f_Disk_read_6 (F : Nat) (r6 : Nat → Nat → Nat → Int32 → hh_H → Option (Unit × hh_H)) (a0 : Nat) (a1 : Nat) (a2 : Nat) (x3 : Int32) (h : hh_H) : Option (Unit × hh_H) :=
  (hp_gi h a1 6 2).bind fun v1 =>
  if v1 ≤ x3 then
    some ((), h)
  else
    (hp_ga h a1 6 1).bind fun v4 =>
    (hp_len h v4).bind fun v6 =>
    if v6 ≤ (x3 / 16) then
      some ((), h)
    else
      (hp_ga h a1 6 1).bind fun v9 =>
      (hp_ai h v9 (x3 / 16)).bind fun v11 =>
      (hp_ga h a0 2 0).bind fun v13 =>
      (hp_len h v13).bind fun v15 =>
      if v15 ≤ ((v11 * 16) + (x3 - x3 / 16 * 16)) then
        r6 a0 a1 a2 (x3 + 1) h
      else
        (hp_ga h a0 2 0).bind fun v18 =>
        (hp_ai h v18 ((v11 * 16) + (x3 - x3 / 16 * 16))).bind fun v20 =>
        (hp_is h a2 1).bind fun _ =>
        hp_cb (f_Bytes_put F a2 v20 h) fun q22 h23 =>
        r6 a0 a1 a2 (x3 + 1) h23
def l_Disk_read_6 (F : Nat) : Nat → Nat → Nat → Int32 → hh_H → Option (Unit × hh_H) := hp_it (fun _ _ _ _ _ => none) (f_Disk_read_6 F) F
def f_Disk_read (F : Nat) (a0 : Nat) (a1 : Nat) (a2 : Nat) (h : hh_H) : Option (Unit × hh_H) :=
  (hp_is h a2 1).bind fun _ =>
  hp_cb (f_Bytes_clear F a2 h) fun q27 h28 =>
  l_Disk_read_6 F a0 a1 a2 0 h28
def f_Disk_clear_2 (F : Nat) (r2 : Nat → Int32 → Int32 → hh_H → Option (Unit × hh_H)) (a0 : Nat) (x1 : Int32) (x2 : Int32) (h : hh_H) : Option (Unit × hh_H) :=
  if 16 ≤ x2 then
    some ((), h)
  else
    (hp_ga h a0 2 0).bind fun v2 =>
    (hp_len h v2).bind fun v4 =>
    if v4 ≤ (x1 + x2) then
      some ((), h)
    else
      (hp_ga h a0 2 0).bind fun v7 =>
      (hp_si h v7 (x1 + x2) 0).bind fun h9 =>
      r2 a0 x1 (x2 + 1) h9
def l_Disk_clear_2 (F : Nat) : Nat → Int32 → Int32 → hh_H → Option (Unit × hh_H) := hp_it (fun _ _ _ _ => none) (f_Disk_clear_2 F) F
def f_Disk_clear (F : Nat) (a0 : Nat) (x1 : Int32) (h : hh_H) : Option (Unit × hh_H) :=
  l_Disk_clear_2 F a0 x1 0 h
def f_Disk_blocksFor (F : Nat) (x0 : Int32) (h : hh_H) : Option (Int32 × hh_H) :=
  some (((x0 + 16) - 1) / 16, h)
def f_Disk_takeLeast_9 (F : Nat) (r9 : Nat → Int32 → Nat → Int32 → Int32 → hh_H → Option (Nat × hh_H)) (a0 : Nat) (x1 : Int32) (a2 : Nat) (x3 : Int32) (x4 : Int32) (h : hh_H) : Option (Nat × hh_H) :=
  (hp_ga h a0 2 1).bind fun v1 =>
  (hp_len h v1).bind fun v3 =>
  if v3 ≤ x4 then
    some (a2, h)
  else
    if x1 ≤ x3 then
      some (a2, h)
    else
      (hp_ga h a0 2 1).bind fun v7 =>
      (hp_az h v7 x4).bind fun v9 =>
      if v9 = 0 then
        (hp_ga h a0 2 1).bind fun v12 =>
        (hp_sz h v12 x4 1).bind fun h14 =>
        (hp_gi h14 a0 2 2).bind fun v16 =>
        (hp_pi h14 a0 2 2 (v16 - 1)).bind fun h18 =>
        (hp_si h18 a2 x3 x4).bind fun h20 =>
        r9 a0 x1 a2 (x3 + 1) (x4 + 1) h20
      else
        r9 a0 x1 a2 x3 (x4 + 1) h
def l_Disk_takeLeast_9 (F : Nat) : Nat → Int32 → Nat → Int32 → Int32 → hh_H → Option (Nat × hh_H) := hp_it (fun _ _ _ _ _ _ => none) (f_Disk_takeLeast_9 F) F
def f_Disk_takeLeast (F : Nat) (a0 : Nat) (x1 : Int32) (h : hh_H) : Option (Nat × hh_H) :=
  hp_cb (hp_na h 0 x1 60) fun b22 h24 =>
  l_Disk_takeLeast_9 F a0 x1 b22 0 0 h24
def f_Disk_hasRoomFor (F : Nat) (a0 : Nat) (x1 : Int32) (h : hh_H) : Option (Int32 × hh_H) :=
  hp_cb (f_Disk_blocksFor F x1 h) fun q1 h2 =>
  (hp_gi h2 a0 2 2).bind fun v4 =>
  if v4 < q1 then
    some (0, h2)
  else
    some (1, h2)
def f_Disk_write_95 (F : Nat) (a1 : Nat) (x2 : Int32) (a3 : Nat) (h : hh_H) : Option (Nat × hh_H) :=
  hp_cb (hp_new h 6) fun b1 h3 =>
  (hp_is h3 a1 1).bind fun _ =>
  hp_cb (f_Bytes_size F a1 h3) fun q4 h5 =>
  hp_cb (f_Run_init F b1 x2 a3 q4 h5) fun q9 h10 =>
  some (b1, h10)
def f_Disk_write_41 (F : Nat) (r22 : Nat → Nat → Int32 → Nat → Int32 → hh_H → Option (Nat × hh_H)) (r41 : Nat → Nat → Int32 → Nat → Int32 → Int32 → Int32 → hh_H → Option (Nat × hh_H)) (a0 : Nat) (a1 : Nat) (x2 : Int32) (a3 : Nat) (x4 : Int32) (x5 : Int32) (x6 : Int32) (h : hh_H) : Option (Nat × hh_H) :=
  if 16 ≤ x6 then
    r22 a0 a1 x2 a3 (x4 + 1) h
  else
    (hp_ga h a0 2 0).bind fun v13 =>
    (hp_len h v13).bind fun v15 =>
    if v15 ≤ (x5 + x6) then
      r22 a0 a1 x2 a3 (x4 + 1) h
    else
      (hp_ga h a0 2 0).bind fun v18 =>
      (hp_is h a1 1).bind fun _ =>
      hp_cb (f_Bytes_at F a1 ((x4 * 16) + x6) h) fun q20 h21 =>
      (hp_si h21 v18 (x5 + x6) q20).bind fun h25 =>
      r41 a0 a1 x2 a3 x4 x5 (x6 + 1) h25
def l_Disk_write_41 (F : Nat) (r22 : Nat → Nat → Int32 → Nat → Int32 → hh_H → Option (Nat × hh_H)) : Nat → Nat → Int32 → Nat → Int32 → Int32 → Int32 → hh_H → Option (Nat × hh_H) := hp_it (fun _ _ _ _ _ _ _ _ => none) (f_Disk_write_41 F r22) F
def f_Disk_write_22 (F : Nat) (r22 : Nat → Nat → Int32 → Nat → Int32 → hh_H → Option (Nat × hh_H)) (a0 : Nat) (a1 : Nat) (x2 : Int32) (a3 : Nat) (x4 : Int32) (h : hh_H) : Option (Nat × hh_H) :=
  (hp_len h a3).bind fun v27 =>
  if v27 ≤ x4 then
    f_Disk_write_95 F a1 x2 a3 h
  else
    (hp_ai h a3 x4).bind fun v30 =>
    l_Disk_write_41 F r22 a0 a1 x2 a3 x4 (v30 * 16) 0 h
def l_Disk_write_22 (F : Nat) : Nat → Nat → Int32 → Nat → Int32 → hh_H → Option (Nat × hh_H) := hp_it (fun _ _ _ _ _ _ => none) (f_Disk_write_22 F) F
def f_Disk_write (F : Nat) (a0 : Nat) (a1 : Nat) (x2 : Int32) (h : hh_H) : Option (Nat × hh_H) :=
  (hp_is h a1 1).bind fun _ =>
  hp_cb (f_Bytes_size F a1 h) fun q32 h33 =>
  hp_cb (f_Disk_blocksFor F q32 h33) fun q37 h38 =>
  (hp_gi h38 a0 2 2).bind fun v40 =>
  (hp_is h38 a0 2).bind fun _ =>
  hp_cb (f_Disk_takeLeast F a0 (if v40 < q37 then v40 else q37) h38) fun q42 h43 =>
  l_Disk_write_22 F a0 a1 x2 q42 0 h43
def f_Disk_release_11 (F : Nat) (r11 : Nat → Nat → Int32 → Int32 → hh_H → Option (Unit × hh_H)) (a0 : Nat) (a2 : Nat) (x3 : Int32) (x4 : Int32) (h : hh_H) : Option (Unit × hh_H) :=
  if x3 ≤ x4 then
    some ((), h)
  else
    (hp_ai h a2 x4).bind fun v2 =>
    (hp_ga h a0 2 1).bind fun v4 =>
    (hp_len h v4).bind fun v6 =>
    if v6 ≤ v2 then
      r11 a0 a2 x3 (x4 + 1) h
    else
      (hp_ga h a0 2 1).bind fun v9 =>
      (hp_az h v9 v2).bind fun v11 =>
      if v11 = 0 then
        r11 a0 a2 x3 (x4 + 1) h
      else
        (hp_ga h a0 2 1).bind fun v14 =>
        (hp_sz h v14 v2 0).bind fun h16 =>
        (hp_gi h16 a0 2 2).bind fun v18 =>
        (hp_pi h16 a0 2 2 (v18 + 1)).bind fun h20 =>
        (hp_is h20 a0 2).bind fun _ =>
        hp_cb (f_Disk_clear F a0 (v2 * 16) h20) fun q22 h23 =>
        r11 a0 a2 x3 (x4 + 1) h23
def l_Disk_release_11 (F : Nat) : Nat → Nat → Int32 → Int32 → hh_H → Option (Unit × hh_H) := hp_it (fun _ _ _ _ _ => none) (f_Disk_release_11 F) F
def f_Disk_release (F : Nat) (a0 : Nat) (a1 : Nat) (h : hh_H) : Option (Unit × hh_H) :=
  (hp_ga h a1 6 1).bind fun v27 =>
  (hp_len h v27).bind fun v29 =>
  l_Disk_release_11 F a0 v27 v29 0 h
theorem oi_RX2_3 : Cond.methodLink RX2 3 Lib.objectInit ∈ hh_T := hh_at 121 (by decide +kernel) (by decide +kernel)
theorem lay_X2 : ∀ w ∈ u_ws RX2 TX2 3, w ∈ hh_T := hh_sub (by decide +kernel) (by decide +kernel)
theorem tyok_X2 : ∀ k, k < 3 → parseFieldDescriptor (TX2 k).2.2.1 = some (tyX2 k) := by decide +kernel
theorem nmok_X2 : ∀ a, a < 3 → ∀ b, b < 3 → a ≠ b → (TX2 a).2.1 ≠ (TX2 b).2.1 := by decide +kernel
theorem fl_RX2_9 : hh_FL RX2 9 2 0 (.array .int) true := ⟨_, _, _, tyX2, "IndexBuilder$Disk", rfl, by decide, lay_X2, ⟨hh_at 122 (by decide +kernel) (by decide +kernel), Or.inl rfl⟩, rfl, by decide +kernel, tyok_X2, nmok_X2⟩
theorem fl_RX2_15 : hh_FL RX2 15 2 1 (.array .boolean) true := ⟨_, _, _, tyX2, "IndexBuilder$Disk", rfl, by decide, lay_X2, ⟨hh_at 123 (by decide +kernel) (by decide +kernel), Or.inl rfl⟩, rfl, by decide +kernel, tyok_X2, nmok_X2⟩
theorem fl_RX2_19 : hh_FL RX2 19 2 2 .int false := ⟨_, _, _, tyX2, "IndexBuilder$Disk", rfl, by decide, lay_X2, ⟨hh_at 124 (by decide +kernel) (by decide +kernel), Or.inl rfl⟩, rfl, by decide +kernel, tyok_X2, nmok_X2⟩
theorem cw_X2_has : Cond.code yX2_has cX2_has 3 (some .boolean) ∈ hh_T := hh_at 1138 (by decide +kernel) (by decide +kernel)
theorem cs_RX2_23 : hh_CS RX2 23 yX2_has cX2_has 3 (some .boolean) 2 [.instanceMethod yX2_has, .selects yX2_has.cls yX2_has yX2_has] := ⟨cw_X2_has, hh_at 1150 (by decide +kernel) (by decide +kernel), hh_at 39 (by decide +kernel) (by decide +kernel), hh_all2 (hh_at 1136 (by decide +kernel) (by decide +kernel)) (hh_at 1137 (by decide +kernel) (by decide +kernel)), by decide +kernel⟩
theorem fn_RX2_58 : hh_FN RX2 58 6 2 := ⟨_, _, _, "IndexBuilder", rfl, by decide, lay_X6, hh_at2 540 (by decide +kernel) (by decide +kernel)⟩
theorem fn_RX2_61 : hh_FN RX2 61 6 1 := ⟨_, _, _, "IndexBuilder", rfl, by decide, lay_X6, hh_at2 537 (by decide +kernel) (by decide +kernel)⟩
theorem cs_RX2_64 : hh_CS RX2 64 yX1_put cX1_put 2 (some .int) 1 [.instanceMethod yX1_put, .selects yX1_put.cls yX1_put yX1_put] := ⟨cw_X1_put, hh_at 906 (by decide +kernel) (by decide +kernel), hh_at 44 (by decide +kernel) (by decide +kernel), hh_all2 (hh_at 487 (by decide +kernel) (by decide +kernel)) (hh_at 488 (by decide +kernel) (by decide +kernel)), by decide +kernel⟩
theorem cs_RX2_55 : hh_CS RX2 55 yX1_clear cX1_clear 1 none 0 [.instanceMethod yX1_clear, .selects yX1_clear.cls yX1_clear yX1_clear] := ⟨cw_X1_clear, hh_at 905 (by decide +kernel) (by decide +kernel), hh_at 44 (by decide +kernel) (by decide +kernel), hh_all2 (hh_at 475 (by decide +kernel) (by decide +kernel)) (hh_at 476 (by decide +kernel) (by decide +kernel)), by decide +kernel⟩
theorem cw_X2_blocksFor : Cond.code yX2_blocksFor cX2_blocksFor 1 (some .int) ∈ hh_T := hh_at 508 (by decide +kernel) (by decide +kernel)
theorem cs_RX2_27 : hh_CS RX2 27 yX2_blocksFor cX2_blocksFor 1 (some .int) 1 [.static yX2_blocksFor] := ⟨cw_X2_blocksFor, hh_at 506 (by decide +kernel) (by decide +kernel), hh_at 39 (by decide +kernel) (by decide +kernel), hh_all1 (hh_at 507 (by decide +kernel) (by decide +kernel)), by decide +kernel⟩
theorem dfl_X6 : ∀ B e0 j, j < 3 → defaultValue (tyX6 j) = vp_V ((hh_dfl 6).map (hh_v B e0)) j := fun B e0 j hj => by rcases (show j = 0 ∨ j = 1 ∨ j = 2 by omega) with rfl | rfl | rfl <;> rfl
theorem nw_RX2_50 : hh_NW RX2 50 6 3 := ⟨_, _, tyX6, rfl, lay_X6, hh_at 527 (by decide +kernel) (by decide +kernel), hh_at 528 (by decide +kernel) (by decide +kernel), hh_at 53 (by decide +kernel) (by decide +kernel), tyok_X6, dfl_X6⟩
theorem cw_X1_size : Cond.code yX1_size cX1_size 1 (some .int) ∈ hh_T := hh_at 501 (by decide +kernel) (by decide +kernel)
theorem cs_RX2_31 : hh_CS RX2 31 yX1_size cX1_size 1 (some .int) 0 [.instanceMethod yX1_size, .selects yX1_size.cls yX1_size yX1_size] := ⟨cw_X1_size, hh_at 517 (by decide +kernel) (by decide +kernel), hh_at 44 (by decide +kernel) (by decide +kernel), hh_all2 (hh_at 499 (by decide +kernel) (by decide +kernel)) (hh_at 500 (by decide +kernel) (by decide +kernel)), by decide +kernel⟩
theorem cw_X6_init : Cond.code yX6_init cX6_init 4 none ∈ hh_T := hh_at 531 (by decide +kernel) (by decide +kernel)
theorem cs_RX2_52 : hh_CS RX2 52 yX6_init cX6_init 4 none 3 [.instanceMethod yX6_init] := ⟨cw_X6_init, hh_at 529 (by decide +kernel) (by decide +kernel), hh_at 53 (by decide +kernel) (by decide +kernel), hh_all1 (hh_at 530 (by decide +kernel) (by decide +kernel)), by decide +kernel⟩
theorem cw_X1_at : Cond.code yX1_at cX1_at 2 (some .int) ∈ hh_T := hh_at 526 (by decide +kernel) (by decide +kernel)
theorem cs_RX2_47 : hh_CS RX2 47 yX1_at cX1_at 2 (some .int) 1 [.instanceMethod yX1_at, .selects yX1_at.cls yX1_at yX1_at] := ⟨cw_X1_at, hh_at 523 (by decide +kernel) (by decide +kernel), hh_at 44 (by decide +kernel) (by decide +kernel), hh_all2 (hh_at 524 (by decide +kernel) (by decide +kernel)) (hh_at 525 (by decide +kernel) (by decide +kernel)), by decide +kernel⟩
theorem mm_RX2_37 : Cond.methodLink RX2 37 Lib.Math.min.name ∈ hh_T := hh_at 518 (by decide +kernel) (by decide +kernel)
theorem cw_X2_takeLeast : Cond.code yX2_takeLeast cX2_takeLeast 5 (some (.array .int)) ∈ hh_T := hh_at 522 (by decide +kernel) (by decide +kernel)
theorem cs_RX2_43 : hh_CS RX2 43 yX2_takeLeast cX2_takeLeast 5 (some (.array .int)) 1 [.instanceMethod yX2_takeLeast, .selects yX2_takeLeast.cls yX2_takeLeast yX2_takeLeast] := ⟨cw_X2_takeLeast, hh_at 519 (by decide +kernel) (by decide +kernel), hh_at 39 (by decide +kernel) (by decide +kernel), hh_all2 (hh_at 521 (by decide +kernel) (by decide +kernel)) (hh_at 5 (by decide +kernel) (by decide +kernel)), by decide +kernel⟩
theorem cw_X2_clear : Cond.code yX2_clear cX2_clear 3 none ∈ hh_T := hh_at 934 (by decide +kernel) (by decide +kernel)
theorem cs_RX2_67 : hh_CS RX2 67 yX2_clear cX2_clear 3 none 1 [.instanceMethod yX2_clear, .selects yX2_clear.cls yX2_clear yX2_clear] := ⟨cw_X2_clear, hh_at 931 (by decide +kernel) (by decide +kernel), hh_at 39 (by decide +kernel) (by decide +kernel), hh_all2 (hh_at 933 (by decide +kernel) (by decide +kernel)) (hh_at 16 (by decide +kernel) (by decide +kernel)), by decide +kernel⟩
def mc_Disk_init : Nat := 2
def ms_Disk_init : Nat := 1920
def rm_Disk_init : Room := { frames := 1, cells := 2, slots := 1920, locals := 20 }
abbrev ok_Disk_init (X : hh_X) (B e0 : Nat) : Prop := hh_ok X B e0 cX2_init RX2 2 none "<init>" rm_Disk_init
set_option maxRecDepth 100000 in
set_option maxHeartbeats 4000000 in
theorem w_Disk_init {X : hh_X} {B e0 : Nat} {rr : Unit × hh_H} (C : ok_Disk_init X B e0) (E : hh_End X B e0 (.returned none) rr.2 mc_Disk_init ms_Disk_init) (F : Nat) (a0 : Nat) (x1 : Int32) (h : hh_H)
    (hf : f_Disk_init F a0 x1 h = some rr) : hh_W X 0 0 0 [(0, .ref (hh_ad B e0 a0)), (1, .int x1)] [] h := by
  unfold f_Disk_init at hf
  refine r_aload_n C dX2_init_0 rfl 0 rfl ?_
  refine r_objInit C dX2_init_1 oi_RX2_3 oi_inst oi_code (by decide) (Nat.le_of_ble_eq_true rfl) ?_
  refine r_aload_n C dX2_init_4 rfl 0 rfl ?_
  refine r_iload_n C dX2_init_5 rfl 1 rfl ?_
  refine r_bipush C dX2_init_6 (v := 16) (by decide) ?_
  refine r_imul C dX2_init_8 ?_
  obtain ⟨b1, h3, e2, hf⟩ := hp_cbe hf
  refine r_na_int (bd := 960) C dX2_init_9 (by decide) (by decide) (by decide) e2 ?_
  obtain ⟨h4, e5, hf⟩ := hp_bind hf
  refine r_putAF C dX2_init_11 fl_RX2_9 rfl (fun _ _ _ q => by cases q; rfl) (fun _ => ⟨rfl, rfl⟩) e5 ?_
  refine r_aload_n C dX2_init_14 rfl 0 rfl ?_
  refine r_iload_n C dX2_init_15 rfl 1 rfl ?_
  obtain ⟨b6, h8, e7, hf⟩ := hp_cbe hf
  refine r_na_boolean (bd := 960) C dX2_init_16 (by decide) (by decide) (by decide) e7 ?_
  obtain ⟨h9, e10, hf⟩ := hp_bind hf
  refine r_putAF C dX2_init_18 fl_RX2_15 rfl (fun _ _ _ q => by cases q; rfl) (fun _ => ⟨rfl, rfl⟩) e10 ?_
  refine r_aload_n C dX2_init_21 rfl 0 rfl ?_
  refine r_iload_n C dX2_init_22 rfl 1 rfl ?_
  obtain ⟨h11, e12, hf⟩ := hp_bind hf
  refine r_putI C dX2_init_23 fl_RX2_19 e12 ?_
  exact r_return C E dX2_init_26 (by decide) (by decide) hf
theorem c_Disk_init (B e0 F : Nat) (a0 : Nat) (x1 : Int32) (h : hh_H) (rr : Unit × hh_H) (hf : f_Disk_init F a0 x1 h = some rr) : hh_Met yX2_init cX2_init 2 none rm_Disk_init mc_Disk_init ms_Disk_init B e0 [.ref (hh_ad B e0 a0), .int x1] h (.returned none) rr.2 :=
  hh_met (by decide) (Nat.le_of_ble_eq_true rfl) fun X C E => hh_pick [0, 1] rfl (w_Disk_init C E F a0 x1 h hf)
def mc_Disk_size : Nat := 0
def ms_Disk_size : Nat := 0
def rm_Disk_size : Room := { frames := 0, cells := 0, slots := 0, locals := 0 }
abbrev ok_Disk_size (X : hh_X) (B e0 : Nat) : Prop := hh_ok X B e0 cX2_size RX2 1 (some .int) "size" rm_Disk_size
set_option maxRecDepth 100000 in
set_option maxHeartbeats 4000000 in
theorem w_Disk_size {X : hh_X} {B e0 : Nat} {rr : Int32 × hh_H} (C : ok_Disk_size X B e0) (E : hh_End X B e0 (.returned (some (.int rr.1))) rr.2 mc_Disk_size ms_Disk_size) (F : Nat) (a0 : Nat) (h : hh_H)
    (hf : f_Disk_size F a0 h = some rr) : hh_W X 0 0 0 [(0, .ref (hh_ad B e0 a0))] [] h := by
  unfold f_Disk_size at hf
  refine r_aload_n C dX2_size_0 rfl 0 rfl ?_
  obtain ⟨v1, e2, hf⟩ := hp_bind hf
  refine r_getA C dX2_size_1 fl_RX2_9 e2 ?_
  obtain ⟨v3, e4, hf⟩ := hp_bind hf
  refine r_alen C dX2_size_4 e4 ?_
  exact r_ireturn C E dX2_size_5 (by decide) (by decide) hf
theorem c_Disk_size (B e0 F : Nat) (a0 : Nat) (h : hh_H) (rr : Int32 × hh_H) (hf : f_Disk_size F a0 h = some rr) : hh_Met yX2_size cX2_size 1 (some .int) rm_Disk_size mc_Disk_size ms_Disk_size B e0 [.ref (hh_ad B e0 a0)] h (.returned (some (.int rr.1))) rr.2 :=
  hh_met (by decide) (Nat.le_of_ble_eq_true rfl) fun X C E => hh_pick [0] rfl (w_Disk_size C E F a0 h hf)
def mc_Disk_free : Nat := 0
def ms_Disk_free : Nat := 0
def rm_Disk_free : Room := { frames := 0, cells := 0, slots := 0, locals := 0 }
abbrev ok_Disk_free (X : hh_X) (B e0 : Nat) : Prop := hh_ok X B e0 cX2_free RX2 1 (some .int) "free" rm_Disk_free
set_option maxRecDepth 100000 in
set_option maxHeartbeats 4000000 in
theorem w_Disk_free {X : hh_X} {B e0 : Nat} {rr : Int32 × hh_H} (C : ok_Disk_free X B e0) (E : hh_End X B e0 (.returned (some (.int rr.1))) rr.2 mc_Disk_free ms_Disk_free) (F : Nat) (a0 : Nat) (h : hh_H)
    (hf : f_Disk_free F a0 h = some rr) : hh_W X 0 0 0 [(0, .ref (hh_ad B e0 a0))] [] h := by
  unfold f_Disk_free at hf
  refine r_aload_n C dX2_free_0 rfl 0 rfl ?_
  obtain ⟨v1, e2, hf⟩ := hp_bind hf
  refine r_getI C dX2_free_1 fl_RX2_19 e2 ?_
  exact r_ireturn C E dX2_free_4 (by decide) (by decide) hf
theorem c_Disk_free (B e0 F : Nat) (a0 : Nat) (h : hh_H) (rr : Int32 × hh_H) (hf : f_Disk_free F a0 h = some rr) : hh_Met yX2_free cX2_free 1 (some .int) rm_Disk_free mc_Disk_free ms_Disk_free B e0 [.ref (hh_ad B e0 a0)] h (.returned (some (.int rr.1))) rr.2 :=
  hh_met (by decide) (Nat.le_of_ble_eq_true rfl) fun X C E => hh_pick [0] rfl (w_Disk_free C E F a0 h hf)
def mc_Disk_has : Nat := 0
def ms_Disk_has : Nat := 0
def rm_Disk_has : Room := { frames := 0, cells := 0, slots := 0, locals := 0 }
abbrev ok_Disk_has (X : hh_X) (B e0 : Nat) : Prop := hh_ok X B e0 cX2_has RX2 3 (some .boolean) "has" rm_Disk_has
set_option maxRecDepth 100000 in
set_option maxHeartbeats 4000000 in
theorem w_Disk_has {X : hh_X} {B e0 : Nat} {rr : Int32 × hh_H} (C : ok_Disk_has X B e0) (E : hh_End X B e0 (.returned (some (.int rr.1))) rr.2 mc_Disk_has ms_Disk_has) (F : Nat) (a0 : Nat) (x1 : Int32) (x2 : Int32) (h : hh_H)
    (hf : f_Disk_has F a0 x1 x2 h = some rr) : hh_W X 0 0 0 [(0, .ref (hh_ad B e0 a0)), (1, .int x1), (2, .int x2)] [] h := by
  unfold f_Disk_has at hf
  refine r_iload_n C dX2_has_0 rfl 1 rfl ?_
  refine r_if_lt C dX2_has_1 (tgt := 27) (by decide) (fun c1 => ?_) (fun c1 => ?_)
  · rw [if_pos c1] at hf
    refine r_iconst C dX2_has_27 (v := 0) (by decide) ?_
    exact r_ireturnz C E dX2_has_28 rfl (by decide) (by decide) hf
  · rw [if_neg c1] at hf
    refine r_iload_n C dX2_has_4 rfl 1 rfl ?_
    refine r_aload_n C dX2_has_5 rfl 0 rfl ?_
    obtain ⟨v2, e3, hf⟩ := hp_bind hf
    refine r_getA C dX2_has_6 fl_RX2_15 e3 ?_
    obtain ⟨v4, e5, hf⟩ := hp_bind hf
    refine r_alen C dX2_has_9 e5 ?_
    refine r_icmp_ge C dX2_has_10 (tgt := 27) (by decide) (fun c6 => ?_) (fun c6 => ?_)
    · rw [if_pos c6] at hf
      refine r_iconst C dX2_has_27 (v := 0) (by decide) ?_
      exact r_ireturnz C E dX2_has_28 rfl (by decide) (by decide) hf
    · rw [if_neg c6] at hf
      refine r_iload_n C dX2_has_13 rfl 2 rfl ?_
      refine r_if_lt C dX2_has_14 (tgt := 27) (by decide) (fun c7 => ?_) (fun c7 => ?_)
      · rw [if_pos c7] at hf
        refine r_iconst C dX2_has_27 (v := 0) (by decide) ?_
        exact r_ireturnz C E dX2_has_28 rfl (by decide) (by decide) hf
      · rw [if_neg c7] at hf
        refine r_iload_n C dX2_has_17 rfl 2 rfl ?_
        refine r_bipush C dX2_has_18 (v := 16) (by decide) ?_
        refine r_icmp_ge C dX2_has_20 (tgt := 27) (by decide) (fun c8 => ?_) (fun c8 => ?_)
        · rw [if_pos c8] at hf
          refine r_iconst C dX2_has_27 (v := 0) (by decide) ?_
          exact r_ireturnz C E dX2_has_28 rfl (by decide) (by decide) hf
        · rw [if_neg c8] at hf
          refine r_iconst C dX2_has_23 (v := 1) (by decide) ?_
          refine r_goto C dX2_has_24 (tgt := 28) (by decide) ?_
          exact r_ireturnz C E dX2_has_28 rfl (by decide) (by decide) hf
theorem c_Disk_has (B e0 F : Nat) (a0 : Nat) (x1 : Int32) (x2 : Int32) (h : hh_H) (rr : Int32 × hh_H) (hf : f_Disk_has F a0 x1 x2 h = some rr) : hh_Met yX2_has cX2_has 3 (some .boolean) rm_Disk_has mc_Disk_has ms_Disk_has B e0 [.ref (hh_ad B e0 a0), .int x1, .int x2] h (.returned (some (.int rr.1))) rr.2 :=
  hh_met (by decide) (Nat.le_of_ble_eq_true rfl) fun X C E => hh_pick [0, 1, 2] rfl (w_Disk_has C E F a0 x1 x2 h hf)
def mc_Disk_cellAt : Nat := 0
def ms_Disk_cellAt : Nat := 0
def rm_Disk_cellAt : Room := { frames := 1, cells := 0, slots := 0, locals := 22 }
abbrev ok_Disk_cellAt (X : hh_X) (B e0 : Nat) : Prop := hh_ok X B e0 cX2_cellAt RX2 3 (some .int) "cellAt" rm_Disk_cellAt
set_option maxRecDepth 100000 in
set_option maxHeartbeats 4000000 in
theorem w_Disk_cellAt {X : hh_X} {B e0 : Nat} {rr : Int32 × hh_H} (C : ok_Disk_cellAt X B e0) (E : hh_End X B e0 (.returned (some (.int rr.1))) rr.2 mc_Disk_cellAt ms_Disk_cellAt) (F : Nat) (a0 : Nat) (x1 : Int32) (x2 : Int32) (h : hh_H)
    (hf : f_Disk_cellAt F a0 x1 x2 h = some rr) : hh_W X 0 0 0 [(0, .ref (hh_ad B e0 a0)), (1, .int x1), (2, .int x2)] [] h := by
  unfold f_Disk_cellAt at hf
  refine r_aload_n C dX2_cellAt_0 rfl 0 rfl ?_
  refine r_iload_n C dX2_cellAt_1 rfl 1 rfl ?_
  refine r_iload_n C dX2_cellAt_2 rfl 2 rfl ?_
  obtain ⟨_, e4, hf⟩ := hp_bind hf
  obtain ⟨g5, e4⟩ := hp_is_of e4
  obtain ⟨q1, h2, e3, hf⟩ := hp_cbe hf
  refine r_callV C dX2_cellAt_3 cs_RX2_23 rfl e4 (c_Disk_has B e0 F a0 x1 x2 h _ e3) rfl rfl rfl ⟨by decide, by decide⟩ ⟨by decide, by decide⟩ (Nat.le_of_ble_eq_true rfl) rfl ?_
  refine r_if_eq C dX2_cellAt_6 (tgt := 23) (by decide) (fun c6 => ?_) (fun c6 => ?_)
  · rw [if_pos c6] at hf
    refine r_iconst C dX2_cellAt_23 (v := 0) (by decide) ?_
    exact r_ireturn C E dX2_cellAt_24 (by decide) (by decide) hf
  · rw [if_neg c6] at hf
    refine r_aload_n C dX2_cellAt_9 rfl 0 rfl ?_
    obtain ⟨v7, e8, hf⟩ := hp_bind hf
    refine r_getA C dX2_cellAt_10 fl_RX2_9 e8 ?_
    refine r_iload_n C dX2_cellAt_13 rfl 1 rfl ?_
    refine r_bipush C dX2_cellAt_14 (v := 16) (by decide) ?_
    refine r_imul C dX2_cellAt_16 ?_
    refine r_iload_n C dX2_cellAt_17 rfl 2 rfl ?_
    refine r_iadd C dX2_cellAt_18 ?_
    obtain ⟨v9, e10, hf⟩ := hp_bind hf
    refine r_ai C dX2_cellAt_19 e10 ?_
    refine r_goto C dX2_cellAt_20 (tgt := 24) (by decide) ?_
    exact r_ireturn C E dX2_cellAt_24 (by decide) (by decide) hf
theorem c_Disk_cellAt (B e0 F : Nat) (a0 : Nat) (x1 : Int32) (x2 : Int32) (h : hh_H) (rr : Int32 × hh_H) (hf : f_Disk_cellAt F a0 x1 x2 h = some rr) : hh_Met yX2_cellAt cX2_cellAt 3 (some .int) rm_Disk_cellAt mc_Disk_cellAt ms_Disk_cellAt B e0 [.ref (hh_ad B e0 a0), .int x1, .int x2] h (.returned (some (.int rr.1))) rr.2 :=
  hh_met (by decide) (Nat.le_of_ble_eq_true rfl) fun X C E => hh_pick [0, 1, 2] rfl (w_Disk_cellAt C E F a0 x1 x2 h hf)
def mc_Disk_read : Nat := 0
def ms_Disk_read : Nat := 0
def rm_Disk_read : Room := { frames := 1, cells := 0, slots := 0, locals := 21 }
abbrev ok_Disk_read (X : hh_X) (B e0 : Nat) : Prop := hh_ok X B e0 cX2_read RX2 5 none "read" rm_Disk_read
set_option maxRecDepth 100000 in
set_option maxHeartbeats 4000000 in
theorem w_Disk_read_6 {X : hh_X} {B e0 : Nat} {rr : Unit × hh_H} (C : ok_Disk_read X B e0) (E : hh_End X B e0 (.returned none) rr.2 mc_Disk_read ms_Disk_read) (F : Nat) (r6 : Nat → Nat → Nat → Int32 → hh_H → Option (Unit × hh_H)) (H6 : ∀ (a0 : Nat) (a1 : Nat) (a2 : Nat) (x3 : Int32) (h : hh_H), r6 a0 a1 a2 x3 h = some rr → hh_W X 0 0 6 [(0, .ref (hh_ad B e0 a0)), (1, .ref (hh_ad B e0 a1)), (2, .ref (hh_ad B e0 a2)), (3, .int x3)] [] h) (a0 : Nat) (a1 : Nat) (a2 : Nat) (x3 : Int32) (h : hh_H)
    (hf : f_Disk_read_6 F r6 a0 a1 a2 x3 h = some rr) : hh_W X 0 0 6 [(0, .ref (hh_ad B e0 a0)), (1, .ref (hh_ad B e0 a1)), (2, .ref (hh_ad B e0 a2)), (3, .int x3)] [] h := by
  unfold f_Disk_read_6 at hf
  refine r_iload_n C dX2_read_6 rfl 3 rfl ?_
  refine r_aload_n C dX2_read_7 rfl 1 rfl ?_
  obtain ⟨v1, e2, hf⟩ := hp_bind hf
  refine r_getIN C dX2_read_8 fn_RX2_58 e2 ?_
  refine r_icmp_ge C dX2_read_11 (tgt := 73) (by decide) (fun c3 => ?_) (fun c3 => ?_)
  · rw [if_pos c3] at hf
    exact r_return C E dX2_read_73 (by decide) (by decide) hf
  · rw [if_neg c3] at hf
    refine r_iload_n C dX2_read_14 rfl 3 rfl ?_
    refine r_bipush C dX2_read_15 (v := 16) (by decide) ?_
    refine r_idiv C dX2_read_17 (by decide) ?_
    refine r_aload_n C dX2_read_18 rfl 1 rfl ?_
    obtain ⟨v4, e5, hf⟩ := hp_bind hf
    refine r_getAN C dX2_read_19 fn_RX2_61 e5 ?_
    obtain ⟨v6, e7, hf⟩ := hp_bind hf
    refine r_alen C dX2_read_22 e7 ?_
    refine r_icmp_ge C dX2_read_23 (tgt := 73) (by decide) (fun c8 => ?_) (fun c8 => ?_)
    · rw [if_pos c8] at hf
      exact r_return C E dX2_read_73 (by decide) (by decide) hf
    · rw [if_neg c8] at hf
      refine r_aload_n C dX2_read_26 rfl 1 rfl ?_
      obtain ⟨v9, e10, hf⟩ := hp_bind hf
      refine r_getAN C dX2_read_27 fn_RX2_61 e10 ?_
      refine r_iload_n C dX2_read_30 rfl 3 rfl ?_
      refine r_bipush C dX2_read_31 (v := 16) (by decide) ?_
      refine r_idiv C dX2_read_33 (by decide) ?_
      obtain ⟨v11, e12, hf⟩ := hp_bind hf
      refine r_ai C dX2_read_34 e12 ?_
      refine r_bipush C dX2_read_35 (v := 16) (by decide) ?_
      refine r_imul C dX2_read_37 ?_
      refine r_iload_n C dX2_read_38 rfl 3 rfl ?_
      refine r_bipush C dX2_read_39 (v := 16) (by decide) ?_
      refine r_irem C dX2_read_41 (by decide) ?_
      refine r_iadd C dX2_read_42 ?_
      refine r_istore (lv' := [(4, .int ((v11 * 16) + (x3 - x3 / 16 * 16))), (0, .ref (hh_ad B e0 a0)), (1, .ref (hh_ad B e0 a1)), (2, .ref (hh_ad B e0 a2)), (3, .int x3)]) C dX2_read_43 (by decide) rfl ?_
      refine r_iload C dX2_read_45 0 rfl ?_
      refine r_aload_n C dX2_read_47 rfl 1 rfl ?_
      obtain ⟨v13, e14, hf⟩ := hp_bind hf
      refine r_getA C dX2_read_48 fl_RX2_9 e14 ?_
      obtain ⟨v15, e16, hf⟩ := hp_bind hf
      refine r_alen C dX2_read_51 e16 ?_
      refine r_icmp_ge C dX2_read_52 (tgt := 67) (by decide) (fun c17 => ?_) (fun c17 => ?_)
      · rw [if_pos c17] at hf
        refine r_iinc (lv' := [(3, .int (x3 + 1)), (4, .int ((v11 * 16) + (x3 - x3 / 16 * 16))), (0, .ref (hh_ad B e0 a0)), (1, .ref (hh_ad B e0 a1)), (2, .ref (hh_ad B e0 a2))]) C dX2_read_67 4 rfl rfl (by decide) rfl ?_
        refine r_goto C dX2_read_70 (tgt := 6) (by decide) ?_
        refine hh_pick [2, 3, 4, 0] rfl ?_
        exact H6 a0 a1 a2 (x3 + 1) h hf
      · rw [if_neg c17] at hf
        refine r_aload_n C dX2_read_55 rfl 3 rfl ?_
        refine r_aload_n C dX2_read_56 rfl 1 rfl ?_
        obtain ⟨v18, e19, hf⟩ := hp_bind hf
        refine r_getA C dX2_read_57 fl_RX2_9 e19 ?_
        refine r_iload C dX2_read_60 0 rfl ?_
        obtain ⟨v20, e21, hf⟩ := hp_bind hf
        refine r_ai C dX2_read_62 e21 ?_
        obtain ⟨_, e25, hf⟩ := hp_bind hf
        obtain ⟨g26, e25⟩ := hp_is_of e25
        obtain ⟨q22, h23, e24, hf⟩ := hp_cbe hf
        refine r_callV C dX2_read_63 cs_RX2_64 rfl e25 (c_Bytes_put B e0 F a2 v20 h _ e24) rfl rfl rfl ⟨by decide, by decide⟩ ⟨by decide, by decide⟩ (Nat.le_of_ble_eq_true rfl) rfl ?_
        refine r_pop C dX2_read_66 rfl ?_
        refine r_iinc (lv' := [(3, .int (x3 + 1)), (4, .int ((v11 * 16) + (x3 - x3 / 16 * 16))), (0, .ref (hh_ad B e0 a0)), (1, .ref (hh_ad B e0 a1)), (2, .ref (hh_ad B e0 a2))]) C dX2_read_67 4 rfl rfl (by decide) rfl ?_
        refine r_goto C dX2_read_70 (tgt := 6) (by decide) ?_
        refine hh_pick [2, 3, 4, 0] rfl ?_
        exact H6 a0 a1 a2 (x3 + 1) h23 hf
theorem wl_Disk_read_6 {X : hh_X} {B e0 : Nat} {rr : Unit × hh_H} (C : ok_Disk_read X B e0) (E : hh_End X B e0 (.returned none) rr.2 mc_Disk_read ms_Disk_read) (F : Nat) :
    ∀ (n : Nat) (a0 : Nat) (a1 : Nat) (a2 : Nat) (x3 : Int32) (h : hh_H), hp_it (fun _ _ _ _ _ => none) (f_Disk_read_6 F) n a0 a1 a2 x3 h = some rr → hh_W X 0 0 6 [(0, .ref (hh_ad B e0 a0)), (1, .ref (hh_ad B e0 a1)), (2, .ref (hh_ad B e0 a2)), (3, .int x3)] [] h := by
  intro n
  induction n with
  | zero => intro a0 a1 a2 x3 h hf; cases hf
  | succ n ih =>
    intro a0 a1 a2 x3 h hf
    exact w_Disk_read_6 C E F _ ih a0 a1 a2 x3 h hf
set_option maxRecDepth 100000 in
set_option maxHeartbeats 4000000 in
theorem w_Disk_read {X : hh_X} {B e0 : Nat} {rr : Unit × hh_H} (C : ok_Disk_read X B e0) (E : hh_End X B e0 (.returned none) rr.2 mc_Disk_read ms_Disk_read) (F : Nat) (a0 : Nat) (a1 : Nat) (a2 : Nat) (h : hh_H)
    (hf : f_Disk_read F a0 a1 a2 h = some rr) : hh_W X 0 0 0 [(0, .ref (hh_ad B e0 a0)), (1, .ref (hh_ad B e0 a1)), (2, .ref (hh_ad B e0 a2))] [] h := by
  unfold f_Disk_read at hf
  refine r_aload_n C dX2_read_0 rfl 2 rfl ?_
  obtain ⟨_, e30, hf⟩ := hp_bind hf
  obtain ⟨g31, e30⟩ := hp_is_of e30
  obtain ⟨q27, h28, e29, hf⟩ := hp_cbe hf
  refine r_callV C dX2_read_1 cs_RX2_55 rfl e30 (c_Bytes_clear B e0 F a2 h _ e29) rfl rfl rfl ⟨by decide, by decide⟩ ⟨by decide, by decide⟩ (Nat.le_of_ble_eq_true rfl) rfl ?_
  refine r_iconst C dX2_read_4 (v := 0) (by decide) ?_
  refine r_istore_n (lv' := [(3, .int 0), (0, .ref (hh_ad B e0 a0)), (1, .ref (hh_ad B e0 a1)), (2, .ref (hh_ad B e0 a2))]) C dX2_read_5 rfl (by decide) rfl ?_
  refine hh_pick [1, 2, 3, 0] rfl ?_
  exact wl_Disk_read_6 C E F F a0 a1 a2 0 h28 hf
theorem c_Disk_read (B e0 F : Nat) (a0 : Nat) (a1 : Nat) (a2 : Nat) (h : hh_H) (rr : Unit × hh_H) (hf : f_Disk_read F a0 a1 a2 h = some rr) : hh_Met yX2_read cX2_read 5 none rm_Disk_read mc_Disk_read ms_Disk_read B e0 [.ref (hh_ad B e0 a0), .ref (hh_ad B e0 a1), .ref (hh_ad B e0 a2)] h (.returned none) rr.2 :=
  hh_met (by decide) (Nat.le_of_ble_eq_true rfl) fun X C E => hh_pick [0, 1, 2] rfl (w_Disk_read C E F a0 a1 a2 h hf)
def mc_Disk_clear : Nat := 0
def ms_Disk_clear : Nat := 0
def rm_Disk_clear : Room := { frames := 0, cells := 0, slots := 0, locals := 0 }
abbrev ok_Disk_clear (X : hh_X) (B e0 : Nat) : Prop := hh_ok X B e0 cX2_clear RX2 3 none "clear" rm_Disk_clear
set_option maxRecDepth 100000 in
set_option maxHeartbeats 4000000 in
theorem w_Disk_clear_2 {X : hh_X} {B e0 : Nat} {rr : Unit × hh_H} (C : ok_Disk_clear X B e0) (E : hh_End X B e0 (.returned none) rr.2 mc_Disk_clear ms_Disk_clear) (F : Nat) (r2 : Nat → Int32 → Int32 → hh_H → Option (Unit × hh_H)) (H2 : ∀ (a0 : Nat) (x1 : Int32) (x2 : Int32) (h : hh_H), r2 a0 x1 x2 h = some rr → hh_W X 0 0 2 [(0, .ref (hh_ad B e0 a0)), (1, .int x1), (2, .int x2)] [] h) (a0 : Nat) (x1 : Int32) (x2 : Int32) (h : hh_H)
    (hf : f_Disk_clear_2 F r2 a0 x1 x2 h = some rr) : hh_W X 0 0 2 [(0, .ref (hh_ad B e0 a0)), (1, .int x1), (2, .int x2)] [] h := by
  unfold f_Disk_clear_2 at hf
  refine r_iload_n C dX2_clear_2 rfl 2 rfl ?_
  refine r_bipush C dX2_clear_3 (v := 16) (by decide) ?_
  refine r_icmp_ge C dX2_clear_5 (tgt := 34) (by decide) (fun c1 => ?_) (fun c1 => ?_)
  · rw [if_pos c1] at hf
    exact r_return C E dX2_clear_34 (by decide) (by decide) hf
  · rw [if_neg c1] at hf
    refine r_iload_n C dX2_clear_8 rfl 1 rfl ?_
    refine r_iload_n C dX2_clear_9 rfl 2 rfl ?_
    refine r_iadd C dX2_clear_10 ?_
    refine r_aload_n C dX2_clear_11 rfl 0 rfl ?_
    obtain ⟨v2, e3, hf⟩ := hp_bind hf
    refine r_getA C dX2_clear_12 fl_RX2_9 e3 ?_
    obtain ⟨v4, e5, hf⟩ := hp_bind hf
    refine r_alen C dX2_clear_15 e5 ?_
    refine r_icmp_ge C dX2_clear_16 (tgt := 34) (by decide) (fun c6 => ?_) (fun c6 => ?_)
    · rw [if_pos c6] at hf
      exact r_return C E dX2_clear_34 (by decide) (by decide) hf
    · rw [if_neg c6] at hf
      refine r_aload_n C dX2_clear_19 rfl 0 rfl ?_
      obtain ⟨v7, e8, hf⟩ := hp_bind hf
      refine r_getA C dX2_clear_20 fl_RX2_9 e8 ?_
      refine r_iload_n C dX2_clear_23 rfl 1 rfl ?_
      refine r_iload_n C dX2_clear_24 rfl 2 rfl ?_
      refine r_iadd C dX2_clear_25 ?_
      refine r_iconst C dX2_clear_26 (v := 0) (by decide) ?_
      obtain ⟨h9, e10, hf⟩ := hp_bind hf
      refine r_si C dX2_clear_27 e10 ?_
      refine r_iinc (lv' := [(2, .int (x2 + 1)), (0, .ref (hh_ad B e0 a0)), (1, .int x1)]) C dX2_clear_28 2 rfl rfl (by decide) rfl ?_
      refine r_goto C dX2_clear_31 (tgt := 2) (by decide) ?_
      refine hh_pick [1, 2, 0] rfl ?_
      exact H2 a0 x1 (x2 + 1) h9 hf
theorem wl_Disk_clear_2 {X : hh_X} {B e0 : Nat} {rr : Unit × hh_H} (C : ok_Disk_clear X B e0) (E : hh_End X B e0 (.returned none) rr.2 mc_Disk_clear ms_Disk_clear) (F : Nat) :
    ∀ (n : Nat) (a0 : Nat) (x1 : Int32) (x2 : Int32) (h : hh_H), hp_it (fun _ _ _ _ => none) (f_Disk_clear_2 F) n a0 x1 x2 h = some rr → hh_W X 0 0 2 [(0, .ref (hh_ad B e0 a0)), (1, .int x1), (2, .int x2)] [] h := by
  intro n
  induction n with
  | zero => intro a0 x1 x2 h hf; cases hf
  | succ n ih =>
    intro a0 x1 x2 h hf
    exact w_Disk_clear_2 C E F _ ih a0 x1 x2 h hf
set_option maxRecDepth 100000 in
set_option maxHeartbeats 4000000 in
theorem w_Disk_clear {X : hh_X} {B e0 : Nat} {rr : Unit × hh_H} (C : ok_Disk_clear X B e0) (E : hh_End X B e0 (.returned none) rr.2 mc_Disk_clear ms_Disk_clear) (F : Nat) (a0 : Nat) (x1 : Int32) (h : hh_H)
    (hf : f_Disk_clear F a0 x1 h = some rr) : hh_W X 0 0 0 [(0, .ref (hh_ad B e0 a0)), (1, .int x1)] [] h := by
  unfold f_Disk_clear at hf
  refine r_iconst C dX2_clear_0 (v := 0) (by decide) ?_
  refine r_istore_n (lv' := [(2, .int 0), (0, .ref (hh_ad B e0 a0)), (1, .int x1)]) C dX2_clear_1 rfl (by decide) rfl ?_
  refine hh_pick [1, 2, 0] rfl ?_
  exact wl_Disk_clear_2 C E F F a0 x1 0 h hf
theorem c_Disk_clear (B e0 F : Nat) (a0 : Nat) (x1 : Int32) (h : hh_H) (rr : Unit × hh_H) (hf : f_Disk_clear F a0 x1 h = some rr) : hh_Met yX2_clear cX2_clear 3 none rm_Disk_clear mc_Disk_clear ms_Disk_clear B e0 [.ref (hh_ad B e0 a0), .int x1] h (.returned none) rr.2 :=
  hh_met (by decide) (Nat.le_of_ble_eq_true rfl) fun X C E => hh_pick [0, 1] rfl (w_Disk_clear C E F a0 x1 h hf)
def mc_Disk_blocksFor : Nat := 0
def ms_Disk_blocksFor : Nat := 0
def rm_Disk_blocksFor : Room := { frames := 0, cells := 0, slots := 0, locals := 0 }
abbrev ok_Disk_blocksFor (X : hh_X) (B e0 : Nat) : Prop := hh_ok X B e0 cX2_blocksFor RX2 1 (some .int) "blocksFor" rm_Disk_blocksFor
set_option maxRecDepth 100000 in
set_option maxHeartbeats 4000000 in
theorem w_Disk_blocksFor {X : hh_X} {B e0 : Nat} {rr : Int32 × hh_H} (C : ok_Disk_blocksFor X B e0) (E : hh_End X B e0 (.returned (some (.int rr.1))) rr.2 mc_Disk_blocksFor ms_Disk_blocksFor) (F : Nat) (x0 : Int32) (h : hh_H)
    (hf : f_Disk_blocksFor F x0 h = some rr) : hh_W X 0 0 0 [(0, .int x0)] [] h := by
  unfold f_Disk_blocksFor at hf
  refine r_iload_n C dX2_blocksFor_0 rfl 0 rfl ?_
  refine r_bipush C dX2_blocksFor_1 (v := 16) (by decide) ?_
  refine r_iadd C dX2_blocksFor_3 ?_
  refine r_iconst C dX2_blocksFor_4 (v := 1) (by decide) ?_
  refine r_isub C dX2_blocksFor_5 ?_
  refine r_bipush C dX2_blocksFor_6 (v := 16) (by decide) ?_
  refine r_idiv C dX2_blocksFor_8 (by decide) ?_
  exact r_ireturn C E dX2_blocksFor_9 (by decide) (by decide) hf
theorem c_Disk_blocksFor (B e0 F : Nat) (x0 : Int32) (h : hh_H) (rr : Int32 × hh_H) (hf : f_Disk_blocksFor F x0 h = some rr) : hh_Met yX2_blocksFor cX2_blocksFor 1 (some .int) rm_Disk_blocksFor mc_Disk_blocksFor ms_Disk_blocksFor B e0 [.int x0] h (.returned (some (.int rr.1))) rr.2 :=
  hh_met (by decide) (Nat.le_of_ble_eq_true rfl) fun X C E => hh_pick [0] rfl (w_Disk_blocksFor C E F x0 h hf)
def mc_Disk_takeLeast : Nat := 1
def ms_Disk_takeLeast : Nat := 60
def rm_Disk_takeLeast : Room := { frames := 0, cells := 1, slots := 60, locals := 0 }
abbrev ok_Disk_takeLeast (X : hh_X) (B e0 : Nat) : Prop := hh_ok X B e0 cX2_takeLeast RX2 5 (some (.array .int)) "takeLeast" rm_Disk_takeLeast
set_option maxRecDepth 100000 in
set_option maxHeartbeats 4000000 in
theorem w_Disk_takeLeast_9 {X : hh_X} {B e0 : Nat} {rr : Nat × hh_H} (C : ok_Disk_takeLeast X B e0) (E : hh_End X B e0 (.returned (some (.ref (hh_ad B e0 rr.1)))) rr.2 mc_Disk_takeLeast ms_Disk_takeLeast) (F : Nat) (r9 : Nat → Int32 → Nat → Int32 → Int32 → hh_H → Option (Nat × hh_H)) (H9 : ∀ (a0 : Nat) (x1 : Int32) (a2 : Nat) (x3 : Int32) (x4 : Int32) (h : hh_H), r9 a0 x1 a2 x3 x4 h = some rr → hh_W X 1 60 9 [(0, .ref (hh_ad B e0 a0)), (1, .int x1), (2, .ref (hh_ad B e0 a2)), (3, .int x3), (4, .int x4)] [] h) (a0 : Nat) (x1 : Int32) (a2 : Nat) (x3 : Int32) (x4 : Int32) (h : hh_H)
    (hf : f_Disk_takeLeast_9 F r9 a0 x1 a2 x3 x4 h = some rr) : hh_W X 1 60 9 [(0, .ref (hh_ad B e0 a0)), (1, .int x1), (2, .ref (hh_ad B e0 a2)), (3, .int x3), (4, .int x4)] [] h := by
  unfold f_Disk_takeLeast_9 at hf
  refine r_iload C dX2_takeLeast_9 4 rfl ?_
  refine r_aload_n C dX2_takeLeast_11 rfl 0 rfl ?_
  obtain ⟨v1, e2, hf⟩ := hp_bind hf
  refine r_getA C dX2_takeLeast_12 fl_RX2_15 e2 ?_
  obtain ⟨v3, e4, hf⟩ := hp_bind hf
  refine r_alen C dX2_takeLeast_15 e4 ?_
  refine r_icmp_ge C dX2_takeLeast_16 (tgt := 66) (by decide) (fun c5 => ?_) (fun c5 => ?_)
  · rw [if_pos c5] at hf
    refine r_aload_n C dX2_takeLeast_66 rfl 2 rfl ?_
    exact r_areturn C E dX2_takeLeast_67 (Or.inr ⟨_, rfl⟩) (by decide) (by decide) hf
  · rw [if_neg c5] at hf
    refine r_iload_n C dX2_takeLeast_19 rfl 3 rfl ?_
    refine r_iload_n C dX2_takeLeast_20 rfl 1 rfl ?_
    refine r_icmp_ge C dX2_takeLeast_21 (tgt := 66) (by decide) (fun c6 => ?_) (fun c6 => ?_)
    · rw [if_pos c6] at hf
      refine r_aload_n C dX2_takeLeast_66 rfl 2 rfl ?_
      exact r_areturn C E dX2_takeLeast_67 (Or.inr ⟨_, rfl⟩) (by decide) (by decide) hf
    · rw [if_neg c6] at hf
      refine r_aload_n C dX2_takeLeast_24 rfl 0 rfl ?_
      obtain ⟨v7, e8, hf⟩ := hp_bind hf
      refine r_getA C dX2_takeLeast_25 fl_RX2_15 e8 ?_
      refine r_iload C dX2_takeLeast_28 4 rfl ?_
      obtain ⟨v9, e10, hf⟩ := hp_bind hf
      refine r_az C dX2_takeLeast_30 e10 ?_
      refine r_if_ne C dX2_takeLeast_31 (tgt := 60) (by decide) (fun c11 => ?_) (fun c11 => ?_)
      · rw [if_neg c11] at hf
        refine r_iinc (lv' := [(4, .int (x4 + 1)), (0, .ref (hh_ad B e0 a0)), (1, .int x1), (2, .ref (hh_ad B e0 a2)), (3, .int x3)]) C dX2_takeLeast_60 4 rfl rfl (by decide) rfl ?_
        refine r_goto C dX2_takeLeast_63 (tgt := 9) (by decide) ?_
        refine hh_pick [1, 2, 3, 4, 0] rfl ?_
        exact H9 a0 x1 a2 x3 (x4 + 1) h hf
      · rw [if_pos c11] at hf
        refine r_aload_n C dX2_takeLeast_34 rfl 0 rfl ?_
        obtain ⟨v12, e13, hf⟩ := hp_bind hf
        refine r_getA C dX2_takeLeast_35 fl_RX2_15 e13 ?_
        refine r_iload C dX2_takeLeast_38 4 rfl ?_
        refine r_iconst C dX2_takeLeast_40 (v := 1) (by decide) ?_
        obtain ⟨h14, e15, hf⟩ := hp_bind hf
        refine r_sz C dX2_takeLeast_41 e15 ?_
        refine r_aload_n C dX2_takeLeast_42 rfl 0 rfl ?_
        refine r_dup C dX2_takeLeast_43 rfl ?_
        obtain ⟨v16, e17, hf⟩ := hp_bind hf
        refine r_getI C dX2_takeLeast_44 fl_RX2_19 e17 ?_
        refine r_iconst C dX2_takeLeast_47 (v := 1) (by decide) ?_
        refine r_isub C dX2_takeLeast_48 ?_
        obtain ⟨h18, e19, hf⟩ := hp_bind hf
        refine r_putI C dX2_takeLeast_49 fl_RX2_19 e19 ?_
        refine r_aload_n C dX2_takeLeast_52 rfl 2 rfl ?_
        refine r_iload_n C dX2_takeLeast_53 rfl 3 rfl ?_
        refine r_iload C dX2_takeLeast_54 4 rfl ?_
        obtain ⟨h20, e21, hf⟩ := hp_bind hf
        refine r_si C dX2_takeLeast_56 e21 ?_
        refine r_iinc (lv' := [(3, .int (x3 + 1)), (0, .ref (hh_ad B e0 a0)), (1, .int x1), (2, .ref (hh_ad B e0 a2)), (4, .int x4)]) C dX2_takeLeast_57 3 rfl rfl (by decide) rfl ?_
        refine r_iinc (lv' := [(4, .int (x4 + 1)), (3, .int (x3 + 1)), (0, .ref (hh_ad B e0 a0)), (1, .int x1), (2, .ref (hh_ad B e0 a2))]) C dX2_takeLeast_60 4 rfl rfl (by decide) rfl ?_
        refine r_goto C dX2_takeLeast_63 (tgt := 9) (by decide) ?_
        refine hh_pick [2, 3, 4, 1, 0] rfl ?_
        exact H9 a0 x1 a2 (x3 + 1) (x4 + 1) h20 hf
theorem wl_Disk_takeLeast_9 {X : hh_X} {B e0 : Nat} {rr : Nat × hh_H} (C : ok_Disk_takeLeast X B e0) (E : hh_End X B e0 (.returned (some (.ref (hh_ad B e0 rr.1)))) rr.2 mc_Disk_takeLeast ms_Disk_takeLeast) (F : Nat) :
    ∀ (n : Nat) (a0 : Nat) (x1 : Int32) (a2 : Nat) (x3 : Int32) (x4 : Int32) (h : hh_H), hp_it (fun _ _ _ _ _ _ => none) (f_Disk_takeLeast_9 F) n a0 x1 a2 x3 x4 h = some rr → hh_W X 1 60 9 [(0, .ref (hh_ad B e0 a0)), (1, .int x1), (2, .ref (hh_ad B e0 a2)), (3, .int x3), (4, .int x4)] [] h := by
  intro n
  induction n with
  | zero => intro a0 x1 a2 x3 x4 h hf; cases hf
  | succ n ih =>
    intro a0 x1 a2 x3 x4 h hf
    exact w_Disk_takeLeast_9 C E F _ ih a0 x1 a2 x3 x4 h hf
set_option maxRecDepth 100000 in
set_option maxHeartbeats 4000000 in
theorem w_Disk_takeLeast {X : hh_X} {B e0 : Nat} {rr : Nat × hh_H} (C : ok_Disk_takeLeast X B e0) (E : hh_End X B e0 (.returned (some (.ref (hh_ad B e0 rr.1)))) rr.2 mc_Disk_takeLeast ms_Disk_takeLeast) (F : Nat) (a0 : Nat) (x1 : Int32) (h : hh_H)
    (hf : f_Disk_takeLeast F a0 x1 h = some rr) : hh_W X 0 0 0 [(0, .ref (hh_ad B e0 a0)), (1, .int x1)] [] h := by
  unfold f_Disk_takeLeast at hf
  refine r_iload_n C dX2_takeLeast_0 rfl 1 rfl ?_
  obtain ⟨b22, h24, e23, hf⟩ := hp_cbe hf
  refine r_na_int (bd := 60) C dX2_takeLeast_1 (by decide) (by decide) (by decide) e23 ?_
  refine r_astore_n (lv' := [(2, .ref (hh_ad B e0 b22)), (0, .ref (hh_ad B e0 a0)), (1, .int x1)]) C dX2_takeLeast_3 rfl (by decide) rfl ?_
  refine r_iconst C dX2_takeLeast_4 (v := 0) (by decide) ?_
  refine r_istore_n (lv' := [(3, .int 0), (2, .ref (hh_ad B e0 b22)), (0, .ref (hh_ad B e0 a0)), (1, .int x1)]) C dX2_takeLeast_5 rfl (by decide) rfl ?_
  refine r_iconst C dX2_takeLeast_6 (v := 0) (by decide) ?_
  refine r_istore (lv' := [(4, .int 0), (3, .int 0), (2, .ref (hh_ad B e0 b22)), (0, .ref (hh_ad B e0 a0)), (1, .int x1)]) C dX2_takeLeast_7 (by decide) rfl ?_
  refine hh_pick [3, 4, 2, 1, 0] rfl ?_
  exact wl_Disk_takeLeast_9 C E F F a0 x1 b22 0 0 h24 hf
theorem c_Disk_takeLeast (B e0 F : Nat) (a0 : Nat) (x1 : Int32) (h : hh_H) (rr : Nat × hh_H) (hf : f_Disk_takeLeast F a0 x1 h = some rr) : hh_Met yX2_takeLeast cX2_takeLeast 5 (some (.array .int)) rm_Disk_takeLeast mc_Disk_takeLeast ms_Disk_takeLeast B e0 [.ref (hh_ad B e0 a0), .int x1] h (.returned (some (.ref (hh_ad B e0 rr.1)))) rr.2 :=
  hh_met (by decide) (Nat.le_of_ble_eq_true rfl) fun X C E => hh_pick [0, 1] rfl (w_Disk_takeLeast C E F a0 x1 h hf)
def mc_Disk_hasRoomFor : Nat := 0
def ms_Disk_hasRoomFor : Nat := 0
def rm_Disk_hasRoomFor : Room := { frames := 1, cells := 0, slots := 0, locals := 20 }
abbrev ok_Disk_hasRoomFor (X : hh_X) (B e0 : Nat) : Prop := hh_ok X B e0 cX2_hasRoomFor RX2 2 (some .boolean) "hasRoomFor" rm_Disk_hasRoomFor
set_option maxRecDepth 100000 in
set_option maxHeartbeats 4000000 in
theorem w_Disk_hasRoomFor {X : hh_X} {B e0 : Nat} {rr : Int32 × hh_H} (C : ok_Disk_hasRoomFor X B e0) (E : hh_End X B e0 (.returned (some (.int rr.1))) rr.2 mc_Disk_hasRoomFor ms_Disk_hasRoomFor) (F : Nat) (a0 : Nat) (x1 : Int32) (h : hh_H)
    (hf : f_Disk_hasRoomFor F a0 x1 h = some rr) : hh_W X 0 0 0 [(0, .ref (hh_ad B e0 a0)), (1, .int x1)] [] h := by
  unfold f_Disk_hasRoomFor at hf
  refine r_iload_n C dX2_hasRoomFor_0 rfl 1 rfl ?_
  obtain ⟨q1, h2, e3, hf⟩ := hp_cbe hf
  refine r_callS C dX2_hasRoomFor_1 cs_RX2_27 (c_Disk_blocksFor B e0 F x1 h _ e3) rfl rfl rfl ⟨by decide, by decide⟩ ⟨by decide, by decide⟩ (Nat.le_of_ble_eq_true rfl) rfl ?_
  refine r_aload_n C dX2_hasRoomFor_4 rfl 0 rfl ?_
  obtain ⟨v4, e5, hf⟩ := hp_bind hf
  refine r_getI C dX2_hasRoomFor_5 fl_RX2_19 e5 ?_
  refine r_icmp_gt C dX2_hasRoomFor_8 (tgt := 15) (by decide) (fun c6 => ?_) (fun c6 => ?_)
  · rw [if_pos c6] at hf
    refine r_iconst C dX2_hasRoomFor_15 (v := 0) (by decide) ?_
    exact r_ireturnz C E dX2_hasRoomFor_16 rfl (by decide) (by decide) hf
  · rw [if_neg c6] at hf
    refine r_iconst C dX2_hasRoomFor_11 (v := 1) (by decide) ?_
    refine r_goto C dX2_hasRoomFor_12 (tgt := 16) (by decide) ?_
    exact r_ireturnz C E dX2_hasRoomFor_16 rfl (by decide) (by decide) hf
theorem c_Disk_hasRoomFor (B e0 F : Nat) (a0 : Nat) (x1 : Int32) (h : hh_H) (rr : Int32 × hh_H) (hf : f_Disk_hasRoomFor F a0 x1 h = some rr) : hh_Met yX2_hasRoomFor cX2_hasRoomFor 2 (some .boolean) rm_Disk_hasRoomFor mc_Disk_hasRoomFor ms_Disk_hasRoomFor B e0 [.ref (hh_ad B e0 a0), .int x1] h (.returned (some (.int rr.1))) rr.2 :=
  hh_met (by decide) (Nat.le_of_ble_eq_true rfl) fun X C E => hh_pick [0, 1] rfl (w_Disk_hasRoomFor C E F a0 x1 h hf)
def mc_Disk_write : Nat := 2
def ms_Disk_write : Nat := 63
def rm_Disk_write : Room := { frames := 2, cells := 2, slots := 63, locals := 43 }
abbrev ok_Disk_write (X : hh_X) (B e0 : Nat) : Prop := hh_ok X B e0 cX2_write RX2 7 (some (.object "IndexBuilder$Run")) "write" rm_Disk_write
set_option maxRecDepth 100000 in
set_option maxHeartbeats 4000000 in
theorem w_Disk_write_95 {X : hh_X} {B e0 : Nat} {rr : Nat × hh_H} (C : ok_Disk_write X B e0) (E : hh_End X B e0 (.returned (some (.ref (hh_ad B e0 rr.1)))) rr.2 mc_Disk_write ms_Disk_write) (F : Nat) (a1 : Nat) (x2 : Int32) (a3 : Nat) (h : hh_H)
    (hf : f_Disk_write_95 F a1 x2 a3 h = some rr) : hh_W X 1 60 95 [(1, .ref (hh_ad B e0 a1)), (2, .int x2), (3, .ref (hh_ad B e0 a3))] [] h := by
  unfold f_Disk_write_95 at hf
  obtain ⟨b1, h3, e2, hf⟩ := hp_cbe hf
  refine r_new C dX2_write_95 nw_RX2_50 (by decide) (by decide) e2 ?_
  refine r_dup C dX2_write_98 rfl ?_
  refine r_iload_n C dX2_write_99 rfl 1 rfl ?_
  refine r_aload_n C dX2_write_100 rfl 2 rfl ?_
  refine r_aload_n C dX2_write_101 rfl 0 rfl ?_
  obtain ⟨_, e7, hf⟩ := hp_bind hf
  obtain ⟨g8, e7⟩ := hp_is_of e7
  obtain ⟨q4, h5, e6, hf⟩ := hp_cbe hf
  refine r_callV C dX2_write_102 cs_RX2_31 rfl e7 (c_Bytes_size B e0 F a1 h3 _ e6) rfl rfl rfl ⟨by decide, by decide⟩ ⟨by decide, by decide⟩ (Nat.le_of_ble_eq_true rfl) rfl ?_
  obtain ⟨q9, h10, e11, hf⟩ := hp_cbe hf
  refine r_callI C dX2_write_105 cs_RX2_52 rfl (c_Run_init B e0 F b1 x2 a3 q4 h5 _ e11) rfl rfl rfl ⟨by decide, by decide⟩ ⟨by decide, by decide⟩ (Nat.le_of_ble_eq_true rfl) rfl ?_
  exact r_areturn C E dX2_write_108 (Or.inl ⟨_, rfl⟩) (by decide) (by decide) hf
set_option maxRecDepth 100000 in
set_option maxHeartbeats 4000000 in
theorem w_Disk_write_41 {X : hh_X} {B e0 : Nat} {rr : Nat × hh_H} (C : ok_Disk_write X B e0) (E : hh_End X B e0 (.returned (some (.ref (hh_ad B e0 rr.1)))) rr.2 mc_Disk_write ms_Disk_write) (F : Nat) (r22 : Nat → Nat → Int32 → Nat → Int32 → hh_H → Option (Nat × hh_H)) (r41 : Nat → Nat → Int32 → Nat → Int32 → Int32 → Int32 → hh_H → Option (Nat × hh_H)) (H22 : ∀ (a0 : Nat) (a1 : Nat) (x2 : Int32) (a3 : Nat) (x4 : Int32) (h : hh_H), r22 a0 a1 x2 a3 x4 h = some rr → hh_W X 1 60 22 [(0, .ref (hh_ad B e0 a0)), (1, .ref (hh_ad B e0 a1)), (2, .int x2), (3, .ref (hh_ad B e0 a3)), (4, .int x4)] [] h) (H41 : ∀ (a0 : Nat) (a1 : Nat) (x2 : Int32) (a3 : Nat) (x4 : Int32) (x5 : Int32) (x6 : Int32) (h : hh_H), r41 a0 a1 x2 a3 x4 x5 x6 h = some rr → hh_W X 1 60 41 [(0, .ref (hh_ad B e0 a0)), (1, .ref (hh_ad B e0 a1)), (2, .int x2), (3, .ref (hh_ad B e0 a3)), (4, .int x4), (5, .int x5), (6, .int x6)] [] h) (a0 : Nat) (a1 : Nat) (x2 : Int32) (a3 : Nat) (x4 : Int32) (x5 : Int32) (x6 : Int32) (h : hh_H)
    (hf : f_Disk_write_41 F r22 r41 a0 a1 x2 a3 x4 x5 x6 h = some rr) : hh_W X 1 60 41 [(0, .ref (hh_ad B e0 a0)), (1, .ref (hh_ad B e0 a1)), (2, .int x2), (3, .ref (hh_ad B e0 a3)), (4, .int x4), (5, .int x5), (6, .int x6)] [] h := by
  unfold f_Disk_write_41 at hf
  refine r_iload C dX2_write_41 6 rfl ?_
  refine r_bipush C dX2_write_43 (v := 16) (by decide) ?_
  refine r_icmp_ge C dX2_write_45 (tgt := 89) (by decide) (fun c12 => ?_) (fun c12 => ?_)
  · rw [if_pos c12] at hf
    refine r_iinc (lv' := [(4, .int (x4 + 1)), (0, .ref (hh_ad B e0 a0)), (1, .ref (hh_ad B e0 a1)), (2, .int x2), (3, .ref (hh_ad B e0 a3)), (5, .int x5), (6, .int x6)]) C dX2_write_89 4 rfl rfl (by decide) rfl ?_
    refine r_goto C dX2_write_92 (tgt := 22) (by decide) ?_
    refine hh_pick [1, 2, 3, 4, 0] rfl ?_
    exact H22 a0 a1 x2 a3 (x4 + 1) h hf
  · rw [if_neg c12] at hf
    refine r_iload C dX2_write_48 5 rfl ?_
    refine r_iload C dX2_write_50 6 rfl ?_
    refine r_iadd C dX2_write_52 ?_
    refine r_aload_n C dX2_write_53 rfl 0 rfl ?_
    obtain ⟨v13, e14, hf⟩ := hp_bind hf
    refine r_getA C dX2_write_54 fl_RX2_9 e14 ?_
    obtain ⟨v15, e16, hf⟩ := hp_bind hf
    refine r_alen C dX2_write_57 e16 ?_
    refine r_icmp_ge C dX2_write_58 (tgt := 89) (by decide) (fun c17 => ?_) (fun c17 => ?_)
    · rw [if_pos c17] at hf
      refine r_iinc (lv' := [(4, .int (x4 + 1)), (0, .ref (hh_ad B e0 a0)), (1, .ref (hh_ad B e0 a1)), (2, .int x2), (3, .ref (hh_ad B e0 a3)), (5, .int x5), (6, .int x6)]) C dX2_write_89 4 rfl rfl (by decide) rfl ?_
      refine r_goto C dX2_write_92 (tgt := 22) (by decide) ?_
      refine hh_pick [1, 2, 3, 4, 0] rfl ?_
      exact H22 a0 a1 x2 a3 (x4 + 1) h hf
    · rw [if_neg c17] at hf
      refine r_aload_n C dX2_write_61 rfl 0 rfl ?_
      obtain ⟨v18, e19, hf⟩ := hp_bind hf
      refine r_getA C dX2_write_62 fl_RX2_9 e19 ?_
      refine r_iload C dX2_write_65 5 rfl ?_
      refine r_iload C dX2_write_67 6 rfl ?_
      refine r_iadd C dX2_write_69 ?_
      refine r_aload_n C dX2_write_70 rfl 1 rfl ?_
      refine r_iload C dX2_write_71 4 rfl ?_
      refine r_bipush C dX2_write_73 (v := 16) (by decide) ?_
      refine r_imul C dX2_write_75 ?_
      refine r_iload C dX2_write_76 6 rfl ?_
      refine r_iadd C dX2_write_78 ?_
      obtain ⟨_, e23, hf⟩ := hp_bind hf
      obtain ⟨g24, e23⟩ := hp_is_of e23
      obtain ⟨q20, h21, e22, hf⟩ := hp_cbe hf
      refine r_callV C dX2_write_79 cs_RX2_47 rfl e23 (c_Bytes_at B e0 F a1 ((x4 * 16) + x6) h _ e22) rfl rfl rfl ⟨by decide, by decide⟩ ⟨by decide, by decide⟩ (Nat.le_of_ble_eq_true rfl) rfl ?_
      obtain ⟨h25, e26, hf⟩ := hp_bind hf
      refine r_si C dX2_write_82 e26 ?_
      refine r_iinc (lv' := [(6, .int (x6 + 1)), (0, .ref (hh_ad B e0 a0)), (1, .ref (hh_ad B e0 a1)), (2, .int x2), (3, .ref (hh_ad B e0 a3)), (4, .int x4), (5, .int x5)]) C dX2_write_83 6 rfl rfl (by decide) rfl ?_
      refine r_goto C dX2_write_86 (tgt := 41) (by decide) ?_
      refine hh_pick [1, 2, 3, 4, 5, 6, 0] rfl ?_
      exact H41 a0 a1 x2 a3 x4 x5 (x6 + 1) h25 hf
theorem wl_Disk_write_41 {X : hh_X} {B e0 : Nat} {rr : Nat × hh_H} (C : ok_Disk_write X B e0) (E : hh_End X B e0 (.returned (some (.ref (hh_ad B e0 rr.1)))) rr.2 mc_Disk_write ms_Disk_write) (F : Nat) (r22 : Nat → Nat → Int32 → Nat → Int32 → hh_H → Option (Nat × hh_H)) (H22 : ∀ (a0 : Nat) (a1 : Nat) (x2 : Int32) (a3 : Nat) (x4 : Int32) (h : hh_H), r22 a0 a1 x2 a3 x4 h = some rr → hh_W X 1 60 22 [(0, .ref (hh_ad B e0 a0)), (1, .ref (hh_ad B e0 a1)), (2, .int x2), (3, .ref (hh_ad B e0 a3)), (4, .int x4)] [] h) :
    ∀ (n : Nat) (a0 : Nat) (a1 : Nat) (x2 : Int32) (a3 : Nat) (x4 : Int32) (x5 : Int32) (x6 : Int32) (h : hh_H), hp_it (fun _ _ _ _ _ _ _ _ => none) (f_Disk_write_41 F r22) n a0 a1 x2 a3 x4 x5 x6 h = some rr → hh_W X 1 60 41 [(0, .ref (hh_ad B e0 a0)), (1, .ref (hh_ad B e0 a1)), (2, .int x2), (3, .ref (hh_ad B e0 a3)), (4, .int x4), (5, .int x5), (6, .int x6)] [] h := by
  intro n
  induction n with
  | zero => intro a0 a1 x2 a3 x4 x5 x6 h hf; cases hf
  | succ n ih =>
    intro a0 a1 x2 a3 x4 x5 x6 h hf
    exact w_Disk_write_41 C E F r22 _ H22 ih a0 a1 x2 a3 x4 x5 x6 h hf
set_option maxRecDepth 100000 in
set_option maxHeartbeats 4000000 in
theorem w_Disk_write_22 {X : hh_X} {B e0 : Nat} {rr : Nat × hh_H} (C : ok_Disk_write X B e0) (E : hh_End X B e0 (.returned (some (.ref (hh_ad B e0 rr.1)))) rr.2 mc_Disk_write ms_Disk_write) (F : Nat) (r22 : Nat → Nat → Int32 → Nat → Int32 → hh_H → Option (Nat × hh_H)) (H22 : ∀ (a0 : Nat) (a1 : Nat) (x2 : Int32) (a3 : Nat) (x4 : Int32) (h : hh_H), r22 a0 a1 x2 a3 x4 h = some rr → hh_W X 1 60 22 [(0, .ref (hh_ad B e0 a0)), (1, .ref (hh_ad B e0 a1)), (2, .int x2), (3, .ref (hh_ad B e0 a3)), (4, .int x4)] [] h) (a0 : Nat) (a1 : Nat) (x2 : Int32) (a3 : Nat) (x4 : Int32) (h : hh_H)
    (hf : f_Disk_write_22 F r22 a0 a1 x2 a3 x4 h = some rr) : hh_W X 1 60 22 [(0, .ref (hh_ad B e0 a0)), (1, .ref (hh_ad B e0 a1)), (2, .int x2), (3, .ref (hh_ad B e0 a3)), (4, .int x4)] [] h := by
  unfold f_Disk_write_22 at hf
  refine r_iload C dX2_write_22 4 rfl ?_
  refine r_aload_n C dX2_write_24 rfl 3 rfl ?_
  obtain ⟨v27, e28, hf⟩ := hp_bind hf
  refine r_alen C dX2_write_25 e28 ?_
  refine r_icmp_ge C dX2_write_26 (tgt := 95) (by decide) (fun c29 => ?_) (fun c29 => ?_)
  · rw [if_pos c29] at hf
    refine hh_pick [1, 2, 3] rfl ?_
    exact w_Disk_write_95 C E F a1 x2 a3 h hf
  · rw [if_neg c29] at hf
    refine r_aload_n C dX2_write_29 rfl 3 rfl ?_
    refine r_iload C dX2_write_30 4 rfl ?_
    obtain ⟨v30, e31, hf⟩ := hp_bind hf
    refine r_ai C dX2_write_32 e31 ?_
    refine r_bipush C dX2_write_33 (v := 16) (by decide) ?_
    refine r_imul C dX2_write_35 ?_
    refine r_istore (lv' := [(5, .int (v30 * 16)), (0, .ref (hh_ad B e0 a0)), (1, .ref (hh_ad B e0 a1)), (2, .int x2), (3, .ref (hh_ad B e0 a3)), (4, .int x4)]) C dX2_write_36 (by decide) rfl ?_
    refine r_iconst C dX2_write_38 (v := 0) (by decide) ?_
    refine r_istore (lv' := [(6, .int 0), (5, .int (v30 * 16)), (0, .ref (hh_ad B e0 a0)), (1, .ref (hh_ad B e0 a1)), (2, .int x2), (3, .ref (hh_ad B e0 a3)), (4, .int x4)]) C dX2_write_39 (by decide) rfl ?_
    refine hh_pick [2, 3, 4, 5, 6, 1, 0] rfl ?_
    exact wl_Disk_write_41 C E F r22 H22 F a0 a1 x2 a3 x4 (v30 * 16) 0 h hf
theorem wl_Disk_write_22 {X : hh_X} {B e0 : Nat} {rr : Nat × hh_H} (C : ok_Disk_write X B e0) (E : hh_End X B e0 (.returned (some (.ref (hh_ad B e0 rr.1)))) rr.2 mc_Disk_write ms_Disk_write) (F : Nat) :
    ∀ (n : Nat) (a0 : Nat) (a1 : Nat) (x2 : Int32) (a3 : Nat) (x4 : Int32) (h : hh_H), hp_it (fun _ _ _ _ _ _ => none) (f_Disk_write_22 F) n a0 a1 x2 a3 x4 h = some rr → hh_W X 1 60 22 [(0, .ref (hh_ad B e0 a0)), (1, .ref (hh_ad B e0 a1)), (2, .int x2), (3, .ref (hh_ad B e0 a3)), (4, .int x4)] [] h := by
  intro n
  induction n with
  | zero => intro a0 a1 x2 a3 x4 h hf; cases hf
  | succ n ih =>
    intro a0 a1 x2 a3 x4 h hf
    exact w_Disk_write_22 C E F _ ih a0 a1 x2 a3 x4 h hf
set_option maxRecDepth 100000 in
set_option maxHeartbeats 4000000 in
theorem w_Disk_write {X : hh_X} {B e0 : Nat} {rr : Nat × hh_H} (C : ok_Disk_write X B e0) (E : hh_End X B e0 (.returned (some (.ref (hh_ad B e0 rr.1)))) rr.2 mc_Disk_write ms_Disk_write) (F : Nat) (a0 : Nat) (a1 : Nat) (x2 : Int32) (h : hh_H)
    (hf : f_Disk_write F a0 a1 x2 h = some rr) : hh_W X 0 0 0 [(0, .ref (hh_ad B e0 a0)), (1, .ref (hh_ad B e0 a1)), (2, .int x2)] [] h := by
  unfold f_Disk_write at hf
  refine r_aload_n C dX2_write_0 rfl 0 rfl ?_
  refine r_aload_n C dX2_write_1 rfl 1 rfl ?_
  obtain ⟨_, e35, hf⟩ := hp_bind hf
  obtain ⟨g36, e35⟩ := hp_is_of e35
  obtain ⟨q32, h33, e34, hf⟩ := hp_cbe hf
  refine r_callV C dX2_write_2 cs_RX2_31 rfl e35 (c_Bytes_size B e0 F a1 h _ e34) rfl rfl rfl ⟨by decide, by decide⟩ ⟨by decide, by decide⟩ (Nat.le_of_ble_eq_true rfl) rfl ?_
  obtain ⟨q37, h38, e39, hf⟩ := hp_cbe hf
  refine r_callS C dX2_write_5 cs_RX2_27 (c_Disk_blocksFor B e0 F q32 h33 _ e39) rfl rfl rfl ⟨by decide, by decide⟩ ⟨by decide, by decide⟩ (Nat.le_of_ble_eq_true rfl) rfl ?_
  refine r_aload_n C dX2_write_8 rfl 0 rfl ?_
  obtain ⟨v40, e41, hf⟩ := hp_bind hf
  refine r_getI C dX2_write_9 fl_RX2_19 e41 ?_
  refine r_mmin C dX2_write_12 mm_RX2_37 (by decide) (Nat.le_of_ble_eq_true rfl) (by decide) (by decide) ?_
  obtain ⟨_, e45, hf⟩ := hp_bind hf
  obtain ⟨g46, e45⟩ := hp_is_of e45
  obtain ⟨q42, h43, e44, hf⟩ := hp_cbe hf
  refine r_callV C dX2_write_15 cs_RX2_43 rfl e45 (c_Disk_takeLeast B e0 F a0 (if v40 < q37 then v40 else q37) h38 _ e44) rfl rfl rfl ⟨by decide, by decide⟩ ⟨by decide, by decide⟩ (Nat.le_of_ble_eq_true rfl) rfl ?_
  refine r_astore_n (lv' := [(3, .ref (hh_ad B e0 q42)), (0, .ref (hh_ad B e0 a0)), (1, .ref (hh_ad B e0 a1)), (2, .int x2)]) C dX2_write_18 rfl (by decide) rfl ?_
  refine r_iconst C dX2_write_19 (v := 0) (by decide) ?_
  refine r_istore (lv' := [(4, .int 0), (3, .ref (hh_ad B e0 q42)), (0, .ref (hh_ad B e0 a0)), (1, .ref (hh_ad B e0 a1)), (2, .int x2)]) C dX2_write_20 (by decide) rfl ?_
  refine hh_pick [2, 3, 4, 1, 0] rfl ?_
  exact wl_Disk_write_22 C E F F a0 a1 x2 q42 0 h43 hf
theorem c_Disk_write (B e0 F : Nat) (a0 : Nat) (a1 : Nat) (x2 : Int32) (h : hh_H) (rr : Nat × hh_H) (hf : f_Disk_write F a0 a1 x2 h = some rr) : hh_Met yX2_write cX2_write 7 (some (.object "IndexBuilder$Run")) rm_Disk_write mc_Disk_write ms_Disk_write B e0 [.ref (hh_ad B e0 a0), .ref (hh_ad B e0 a1), .int x2] h (.returned (some (.ref (hh_ad B e0 rr.1)))) rr.2 :=
  hh_met (by decide) (Nat.le_of_ble_eq_true rfl) fun X C E => hh_pick [0, 1, 2] rfl (w_Disk_write C E F a0 a1 x2 h hf)
def mc_Disk_release : Nat := 0
def ms_Disk_release : Nat := 0
def rm_Disk_release : Room := { frames := 1, cells := 0, slots := 0, locals := 22 }
abbrev ok_Disk_release (X : hh_X) (B e0 : Nat) : Prop := hh_ok X B e0 cX2_release RX2 6 none "release" rm_Disk_release
set_option maxRecDepth 100000 in
set_option maxHeartbeats 4000000 in
theorem w_Disk_release_11 {X : hh_X} {B e0 : Nat} {rr : Unit × hh_H} (C : ok_Disk_release X B e0) (E : hh_End X B e0 (.returned none) rr.2 mc_Disk_release ms_Disk_release) (F : Nat) (r11 : Nat → Nat → Int32 → Int32 → hh_H → Option (Unit × hh_H)) (H11 : ∀ (a0 : Nat) (a2 : Nat) (x3 : Int32) (x4 : Int32) (h : hh_H), r11 a0 a2 x3 x4 h = some rr → hh_W X 0 0 11 [(0, .ref (hh_ad B e0 a0)), (2, .ref (hh_ad B e0 a2)), (3, .int x3), (4, .int x4)] [] h) (a0 : Nat) (a2 : Nat) (x3 : Int32) (x4 : Int32) (h : hh_H)
    (hf : f_Disk_release_11 F r11 a0 a2 x3 x4 h = some rr) : hh_W X 0 0 11 [(0, .ref (hh_ad B e0 a0)), (2, .ref (hh_ad B e0 a2)), (3, .int x3), (4, .int x4)] [] h := by
  unfold f_Disk_release_11 at hf
  refine r_iload C dX2_release_11 3 rfl ?_
  refine r_iload_n C dX2_release_13 rfl 2 rfl ?_
  refine r_icmp_ge C dX2_release_14 (tgt := 76) (by decide) (fun c1 => ?_) (fun c1 => ?_)
  · rw [if_pos c1] at hf
    exact r_return C E dX2_release_76 (by decide) (by decide) hf
  · rw [if_neg c1] at hf
    refine r_aload_n C dX2_release_17 rfl 1 rfl ?_
    refine r_iload C dX2_release_18 3 rfl ?_
    obtain ⟨v2, e3, hf⟩ := hp_bind hf
    refine r_ai C dX2_release_20 e3 ?_
    refine r_istore (lv' := [(5, .int v2), (0, .ref (hh_ad B e0 a0)), (2, .ref (hh_ad B e0 a2)), (3, .int x3), (4, .int x4)]) C dX2_release_21 (by decide) rfl ?_
    refine r_iload C dX2_release_23 0 rfl ?_
    refine r_aload_n C dX2_release_25 rfl 1 rfl ?_
    obtain ⟨v4, e5, hf⟩ := hp_bind hf
    refine r_getA C dX2_release_26 fl_RX2_15 e5 ?_
    obtain ⟨v6, e7, hf⟩ := hp_bind hf
    refine r_alen C dX2_release_29 e7 ?_
    refine r_icmp_ge C dX2_release_30 (tgt := 70) (by decide) (fun c8 => ?_) (fun c8 => ?_)
    · rw [if_pos c8] at hf
      refine r_iinc (lv' := [(4, .int (x4 + 1)), (5, .int v2), (0, .ref (hh_ad B e0 a0)), (2, .ref (hh_ad B e0 a2)), (3, .int x3)]) C dX2_release_70 4 rfl rfl (by decide) rfl ?_
      refine r_goto C dX2_release_73 (tgt := 11) (by decide) ?_
      refine hh_pick [2, 3, 4, 0] rfl ?_
      exact H11 a0 a2 x3 (x4 + 1) h hf
    · rw [if_neg c8] at hf
      refine r_aload_n C dX2_release_33 rfl 1 rfl ?_
      obtain ⟨v9, e10, hf⟩ := hp_bind hf
      refine r_getA C dX2_release_34 fl_RX2_15 e10 ?_
      refine r_iload C dX2_release_37 0 rfl ?_
      obtain ⟨v11, e12, hf⟩ := hp_bind hf
      refine r_az C dX2_release_39 e12 ?_
      refine r_if_eq C dX2_release_40 (tgt := 70) (by decide) (fun c13 => ?_) (fun c13 => ?_)
      · rw [if_pos c13] at hf
        refine r_iinc (lv' := [(4, .int (x4 + 1)), (5, .int v2), (0, .ref (hh_ad B e0 a0)), (2, .ref (hh_ad B e0 a2)), (3, .int x3)]) C dX2_release_70 4 rfl rfl (by decide) rfl ?_
        refine r_goto C dX2_release_73 (tgt := 11) (by decide) ?_
        refine hh_pick [2, 3, 4, 0] rfl ?_
        exact H11 a0 a2 x3 (x4 + 1) h hf
      · rw [if_neg c13] at hf
        refine r_aload_n C dX2_release_43 rfl 1 rfl ?_
        obtain ⟨v14, e15, hf⟩ := hp_bind hf
        refine r_getA C dX2_release_44 fl_RX2_15 e15 ?_
        refine r_iload C dX2_release_47 0 rfl ?_
        refine r_iconst C dX2_release_49 (v := 0) (by decide) ?_
        obtain ⟨h16, e17, hf⟩ := hp_bind hf
        refine r_sz C dX2_release_50 e17 ?_
        refine r_aload_n C dX2_release_51 rfl 1 rfl ?_
        refine r_dup C dX2_release_52 rfl ?_
        obtain ⟨v18, e19, hf⟩ := hp_bind hf
        refine r_getI C dX2_release_53 fl_RX2_19 e19 ?_
        refine r_iconst C dX2_release_56 (v := 1) (by decide) ?_
        refine r_iadd C dX2_release_57 ?_
        obtain ⟨h20, e21, hf⟩ := hp_bind hf
        refine r_putI C dX2_release_58 fl_RX2_19 e21 ?_
        refine r_aload_n C dX2_release_61 rfl 1 rfl ?_
        refine r_iload C dX2_release_62 0 rfl ?_
        refine r_bipush C dX2_release_64 (v := 16) (by decide) ?_
        refine r_imul C dX2_release_66 ?_
        obtain ⟨_, e25, hf⟩ := hp_bind hf
        obtain ⟨g26, e25⟩ := hp_is_of e25
        obtain ⟨q22, h23, e24, hf⟩ := hp_cbe hf
        refine r_callV C dX2_release_67 cs_RX2_67 rfl e25 (c_Disk_clear B e0 F a0 (v2 * 16) h20 _ e24) rfl rfl rfl ⟨by decide, by decide⟩ ⟨by decide, by decide⟩ (Nat.le_of_ble_eq_true rfl) rfl ?_
        refine r_iinc (lv' := [(4, .int (x4 + 1)), (5, .int v2), (0, .ref (hh_ad B e0 a0)), (2, .ref (hh_ad B e0 a2)), (3, .int x3)]) C dX2_release_70 4 rfl rfl (by decide) rfl ?_
        refine r_goto C dX2_release_73 (tgt := 11) (by decide) ?_
        refine hh_pick [2, 3, 4, 0] rfl ?_
        exact H11 a0 a2 x3 (x4 + 1) h23 hf
theorem wl_Disk_release_11 {X : hh_X} {B e0 : Nat} {rr : Unit × hh_H} (C : ok_Disk_release X B e0) (E : hh_End X B e0 (.returned none) rr.2 mc_Disk_release ms_Disk_release) (F : Nat) :
    ∀ (n : Nat) (a0 : Nat) (a2 : Nat) (x3 : Int32) (x4 : Int32) (h : hh_H), hp_it (fun _ _ _ _ _ => none) (f_Disk_release_11 F) n a0 a2 x3 x4 h = some rr → hh_W X 0 0 11 [(0, .ref (hh_ad B e0 a0)), (2, .ref (hh_ad B e0 a2)), (3, .int x3), (4, .int x4)] [] h := by
  intro n
  induction n with
  | zero => intro a0 a2 x3 x4 h hf; cases hf
  | succ n ih =>
    intro a0 a2 x3 x4 h hf
    exact w_Disk_release_11 C E F _ ih a0 a2 x3 x4 h hf
set_option maxRecDepth 100000 in
set_option maxHeartbeats 4000000 in
theorem w_Disk_release {X : hh_X} {B e0 : Nat} {rr : Unit × hh_H} (C : ok_Disk_release X B e0) (E : hh_End X B e0 (.returned none) rr.2 mc_Disk_release ms_Disk_release) (F : Nat) (a0 : Nat) (a1 : Nat) (h : hh_H)
    (hf : f_Disk_release F a0 a1 h = some rr) : hh_W X 0 0 0 [(0, .ref (hh_ad B e0 a0)), (1, .ref (hh_ad B e0 a1))] [] h := by
  unfold f_Disk_release at hf
  refine r_aload_n C dX2_release_0 rfl 1 rfl ?_
  obtain ⟨v27, e28, hf⟩ := hp_bind hf
  refine r_getAN C dX2_release_1 fn_RX2_61 e28 ?_
  refine r_astore_n (lv' := [(2, .ref (hh_ad B e0 v27)), (0, .ref (hh_ad B e0 a0)), (1, .ref (hh_ad B e0 a1))]) C dX2_release_4 rfl (by decide) rfl ?_
  refine r_aload_n C dX2_release_5 rfl 0 rfl ?_
  obtain ⟨v29, e30, hf⟩ := hp_bind hf
  refine r_alen C dX2_release_6 e30 ?_
  refine r_istore_n (lv' := [(3, .int v29), (2, .ref (hh_ad B e0 v27)), (0, .ref (hh_ad B e0 a0)), (1, .ref (hh_ad B e0 a1))]) C dX2_release_7 rfl (by decide) rfl ?_
  refine r_iconst C dX2_release_8 (v := 0) (by decide) ?_
  refine r_istore (lv' := [(4, .int 0), (3, .int v29), (2, .ref (hh_ad B e0 v27)), (0, .ref (hh_ad B e0 a0)), (1, .ref (hh_ad B e0 a1))]) C dX2_release_9 (by decide) rfl ?_
  refine hh_pick [3, 2, 1, 0] rfl ?_
  exact wl_Disk_release_11 C E F F a0 v27 v29 0 h hf
theorem c_Disk_release (B e0 F : Nat) (a0 : Nat) (a1 : Nat) (h : hh_H) (rr : Unit × hh_H) (hf : f_Disk_release F a0 a1 h = some rr) : hh_Met yX2_release cX2_release 6 none rm_Disk_release mc_Disk_release ms_Disk_release B e0 [.ref (hh_ad B e0 a0), .ref (hh_ad B e0 a1)] h (.returned none) rr.2 :=
  hh_met (by decide) (Nat.le_of_ble_eq_true rfl) fun X C E => hh_pick [0, 1] rfl (w_Disk_release C E F a0 a1 h hf)
