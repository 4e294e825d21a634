def f_Bytes_init (F : Nat) (a0 : Nat) (x1 : Int32) (h : hh_H) : Option (Unit × hh_H) :=
  hp_cb (hp_na h 0 x1 960) fun b1 h3 =>
  (hp_pa h3 a0 1 0 b1).bind fun h4 =>
  (hp_pi h4 a0 1 1 0).bind fun h6 =>
  (hp_pi h6 a0 1 2 0).bind fun h8 =>
  some ((), h8)
def f_Bytes_size (F : Nat) (a0 : Nat) (h : hh_H) : Option (Int32 × hh_H) :=
  (hp_gi h a0 1 1).bind fun v1 =>
  some (v1, h)
def f_Bytes_at (F : Nat) (a0 : Nat) (x1 : Int32) (h : hh_H) : Option (Int32 × hh_H) :=
  if x1 < 0 then
    some (0, h)
  else
    (hp_gi h a0 1 1).bind fun v2 =>
    if v2 ≤ x1 then
      some (0, h)
    else
      (hp_ga h a0 1 0).bind fun v5 =>
      (hp_len h v5).bind fun v7 =>
      if v7 ≤ x1 then
        some (0, h)
      else
        (hp_ga h a0 1 0).bind fun v10 =>
        (hp_ai h v10 x1).bind fun v12 =>
        some (v12, h)
def f_Bytes_clear (F : Nat) (a0 : Nat) (h : hh_H) : Option (Unit × hh_H) :=
  (hp_pi h a0 1 1 0).bind fun h1 =>
  (hp_pi h1 a0 1 2 0).bind fun h3 =>
  some ((), h3)
def f_Bytes_put_22 (F : Nat) (a0 : Nat) (h : hh_H) : Option (Int32 × hh_H) :=
  (hp_gi h a0 1 1).bind fun v1 =>
  (hp_pi h a0 1 1 (v1 + 1)).bind fun h3 =>
  (hp_gi h3 a0 1 1).bind fun v5 =>
  some (v5 - 1, h3)
def f_Bytes_put (F : Nat) (a0 : Nat) (x1 : Int32) (h : hh_H) : Option (Int32 × hh_H) :=
  (hp_gi h a0 1 1).bind fun v7 =>
  (hp_ga h a0 1 0).bind fun v9 =>
  (hp_len h v9).bind fun v11 =>
  if v11 ≤ v7 then
    f_Bytes_put_22 F a0 h
  else
    (hp_ga h a0 1 0).bind fun v14 =>
    (hp_gi h a0 1 1).bind fun v16 =>
    (hp_si h v14 v16 x1).bind fun h18 =>
    f_Bytes_put_22 F a0 h18
def f_Bytes_raise (F : Nat) (a0 : Nat) (x1 : Int32) (h : hh_H) : Option (Unit × hh_H) :=
  if x1 < 0 then
    some ((), h)
  else
    (hp_ga h a0 1 0).bind fun v2 =>
    (hp_len h v2).bind fun v4 =>
    if v4 ≤ x1 then
      some ((), h)
    else
      (hp_ga h a0 1 0).bind fun v7 =>
      (hp_ai h v7 x1).bind fun v9 =>
      (hp_si h v7 x1 (v9 + 1)).bind fun h11 =>
      some ((), h11)
def f_Bytes_read (F : Nat) (a0 : Nat) (h : hh_H) : Option (Int32 × hh_H) :=
  (hp_gi h a0 1 2).bind fun v1 =>
  (hp_gi h a0 1 1).bind fun v3 =>
  if v3 ≤ v1 then
    some (127, h)
  else
    (hp_gi h a0 1 2).bind fun v6 =>
    (hp_ga h a0 1 0).bind fun v8 =>
    (hp_len h v8).bind fun v10 =>
    if v6 < v10 then
      (hp_gi h a0 1 2).bind fun v13 =>
      (hp_pi h a0 1 2 (v13 + 1)).bind fun h15 =>
      (hp_ga h15 a0 1 0).bind fun v17 =>
      (hp_gi h15 a0 1 2).bind fun v19 =>
      (hp_ai h15 v17 (v19 - 1)).bind fun v21 =>
      some (v21, h15)
    else
      some (127, h)
def f_Bytes_encode_170 (F : Nat) (a0 : Nat) (h : hh_H) : Option (Unit × hh_H) :=
  (hp_gi h a0 1 1).bind fun v1 =>
  if v1 ≤ 0 then
    some ((), h)
  else
    (hp_is h a0 1).bind fun _ =>
    hp_cb (f_Bytes_put F a0 127 h) fun q4 h5 =>
    some ((), h5)
def f_Bytes_encode_138 (F : Nat) (r20 : Nat → Nat → Int32 → Int32 → Int32 → Int32 → Int32 → Int32 → hh_H → Option (Unit × hh_H)) (a0 : Nat) (a1 : Nat) (x2 : Int32) (x3 : Int32) (x4 : Int32) (x5 : Int32) (x6 : Int32) (x7 : Int32) (x8 : Int32) (h : hh_H) : Option (Unit × hh_H) :=
  hp_cb (f_Postings_placeOf F x8 h) fun q9 h10 =>
  (hp_is h10 a0 1).bind fun _ =>
  hp_cb (f_Bytes_put F a0 (q9 - x4) h10) fun q12 h13 =>
  hp_cb (f_Postings_placeOf F x8 h13) fun q17 h18 =>
  (hp_is h18 a0 1).bind fun _ =>
  hp_cb (f_Bytes_raise F a0 x6 h18) fun q20 h21 =>
  r20 a0 a1 x2 x3 q17 x5 x6 (x7 + 1) h21
def f_Bytes_encode_104 (F : Nat) (r20 : Nat → Nat → Int32 → Int32 → Int32 → Int32 → Int32 → Int32 → hh_H → Option (Unit × hh_H)) (a0 : Nat) (a1 : Nat) (x2 : Int32) (x3 : Int32) (x5 : Int32) (x7 : Int32) (x8 : Int32) (h : hh_H) : Option (Unit × hh_H) :=
  hp_cb (f_Postings_documentOf F x8 h) fun q25 h26 =>
  (hp_is h26 a0 1).bind fun _ =>
  hp_cb (f_Bytes_put F a0 (q25 - x3) h26) fun q28 h29 =>
  hp_cb (f_Postings_documentOf F x8 h29) fun q33 h34 =>
  (hp_is h34 a0 1).bind fun _ =>
  hp_cb (f_Bytes_raise F a0 x5 h34) fun q36 h37 =>
  (hp_is h37 a0 1).bind fun _ =>
  hp_cb (f_Bytes_put F a0 0 h37) fun q41 h42 =>
  f_Bytes_encode_138 F r20 a0 a1 x2 q33 0 x5 q41 x7 x8 h42
def f_Bytes_encode_90 (F : Nat) (r20 : Nat → Nat → Int32 → Int32 → Int32 → Int32 → Int32 → Int32 → hh_H → Option (Unit × hh_H)) (a0 : Nat) (a1 : Nat) (x2 : Int32) (x3 : Int32) (x4 : Int32) (x5 : Int32) (x6 : Int32) (x7 : Int32) (x8 : Int32) (x9 : Int32) (h : hh_H) : Option (Unit × hh_H) :=
  if x9 = 0 then
    hp_cb (f_Postings_documentOf F x8 h) fun q47 h48 =>
    if q47 = x3 then
      f_Bytes_encode_138 F r20 a0 a1 x2 x3 x4 x5 x6 x7 x8 h48
    else
      f_Bytes_encode_104 F r20 a0 a1 x2 x3 x5 x7 x8 h48
  else
    f_Bytes_encode_104 F r20 a0 a1 x2 x3 x5 x7 x8 h
def f_Bytes_encode_56 (F : Nat) (r20 : Nat → Nat → Int32 → Int32 → Int32 → Int32 → Int32 → Int32 → hh_H → Option (Unit × hh_H)) (a0 : Nat) (a1 : Nat) (x2 : Int32) (x3 : Int32) (x4 : Int32) (x5 : Int32) (x6 : Int32) (x7 : Int32) (x8 : Int32) (s0 : Int32) (h : hh_H) : Option (Unit × hh_H) :=
  if s0 = 0 then
    f_Bytes_encode_90 F r20 a0 a1 x2 x3 x4 x5 x6 x7 x8 s0 h
  else
    hp_cb (f_Postings_wordOf F x8 h) fun q52 h53 =>
    (hp_is h53 a0 1).bind fun _ =>
    hp_cb (f_Bytes_put F a0 (q52 - x2) h53) fun q55 h56 =>
    hp_cb (f_Postings_wordOf F x8 h56) fun q60 h61 =>
    (hp_is h61 a0 1).bind fun _ =>
    hp_cb (f_Bytes_put F a0 0 h61) fun q63 h64 =>
    f_Bytes_encode_90 F r20 a0 a1 q60 0 x4 q63 x6 x7 x8 s0 h64
def f_Bytes_encode_51 (F : Nat) (r20 : Nat → Nat → Int32 → Int32 → Int32 → Int32 → Int32 → Int32 → hh_H → Option (Unit × hh_H)) (a0 : Nat) (a1 : Nat) (x2 : Int32) (x3 : Int32) (x4 : Int32) (x5 : Int32) (x6 : Int32) (x7 : Int32) (x8 : Int32) (h : hh_H) : Option (Unit × hh_H) :=
  f_Bytes_encode_56 F r20 a0 a1 x2 x3 x4 x5 x6 x7 x8 1 h
def f_Bytes_encode_20 (F : Nat) (r20 : Nat → Nat → Int32 → Int32 → Int32 → Int32 → Int32 → Int32 → hh_H → Option (Unit × hh_H)) (a0 : Nat) (a1 : Nat) (x2 : Int32) (x3 : Int32) (x4 : Int32) (x5 : Int32) (x6 : Int32) (x7 : Int32) (h : hh_H) : Option (Unit × hh_H) :=
  (hp_is h a1 5).bind fun _ =>
  hp_cb (f_Postings_size F a1 h) fun q68 h69 =>
  if q68 ≤ x7 then
    f_Bytes_encode_170 F a0 h69
  else
    (hp_is h69 a1 5).bind fun _ =>
    hp_cb (f_Postings_keyAt F a1 x7 h69) fun q74 h75 =>
    if x7 = 0 then
      f_Bytes_encode_51 F r20 a0 a1 x2 x3 x4 x5 x6 x7 q74 h75
    else
      hp_cb (f_Postings_wordOf F q74 h75) fun q80 h81 =>
      if q80 = x2 then
        f_Bytes_encode_56 F r20 a0 a1 x2 x3 x4 x5 x6 x7 q74 0 h81
      else
        f_Bytes_encode_51 F r20 a0 a1 x2 x3 x4 x5 x6 x7 q74 h81
def l_Bytes_encode_20 (F : Nat) : Nat → Nat → Int32 → Int32 → Int32 → Int32 → Int32 → Int32 → hh_H → Option (Unit × hh_H) := hp_it (fun _ _ _ _ _ _ _ _ _ => none) (f_Bytes_encode_20 F) F
def f_Bytes_encode (F : Nat) (a0 : Nat) (a1 : Nat) (h : hh_H) : Option (Unit × hh_H) :=
  (hp_is h a0 1).bind fun _ =>
  hp_cb (f_Bytes_clear F a0 h) fun q84 h85 =>
  l_Bytes_encode_20 F a0 a1 0 0 0 0 0 0 h85
def f_Bytes_decode_116 (F : Nat) (r19 : Nat → Nat → Int32 → Int32 → Int32 → hh_H → Option (Unit × hh_H)) (a0 : Nat) (a1 : Nat) (x2 : Int32) (x4 : Int32) (h : hh_H) : Option (Unit × hh_H) :=
  (hp_is h a0 1).bind fun _ =>
  hp_cb (f_Bytes_read F a0 h) fun q1 h2 =>
  r19 a0 a1 x2 q1 (x4 + 1) h2
def f_Bytes_decode_76 (F : Nat) (r19 : Nat → Nat → Int32 → Int32 → Int32 → hh_H → Option (Unit × hh_H)) (r48 : Nat → Nat → Int32 → Int32 → Int32 → Int32 → Int32 → hh_H → Option (Unit × hh_H)) (r76 : Nat → Nat → Int32 → Int32 → Int32 → Int32 → Int32 → Int32 → Int32 → Int32 → hh_H → Option (Unit × hh_H)) (a0 : Nat) (a1 : Nat) (x2 : Int32) (x4 : Int32) (x5 : Int32) (x6 : Int32) (x7 : Int32) (x8 : Int32) (x9 : Int32) (x10 : Int32) (h : hh_H) : Option (Unit × hh_H) :=
  if x8 ≤ x10 then
    r48 a0 a1 x2 x4 x5 x6 (x7 + 1) h
  else
    (hp_is h a0 1).bind fun _ =>
    hp_cb (f_Bytes_read F a0 h) fun q7 h8 =>
    hp_cb (f_Postings_keyOf F x2 x6 (x9 + q7) h8) fun q12 h13 =>
    (hp_is h13 a1 5).bind fun _ =>
    hp_cb (f_Postings_insert F a1 q12 h13) fun q15 h16 =>
    r76 a0 a1 x2 x4 x5 x6 x7 x8 (x9 + q7) (x10 + 1) h16
def l_Bytes_decode_76 (F : Nat) (r19 : Nat → Nat → Int32 → Int32 → Int32 → hh_H → Option (Unit × hh_H)) (r48 : Nat → Nat → Int32 → Int32 → Int32 → Int32 → Int32 → hh_H → Option (Unit × hh_H)) : Nat → Nat → Int32 → Int32 → Int32 → Int32 → Int32 → Int32 → Int32 → Int32 → hh_H → Option (Unit × hh_H) := hp_it (fun _ _ _ _ _ _ _ _ _ _ _ => none) (f_Bytes_decode_76 F r19 r48) F
def f_Bytes_decode_48 (F : Nat) (r19 : Nat → Nat → Int32 → Int32 → Int32 → hh_H → Option (Unit × hh_H)) (r48 : Nat → Nat → Int32 → Int32 → Int32 → Int32 → Int32 → hh_H → Option (Unit × hh_H)) (a0 : Nat) (a1 : Nat) (x2 : Int32) (x4 : Int32) (x5 : Int32) (x6 : Int32) (x7 : Int32) (h : hh_H) : Option (Unit × hh_H) :=
  if x5 ≤ x7 then
    f_Bytes_decode_116 F r19 a0 a1 x2 x4 h
  else
    (hp_is h a0 1).bind fun _ =>
    hp_cb (f_Bytes_read F a0 h) fun q21 h22 =>
    (hp_is h22 a0 1).bind fun _ =>
    hp_cb (f_Bytes_read F a0 h22) fun q26 h27 =>
    l_Bytes_decode_76 F r19 r48 a0 a1 x2 x4 x5 (x6 + q21) x7 q26 0 0 h27
def l_Bytes_decode_48 (F : Nat) (r19 : Nat → Nat → Int32 → Int32 → Int32 → hh_H → Option (Unit × hh_H)) : Nat → Nat → Int32 → Int32 → Int32 → Int32 → Int32 → hh_H → Option (Unit × hh_H) := hp_it (fun _ _ _ _ _ _ _ _ => none) (f_Bytes_decode_48 F r19) F
def f_Bytes_decode_19 (F : Nat) (r19 : Nat → Nat → Int32 → Int32 → Int32 → hh_H → Option (Unit × hh_H)) (a0 : Nat) (a1 : Nat) (x2 : Int32) (x3 : Int32) (x4 : Int32) (h : hh_H) : Option (Unit × hh_H) :=
  if 100 ≤ x4 then
    some ((), h)
  else
    if x3 = 127 then
      some ((), h)
    else
      (hp_is h a0 1).bind fun _ =>
      hp_cb (f_Bytes_read F a0 h) fun q33 h34 =>
      l_Bytes_decode_48 F r19 a0 a1 (x2 + x3) x4 q33 0 0 h34
def l_Bytes_decode_19 (F : Nat) : Nat → Nat → Int32 → Int32 → Int32 → hh_H → Option (Unit × hh_H) := hp_it (fun _ _ _ _ _ _ => none) (f_Bytes_decode_19 F) F
def f_Bytes_decode (F : Nat) (a0 : Nat) (a1 : Nat) (h : hh_H) : Option (Unit × hh_H) :=
  (hp_is h a1 5).bind fun _ =>
  hp_cb (f_Postings_clear F a1 h) fun q38 h39 =>
  (hp_pi h39 a0 1 2 0).bind fun h43 =>
  (hp_is h43 a0 1).bind fun _ =>
  hp_cb (f_Bytes_read F a0 h43) fun q45 h46 =>
  l_Bytes_decode_19 F a0 a1 0 q45 0 h46
theorem oi_RX1_3 : Cond.methodLink RX1 3 Lib.objectInit ∈ hh_T := hh_at 175 (by decide +kernel) (by decide +kernel)
theorem lay_X1 : ∀ w ∈ u_ws RX1 TX1 3, w ∈ hh_T := hh_sub (by decide +kernel) (by decide +kernel)
theorem tyok_X1 : ∀ k, k < 3 → parseFieldDescriptor (TX1 k).2.2.1 = some (tyX1 k) := by decide +kernel
theorem nmok_X1 : ∀ a, a < 3 → ∀ b, b < 3 → a ≠ b → (TX1 a).2.1 ≠ (TX1 b).2.1 := by decide +kernel
theorem fl_RX1_9 : hh_FL RX1 9 1 0 (.array .int) true := ⟨_, _, _, tyX1, "IndexBuilder$Bytes", rfl, by decide, lay_X1, ⟨hh_at 176 (by decide +kernel) (by decide +kernel), Or.inl rfl⟩, rfl, by decide +kernel, tyok_X1, nmok_X1⟩
theorem fl_RX1_15 : hh_FL RX1 15 1 1 .int false := ⟨_, _, _, tyX1, "IndexBuilder$Bytes", rfl, by decide, lay_X1, ⟨hh_at 177 (by decide +kernel) (by decide +kernel), Or.inl rfl⟩, rfl, by decide +kernel, tyok_X1, nmok_X1⟩
theorem fl_RX1_19 : hh_FL RX1 19 1 2 .int false := ⟨_, _, _, tyX1, "IndexBuilder$Bytes", rfl, by decide, lay_X1, ⟨hh_at 178 (by decide +kernel) (by decide +kernel), Or.inl rfl⟩, rfl, by decide +kernel, tyok_X1, nmok_X1⟩
theorem cw_X1_put : Cond.code yX1_put cX1_put 2 (some .int) ∈ hh_T := hh_at 489 (by decide +kernel) (by decide +kernel)
theorem cs_RX1_37 : hh_CS RX1 37 yX1_put cX1_put 2 (some .int) 1 [.instanceMethod yX1_put, .selects yX1_put.cls yX1_put yX1_put] := ⟨cw_X1_put, hh_at 486 (by decide +kernel) (by decide +kernel), hh_at 44 (by decide +kernel) (by decide +kernel), hh_all2 (hh_at 487 (by decide +kernel) (by decide +kernel)) (hh_at 488 (by decide +kernel) (by decide +kernel)), by decide +kernel⟩
theorem cw_X5_placeOf : Cond.code yX5_placeOf cX5_placeOf 1 (some .int) ∈ hh_T := hh_at 497 (by decide +kernel) (by decide +kernel)
theorem cs_RX1_47 : hh_CS RX1 47 yX5_placeOf cX5_placeOf 1 (some .int) 1 [.static yX5_placeOf] := ⟨cw_X5_placeOf, hh_at 495 (by decide +kernel) (by decide +kernel), hh_at 38 (by decide +kernel) (by decide +kernel), hh_all1 (hh_at 496 (by decide +kernel) (by decide +kernel)), by decide +kernel⟩
theorem cw_X1_raise : Cond.code yX1_raise cX1_raise 2 none ∈ hh_T := hh_at 494 (by decide +kernel) (by decide +kernel)
theorem cs_RX1_43 : hh_CS RX1 43 yX1_raise cX1_raise 2 none 1 [.instanceMethod yX1_raise, .selects yX1_raise.cls yX1_raise yX1_raise] := ⟨cw_X1_raise, hh_at 491 (by decide +kernel) (by decide +kernel), hh_at 44 (by decide +kernel) (by decide +kernel), hh_all2 (hh_at 493 (by decide +kernel) (by decide +kernel)) (hh_at 3 (by decide +kernel) (by decide +kernel)), by decide +kernel⟩
theorem cs_RX1_40 : hh_CS RX1 40 yX5_documentOf cX5_documentOf 1 (some .int) 1 [.static yX5_documentOf] := ⟨cw_X5_documentOf, hh_at 490 (by decide +kernel) (by decide +kernel), hh_at 38 (by decide +kernel) (by decide +kernel), hh_all1 (hh_at 464 (by decide +kernel) (by decide +kernel)), by decide +kernel⟩
theorem cw_X5_wordOf : Cond.code yX5_wordOf cX5_wordOf 1 (some .int) ∈ hh_T := hh_at 485 (by decide +kernel) (by decide +kernel)
theorem cs_RX1_34 : hh_CS RX1 34 yX5_wordOf cX5_wordOf 1 (some .int) 1 [.static yX5_wordOf] := ⟨cw_X5_wordOf, hh_at 483 (by decide +kernel) (by decide +kernel), hh_at 38 (by decide +kernel) (by decide +kernel), hh_all1 (hh_at 484 (by decide +kernel) (by decide +kernel)), by decide +kernel⟩
theorem cw_X5_size : Cond.code yX5_size cX5_size 1 (some .int) ∈ hh_T := hh_at 296 (by decide +kernel) (by decide +kernel)
theorem cs_RX1_25 : hh_CS RX1 25 yX5_size cX5_size 1 (some .int) 0 [.instanceMethod yX5_size, .selects yX5_size.cls yX5_size yX5_size] := ⟨cw_X5_size, hh_at 478 (by decide +kernel) (by decide +kernel), hh_at 38 (by decide +kernel) (by decide +kernel), hh_all2 (hh_at 294 (by decide +kernel) (by decide +kernel)) (hh_at 295 (by decide +kernel) (by decide +kernel)), by decide +kernel⟩
theorem cw_X5_keyAt : Cond.code yX5_keyAt cX5_keyAt 2 (some .int) ∈ hh_T := hh_at 482 (by decide +kernel) (by decide +kernel)
theorem cs_RX1_30 : hh_CS RX1 30 yX5_keyAt cX5_keyAt 2 (some .int) 1 [.instanceMethod yX5_keyAt, .selects yX5_keyAt.cls yX5_keyAt yX5_keyAt] := ⟨cw_X5_keyAt, hh_at 479 (by decide +kernel) (by decide +kernel), hh_at 38 (by decide +kernel) (by decide +kernel), hh_all2 (hh_at 480 (by decide +kernel) (by decide +kernel)) (hh_at 481 (by decide +kernel) (by decide +kernel)), by decide +kernel⟩
theorem cw_X1_clear : Cond.code yX1_clear cX1_clear 1 none ∈ hh_T := hh_at 477 (by decide +kernel) (by decide +kernel)
theorem cs_RX1_22 : hh_CS RX1 22 yX1_clear cX1_clear 1 none 0 [.instanceMethod yX1_clear, .selects yX1_clear.cls yX1_clear yX1_clear] := ⟨cw_X1_clear, hh_at 474 (by decide +kernel) (by decide +kernel), hh_at 44 (by decide +kernel) (by decide +kernel), hh_all2 (hh_at 475 (by decide +kernel) (by decide +kernel)) (hh_at 476 (by decide +kernel) (by decide +kernel)), by decide +kernel⟩
theorem cw_X1_read : Cond.code yX1_read cX1_read 1 (some .int) ∈ hh_T := hh_at 915 (by decide +kernel) (by decide +kernel)
theorem cs_RX1_51 : hh_CS RX1 51 yX1_read cX1_read 1 (some .int) 0 [.instanceMethod yX1_read, .selects yX1_read.cls yX1_read yX1_read] := ⟨cw_X1_read, hh_at 912 (by decide +kernel) (by decide +kernel), hh_at 44 (by decide +kernel) (by decide +kernel), hh_all2 (hh_at 914 (by decide +kernel) (by decide +kernel)) (hh_at 14 (by decide +kernel) (by decide +kernel)), by decide +kernel⟩
theorem cw_X5_keyOf : Cond.code yX5_keyOf cX5_keyOf 3 (some .int) ∈ hh_T := hh_at 918 (by decide +kernel) (by decide +kernel)
theorem cs_RX1_54 : hh_CS RX1 54 yX5_keyOf cX5_keyOf 3 (some .int) 3 [.static yX5_keyOf] := ⟨cw_X5_keyOf, hh_at 916 (by decide +kernel) (by decide +kernel), hh_at 38 (by decide +kernel) (by decide +kernel), hh_all1 (hh_at 917 (by decide +kernel) (by decide +kernel)), by decide +kernel⟩
theorem cw_X5_insert : Cond.code yX5_insert cX5_insert 3 none ∈ hh_T := hh_at 922 (by decide +kernel) (by decide +kernel)
theorem cs_RX1_58 : hh_CS RX1 58 yX5_insert cX5_insert 3 none 1 [.instanceMethod yX5_insert, .selects yX5_insert.cls yX5_insert yX5_insert] := ⟨cw_X5_insert, hh_at 919 (by decide +kernel) (by decide +kernel), hh_at 38 (by decide +kernel) (by decide +kernel), hh_all2 (hh_at 920 (by decide +kernel) (by decide +kernel)) (hh_at 921 (by decide +kernel) (by decide +kernel)), by decide +kernel⟩
theorem cw_X5_clear : Cond.code yX5_clear cX5_clear 1 none ∈ hh_T := hh_at 450 (by decide +kernel) (by decide +kernel)
theorem cs_RX1_50 : hh_CS RX1 50 yX5_clear cX5_clear 1 none 0 [.instanceMethod yX5_clear, .selects yX5_clear.cls yX5_clear yX5_clear] := ⟨cw_X5_clear, hh_at 911 (by decide +kernel) (by decide +kernel), hh_at 38 (by decide +kernel) (by decide +kernel), hh_all2 (hh_at 448 (by decide +kernel) (by decide +kernel)) (hh_at 449 (by decide +kernel) (by decide +kernel)), by decide +kernel⟩
def mc_Bytes_init : Nat := 1
def ms_Bytes_init : Nat := 960
def rm_Bytes_init : Room := { frames := 1, cells := 1, slots := 960, locals := 20 }
abbrev ok_Bytes_init (X : hh_X) (B e0 : Nat) : Prop := hh_ok X B e0 cX1_init RX1 2 none "<init>" rm_Bytes_init
set_option maxRecDepth 100000 in
set_option maxHeartbeats 4000000 in
theorem w_Bytes_init {X : hh_X} {B e0 : Nat} {rr : Unit × hh_H} (C : ok_Bytes_init X B e0) (E : hh_End X B e0 (.returned none) rr.2 mc_Bytes_init ms_Bytes_init) (F : Nat) (a0 : Nat) (x1 : Int32) (h : hh_H)
    (hf : f_Bytes_init F a0 x1 h = some rr) : hh_W X 0 0 0 [(0, .ref (hh_ad B e0 a0)), (1, .int x1)] [] h := by
  unfold f_Bytes_init at hf
  refine r_aload_n C dX1_init_0 rfl 0 rfl ?_
  refine r_objInit C dX1_init_1 oi_RX1_3 oi_inst oi_code (by decide) (Nat.le_of_ble_eq_true rfl) ?_
  refine r_aload_n C dX1_init_4 rfl 0 rfl ?_
  refine r_iload_n C dX1_init_5 rfl 1 rfl ?_
  obtain ⟨b1, h3, e2, hf⟩ := hp_cbe hf
  refine r_na_int (bd := 960) C dX1_init_6 (by decide) (by decide) (by decide) e2 ?_
  obtain ⟨h4, e5, hf⟩ := hp_bind hf
  refine r_putAF C dX1_init_8 fl_RX1_9 rfl (fun _ _ _ q => by cases q; rfl) (fun _ => ⟨rfl, rfl⟩) e5 ?_
  refine r_aload_n C dX1_init_11 rfl 0 rfl ?_
  refine r_iconst C dX1_init_12 (v := 0) (by decide) ?_
  obtain ⟨h6, e7, hf⟩ := hp_bind hf
  refine r_putI C dX1_init_13 fl_RX1_15 e7 ?_
  refine r_aload_n C dX1_init_16 rfl 0 rfl ?_
  refine r_iconst C dX1_init_17 (v := 0) (by decide) ?_
  obtain ⟨h8, e9, hf⟩ := hp_bind hf
  refine r_putI C dX1_init_18 fl_RX1_19 e9 ?_
  exact r_return C E dX1_init_21 (by decide) (by decide) hf
theorem c_Bytes_init (B e0 F : Nat) (a0 : Nat) (x1 : Int32) (h : hh_H) (rr : Unit × hh_H) (hf : f_Bytes_init F a0 x1 h = some rr) : hh_Met yX1_init cX1_init 2 none rm_Bytes_init mc_Bytes_init ms_Bytes_init B e0 [.ref (hh_ad B e0 a0), .int x1] h (.returned none) rr.2 :=
  hh_met (by decide) (Nat.le_of_ble_eq_true rfl) fun X C E => hh_pick [0, 1] rfl (w_Bytes_init C E F a0 x1 h hf)
def mc_Bytes_size : Nat := 0
def ms_Bytes_size : Nat := 0
def rm_Bytes_size : Room := { frames := 0, cells := 0, slots := 0, locals := 0 }
abbrev ok_Bytes_size (X : hh_X) (B e0 : Nat) : Prop := hh_ok X B e0 cX1_size RX1 1 (some .int) "size" rm_Bytes_size
set_option maxRecDepth 100000 in
set_option maxHeartbeats 4000000 in
theorem w_Bytes_size {X : hh_X} {B e0 : Nat} {rr : Int32 × hh_H} (C : ok_Bytes_size X B e0) (E : hh_End X B e0 (.returned (some (.int rr.1))) rr.2 mc_Bytes_size ms_Bytes_size) (F : Nat) (a0 : Nat) (h : hh_H)
    (hf : f_Bytes_size F a0 h = some rr) : hh_W X 0 0 0 [(0, .ref (hh_ad B e0 a0))] [] h := by
  unfold f_Bytes_size at hf
  refine r_aload_n C dX1_size_0 rfl 0 rfl ?_
  obtain ⟨v1, e2, hf⟩ := hp_bind hf
  refine r_getI C dX1_size_1 fl_RX1_15 e2 ?_
  exact r_ireturn C E dX1_size_4 (by decide) (by decide) hf
theorem c_Bytes_size (B e0 F : Nat) (a0 : Nat) (h : hh_H) (rr : Int32 × hh_H) (hf : f_Bytes_size F a0 h = some rr) : hh_Met yX1_size cX1_size 1 (some .int) rm_Bytes_size mc_Bytes_size ms_Bytes_size B e0 [.ref (hh_ad B e0 a0)] h (.returned (some (.int rr.1))) rr.2 :=
  hh_met (by decide) (Nat.le_of_ble_eq_true rfl) fun X C E => hh_pick [0] rfl (w_Bytes_size C E F a0 h hf)
def mc_Bytes_at : Nat := 0
def ms_Bytes_at : Nat := 0
def rm_Bytes_at : Room := { frames := 0, cells := 0, slots := 0, locals := 0 }
abbrev ok_Bytes_at (X : hh_X) (B e0 : Nat) : Prop := hh_ok X B e0 cX1_at RX1 2 (some .int) "at" rm_Bytes_at
set_option maxRecDepth 100000 in
set_option maxHeartbeats 4000000 in
theorem w_Bytes_at {X : hh_X} {B e0 : Nat} {rr : Int32 × hh_H} (C : ok_Bytes_at X B e0) (E : hh_End X B e0 (.returned (some (.int rr.1))) rr.2 mc_Bytes_at ms_Bytes_at) (F : Nat) (a0 : Nat) (x1 : Int32) (h : hh_H)
    (hf : f_Bytes_at F a0 x1 h = some rr) : hh_W X 0 0 0 [(0, .ref (hh_ad B e0 a0)), (1, .int x1)] [] h := by
  unfold f_Bytes_at at hf
  refine r_iload_n C dX1_at_0 rfl 1 rfl ?_
  refine r_if_lt C dX1_at_1 (tgt := 30) (by decide) (fun c1 => ?_) (fun c1 => ?_)
  · rw [if_pos c1] at hf
    refine r_iconst C dX1_at_30 (v := 0) (by decide) ?_
    exact r_ireturn C E dX1_at_31 (by decide) (by decide) hf
  · rw [if_neg c1] at hf
    refine r_iload_n C dX1_at_4 rfl 1 rfl ?_
    refine r_aload_n C dX1_at_5 rfl 0 rfl ?_
    obtain ⟨v2, e3, hf⟩ := hp_bind hf
    refine r_getI C dX1_at_6 fl_RX1_15 e3 ?_
    refine r_icmp_ge C dX1_at_9 (tgt := 30) (by decide) (fun c4 => ?_) (fun c4 => ?_)
    · rw [if_pos c4] at hf
      refine r_iconst C dX1_at_30 (v := 0) (by decide) ?_
      exact r_ireturn C E dX1_at_31 (by decide) (by decide) hf
    · rw [if_neg c4] at hf
      refine r_iload_n C dX1_at_12 rfl 1 rfl ?_
      refine r_aload_n C dX1_at_13 rfl 0 rfl ?_
      obtain ⟨v5, e6, hf⟩ := hp_bind hf
      refine r_getA C dX1_at_14 fl_RX1_9 e6 ?_
      obtain ⟨v7, e8, hf⟩ := hp_bind hf
      refine r_alen C dX1_at_17 e8 ?_
      refine r_icmp_ge C dX1_at_18 (tgt := 30) (by decide) (fun c9 => ?_) (fun c9 => ?_)
      · rw [if_pos c9] at hf
        refine r_iconst C dX1_at_30 (v := 0) (by decide) ?_
        exact r_ireturn C E dX1_at_31 (by decide) (by decide) hf
      · rw [if_neg c9] at hf
        refine r_aload_n C dX1_at_21 rfl 0 rfl ?_
        obtain ⟨v10, e11, hf⟩ := hp_bind hf
        refine r_getA C dX1_at_22 fl_RX1_9 e11 ?_
        refine r_iload_n C dX1_at_25 rfl 1 rfl ?_
        obtain ⟨v12, e13, hf⟩ := hp_bind hf
        refine r_ai C dX1_at_26 e13 ?_
        refine r_goto C dX1_at_27 (tgt := 31) (by decide) ?_
        exact r_ireturn C E dX1_at_31 (by decide) (by decide) hf
theorem c_Bytes_at (B e0 F : Nat) (a0 : Nat) (x1 : Int32) (h : hh_H) (rr : Int32 × hh_H) (hf : f_Bytes_at F a0 x1 h = some rr) : hh_Met yX1_at cX1_at 2 (some .int) rm_Bytes_at mc_Bytes_at ms_Bytes_at B e0 [.ref (hh_ad B e0 a0), .int x1] h (.returned (some (.int rr.1))) rr.2 :=
  hh_met (by decide) (Nat.le_of_ble_eq_true rfl) fun X C E => hh_pick [0, 1] rfl (w_Bytes_at C E F a0 x1 h hf)
def mc_Bytes_clear : Nat := 0
def ms_Bytes_clear : Nat := 0
def rm_Bytes_clear : Room := { frames := 0, cells := 0, slots := 0, locals := 0 }
abbrev ok_Bytes_clear (X : hh_X) (B e0 : Nat) : Prop := hh_ok X B e0 cX1_clear RX1 1 none "clear" rm_Bytes_clear
set_option maxRecDepth 100000 in
set_option maxHeartbeats 4000000 in
theorem w_Bytes_clear {X : hh_X} {B e0 : Nat} {rr : Unit × hh_H} (C : ok_Bytes_clear X B e0) (E : hh_End X B e0 (.returned none) rr.2 mc_Bytes_clear ms_Bytes_clear) (F : Nat) (a0 : Nat) (h : hh_H)
    (hf : f_Bytes_clear F a0 h = some rr) : hh_W X 0 0 0 [(0, .ref (hh_ad B e0 a0))] [] h := by
  unfold f_Bytes_clear at hf
  refine r_aload_n C dX1_clear_0 rfl 0 rfl ?_
  refine r_iconst C dX1_clear_1 (v := 0) (by decide) ?_
  obtain ⟨h1, e2, hf⟩ := hp_bind hf
  refine r_putI C dX1_clear_2 fl_RX1_15 e2 ?_
  refine r_aload_n C dX1_clear_5 rfl 0 rfl ?_
  refine r_iconst C dX1_clear_6 (v := 0) (by decide) ?_
  obtain ⟨h3, e4, hf⟩ := hp_bind hf
  refine r_putI C dX1_clear_7 fl_RX1_19 e4 ?_
  exact r_return C E dX1_clear_10 (by decide) (by decide) hf
theorem c_Bytes_clear (B e0 F : Nat) (a0 : Nat) (h : hh_H) (rr : Unit × hh_H) (hf : f_Bytes_clear F a0 h = some rr) : hh_Met yX1_clear cX1_clear 1 none rm_Bytes_clear mc_Bytes_clear ms_Bytes_clear B e0 [.ref (hh_ad B e0 a0)] h (.returned none) rr.2 :=
  hh_met (by decide) (Nat.le_of_ble_eq_true rfl) fun X C E => hh_pick [0] rfl (w_Bytes_clear C E F a0 h hf)
def mc_Bytes_put : Nat := 0
def ms_Bytes_put : Nat := 0
def rm_Bytes_put : Room := { frames := 0, cells := 0, slots := 0, locals := 0 }
abbrev ok_Bytes_put (X : hh_X) (B e0 : Nat) : Prop := hh_ok X B e0 cX1_put RX1 2 (some .int) "put" rm_Bytes_put
set_option maxRecDepth 100000 in
set_option maxHeartbeats 4000000 in
theorem w_Bytes_put_22 {X : hh_X} {B e0 : Nat} {rr : Int32 × hh_H} (C : ok_Bytes_put X B e0) (E : hh_End X B e0 (.returned (some (.int rr.1))) rr.2 mc_Bytes_put ms_Bytes_put) (F : Nat) (a0 : Nat) (h : hh_H)
    (hf : f_Bytes_put_22 F a0 h = some rr) : hh_W X 0 0 22 [(0, .ref (hh_ad B e0 a0))] [] h := by
  unfold f_Bytes_put_22 at hf
  refine r_aload_n C dX1_put_22 rfl 0 rfl ?_
  refine r_dup C dX1_put_23 rfl ?_
  obtain ⟨v1, e2, hf⟩ := hp_bind hf
  refine r_getI C dX1_put_24 fl_RX1_15 e2 ?_
  refine r_iconst C dX1_put_27 (v := 1) (by decide) ?_
  refine r_iadd C dX1_put_28 ?_
  obtain ⟨h3, e4, hf⟩ := hp_bind hf
  refine r_putI C dX1_put_29 fl_RX1_15 e4 ?_
  refine r_aload_n C dX1_put_32 rfl 0 rfl ?_
  obtain ⟨v5, e6, hf⟩ := hp_bind hf
  refine r_getI C dX1_put_33 fl_RX1_15 e6 ?_
  refine r_iconst C dX1_put_36 (v := 1) (by decide) ?_
  refine r_isub C dX1_put_37 ?_
  exact r_ireturn C E dX1_put_38 (by decide) (by decide) hf
set_option maxRecDepth 100000 in
set_option maxHeartbeats 4000000 in
theorem w_Bytes_put {X : hh_X} {B e0 : Nat} {rr : Int32 × hh_H} (C : ok_Bytes_put X B e0) (E : hh_End X B e0 (.returned (some (.int rr.1))) rr.2 mc_Bytes_put ms_Bytes_put) (F : Nat) (a0 : Nat) (x1 : Int32) (h : hh_H)
    (hf : f_Bytes_put F a0 x1 h = some rr) : hh_W X 0 0 0 [(0, .ref (hh_ad B e0 a0)), (1, .int x1)] [] h := by
  unfold f_Bytes_put at hf
  refine r_aload_n C dX1_put_0 rfl 0 rfl ?_
  obtain ⟨v7, e8, hf⟩ := hp_bind hf
  refine r_getI C dX1_put_1 fl_RX1_15 e8 ?_
  refine r_aload_n C dX1_put_4 rfl 0 rfl ?_
  obtain ⟨v9, e10, hf⟩ := hp_bind hf
  refine r_getA C dX1_put_5 fl_RX1_9 e10 ?_
  obtain ⟨v11, e12, hf⟩ := hp_bind hf
  refine r_alen C dX1_put_8 e12 ?_
  refine r_icmp_ge C dX1_put_9 (tgt := 22) (by decide) (fun c13 => ?_) (fun c13 => ?_)
  · rw [if_pos c13] at hf
    refine hh_pick [0] rfl ?_
    exact w_Bytes_put_22 C E F a0 h hf
  · rw [if_neg c13] at hf
    refine r_aload_n C dX1_put_12 rfl 0 rfl ?_
    obtain ⟨v14, e15, hf⟩ := hp_bind hf
    refine r_getA C dX1_put_13 fl_RX1_9 e15 ?_
    refine r_aload_n C dX1_put_16 rfl 0 rfl ?_
    obtain ⟨v16, e17, hf⟩ := hp_bind hf
    refine r_getI C dX1_put_17 fl_RX1_15 e17 ?_
    refine r_iload_n C dX1_put_20 rfl 1 rfl ?_
    obtain ⟨h18, e19, hf⟩ := hp_bind hf
    refine r_si C dX1_put_21 e19 ?_
    refine hh_pick [0] rfl ?_
    exact w_Bytes_put_22 C E F a0 h18 hf
theorem c_Bytes_put (B e0 F : Nat) (a0 : Nat) (x1 : Int32) (h : hh_H) (rr : Int32 × hh_H) (hf : f_Bytes_put F a0 x1 h = some rr) : hh_Met yX1_put cX1_put 2 (some .int) rm_Bytes_put mc_Bytes_put ms_Bytes_put B e0 [.ref (hh_ad B e0 a0), .int x1] h (.returned (some (.int rr.1))) rr.2 :=
  hh_met (by decide) (Nat.le_of_ble_eq_true rfl) fun X C E => hh_pick [0, 1] rfl (w_Bytes_put C E F a0 x1 h hf)
def mc_Bytes_raise : Nat := 0
def ms_Bytes_raise : Nat := 0
def rm_Bytes_raise : Room := { frames := 0, cells := 0, slots := 0, locals := 0 }
abbrev ok_Bytes_raise (X : hh_X) (B e0 : Nat) : Prop := hh_ok X B e0 cX1_raise RX1 2 none "raise" rm_Bytes_raise
set_option maxRecDepth 100000 in
set_option maxHeartbeats 4000000 in
theorem w_Bytes_raise {X : hh_X} {B e0 : Nat} {rr : Unit × hh_H} (C : ok_Bytes_raise X B e0) (E : hh_End X B e0 (.returned none) rr.2 mc_Bytes_raise ms_Bytes_raise) (F : Nat) (a0 : Nat) (x1 : Int32) (h : hh_H)
    (hf : f_Bytes_raise F a0 x1 h = some rr) : hh_W X 0 0 0 [(0, .ref (hh_ad B e0 a0)), (1, .int x1)] [] h := by
  unfold f_Bytes_raise at hf
  refine r_iload_n C dX1_raise_0 rfl 1 rfl ?_
  refine r_if_lt C dX1_raise_1 (tgt := 23) (by decide) (fun c1 => ?_) (fun c1 => ?_)
  · rw [if_pos c1] at hf
    exact r_return C E dX1_raise_23 (by decide) (by decide) hf
  · rw [if_neg c1] at hf
    refine r_iload_n C dX1_raise_4 rfl 1 rfl ?_
    refine r_aload_n C dX1_raise_5 rfl 0 rfl ?_
    obtain ⟨v2, e3, hf⟩ := hp_bind hf
    refine r_getA C dX1_raise_6 fl_RX1_9 e3 ?_
    obtain ⟨v4, e5, hf⟩ := hp_bind hf
    refine r_alen C dX1_raise_9 e5 ?_
    refine r_icmp_ge C dX1_raise_10 (tgt := 23) (by decide) (fun c6 => ?_) (fun c6 => ?_)
    · rw [if_pos c6] at hf
      exact r_return C E dX1_raise_23 (by decide) (by decide) hf
    · rw [if_neg c6] at hf
      refine r_aload_n C dX1_raise_13 rfl 0 rfl ?_
      obtain ⟨v7, e8, hf⟩ := hp_bind hf
      refine r_getA C dX1_raise_14 fl_RX1_9 e8 ?_
      refine r_iload_n C dX1_raise_17 rfl 1 rfl ?_
      refine r_dup2 C dX1_raise_18 rfl rfl ?_
      obtain ⟨v9, e10, hf⟩ := hp_bind hf
      refine r_ai C dX1_raise_19 e10 ?_
      refine r_iconst C dX1_raise_20 (v := 1) (by decide) ?_
      refine r_iadd C dX1_raise_21 ?_
      obtain ⟨h11, e12, hf⟩ := hp_bind hf
      refine r_si C dX1_raise_22 e12 ?_
      exact r_return C E dX1_raise_23 (by decide) (by decide) hf
theorem c_Bytes_raise (B e0 F : Nat) (a0 : Nat) (x1 : Int32) (h : hh_H) (rr : Unit × hh_H) (hf : f_Bytes_raise F a0 x1 h = some rr) : hh_Met yX1_raise cX1_raise 2 none rm_Bytes_raise mc_Bytes_raise ms_Bytes_raise B e0 [.ref (hh_ad B e0 a0), .int x1] h (.returned none) rr.2 :=
  hh_met (by decide) (Nat.le_of_ble_eq_true rfl) fun X C E => hh_pick [0, 1] rfl (w_Bytes_raise C E F a0 x1 h hf)
def mc_Bytes_read : Nat := 0
def ms_Bytes_read : Nat := 0
def rm_Bytes_read : Room := { frames := 0, cells := 0, slots := 0, locals := 0 }
abbrev ok_Bytes_read (X : hh_X) (B e0 : Nat) : Prop := hh_ok X B e0 cX1_read RX1 1 (some .int) "read" rm_Bytes_read
set_option maxRecDepth 100000 in
set_option maxHeartbeats 4000000 in
theorem w_Bytes_read {X : hh_X} {B e0 : Nat} {rr : Int32 × hh_H} (C : ok_Bytes_read X B e0) (E : hh_End X B e0 (.returned (some (.int rr.1))) rr.2 mc_Bytes_read ms_Bytes_read) (F : Nat) (a0 : Nat) (h : hh_H)
    (hf : f_Bytes_read F a0 h = some rr) : hh_W X 0 0 0 [(0, .ref (hh_ad B e0 a0))] [] h := by
  unfold f_Bytes_read at hf
  refine r_aload_n C dX1_read_0 rfl 0 rfl ?_
  obtain ⟨v1, e2, hf⟩ := hp_bind hf
  refine r_getI C dX1_read_1 fl_RX1_19 e2 ?_
  refine r_aload_n C dX1_read_4 rfl 0 rfl ?_
  obtain ⟨v3, e4, hf⟩ := hp_bind hf
  refine r_getI C dX1_read_5 fl_RX1_15 e4 ?_
  refine r_icmp_ge C dX1_read_8 (tgt := 23) (by decide) (fun c5 => ?_) (fun c5 => ?_)
  · rw [if_pos c5] at hf
    refine r_bipush C dX1_read_23 (v := 127) (by decide) ?_
    exact r_ireturn C E dX1_read_25 (by decide) (by decide) hf
  · rw [if_neg c5] at hf
    refine r_aload_n C dX1_read_11 rfl 0 rfl ?_
    obtain ⟨v6, e7, hf⟩ := hp_bind hf
    refine r_getI C dX1_read_12 fl_RX1_19 e7 ?_
    refine r_aload_n C dX1_read_15 rfl 0 rfl ?_
    obtain ⟨v8, e9, hf⟩ := hp_bind hf
    refine r_getA C dX1_read_16 fl_RX1_9 e9 ?_
    obtain ⟨v10, e11, hf⟩ := hp_bind hf
    refine r_alen C dX1_read_19 e11 ?_
    refine r_icmp_lt C dX1_read_20 (tgt := 26) (by decide) (fun c12 => ?_) (fun c12 => ?_)
    · rw [if_pos c12] at hf
      refine r_aload_n C dX1_read_26 rfl 0 rfl ?_
      refine r_dup C dX1_read_27 rfl ?_
      obtain ⟨v13, e14, hf⟩ := hp_bind hf
      refine r_getI C dX1_read_28 fl_RX1_19 e14 ?_
      refine r_iconst C dX1_read_31 (v := 1) (by decide) ?_
      refine r_iadd C dX1_read_32 ?_
      obtain ⟨h15, e16, hf⟩ := hp_bind hf
      refine r_putI C dX1_read_33 fl_RX1_19 e16 ?_
      refine r_aload_n C dX1_read_36 rfl 0 rfl ?_
      obtain ⟨v17, e18, hf⟩ := hp_bind hf
      refine r_getA C dX1_read_37 fl_RX1_9 e18 ?_
      refine r_aload_n C dX1_read_40 rfl 0 rfl ?_
      obtain ⟨v19, e20, hf⟩ := hp_bind hf
      refine r_getI C dX1_read_41 fl_RX1_19 e20 ?_
      refine r_iconst C dX1_read_44 (v := 1) (by decide) ?_
      refine r_isub C dX1_read_45 ?_
      obtain ⟨v21, e22, hf⟩ := hp_bind hf
      refine r_ai C dX1_read_46 e22 ?_
      exact r_ireturn C E dX1_read_47 (by decide) (by decide) hf
    · rw [if_neg c12] at hf
      refine r_bipush C dX1_read_23 (v := 127) (by decide) ?_
      exact r_ireturn C E dX1_read_25 (by decide) (by decide) hf
theorem c_Bytes_read (B e0 F : Nat) (a0 : Nat) (h : hh_H) (rr : Int32 × hh_H) (hf : f_Bytes_read F a0 h = some rr) : hh_Met yX1_read cX1_read 1 (some .int) rm_Bytes_read mc_Bytes_read ms_Bytes_read B e0 [.ref (hh_ad B e0 a0)] h (.returned (some (.int rr.1))) rr.2 :=
  hh_met (by decide) (Nat.le_of_ble_eq_true rfl) fun X C E => hh_pick [0] rfl (w_Bytes_read C E F a0 h hf)
def mc_Bytes_encode : Nat := 0
def ms_Bytes_encode : Nat := 0
def rm_Bytes_encode : Room := { frames := 1, cells := 0, slots := 0, locals := 21 }
abbrev ok_Bytes_encode (X : hh_X) (B e0 : Nat) : Prop := hh_ok X B e0 cX1_encode RX1 10 none "encode" rm_Bytes_encode
set_option maxRecDepth 100000 in
set_option maxHeartbeats 4000000 in
theorem w_Bytes_encode_170 {X : hh_X} {B e0 : Nat} {rr : Unit × hh_H} (C : ok_Bytes_encode X B e0) (E : hh_End X B e0 (.returned none) rr.2 mc_Bytes_encode ms_Bytes_encode) (F : Nat) (a0 : Nat) (h : hh_H)
    (hf : f_Bytes_encode_170 F a0 h = some rr) : hh_W X 0 0 170 [(0, .ref (hh_ad B e0 a0))] [] h := by
  unfold f_Bytes_encode_170 at hf
  refine r_aload_n C dX1_encode_170 rfl 0 rfl ?_
  obtain ⟨v1, e2, hf⟩ := hp_bind hf
  refine r_getI C dX1_encode_171 fl_RX1_15 e2 ?_
  refine r_if_le C dX1_encode_174 (tgt := 184) (by decide) (fun c3 => ?_) (fun c3 => ?_)
  · rw [if_pos c3] at hf
    exact r_return C E dX1_encode_184 (by decide) (by decide) hf
  · rw [if_neg c3] at hf
    refine r_aload_n C dX1_encode_177 rfl 0 rfl ?_
    refine r_bipush C dX1_encode_178 (v := 127) (by decide) ?_
    obtain ⟨_, e7, hf⟩ := hp_bind hf
    obtain ⟨g8, e7⟩ := hp_is_of e7
    obtain ⟨q4, h5, e6, hf⟩ := hp_cbe hf
    refine r_callV C dX1_encode_180 cs_RX1_37 rfl e7 (c_Bytes_put B e0 F a0 127 h _ e6) rfl rfl rfl ⟨by decide, by decide⟩ ⟨by decide, by decide⟩ (Nat.le_of_ble_eq_true rfl) rfl ?_
    refine r_pop C dX1_encode_183 rfl ?_
    exact r_return C E dX1_encode_184 (by decide) (by decide) hf
set_option maxRecDepth 100000 in
set_option maxHeartbeats 4000000 in
theorem w_Bytes_encode_138 {X : hh_X} {B e0 : Nat} {rr : Unit × hh_H} (C : ok_Bytes_encode X B e0) (E : hh_End X B e0 (.returned none) rr.2 mc_Bytes_encode ms_Bytes_encode) (F : Nat) (r20 : Nat → Nat → Int32 → Int32 → Int32 → Int32 → Int32 → Int32 → hh_H → Option (Unit × hh_H)) (H20 : ∀ (a0 : Nat) (a1 : Nat) (x2 : Int32) (x3 : Int32) (x4 : Int32) (x5 : Int32) (x6 : Int32) (x7 : Int32) (h : hh_H), r20 a0 a1 x2 x3 x4 x5 x6 x7 h = some rr → hh_W X 0 0 20 [(0, .ref (hh_ad B e0 a0)), (1, .ref (hh_ad B e0 a1)), (2, .int x2), (3, .int x3), (4, .int x4), (5, .int x5), (6, .int x6), (7, .int x7)] [] h) (a0 : Nat) (a1 : Nat) (x2 : Int32) (x3 : Int32) (x4 : Int32) (x5 : Int32) (x6 : Int32) (x7 : Int32) (x8 : Int32) (h : hh_H)
    (hf : f_Bytes_encode_138 F r20 a0 a1 x2 x3 x4 x5 x6 x7 x8 h = some rr) : hh_W X 0 0 138 [(0, .ref (hh_ad B e0 a0)), (1, .ref (hh_ad B e0 a1)), (2, .int x2), (3, .int x3), (4, .int x4), (5, .int x5), (6, .int x6), (7, .int x7), (8, .int x8)] [] h := by
  unfold f_Bytes_encode_138 at hf
  refine r_aload_n C dX1_encode_138 rfl 0 rfl ?_
  refine r_iload C dX1_encode_139 8 rfl ?_
  obtain ⟨q9, h10, e11, hf⟩ := hp_cbe hf
  refine r_callS C dX1_encode_141 cs_RX1_47 (c_Postings_placeOf B e0 F x8 h _ e11) rfl rfl rfl ⟨by decide, by decide⟩ ⟨by decide, by decide⟩ (Nat.le_of_ble_eq_true rfl) rfl ?_
  refine r_iload C dX1_encode_144 4 rfl ?_
  refine r_isub C dX1_encode_146 ?_
  obtain ⟨_, e15, hf⟩ := hp_bind hf
  obtain ⟨g16, e15⟩ := hp_is_of e15
  obtain ⟨q12, h13, e14, hf⟩ := hp_cbe hf
  refine r_callV C dX1_encode_147 cs_RX1_37 rfl e15 (c_Bytes_put B e0 F a0 (q9 - x4) h10 _ e14) rfl rfl rfl ⟨by decide, by decide⟩ ⟨by decide, by decide⟩ (Nat.le_of_ble_eq_true rfl) rfl ?_
  refine r_pop C dX1_encode_150 rfl ?_
  refine r_iload C dX1_encode_151 8 rfl ?_
  obtain ⟨q17, h18, e19, hf⟩ := hp_cbe hf
  refine r_callS C dX1_encode_153 cs_RX1_47 (c_Postings_placeOf B e0 F x8 h13 _ e19) rfl rfl rfl ⟨by decide, by decide⟩ ⟨by decide, by decide⟩ (Nat.le_of_ble_eq_true rfl) rfl ?_
  refine r_istore (lv' := [(4, .int q17), (0, .ref (hh_ad B e0 a0)), (1, .ref (hh_ad B e0 a1)), (2, .int x2), (3, .int x3), (5, .int x5), (6, .int x6), (7, .int x7), (8, .int x8)]) C dX1_encode_156 (by decide) rfl ?_
  refine r_aload_n C dX1_encode_158 rfl 1 rfl ?_
  refine r_iload C dX1_encode_159 6 rfl ?_
  obtain ⟨_, e23, hf⟩ := hp_bind hf
  obtain ⟨g24, e23⟩ := hp_is_of e23
  obtain ⟨q20, h21, e22, hf⟩ := hp_cbe hf
  refine r_callV C dX1_encode_161 cs_RX1_43 rfl e23 (c_Bytes_raise B e0 F a0 x6 h18 _ e22) rfl rfl rfl ⟨by decide, by decide⟩ ⟨by decide, by decide⟩ (Nat.le_of_ble_eq_true rfl) rfl ?_
  refine r_iinc (lv' := [(7, .int (x7 + 1)), (4, .int q17), (0, .ref (hh_ad B e0 a0)), (1, .ref (hh_ad B e0 a1)), (2, .int x2), (3, .int x3), (5, .int x5), (6, .int x6), (8, .int x8)]) C dX1_encode_164 7 rfl rfl (by decide) rfl ?_
  refine r_goto C dX1_encode_167 (tgt := 20) (by decide) ?_
  refine hh_pick [2, 3, 4, 5, 1, 6, 7, 0] rfl ?_
  exact H20 a0 a1 x2 x3 q17 x5 x6 (x7 + 1) h21 hf
set_option maxRecDepth 100000 in
set_option maxHeartbeats 4000000 in
theorem w_Bytes_encode_104 {X : hh_X} {B e0 : Nat} {rr : Unit × hh_H} (C : ok_Bytes_encode X B e0) (E : hh_End X B e0 (.returned none) rr.2 mc_Bytes_encode ms_Bytes_encode) (F : Nat) (r20 : Nat → Nat → Int32 → Int32 → Int32 → Int32 → Int32 → Int32 → hh_H → Option (Unit × hh_H)) (H20 : ∀ (a0 : Nat) (a1 : Nat) (x2 : Int32) (x3 : Int32) (x4 : Int32) (x5 : Int32) (x6 : Int32) (x7 : Int32) (h : hh_H), r20 a0 a1 x2 x3 x4 x5 x6 x7 h = some rr → hh_W X 0 0 20 [(0, .ref (hh_ad B e0 a0)), (1, .ref (hh_ad B e0 a1)), (2, .int x2), (3, .int x3), (4, .int x4), (5, .int x5), (6, .int x6), (7, .int x7)] [] h) (a0 : Nat) (a1 : Nat) (x2 : Int32) (x3 : Int32) (x5 : Int32) (x7 : Int32) (x8 : Int32) (h : hh_H)
    (hf : f_Bytes_encode_104 F r20 a0 a1 x2 x3 x5 x7 x8 h = some rr) : hh_W X 0 0 104 [(0, .ref (hh_ad B e0 a0)), (1, .ref (hh_ad B e0 a1)), (2, .int x2), (3, .int x3), (5, .int x5), (7, .int x7), (8, .int x8)] [] h := by
  unfold f_Bytes_encode_104 at hf
  refine r_aload_n C dX1_encode_104 rfl 0 rfl ?_
  refine r_iload C dX1_encode_105 6 rfl ?_
  obtain ⟨q25, h26, e27, hf⟩ := hp_cbe hf
  refine r_callS C dX1_encode_107 cs_RX1_40 (c_Postings_documentOf B e0 F x8 h _ e27) rfl rfl rfl ⟨by decide, by decide⟩ ⟨by decide, by decide⟩ (Nat.le_of_ble_eq_true rfl) rfl ?_
  refine r_iload_n C dX1_encode_110 rfl 3 rfl ?_
  refine r_isub C dX1_encode_111 ?_
  obtain ⟨_, e31, hf⟩ := hp_bind hf
  obtain ⟨g32, e31⟩ := hp_is_of e31
  obtain ⟨q28, h29, e30, hf⟩ := hp_cbe hf
  refine r_callV C dX1_encode_112 cs_RX1_37 rfl e31 (c_Bytes_put B e0 F a0 (q25 - x3) h26 _ e30) rfl rfl rfl ⟨by decide, by decide⟩ ⟨by decide, by decide⟩ (Nat.le_of_ble_eq_true rfl) rfl ?_
  refine r_pop C dX1_encode_115 rfl ?_
  refine r_iload C dX1_encode_116 6 rfl ?_
  obtain ⟨q33, h34, e35, hf⟩ := hp_cbe hf
  refine r_callS C dX1_encode_118 cs_RX1_40 (c_Postings_documentOf B e0 F x8 h29 _ e35) rfl rfl rfl ⟨by decide, by decide⟩ ⟨by decide, by decide⟩ (Nat.le_of_ble_eq_true rfl) rfl ?_
  refine r_istore_n (lv' := [(3, .int q33), (0, .ref (hh_ad B e0 a0)), (1, .ref (hh_ad B e0 a1)), (2, .int x2), (5, .int x5), (7, .int x7), (8, .int x8)]) C dX1_encode_121 rfl (by decide) rfl ?_
  refine r_aload_n C dX1_encode_122 rfl 1 rfl ?_
  refine r_iload C dX1_encode_123 4 rfl ?_
  obtain ⟨_, e39, hf⟩ := hp_bind hf
  obtain ⟨g40, e39⟩ := hp_is_of e39
  obtain ⟨q36, h37, e38, hf⟩ := hp_cbe hf
  refine r_callV C dX1_encode_125 cs_RX1_43 rfl e39 (c_Bytes_raise B e0 F a0 x5 h34 _ e38) rfl rfl rfl ⟨by decide, by decide⟩ ⟨by decide, by decide⟩ (Nat.le_of_ble_eq_true rfl) rfl ?_
  refine r_aload_n C dX1_encode_128 rfl 1 rfl ?_
  refine r_iconst C dX1_encode_129 (v := 0) (by decide) ?_
  obtain ⟨_, e44, hf⟩ := hp_bind hf
  obtain ⟨g45, e44⟩ := hp_is_of e44
  obtain ⟨q41, h42, e43, hf⟩ := hp_cbe hf
  refine r_callV C dX1_encode_130 cs_RX1_37 rfl e44 (c_Bytes_put B e0 F a0 0 h37 _ e43) rfl rfl rfl ⟨by decide, by decide⟩ ⟨by decide, by decide⟩ (Nat.le_of_ble_eq_true rfl) rfl ?_
  refine r_istore (lv' := [(6, .int q41), (3, .int q33), (0, .ref (hh_ad B e0 a0)), (1, .ref (hh_ad B e0 a1)), (2, .int x2), (5, .int x5), (7, .int x7), (8, .int x8)]) C dX1_encode_133 (by decide) rfl ?_
  refine r_iconst C dX1_encode_135 (v := 0) (by decide) ?_
  refine r_istore (lv' := [(4, .int 0), (6, .int q41), (3, .int q33), (0, .ref (hh_ad B e0 a0)), (1, .ref (hh_ad B e0 a1)), (2, .int x2), (5, .int x5), (7, .int x7), (8, .int x8)]) C dX1_encode_136 (by decide) rfl ?_
  refine hh_pick [3, 4, 5, 2, 0, 6, 1, 7, 8] rfl ?_
  exact w_Bytes_encode_138 C E F r20 H20 a0 a1 x2 q33 0 x5 q41 x7 x8 h42 hf
set_option maxRecDepth 100000 in
set_option maxHeartbeats 4000000 in
theorem w_Bytes_encode_90 {X : hh_X} {B e0 : Nat} {rr : Unit × hh_H} (C : ok_Bytes_encode X B e0) (E : hh_End X B e0 (.returned none) rr.2 mc_Bytes_encode ms_Bytes_encode) (F : Nat) (r20 : Nat → Nat → Int32 → Int32 → Int32 → Int32 → Int32 → Int32 → hh_H → Option (Unit × hh_H)) (H20 : ∀ (a0 : Nat) (a1 : Nat) (x2 : Int32) (x3 : Int32) (x4 : Int32) (x5 : Int32) (x6 : Int32) (x7 : Int32) (h : hh_H), r20 a0 a1 x2 x3 x4 x5 x6 x7 h = some rr → hh_W X 0 0 20 [(0, .ref (hh_ad B e0 a0)), (1, .ref (hh_ad B e0 a1)), (2, .int x2), (3, .int x3), (4, .int x4), (5, .int x5), (6, .int x6), (7, .int x7)] [] h) (a0 : Nat) (a1 : Nat) (x2 : Int32) (x3 : Int32) (x4 : Int32) (x5 : Int32) (x6 : Int32) (x7 : Int32) (x8 : Int32) (x9 : Int32) (h : hh_H)
    (hf : f_Bytes_encode_90 F r20 a0 a1 x2 x3 x4 x5 x6 x7 x8 x9 h = some rr) : hh_W X 0 0 90 [(0, .ref (hh_ad B e0 a0)), (1, .ref (hh_ad B e0 a1)), (2, .int x2), (3, .int x3), (4, .int x4), (5, .int x5), (6, .int x6), (7, .int x7), (8, .int x8), (9, .int x9)] [] h := by
  unfold f_Bytes_encode_90 at hf
  refine r_iload C dX1_encode_90 9 rfl ?_
  refine r_if_ne C dX1_encode_92 (tgt := 104) (by decide) (fun c46 => ?_) (fun c46 => ?_)
  · rw [if_neg c46] at hf
    refine hh_pick [0, 1, 2, 3, 5, 7, 8] rfl ?_
    exact w_Bytes_encode_104 C E F r20 H20 a0 a1 x2 x3 x5 x7 x8 h hf
  · rw [if_pos c46] at hf
    refine r_iload C dX1_encode_95 8 rfl ?_
    obtain ⟨q47, h48, e49, hf⟩ := hp_cbe hf
    refine r_callS C dX1_encode_97 cs_RX1_40 (c_Postings_documentOf B e0 F x8 h _ e49) rfl rfl rfl ⟨by decide, by decide⟩ ⟨by decide, by decide⟩ (Nat.le_of_ble_eq_true rfl) rfl ?_
    refine r_iload_n C dX1_encode_100 rfl 3 rfl ?_
    refine r_icmp_eq C dX1_encode_101 (tgt := 138) (by decide) (fun c50 => ?_) (fun c50 => ?_)
    · rw [if_pos c50] at hf
      refine hh_pick [0, 1, 2, 3, 4, 5, 6, 7, 8] rfl ?_
      exact w_Bytes_encode_138 C E F r20 H20 a0 a1 x2 x3 x4 x5 x6 x7 x8 h48 hf
    · rw [if_neg c50] at hf
      refine hh_pick [0, 1, 2, 3, 5, 7, 8] rfl ?_
      exact w_Bytes_encode_104 C E F r20 H20 a0 a1 x2 x3 x5 x7 x8 h48 hf
set_option maxRecDepth 100000 in
set_option maxHeartbeats 4000000 in
theorem w_Bytes_encode_56 {X : hh_X} {B e0 : Nat} {rr : Unit × hh_H} (C : ok_Bytes_encode X B e0) (E : hh_End X B e0 (.returned none) rr.2 mc_Bytes_encode ms_Bytes_encode) (F : Nat) (r20 : Nat → Nat → Int32 → Int32 → Int32 → Int32 → Int32 → Int32 → hh_H → Option (Unit × hh_H)) (H20 : ∀ (a0 : Nat) (a1 : Nat) (x2 : Int32) (x3 : Int32) (x4 : Int32) (x5 : Int32) (x6 : Int32) (x7 : Int32) (h : hh_H), r20 a0 a1 x2 x3 x4 x5 x6 x7 h = some rr → hh_W X 0 0 20 [(0, .ref (hh_ad B e0 a0)), (1, .ref (hh_ad B e0 a1)), (2, .int x2), (3, .int x3), (4, .int x4), (5, .int x5), (6, .int x6), (7, .int x7)] [] h) (a0 : Nat) (a1 : Nat) (x2 : Int32) (x3 : Int32) (x4 : Int32) (x5 : Int32) (x6 : Int32) (x7 : Int32) (x8 : Int32) (s0 : Int32) (h : hh_H)
    (hf : f_Bytes_encode_56 F r20 a0 a1 x2 x3 x4 x5 x6 x7 x8 s0 h = some rr) : hh_W X 0 0 56 [(0, .ref (hh_ad B e0 a0)), (1, .ref (hh_ad B e0 a1)), (2, .int x2), (3, .int x3), (4, .int x4), (5, .int x5), (6, .int x6), (7, .int x7), (8, .int x8)] [.int s0] h := by
  unfold f_Bytes_encode_56 at hf
  refine r_istore (lv' := [(9, .int s0), (0, .ref (hh_ad B e0 a0)), (1, .ref (hh_ad B e0 a1)), (2, .int x2), (3, .int x3), (4, .int x4), (5, .int x5), (6, .int x6), (7, .int x7), (8, .int x8)]) C dX1_encode_56 (by decide) rfl ?_
  refine r_iload C dX1_encode_58 0 rfl ?_
  refine r_if_eq C dX1_encode_60 (tgt := 90) (by decide) (fun c51 => ?_) (fun c51 => ?_)
  · rw [if_pos c51] at hf
    refine hh_pick [1, 2, 3, 4, 5, 6, 7, 8, 9, 0] rfl ?_
    exact w_Bytes_encode_90 C E F r20 H20 a0 a1 x2 x3 x4 x5 x6 x7 x8 s0 h hf
  · rw [if_neg c51] at hf
    refine r_aload_n C dX1_encode_63 rfl 1 rfl ?_
    refine r_iload C dX1_encode_64 9 rfl ?_
    obtain ⟨q52, h53, e54, hf⟩ := hp_cbe hf
    refine r_callS C dX1_encode_66 cs_RX1_34 (c_Postings_wordOf B e0 F x8 h _ e54) rfl rfl rfl ⟨by decide, by decide⟩ ⟨by decide, by decide⟩ (Nat.le_of_ble_eq_true rfl) rfl ?_
    refine r_iload_n C dX1_encode_69 rfl 3 rfl ?_
    refine r_isub C dX1_encode_70 ?_
    obtain ⟨_, e58, hf⟩ := hp_bind hf
    obtain ⟨g59, e58⟩ := hp_is_of e58
    obtain ⟨q55, h56, e57, hf⟩ := hp_cbe hf
    refine r_callV C dX1_encode_71 cs_RX1_37 rfl e58 (c_Bytes_put B e0 F a0 (q52 - x2) h53 _ e57) rfl rfl rfl ⟨by decide, by decide⟩ ⟨by decide, by decide⟩ (Nat.le_of_ble_eq_true rfl) rfl ?_
    refine r_pop C dX1_encode_74 rfl ?_
    refine r_iload C dX1_encode_75 9 rfl ?_
    obtain ⟨q60, h61, e62, hf⟩ := hp_cbe hf
    refine r_callS C dX1_encode_77 cs_RX1_34 (c_Postings_wordOf B e0 F x8 h56 _ e62) rfl rfl rfl ⟨by decide, by decide⟩ ⟨by decide, by decide⟩ (Nat.le_of_ble_eq_true rfl) rfl ?_
    refine r_istore_n (lv' := [(2, .int q60), (9, .int s0), (0, .ref (hh_ad B e0 a0)), (1, .ref (hh_ad B e0 a1)), (3, .int x3), (4, .int x4), (5, .int x5), (6, .int x6), (7, .int x7), (8, .int x8)]) C dX1_encode_80 rfl (by decide) rfl ?_
    refine r_aload_n C dX1_encode_81 rfl 2 rfl ?_
    refine r_iconst C dX1_encode_82 (v := 0) (by decide) ?_
    obtain ⟨_, e66, hf⟩ := hp_bind hf
    obtain ⟨g67, e66⟩ := hp_is_of e66
    obtain ⟨q63, h64, e65, hf⟩ := hp_cbe hf
    refine r_callV C dX1_encode_83 cs_RX1_37 rfl e66 (c_Bytes_put B e0 F a0 0 h61 _ e65) rfl rfl rfl ⟨by decide, by decide⟩ ⟨by decide, by decide⟩ (Nat.le_of_ble_eq_true rfl) rfl ?_
    refine r_istore (lv' := [(5, .int q63), (2, .int q60), (9, .int s0), (0, .ref (hh_ad B e0 a0)), (1, .ref (hh_ad B e0 a1)), (3, .int x3), (4, .int x4), (6, .int x6), (7, .int x7), (8, .int x8)]) C dX1_encode_86 (by decide) rfl ?_
    refine r_iconst C dX1_encode_88 (v := 0) (by decide) ?_
    refine r_istore_n (lv' := [(3, .int 0), (5, .int q63), (2, .int q60), (9, .int s0), (0, .ref (hh_ad B e0 a0)), (1, .ref (hh_ad B e0 a1)), (4, .int x4), (6, .int x6), (7, .int x7), (8, .int x8)]) C dX1_encode_89 rfl (by decide) rfl ?_
    refine hh_pick [4, 5, 2, 0, 6, 1, 7, 8, 9, 3] rfl ?_
    exact w_Bytes_encode_90 C E F r20 H20 a0 a1 q60 0 x4 q63 x6 x7 x8 s0 h64 hf
set_option maxRecDepth 100000 in
set_option maxHeartbeats 4000000 in
theorem w_Bytes_encode_51 {X : hh_X} {B e0 : Nat} {rr : Unit × hh_H} (C : ok_Bytes_encode X B e0) (E : hh_End X B e0 (.returned none) rr.2 mc_Bytes_encode ms_Bytes_encode) (F : Nat) (r20 : Nat → Nat → Int32 → Int32 → Int32 → Int32 → Int32 → Int32 → hh_H → Option (Unit × hh_H)) (H20 : ∀ (a0 : Nat) (a1 : Nat) (x2 : Int32) (x3 : Int32) (x4 : Int32) (x5 : Int32) (x6 : Int32) (x7 : Int32) (h : hh_H), r20 a0 a1 x2 x3 x4 x5 x6 x7 h = some rr → hh_W X 0 0 20 [(0, .ref (hh_ad B e0 a0)), (1, .ref (hh_ad B e0 a1)), (2, .int x2), (3, .int x3), (4, .int x4), (5, .int x5), (6, .int x6), (7, .int x7)] [] h) (a0 : Nat) (a1 : Nat) (x2 : Int32) (x3 : Int32) (x4 : Int32) (x5 : Int32) (x6 : Int32) (x7 : Int32) (x8 : Int32) (h : hh_H)
    (hf : f_Bytes_encode_51 F r20 a0 a1 x2 x3 x4 x5 x6 x7 x8 h = some rr) : hh_W X 0 0 51 [(0, .ref (hh_ad B e0 a0)), (1, .ref (hh_ad B e0 a1)), (2, .int x2), (3, .int x3), (4, .int x4), (5, .int x5), (6, .int x6), (7, .int x7), (8, .int x8)] [] h := by
  unfold f_Bytes_encode_51 at hf
  refine r_iconst C dX1_encode_51 (v := 1) (by decide) ?_
  refine r_goto C dX1_encode_52 (tgt := 56) (by decide) ?_
  refine hh_pick [0, 1, 2, 3, 4, 5, 6, 7, 8] rfl ?_
  exact w_Bytes_encode_56 C E F r20 H20 a0 a1 x2 x3 x4 x5 x6 x7 x8 1 h hf
set_option maxRecDepth 100000 in
set_option maxHeartbeats 4000000 in
theorem w_Bytes_encode_20 {X : hh_X} {B e0 : Nat} {rr : Unit × hh_H} (C : ok_Bytes_encode X B e0) (E : hh_End X B e0 (.returned none) rr.2 mc_Bytes_encode ms_Bytes_encode) (F : Nat) (r20 : Nat → Nat → Int32 → Int32 → Int32 → Int32 → Int32 → Int32 → hh_H → Option (Unit × hh_H)) (H20 : ∀ (a0 : Nat) (a1 : Nat) (x2 : Int32) (x3 : Int32) (x4 : Int32) (x5 : Int32) (x6 : Int32) (x7 : Int32) (h : hh_H), r20 a0 a1 x2 x3 x4 x5 x6 x7 h = some rr → hh_W X 0 0 20 [(0, .ref (hh_ad B e0 a0)), (1, .ref (hh_ad B e0 a1)), (2, .int x2), (3, .int x3), (4, .int x4), (5, .int x5), (6, .int x6), (7, .int x7)] [] h) (a0 : Nat) (a1 : Nat) (x2 : Int32) (x3 : Int32) (x4 : Int32) (x5 : Int32) (x6 : Int32) (x7 : Int32) (h : hh_H)
    (hf : f_Bytes_encode_20 F r20 a0 a1 x2 x3 x4 x5 x6 x7 h = some rr) : hh_W X 0 0 20 [(0, .ref (hh_ad B e0 a0)), (1, .ref (hh_ad B e0 a1)), (2, .int x2), (3, .int x3), (4, .int x4), (5, .int x5), (6, .int x6), (7, .int x7)] [] h := by
  unfold f_Bytes_encode_20 at hf
  refine r_iload C dX1_encode_20 7 rfl ?_
  refine r_aload_n C dX1_encode_22 rfl 1 rfl ?_
  obtain ⟨_, e71, hf⟩ := hp_bind hf
  obtain ⟨g72, e71⟩ := hp_is_of e71
  obtain ⟨q68, h69, e70, hf⟩ := hp_cbe hf
  refine r_callV C dX1_encode_23 cs_RX1_25 rfl e71 (c_Postings_size B e0 F a1 h _ e70) rfl rfl rfl ⟨by decide, by decide⟩ ⟨by decide, by decide⟩ (Nat.le_of_ble_eq_true rfl) rfl ?_
  refine r_icmp_ge C dX1_encode_26 (tgt := 170) (by decide) (fun c73 => ?_) (fun c73 => ?_)
  · rw [if_pos c73] at hf
    refine hh_pick [0] rfl ?_
    exact w_Bytes_encode_170 C E F a0 h69 hf
  · rw [if_neg c73] at hf
    refine r_aload_n C dX1_encode_29 rfl 1 rfl ?_
    refine r_iload C dX1_encode_30 7 rfl ?_
    obtain ⟨_, e77, hf⟩ := hp_bind hf
    obtain ⟨g78, e77⟩ := hp_is_of e77
    obtain ⟨q74, h75, e76, hf⟩ := hp_cbe hf
    refine r_callV C dX1_encode_32 cs_RX1_30 rfl e77 (c_Postings_keyAt B e0 F a1 x7 h69 _ e76) rfl rfl rfl ⟨by decide, by decide⟩ ⟨by decide, by decide⟩ (Nat.le_of_ble_eq_true rfl) rfl ?_
    refine r_istore (lv' := [(8, .int q74), (0, .ref (hh_ad B e0 a0)), (1, .ref (hh_ad B e0 a1)), (2, .int x2), (3, .int x3), (4, .int x4), (5, .int x5), (6, .int x6), (7, .int x7)]) C dX1_encode_35 (by decide) rfl ?_
    refine r_iload C dX1_encode_37 8 rfl ?_
    refine r_if_eq C dX1_encode_39 (tgt := 51) (by decide) (fun c79 => ?_) (fun c79 => ?_)
    · rw [if_pos c79] at hf
      refine hh_pick [1, 2, 3, 4, 5, 6, 7, 8, 0] rfl ?_
      exact w_Bytes_encode_51 C E F r20 H20 a0 a1 x2 x3 x4 x5 x6 x7 q74 h75 hf
    · rw [if_neg c79] at hf
      refine r_iload C dX1_encode_42 0 rfl ?_
      obtain ⟨q80, h81, e82, hf⟩ := hp_cbe hf
      refine r_callS C dX1_encode_44 cs_RX1_34 (c_Postings_wordOf B e0 F q74 h75 _ e82) rfl rfl rfl ⟨by decide, by decide⟩ ⟨by decide, by decide⟩ (Nat.le_of_ble_eq_true rfl) rfl ?_
      refine r_iload_n C dX1_encode_47 rfl 3 rfl ?_
      refine r_icmp_eq C dX1_encode_48 (tgt := 55) (by decide) (fun c83 => ?_) (fun c83 => ?_)
      · rw [if_pos c83] at hf
        refine r_iconst C dX1_encode_55 (v := 0) (by decide) ?_
        refine hh_pick [1, 2, 3, 4, 5, 6, 7, 8, 0] rfl ?_
        exact w_Bytes_encode_56 C E F r20 H20 a0 a1 x2 x3 x4 x5 x6 x7 q74 0 h81 hf
      · rw [if_neg c83] at hf
        refine hh_pick [1, 2, 3, 4, 5, 6, 7, 8, 0] rfl ?_
        exact w_Bytes_encode_51 C E F r20 H20 a0 a1 x2 x3 x4 x5 x6 x7 q74 h81 hf
theorem wl_Bytes_encode_20 {X : hh_X} {B e0 : Nat} {rr : Unit × hh_H} (C : ok_Bytes_encode X B e0) (E : hh_End X B e0 (.returned none) rr.2 mc_Bytes_encode ms_Bytes_encode) (F : Nat) :
    ∀ (n : Nat) (a0 : Nat) (a1 : Nat) (x2 : Int32) (x3 : Int32) (x4 : Int32) (x5 : Int32) (x6 : Int32) (x7 : Int32) (h : hh_H), hp_it (fun _ _ _ _ _ _ _ _ _ => none) (f_Bytes_encode_20 F) n a0 a1 x2 x3 x4 x5 x6 x7 h = some rr → hh_W X 0 0 20 [(0, .ref (hh_ad B e0 a0)), (1, .ref (hh_ad B e0 a1)), (2, .int x2), (3, .int x3), (4, .int x4), (5, .int x5), (6, .int x6), (7, .int x7)] [] h := by
  intro n
  induction n with
  | zero => intro a0 a1 x2 x3 x4 x5 x6 x7 h hf; cases hf
  | succ n ih =>
    intro a0 a1 x2 x3 x4 x5 x6 x7 h hf
    exact w_Bytes_encode_20 C E F _ ih a0 a1 x2 x3 x4 x5 x6 x7 h hf
set_option maxRecDepth 100000 in
set_option maxHeartbeats 4000000 in
theorem w_Bytes_encode {X : hh_X} {B e0 : Nat} {rr : Unit × hh_H} (C : ok_Bytes_encode X B e0) (E : hh_End X B e0 (.returned none) rr.2 mc_Bytes_encode ms_Bytes_encode) (F : Nat) (a0 : Nat) (a1 : Nat) (h : hh_H)
    (hf : f_Bytes_encode F a0 a1 h = some rr) : hh_W X 0 0 0 [(0, .ref (hh_ad B e0 a0)), (1, .ref (hh_ad B e0 a1))] [] h := by
  unfold f_Bytes_encode at hf
  refine r_aload_n C dX1_encode_0 rfl 0 rfl ?_
  obtain ⟨_, e87, hf⟩ := hp_bind hf
  obtain ⟨g88, e87⟩ := hp_is_of e87
  obtain ⟨q84, h85, e86, hf⟩ := hp_cbe hf
  refine r_callV C dX1_encode_1 cs_RX1_22 rfl e87 (c_Bytes_clear B e0 F a0 h _ e86) rfl rfl rfl ⟨by decide, by decide⟩ ⟨by decide, by decide⟩ (Nat.le_of_ble_eq_true rfl) rfl ?_
  refine r_iconst C dX1_encode_4 (v := 0) (by decide) ?_
  refine r_istore_n (lv' := [(2, .int 0), (0, .ref (hh_ad B e0 a0)), (1, .ref (hh_ad B e0 a1))]) C dX1_encode_5 rfl (by decide) rfl ?_
  refine r_iconst C dX1_encode_6 (v := 0) (by decide) ?_
  refine r_istore_n (lv' := [(3, .int 0), (2, .int 0), (0, .ref (hh_ad B e0 a0)), (1, .ref (hh_ad B e0 a1))]) C dX1_encode_7 rfl (by decide) rfl ?_
  refine r_iconst C dX1_encode_8 (v := 0) (by decide) ?_
  refine r_istore (lv' := [(4, .int 0), (3, .int 0), (2, .int 0), (0, .ref (hh_ad B e0 a0)), (1, .ref (hh_ad B e0 a1))]) C dX1_encode_9 (by decide) rfl ?_
  refine r_iconst C dX1_encode_11 (v := 0) (by decide) ?_
  refine r_istore (lv' := [(5, .int 0), (4, .int 0), (3, .int 0), (2, .int 0), (0, .ref (hh_ad B e0 a0)), (1, .ref (hh_ad B e0 a1))]) C dX1_encode_12 (by decide) rfl ?_
  refine r_iconst C dX1_encode_14 (v := 0) (by decide) ?_
  refine r_istore (lv' := [(6, .int 0), (5, .int 0), (4, .int 0), (3, .int 0), (2, .int 0), (0, .ref (hh_ad B e0 a0)), (1, .ref (hh_ad B e0 a1))]) C dX1_encode_15 (by decide) rfl ?_
  refine r_iconst C dX1_encode_17 (v := 0) (by decide) ?_
  refine r_istore (lv' := [(7, .int 0), (6, .int 0), (5, .int 0), (4, .int 0), (3, .int 0), (2, .int 0), (0, .ref (hh_ad B e0 a0)), (1, .ref (hh_ad B e0 a1))]) C dX1_encode_18 (by decide) rfl ?_
  refine hh_pick [6, 7, 5, 4, 3, 2, 1, 0] rfl ?_
  exact wl_Bytes_encode_20 C E F F a0 a1 0 0 0 0 0 0 h85 hf
theorem c_Bytes_encode (B e0 F : Nat) (a0 : Nat) (a1 : Nat) (h : hh_H) (rr : Unit × hh_H) (hf : f_Bytes_encode F a0 a1 h = some rr) : hh_Met yX1_encode cX1_encode 10 none rm_Bytes_encode mc_Bytes_encode ms_Bytes_encode B e0 [.ref (hh_ad B e0 a0), .ref (hh_ad B e0 a1)] h (.returned none) rr.2 :=
  hh_met (by decide) (Nat.le_of_ble_eq_true rfl) fun X C E => hh_pick [0, 1] rfl (w_Bytes_encode C E F a0 a1 h hf)
def mc_Bytes_decode : Nat := 0
def ms_Bytes_decode : Nat := 0
def rm_Bytes_decode : Room := { frames := 1, cells := 0, slots := 0, locals := 22 }
abbrev ok_Bytes_decode (X : hh_X) (B e0 : Nat) : Prop := hh_ok X B e0 cX1_decode RX1 11 none "decode" rm_Bytes_decode
set_option maxRecDepth 100000 in
set_option maxHeartbeats 4000000 in
theorem w_Bytes_decode_116 {X : hh_X} {B e0 : Nat} {rr : Unit × hh_H} (C : ok_Bytes_decode X B e0) (E : hh_End X B e0 (.returned none) rr.2 mc_Bytes_decode ms_Bytes_decode) (F : Nat) (r19 : Nat → Nat → Int32 → Int32 → Int32 → hh_H → Option (Unit × hh_H)) (H19 : ∀ (a0 : Nat) (a1 : Nat) (x2 : Int32) (x3 : Int32) (x4 : Int32) (h : hh_H), r19 a0 a1 x2 x3 x4 h = some rr → hh_W X 0 0 19 [(0, .ref (hh_ad B e0 a0)), (1, .ref (hh_ad B e0 a1)), (2, .int x2), (3, .int x3), (4, .int x4)] [] h) (a0 : Nat) (a1 : Nat) (x2 : Int32) (x4 : Int32) (h : hh_H)
    (hf : f_Bytes_decode_116 F r19 a0 a1 x2 x4 h = some rr) : hh_W X 0 0 116 [(0, .ref (hh_ad B e0 a0)), (1, .ref (hh_ad B e0 a1)), (2, .int x2), (4, .int x4)] [] h := by
  unfold f_Bytes_decode_116 at hf
  refine r_aload_n C dX1_decode_116 rfl 0 rfl ?_
  obtain ⟨_, e4, hf⟩ := hp_bind hf
  obtain ⟨g5, e4⟩ := hp_is_of e4
  obtain ⟨q1, h2, e3, hf⟩ := hp_cbe hf
  refine r_callV C dX1_decode_117 cs_RX1_51 rfl e4 (c_Bytes_read B e0 F a0 h _ e3) rfl rfl rfl ⟨by decide, by decide⟩ ⟨by decide, by decide⟩ (Nat.le_of_ble_eq_true rfl) rfl ?_
  refine r_istore_n (lv' := [(3, .int q1), (0, .ref (hh_ad B e0 a0)), (1, .ref (hh_ad B e0 a1)), (2, .int x2), (4, .int x4)]) C dX1_decode_120 rfl (by decide) rfl ?_
  refine r_iinc (lv' := [(4, .int (x4 + 1)), (3, .int q1), (0, .ref (hh_ad B e0 a0)), (1, .ref (hh_ad B e0 a1)), (2, .int x2)]) C dX1_decode_121 4 rfl rfl (by decide) rfl ?_
  refine r_goto C dX1_decode_124 (tgt := 19) (by decide) ?_
  refine hh_pick [2, 3, 4, 1, 0] rfl ?_
  exact H19 a0 a1 x2 q1 (x4 + 1) h2 hf
set_option maxRecDepth 100000 in
set_option maxHeartbeats 4000000 in
theorem w_Bytes_decode_76 {X : hh_X} {B e0 : Nat} {rr : Unit × hh_H} (C : ok_Bytes_decode X B e0) (E : hh_End X B e0 (.returned none) rr.2 mc_Bytes_decode ms_Bytes_decode) (F : Nat) (r19 : Nat → Nat → Int32 → Int32 → Int32 → hh_H → Option (Unit × hh_H)) (r48 : Nat → Nat → Int32 → Int32 → Int32 → Int32 → Int32 → hh_H → Option (Unit × hh_H)) (r76 : Nat → Nat → Int32 → Int32 → Int32 → Int32 → Int32 → Int32 → Int32 → Int32 → hh_H → Option (Unit × hh_H)) (H19 : ∀ (a0 : Nat) (a1 : Nat) (x2 : Int32) (x3 : Int32) (x4 : Int32) (h : hh_H), r19 a0 a1 x2 x3 x4 h = some rr → hh_W X 0 0 19 [(0, .ref (hh_ad B e0 a0)), (1, .ref (hh_ad B e0 a1)), (2, .int x2), (3, .int x3), (4, .int x4)] [] h) (H48 : ∀ (a0 : Nat) (a1 : Nat) (x2 : Int32) (x4 : Int32) (x5 : Int32) (x6 : Int32) (x7 : Int32) (h : hh_H), r48 a0 a1 x2 x4 x5 x6 x7 h = some rr → hh_W X 0 0 48 [(0, .ref (hh_ad B e0 a0)), (1, .ref (hh_ad B e0 a1)), (2, .int x2), (4, .int x4), (5, .int x5), (6, .int x6), (7, .int x7)] [] h) (H76 : ∀ (a0 : Nat) (a1 : Nat) (x2 : Int32) (x4 : Int32) (x5 : Int32) (x6 : Int32) (x7 : Int32) (x8 : Int32) (x9 : Int32) (x10 : Int32) (h : hh_H), r76 a0 a1 x2 x4 x5 x6 x7 x8 x9 x10 h = some rr → hh_W X 0 0 76 [(0, .ref (hh_ad B e0 a0)), (1, .ref (hh_ad B e0 a1)), (2, .int x2), (4, .int x4), (5, .int x5), (6, .int x6), (7, .int x7), (8, .int x8), (9, .int x9), (10, .int x10)] [] h) (a0 : Nat) (a1 : Nat) (x2 : Int32) (x4 : Int32) (x5 : Int32) (x6 : Int32) (x7 : Int32) (x8 : Int32) (x9 : Int32) (x10 : Int32) (h : hh_H)
    (hf : f_Bytes_decode_76 F r19 r48 r76 a0 a1 x2 x4 x5 x6 x7 x8 x9 x10 h = some rr) : hh_W X 0 0 76 [(0, .ref (hh_ad B e0 a0)), (1, .ref (hh_ad B e0 a1)), (2, .int x2), (4, .int x4), (5, .int x5), (6, .int x6), (7, .int x7), (8, .int x8), (9, .int x9), (10, .int x10)] [] h := by
  unfold f_Bytes_decode_76 at hf
  refine r_iload C dX1_decode_76 9 rfl ?_
  refine r_iload C dX1_decode_78 7 rfl ?_
  refine r_icmp_ge C dX1_decode_80 (tgt := 110) (by decide) (fun c6 => ?_) (fun c6 => ?_)
  · rw [if_pos c6] at hf
    refine r_iinc (lv' := [(7, .int (x7 + 1)), (0, .ref (hh_ad B e0 a0)), (1, .ref (hh_ad B e0 a1)), (2, .int x2), (4, .int x4), (5, .int x5), (6, .int x6), (8, .int x8), (9, .int x9), (10, .int x10)]) C dX1_decode_110 6 rfl rfl (by decide) rfl ?_
    refine r_goto C dX1_decode_113 (tgt := 48) (by decide) ?_
    refine hh_pick [1, 2, 3, 4, 5, 6, 0] rfl ?_
    exact H48 a0 a1 x2 x4 x5 x6 (x7 + 1) h hf
  · rw [if_neg c6] at hf
    refine r_iload C dX1_decode_83 8 rfl ?_
    refine r_aload_n C dX1_decode_85 rfl 0 rfl ?_
    obtain ⟨_, e10, hf⟩ := hp_bind hf
    obtain ⟨g11, e10⟩ := hp_is_of e10
    obtain ⟨q7, h8, e9, hf⟩ := hp_cbe hf
    refine r_callV C dX1_decode_86 cs_RX1_51 rfl e10 (c_Bytes_read B e0 F a0 h _ e9) rfl rfl rfl ⟨by decide, by decide⟩ ⟨by decide, by decide⟩ (Nat.le_of_ble_eq_true rfl) rfl ?_
    refine r_iadd C dX1_decode_89 ?_
    refine r_istore (lv' := [(9, .int (x9 + q7)), (0, .ref (hh_ad B e0 a0)), (1, .ref (hh_ad B e0 a1)), (2, .int x2), (4, .int x4), (5, .int x5), (6, .int x6), (7, .int x7), (8, .int x8), (10, .int x10)]) C dX1_decode_90 (by decide) rfl ?_
    refine r_aload_n C dX1_decode_92 rfl 2 rfl ?_
    refine r_iload_n C dX1_decode_93 rfl 3 rfl ?_
    refine r_iload C dX1_decode_94 6 rfl ?_
    refine r_iload C dX1_decode_96 0 rfl ?_
    obtain ⟨q12, h13, e14, hf⟩ := hp_cbe hf
    refine r_callS C dX1_decode_98 cs_RX1_54 (c_Postings_keyOf B e0 F x2 x6 (x9 + q7) h8 _ e14) rfl rfl rfl ⟨by decide, by decide⟩ ⟨by decide, by decide⟩ (Nat.le_of_ble_eq_true rfl) rfl ?_
    obtain ⟨_, e18, hf⟩ := hp_bind hf
    obtain ⟨g19, e18⟩ := hp_is_of e18
    obtain ⟨q15, h16, e17, hf⟩ := hp_cbe hf
    refine r_callV C dX1_decode_101 cs_RX1_58 rfl e18 (c_Postings_insert B e0 F a1 q12 h13 _ e17) rfl rfl rfl ⟨by decide, by decide⟩ ⟨by decide, by decide⟩ (Nat.le_of_ble_eq_true rfl) rfl ?_
    refine r_iinc (lv' := [(10, .int (x10 + 1)), (9, .int (x9 + q7)), (0, .ref (hh_ad B e0 a0)), (1, .ref (hh_ad B e0 a1)), (2, .int x2), (4, .int x4), (5, .int x5), (6, .int x6), (7, .int x7), (8, .int x8)]) C dX1_decode_104 9 rfl rfl (by decide) rfl ?_
    refine r_goto C dX1_decode_107 (tgt := 76) (by decide) ?_
    refine hh_pick [2, 3, 4, 5, 6, 7, 8, 9, 1, 0] rfl ?_
    exact H76 a0 a1 x2 x4 x5 x6 x7 x8 (x9 + q7) (x10 + 1) h16 hf
theorem wl_Bytes_decode_76 {X : hh_X} {B e0 : Nat} {rr : Unit × hh_H} (C : ok_Bytes_decode X B e0) (E : hh_End X B e0 (.returned none) rr.2 mc_Bytes_decode ms_Bytes_decode) (F : Nat) (r19 : Nat → Nat → Int32 → Int32 → Int32 → hh_H → Option (Unit × hh_H)) (r48 : Nat → Nat → Int32 → Int32 → Int32 → Int32 → Int32 → hh_H → Option (Unit × hh_H)) (H19 : ∀ (a0 : Nat) (a1 : Nat) (x2 : Int32) (x3 : Int32) (x4 : Int32) (h : hh_H), r19 a0 a1 x2 x3 x4 h = some rr → hh_W X 0 0 19 [(0, .ref (hh_ad B e0 a0)), (1, .ref (hh_ad B e0 a1)), (2, .int x2), (3, .int x3), (4, .int x4)] [] h) (H48 : ∀ (a0 : Nat) (a1 : Nat) (x2 : Int32) (x4 : Int32) (x5 : Int32) (x6 : Int32) (x7 : Int32) (h : hh_H), r48 a0 a1 x2 x4 x5 x6 x7 h = some rr → hh_W X 0 0 48 [(0, .ref (hh_ad B e0 a0)), (1, .ref (hh_ad B e0 a1)), (2, .int x2), (4, .int x4), (5, .int x5), (6, .int x6), (7, .int x7)] [] h) :
    ∀ (n : Nat) (a0 : Nat) (a1 : Nat) (x2 : Int32) (x4 : Int32) (x5 : Int32) (x6 : Int32) (x7 : Int32) (x8 : Int32) (x9 : Int32) (x10 : Int32) (h : hh_H), hp_it (fun _ _ _ _ _ _ _ _ _ _ _ => none) (f_Bytes_decode_76 F r19 r48) n a0 a1 x2 x4 x5 x6 x7 x8 x9 x10 h = some rr → hh_W X 0 0 76 [(0, .ref (hh_ad B e0 a0)), (1, .ref (hh_ad B e0 a1)), (2, .int x2), (4, .int x4), (5, .int x5), (6, .int x6), (7, .int x7), (8, .int x8), (9, .int x9), (10, .int x10)] [] h := by
  intro n
  induction n with
  | zero => intro a0 a1 x2 x4 x5 x6 x7 x8 x9 x10 h hf; cases hf
  | succ n ih =>
    intro a0 a1 x2 x4 x5 x6 x7 x8 x9 x10 h hf
    exact w_Bytes_decode_76 C E F r19 r48 _ H19 H48 ih a0 a1 x2 x4 x5 x6 x7 x8 x9 x10 h hf
set_option maxRecDepth 100000 in
set_option maxHeartbeats 4000000 in
theorem w_Bytes_decode_48 {X : hh_X} {B e0 : Nat} {rr : Unit × hh_H} (C : ok_Bytes_decode X B e0) (E : hh_End X B e0 (.returned none) rr.2 mc_Bytes_decode ms_Bytes_decode) (F : Nat) (r19 : Nat → Nat → Int32 → Int32 → Int32 → hh_H → Option (Unit × hh_H)) (r48 : Nat → Nat → Int32 → Int32 → Int32 → Int32 → Int32 → hh_H → Option (Unit × hh_H)) (H19 : ∀ (a0 : Nat) (a1 : Nat) (x2 : Int32) (x3 : Int32) (x4 : Int32) (h : hh_H), r19 a0 a1 x2 x3 x4 h = some rr → hh_W X 0 0 19 [(0, .ref (hh_ad B e0 a0)), (1, .ref (hh_ad B e0 a1)), (2, .int x2), (3, .int x3), (4, .int x4)] [] h) (H48 : ∀ (a0 : Nat) (a1 : Nat) (x2 : Int32) (x4 : Int32) (x5 : Int32) (x6 : Int32) (x7 : Int32) (h : hh_H), r48 a0 a1 x2 x4 x5 x6 x7 h = some rr → hh_W X 0 0 48 [(0, .ref (hh_ad B e0 a0)), (1, .ref (hh_ad B e0 a1)), (2, .int x2), (4, .int x4), (5, .int x5), (6, .int x6), (7, .int x7)] [] h) (a0 : Nat) (a1 : Nat) (x2 : Int32) (x4 : Int32) (x5 : Int32) (x6 : Int32) (x7 : Int32) (h : hh_H)
    (hf : f_Bytes_decode_48 F r19 r48 a0 a1 x2 x4 x5 x6 x7 h = some rr) : hh_W X 0 0 48 [(0, .ref (hh_ad B e0 a0)), (1, .ref (hh_ad B e0 a1)), (2, .int x2), (4, .int x4), (5, .int x5), (6, .int x6), (7, .int x7)] [] h := by
  unfold f_Bytes_decode_48 at hf
  refine r_iload C dX1_decode_48 6 rfl ?_
  refine r_iload C dX1_decode_50 4 rfl ?_
  refine r_icmp_ge C dX1_decode_52 (tgt := 116) (by decide) (fun c20 => ?_) (fun c20 => ?_)
  · rw [if_pos c20] at hf
    refine hh_pick [0, 1, 2, 3] rfl ?_
    exact w_Bytes_decode_116 C E F r19 H19 a0 a1 x2 x4 h hf
  · rw [if_neg c20] at hf
    refine r_iload C dX1_decode_55 5 rfl ?_
    refine r_aload_n C dX1_decode_57 rfl 0 rfl ?_
    obtain ⟨_, e24, hf⟩ := hp_bind hf
    obtain ⟨g25, e24⟩ := hp_is_of e24
    obtain ⟨q21, h22, e23, hf⟩ := hp_cbe hf
    refine r_callV C dX1_decode_58 cs_RX1_51 rfl e24 (c_Bytes_read B e0 F a0 h _ e23) rfl rfl rfl ⟨by decide, by decide⟩ ⟨by decide, by decide⟩ (Nat.le_of_ble_eq_true rfl) rfl ?_
    refine r_iadd C dX1_decode_61 ?_
    refine r_istore (lv' := [(6, .int (x6 + q21)), (0, .ref (hh_ad B e0 a0)), (1, .ref (hh_ad B e0 a1)), (2, .int x2), (4, .int x4), (5, .int x5), (7, .int x7)]) C dX1_decode_62 (by decide) rfl ?_
    refine r_aload_n C dX1_decode_64 rfl 1 rfl ?_
    obtain ⟨_, e29, hf⟩ := hp_bind hf
    obtain ⟨g30, e29⟩ := hp_is_of e29
    obtain ⟨q26, h27, e28, hf⟩ := hp_cbe hf
    refine r_callV C dX1_decode_65 cs_RX1_51 rfl e29 (c_Bytes_read B e0 F a0 h22 _ e28) rfl rfl rfl ⟨by decide, by decide⟩ ⟨by decide, by decide⟩ (Nat.le_of_ble_eq_true rfl) rfl ?_
    refine r_istore (lv' := [(8, .int q26), (6, .int (x6 + q21)), (0, .ref (hh_ad B e0 a0)), (1, .ref (hh_ad B e0 a1)), (2, .int x2), (4, .int x4), (5, .int x5), (7, .int x7)]) C dX1_decode_68 (by decide) rfl ?_
    refine r_iconst C dX1_decode_70 (v := 0) (by decide) ?_
    refine r_istore (lv' := [(9, .int 0), (8, .int q26), (6, .int (x6 + q21)), (0, .ref (hh_ad B e0 a0)), (1, .ref (hh_ad B e0 a1)), (2, .int x2), (4, .int x4), (5, .int x5), (7, .int x7)]) C dX1_decode_71 (by decide) rfl ?_
    refine r_iconst C dX1_decode_73 (v := 0) (by decide) ?_
    refine r_istore (lv' := [(10, .int 0), (9, .int 0), (8, .int q26), (6, .int (x6 + q21)), (0, .ref (hh_ad B e0 a0)), (1, .ref (hh_ad B e0 a1)), (2, .int x2), (4, .int x4), (5, .int x5), (7, .int x7)]) C dX1_decode_74 (by decide) rfl ?_
    refine hh_pick [4, 5, 6, 7, 8, 3, 9, 2, 1, 0] rfl ?_
    exact wl_Bytes_decode_76 C E F r19 r48 H19 H48 F a0 a1 x2 x4 x5 (x6 + q21) x7 q26 0 0 h27 hf
theorem wl_Bytes_decode_48 {X : hh_X} {B e0 : Nat} {rr : Unit × hh_H} (C : ok_Bytes_decode X B e0) (E : hh_End X B e0 (.returned none) rr.2 mc_Bytes_decode ms_Bytes_decode) (F : Nat) (r19 : Nat → Nat → Int32 → Int32 → Int32 → hh_H → Option (Unit × hh_H)) (H19 : ∀ (a0 : Nat) (a1 : Nat) (x2 : Int32) (x3 : Int32) (x4 : Int32) (h : hh_H), r19 a0 a1 x2 x3 x4 h = some rr → hh_W X 0 0 19 [(0, .ref (hh_ad B e0 a0)), (1, .ref (hh_ad B e0 a1)), (2, .int x2), (3, .int x3), (4, .int x4)] [] h) :
    ∀ (n : Nat) (a0 : Nat) (a1 : Nat) (x2 : Int32) (x4 : Int32) (x5 : Int32) (x6 : Int32) (x7 : Int32) (h : hh_H), hp_it (fun _ _ _ _ _ _ _ _ => none) (f_Bytes_decode_48 F r19) n a0 a1 x2 x4 x5 x6 x7 h = some rr → hh_W X 0 0 48 [(0, .ref (hh_ad B e0 a0)), (1, .ref (hh_ad B e0 a1)), (2, .int x2), (4, .int x4), (5, .int x5), (6, .int x6), (7, .int x7)] [] h := by
  intro n
  induction n with
  | zero => intro a0 a1 x2 x4 x5 x6 x7 h hf; cases hf
  | succ n ih =>
    intro a0 a1 x2 x4 x5 x6 x7 h hf
    exact w_Bytes_decode_48 C E F r19 _ H19 ih a0 a1 x2 x4 x5 x6 x7 h hf
set_option maxRecDepth 100000 in
set_option maxHeartbeats 4000000 in
theorem w_Bytes_decode_19 {X : hh_X} {B e0 : Nat} {rr : Unit × hh_H} (C : ok_Bytes_decode X B e0) (E : hh_End X B e0 (.returned none) rr.2 mc_Bytes_decode ms_Bytes_decode) (F : Nat) (r19 : Nat → Nat → Int32 → Int32 → Int32 → hh_H → Option (Unit × hh_H)) (H19 : ∀ (a0 : Nat) (a1 : Nat) (x2 : Int32) (x3 : Int32) (x4 : Int32) (h : hh_H), r19 a0 a1 x2 x3 x4 h = some rr → hh_W X 0 0 19 [(0, .ref (hh_ad B e0 a0)), (1, .ref (hh_ad B e0 a1)), (2, .int x2), (3, .int x3), (4, .int x4)] [] h) (a0 : Nat) (a1 : Nat) (x2 : Int32) (x3 : Int32) (x4 : Int32) (h : hh_H)
    (hf : f_Bytes_decode_19 F r19 a0 a1 x2 x3 x4 h = some rr) : hh_W X 0 0 19 [(0, .ref (hh_ad B e0 a0)), (1, .ref (hh_ad B e0 a1)), (2, .int x2), (3, .int x3), (4, .int x4)] [] h := by
  unfold f_Bytes_decode_19 at hf
  refine r_iload C dX1_decode_19 4 rfl ?_
  refine r_bipush C dX1_decode_21 (v := 100) (by decide) ?_
  refine r_icmp_ge C dX1_decode_23 (tgt := 127) (by decide) (fun c31 => ?_) (fun c31 => ?_)
  · rw [if_pos c31] at hf
    exact r_return C E dX1_decode_127 (by decide) (by decide) hf
  · rw [if_neg c31] at hf
    refine r_iload_n C dX1_decode_26 rfl 3 rfl ?_
    refine r_bipush C dX1_decode_27 (v := 127) (by decide) ?_
    refine r_icmp_eq C dX1_decode_29 (tgt := 127) (by decide) (fun c32 => ?_) (fun c32 => ?_)
    · rw [if_pos c32] at hf
      exact r_return C E dX1_decode_127 (by decide) (by decide) hf
    · rw [if_neg c32] at hf
      refine r_iload_n C dX1_decode_32 rfl 2 rfl ?_
      refine r_iload_n C dX1_decode_33 rfl 3 rfl ?_
      refine r_iadd C dX1_decode_34 ?_
      refine r_istore_n (lv' := [(2, .int (x2 + x3)), (0, .ref (hh_ad B e0 a0)), (1, .ref (hh_ad B e0 a1)), (3, .int x3), (4, .int x4)]) C dX1_decode_35 rfl (by decide) rfl ?_
      refine r_aload_n C dX1_decode_36 rfl 1 rfl ?_
      obtain ⟨_, e36, hf⟩ := hp_bind hf
      obtain ⟨g37, e36⟩ := hp_is_of e36
      obtain ⟨q33, h34, e35, hf⟩ := hp_cbe hf
      refine r_callV C dX1_decode_37 cs_RX1_51 rfl e36 (c_Bytes_read B e0 F a0 h _ e35) rfl rfl rfl ⟨by decide, by decide⟩ ⟨by decide, by decide⟩ (Nat.le_of_ble_eq_true rfl) rfl ?_
      refine r_istore (lv' := [(5, .int q33), (2, .int (x2 + x3)), (0, .ref (hh_ad B e0 a0)), (1, .ref (hh_ad B e0 a1)), (3, .int x3), (4, .int x4)]) C dX1_decode_40 (by decide) rfl ?_
      refine r_iconst C dX1_decode_42 (v := 0) (by decide) ?_
      refine r_istore (lv' := [(6, .int 0), (5, .int q33), (2, .int (x2 + x3)), (0, .ref (hh_ad B e0 a0)), (1, .ref (hh_ad B e0 a1)), (3, .int x3), (4, .int x4)]) C dX1_decode_43 (by decide) rfl ?_
      refine r_iconst C dX1_decode_45 (v := 0) (by decide) ?_
      refine r_istore (lv' := [(7, .int 0), (6, .int 0), (5, .int q33), (2, .int (x2 + x3)), (0, .ref (hh_ad B e0 a0)), (1, .ref (hh_ad B e0 a1)), (3, .int x3), (4, .int x4)]) C dX1_decode_46 (by decide) rfl ?_
      refine hh_pick [4, 5, 3, 7, 2, 1, 0] rfl ?_
      exact wl_Bytes_decode_48 C E F r19 H19 F a0 a1 (x2 + x3) x4 q33 0 0 h34 hf
theorem wl_Bytes_decode_19 {X : hh_X} {B e0 : Nat} {rr : Unit × hh_H} (C : ok_Bytes_decode X B e0) (E : hh_End X B e0 (.returned none) rr.2 mc_Bytes_decode ms_Bytes_decode) (F : Nat) :
    ∀ (n : Nat) (a0 : Nat) (a1 : Nat) (x2 : Int32) (x3 : Int32) (x4 : Int32) (h : hh_H), hp_it (fun _ _ _ _ _ _ => none) (f_Bytes_decode_19 F) n a0 a1 x2 x3 x4 h = some rr → hh_W X 0 0 19 [(0, .ref (hh_ad B e0 a0)), (1, .ref (hh_ad B e0 a1)), (2, .int x2), (3, .int x3), (4, .int x4)] [] h := by
  intro n
  induction n with
  | zero => intro a0 a1 x2 x3 x4 h hf; cases hf
  | succ n ih =>
    intro a0 a1 x2 x3 x4 h hf
    exact w_Bytes_decode_19 C E F _ ih a0 a1 x2 x3 x4 h hf
set_option maxRecDepth 100000 in
set_option maxHeartbeats 4000000 in
theorem w_Bytes_decode {X : hh_X} {B e0 : Nat} {rr : Unit × hh_H} (C : ok_Bytes_decode X B e0) (E : hh_End X B e0 (.returned none) rr.2 mc_Bytes_decode ms_Bytes_decode) (F : Nat) (a0 : Nat) (a1 : Nat) (h : hh_H)
    (hf : f_Bytes_decode F a0 a1 h = some rr) : hh_W X 0 0 0 [(0, .ref (hh_ad B e0 a0)), (1, .ref (hh_ad B e0 a1))] [] h := by
  unfold f_Bytes_decode at hf
  refine r_aload_n C dX1_decode_0 rfl 1 rfl ?_
  obtain ⟨_, e41, hf⟩ := hp_bind hf
  obtain ⟨g42, e41⟩ := hp_is_of e41
  obtain ⟨q38, h39, e40, hf⟩ := hp_cbe hf
  refine r_callV C dX1_decode_1 cs_RX1_50 rfl e41 (c_Postings_clear B e0 F a1 h _ e40) rfl rfl rfl ⟨by decide, by decide⟩ ⟨by decide, by decide⟩ (Nat.le_of_ble_eq_true rfl) rfl ?_
  refine r_aload_n C dX1_decode_4 rfl 0 rfl ?_
  refine r_iconst C dX1_decode_5 (v := 0) (by decide) ?_
  obtain ⟨h43, e44, hf⟩ := hp_bind hf
  refine r_putI C dX1_decode_6 fl_RX1_19 e44 ?_
  refine r_iconst C dX1_decode_9 (v := 0) (by decide) ?_
  refine r_istore_n (lv' := [(2, .int 0), (0, .ref (hh_ad B e0 a0)), (1, .ref (hh_ad B e0 a1))]) C dX1_decode_10 rfl (by decide) rfl ?_
  refine r_aload_n C dX1_decode_11 rfl 1 rfl ?_
  obtain ⟨_, e48, hf⟩ := hp_bind hf
  obtain ⟨g49, e48⟩ := hp_is_of e48
  obtain ⟨q45, h46, e47, hf⟩ := hp_cbe hf
  refine r_callV C dX1_decode_12 cs_RX1_51 rfl e48 (c_Bytes_read B e0 F a0 h43 _ e47) rfl rfl rfl ⟨by decide, by decide⟩ ⟨by decide, by decide⟩ (Nat.le_of_ble_eq_true rfl) rfl ?_
  refine r_istore_n (lv' := [(3, .int q45), (2, .int 0), (0, .ref (hh_ad B e0 a0)), (1, .ref (hh_ad B e0 a1))]) C dX1_decode_15 rfl (by decide) rfl ?_
  refine r_iconst C dX1_decode_16 (v := 0) (by decide) ?_
  refine r_istore (lv' := [(4, .int 0), (3, .int q45), (2, .int 0), (0, .ref (hh_ad B e0 a0)), (1, .ref (hh_ad B e0 a1))]) C dX1_decode_17 (by decide) rfl ?_
  refine hh_pick [3, 4, 2, 1, 0] rfl ?_
  exact wl_Bytes_decode_19 C E F F a0 a1 0 q45 0 h46 hf
theorem c_Bytes_decode (B e0 F : Nat) (a0 : Nat) (a1 : Nat) (h : hh_H) (rr : Unit × hh_H) (hf : f_Bytes_decode F a0 a1 h = some rr) : hh_Met yX1_decode cX1_decode 11 none rm_Bytes_decode mc_Bytes_decode ms_Bytes_decode B e0 [.ref (hh_ad B e0 a0), .ref (hh_ad B e0 a1)] h (.returned none) rr.2 :=
  hh_met (by decide) (Nat.le_of_ble_eq_true rfl) fun X C E => hh_pick [0, 1] rfl (w_Bytes_decode C E F a0 a1 h hf)
