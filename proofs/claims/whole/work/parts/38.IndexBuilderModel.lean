def f_Mo_clamp (F : Nat) (x0 : Int32) (x1 : Int32) (x2 : Int32) (h : hh_H) : Option (Int32 × hh_H) :=
  if x1 ≤ x0 then
    if x0 ≤ x2 then
      some (x0, h)
    else
      some (x2, h)
  else
    some (x1, h)
def f_Mo_thrown (F : Nat) (a0 : Nat) (h : hh_H) : Option (Int32 × hh_H) :=
  (hp_gi h a0 9 0).bind fun v1 =>
  some (v1, h)
def f_Mo_fail (F : Nat) (a0 : Nat) (x1 : Int32) (h : hh_H) : Option (Int32 × hh_H) :=
  (hp_pi h a0 9 0 x1).bind fun h1 =>
  some (0, h1)
def f_Mo_bits_4 (F : Nat) (r4 : Int64 → Int32 → Int32 → hh_H → Option (Int32 × hh_H)) (z0 : Int64) (x2 : Int32) (x3 : Int32) (h : hh_H) : Option (Int32 × hh_H) :=
  if 64 ≤ x3 then
    some (x2, h)
  else
    if (lg_cmp (((z0.toUInt64 >>> (x3.toInt64.toUInt64 &&& Int64.toUInt64 63)).toInt64) &&& 1) 0) = 0 then
      r4 z0 x2 (x3 + 1) h
    else
      r4 z0 (x2 + 1) (x3 + 1) h
def l_Mo_bits_4 (F : Nat) : Int64 → Int32 → Int32 → hh_H → Option (Int32 × hh_H) := hp_it (fun _ _ _ _ => none) (f_Mo_bits_4 F) F
def f_Mo_bits (F : Nat) (z0 : Int64) (h : hh_H) : Option (Int32 × hh_H) :=
  l_Mo_bits_4 F z0 0 0 h
def f_Mo_in (F : Nat) (z0 : Int64) (x2 : Int32) (h : hh_H) : Option (Int32 × hh_H) :=
  if (lg_cmp (((z0.toUInt64 >>> (x2.toInt64.toUInt64 &&& Int64.toUInt64 63)).toInt64) &&& 1) 0) = 0 then
    some (0, h)
  else
    some (1, h)
def f_Mo_noWord (F : Nat) (x0 : Int32) (h : hh_H) : Option (Int32 × hh_H) :=
  if x0 < 0 then
    some (1, h)
  else
    if x0 ≤ 99 then
      some (0, h)
    else
      some (1, h)
def f_Mo_often (F : Nat) (a0 : Nat) (x1 : Int32) (x2 : Int32) (h : hh_H) : Option (Int32 × hh_H) :=
  (hp_ga h a0 9 8).bind fun v1 =>
  (hp_ai h v1 ((100 * x1) + x2)).bind fun v3 =>
  some (v3, h)
def f_Mo_word (F : Nat) (a0 : Nat) (x1 : Int32) (h : hh_H) : Option (Int32 × hh_H) :=
  (hp_pi h a0 9 0 0).bind fun h1 =>
  hp_cb (f_Mo_noWord F x1 h1) fun q3 h4 =>
  if q3 = 0 then
    (hp_gi h4 a0 9 5).bind fun v7 =>
    if v7 = 20 then
      (hp_is h4 a0 9).bind fun _ =>
      hp_cb (f_Mo_fail F a0 2 h4) fun q22 h23 =>
      some (q22, h23)
    else
      (hp_ga h4 a0 9 4).bind fun v10 =>
      (hp_gi h4 a0 9 5).bind fun v12 =>
      (hp_si h4 v10 v12 x1).bind fun h14 =>
      (hp_gi h14 a0 9 5).bind fun v16 =>
      (hp_pi h14 a0 9 5 (v16 + 1)).bind fun h18 =>
      (hp_gi h18 a0 9 5).bind fun v20 =>
      some (v20 - 1, h18)
  else
    (hp_is h4 a0 9).bind fun _ =>
    hp_cb (f_Mo_fail F a0 1 h4) fun q27 h28 =>
    some (q27, h28)
def f_Mo_buffered_7 (F : Nat) (r7 : Nat → Int32 → Int32 → hh_H → Option (Int32 × hh_H)) (a0 : Nat) (x1 : Int32) (x2 : Int32) (h : hh_H) : Option (Int32 × hh_H) :=
  (hp_gi h a0 9 9).bind fun v1 =>
  if v1 ≤ x2 then
    some (x1, h)
  else
    (hp_ga h a0 9 7).bind fun v4 =>
    (hp_ai h v4 x2).bind fun v6 =>
    r7 a0 (x1 + v6) (x2 + 1) h
def l_Mo_buffered_7 (F : Nat) : Nat → Int32 → Int32 → hh_H → Option (Int32 × hh_H) := hp_it (fun _ _ _ _ => none) (f_Mo_buffered_7 F) F
def f_Mo_buffered (F : Nat) (a0 : Nat) (h : hh_H) : Option (Int32 × hh_H) :=
  (hp_gi h a0 9 10).bind fun v8 =>
  l_Mo_buffered_7 F a0 0 v8 h
def f_Mo_drop (F : Nat) (a0 : Nat) (x1 : Int32) (h : hh_H) : Option (Int32 × hh_H) :=
  (hp_pi h a0 9 0 0).bind fun h1 =>
  if x1 < 0 then
    (hp_is h1 a0 9).bind fun _ =>
    hp_cb (f_Mo_fail F a0 1 h1) fun q4 h5 =>
    some (q4, h5)
  else
    (hp_gi h1 a0 9 9).bind fun v9 =>
    if v9 ≤ x1 then
      (hp_is h1 a0 9).bind fun _ =>
      hp_cb (f_Mo_fail F a0 1 h1) fun q12 h13 =>
      some (q12, h13)
    else
      (hp_gj h1 a0 9 11).bind fun v17 =>
      hp_cb (f_Mo_in F v17 x1 h1) fun q19 h20 =>
      if q19 = 0 then
        (hp_gj h20 a0 9 11).bind fun v23 =>
        (hp_pj h20 a0 9 11 (v23 ||| (1 <<< (x1.toInt64 &&& 63)))).bind fun h25 =>
        (hp_gi h25 a0 9 9).bind fun v27 =>
        (hp_gj h25 a0 9 11).bind fun v29 =>
        hp_cb (f_Mo_bits F v29 h25) fun q31 h32 =>
        some (v27 - q31, h32)
      else
        (hp_is h20 a0 9).bind fun _ =>
        hp_cb (f_Mo_fail F a0 1 h20) fun q34 h35 =>
        some (q34, h35)
def f_Mo_put (F : Nat) (a0 : Nat) (x1 : Int32) (h : hh_H) : Option (Unit × hh_H) :=
  (hp_ga h a0 9 25).bind fun v1 =>
  (hp_gi h a0 9 26).bind fun v3 =>
  (hp_sb h v1 v3 x1.toInt8.toInt32).bind fun h5 =>
  (hp_gi h5 a0 9 26).bind fun v7 =>
  (hp_pi h5 a0 9 26 (v7 + 1)).bind fun h9 =>
  some ((), h9)
def f_Mo_putWord_67 (F : Nat) (r6 : Nat → Int64 → Int32 → Int32 → Int32 → hh_H → Option (Unit × hh_H)) (r67 : Nat → Int64 → Int32 → Int32 → Int32 → Int32 → Int32 → hh_H → Option (Unit × hh_H)) (a0 : Nat) (z1 : Int64) (x3 : Int32) (x4 : Int32) (x5 : Int32) (x6 : Int32) (x7 : Int32) (h : hh_H) : Option (Unit × hh_H) :=
  (hp_ga h a0 9 7).bind fun v1 =>
  (hp_ai h v1 x5).bind fun v3 =>
  if v3 ≤ x7 then
    r6 a0 z1 x3 x4 (x5 + 1) h
  else
    (hp_ga h a0 9 6).bind fun v6 =>
    (hp_ai h v6 ((20 * x5) + x7)).bind fun v8 =>
    if v8 = x3 then
      (hp_is h a0 9).bind fun _ =>
      hp_cb (f_Mo_put F a0 (x7 - x6) h) fun q11 h12 =>
      r67 a0 z1 x3 x4 x5 x7 (x7 + 1) h12
    else
      r67 a0 z1 x3 x4 x5 x6 (x7 + 1) h
def l_Mo_putWord_67 (F : Nat) (r6 : Nat → Int64 → Int32 → Int32 → Int32 → hh_H → Option (Unit × hh_H)) : Nat → Int64 → Int32 → Int32 → Int32 → Int32 → Int32 → hh_H → Option (Unit × hh_H) := hp_it (fun _ _ _ _ _ _ _ _ => none) (f_Mo_putWord_67 F r6) F
def f_Mo_putWord_6 (F : Nat) (r6 : Nat → Int64 → Int32 → Int32 → Int32 → hh_H → Option (Unit × hh_H)) (a0 : Nat) (z1 : Int64) (x3 : Int32) (x4 : Int32) (x5 : Int32) (h : hh_H) : Option (Unit × hh_H) :=
  (hp_gi h a0 9 9).bind fun v16 =>
  if v16 ≤ x5 then
    some ((), h)
  else
    hp_cb (f_Mo_in F z1 x5 h) fun q19 h20 =>
    if q19 = 0 then
      r6 a0 z1 x3 x4 (x5 + 1) h20
    else
      (hp_is h20 a0 9).bind fun _ =>
      hp_cb (f_Mo_often F a0 x5 x3 h20) fun q23 h24 =>
      if q23 = 0 then
        r6 a0 z1 x3 x4 (x5 + 1) h24
      else
        (hp_is h24 a0 9).bind fun _ =>
        hp_cb (f_Mo_put F a0 (x5 - x4) h24) fun q29 h30 =>
        (hp_is h30 a0 9).bind fun _ =>
        hp_cb (f_Mo_often F a0 x5 x3 h30) fun q34 h35 =>
        (hp_is h35 a0 9).bind fun _ =>
        hp_cb (f_Mo_put F a0 q34 h35) fun q39 h40 =>
        l_Mo_putWord_67 F r6 a0 z1 x3 x5 x5 0 0 h40
def l_Mo_putWord_6 (F : Nat) : Nat → Int64 → Int32 → Int32 → Int32 → hh_H → Option (Unit × hh_H) := hp_it (fun _ _ _ _ _ _ => none) (f_Mo_putWord_6 F) F
def f_Mo_putWord (F : Nat) (a0 : Nat) (z1 : Int64) (x3 : Int32) (h : hh_H) : Option (Unit × hh_H) :=
  l_Mo_putWord_6 F a0 z1 x3 0 0 h
def f_Mo_encode_76 (F : Nat) (r25 : Nat → Int64 → Int32 → Int32 → hh_H → Option (Unit × hh_H)) (a0 : Nat) (z1 : Int64) (x3 : Int32) (x4 : Int32) (x5 : Int32) (h : hh_H) : Option (Unit × hh_H) :=
  if x5 = 0 then
    r25 a0 z1 x3 (x4 + 1) h
  else
    (hp_is h a0 9).bind fun _ =>
    hp_cb (f_Mo_put F a0 (x4 - x3) h) fun q2 h3 =>
    (hp_is h3 a0 9).bind fun _ =>
    hp_cb (f_Mo_put F a0 x5 h3) fun q7 h8 =>
    (hp_is h8 a0 9).bind fun _ =>
    hp_cb (f_Mo_putWord F a0 z1 x4 h8) fun q12 h13 =>
    r25 a0 z1 x4 (x4 + 1) h13
def f_Mo_encode_38 (F : Nat) (r25 : Nat → Int64 → Int32 → Int32 → hh_H → Option (Unit × hh_H)) (r38 : Nat → Int64 → Int32 → Int32 → Int32 → Int32 → hh_H → Option (Unit × hh_H)) (a0 : Nat) (z1 : Int64) (x3 : Int32) (x4 : Int32) (x5 : Int32) (x6 : Int32) (h : hh_H) : Option (Unit × hh_H) :=
  (hp_gi h a0 9 9).bind fun v17 =>
  if v17 ≤ x6 then
    f_Mo_encode_76 F r25 a0 z1 x3 x4 x5 h
  else
    hp_cb (f_Mo_in F z1 x6 h) fun q20 h21 =>
    if q20 = 0 then
      r38 a0 z1 x3 x4 x5 (x6 + 1) h21
    else
      (hp_is h21 a0 9).bind fun _ =>
      hp_cb (f_Mo_often F a0 x6 x4 h21) fun q24 h25 =>
      if q24 ≤ 0 then
        r38 a0 z1 x3 x4 x5 (x6 + 1) h25
      else
        r38 a0 z1 x3 x4 (x5 + 1) (x6 + 1) h25
def l_Mo_encode_38 (F : Nat) (r25 : Nat → Int64 → Int32 → Int32 → hh_H → Option (Unit × hh_H)) : Nat → Int64 → Int32 → Int32 → Int32 → Int32 → hh_H → Option (Unit × hh_H) := hp_it (fun _ _ _ _ _ _ _ => none) (f_Mo_encode_38 F r25) F
def f_Mo_encode_25 (F : Nat) (r25 : Nat → Int64 → Int32 → Int32 → hh_H → Option (Unit × hh_H)) (a0 : Nat) (z1 : Int64) (x3 : Int32) (x4 : Int32) (h : hh_H) : Option (Unit × hh_H) :=
  if 100 ≤ x4 then
    (hp_is h a0 9).bind fun _ =>
    hp_cb (f_Mo_put F a0 127 h) fun q31 h32 =>
    some ((), h32)
  else
    l_Mo_encode_38 F r25 a0 z1 x3 x4 0 0 h
def l_Mo_encode_25 (F : Nat) : Nat → Int64 → Int32 → Int32 → hh_H → Option (Unit × hh_H) := hp_it (fun _ _ _ _ _ => none) (f_Mo_encode_25 F) F
def f_Mo_encode (F : Nat) (a0 : Nat) (z1 : Int64) (h : hh_H) : Option (Unit × hh_H) :=
  (hp_gj h a0 9 27).bind fun v36 =>
  if (lg_cmp z1 v36) = 0 then
    some ((), h)
  else
    (hp_pj h a0 9 27 z1).bind fun h39 =>
    (hp_pi h39 a0 9 26 0).bind fun h41 =>
    l_Mo_encode_25 F a0 z1 0 0 h41
def f_Mo_room_68 (F : Nat) (x3 : Int32) (z4 : Int64) (h : hh_H) : Option (Int64 × hh_H) :=
  if x3 = 0 then
    some (z4, h)
  else
    some (0, h)
def f_Mo_room_22 (F : Nat) (r22 : Nat → Int32 → Int64 → Int32 → hh_H → Option (Int64 × hh_H)) (a0 : Nat) (x3 : Int32) (z4 : Int64) (x6 : Int32) (h : hh_H) : Option (Int64 × hh_H) :=
  (hp_gi h a0 9 3).bind fun v2 =>
  if v2 ≤ x6 then
    f_Mo_room_68 F x3 z4 h
  else
    if x3 = 0 then
      r22 a0 x3 z4 (x6 + 1) h
    else
      (hp_gj h a0 9 16).bind fun v6 =>
      hp_cb (f_Mo_in F v6 x6 h) fun q8 h9 =>
      if q8 = 0 then
        r22 a0 (x3 + (-1)) (z4 ||| (1 <<< (x6.toInt64 &&& 63))) (x6 + 1) h9
      else
        r22 a0 x3 z4 (x6 + 1) h9
def l_Mo_room_22 (F : Nat) : Nat → Int32 → Int64 → Int32 → hh_H → Option (Int64 × hh_H) := hp_it (fun _ _ _ _ _ => none) (f_Mo_room_22 F) F
def f_Mo_room (F : Nat) (a0 : Nat) (z1 : Int64) (h : hh_H) : Option (Int64 × hh_H) :=
  (hp_is h a0 9).bind fun _ =>
  hp_cb (f_Mo_encode F a0 z1 h) fun q12 h13 =>
  (hp_gi h13 a0 9 26).bind fun v17 =>
  l_Mo_room_22 F a0 ((v17 + 15) / 16) 0 0 h13
def f_Mo_full_73 (F : Nat) (r4 : Nat → Int32 → Int32 → hh_H → Option (Int32 × hh_H)) (a0 : Nat) (x2 : Int32) (h : hh_H) : Option (Int32 × hh_H) :=
  (hp_ga h a0 9 14).bind fun v1 =>
  (hp_ai h v1 x2).bind fun v3 =>
  r4 a0 v3 (x2 + 1) h
def f_Mo_full_51 (F : Nat) (r4 : Nat → Int32 → Int32 → hh_H → Option (Int32 × hh_H)) (a0 : Nat) (x1 : Int32) (x2 : Int32) (x3 : Int32) (h : hh_H) : Option (Int32 × hh_H) :=
  (hp_gi h a0 9 2).bind fun v5 =>
  if x3 < v5 then
    r4 a0 x1 (x2 + 1) h
  else
    if x1 < 0 then
      f_Mo_full_73 F r4 a0 x2 h
    else
      (hp_ga h a0 9 14).bind fun v9 =>
      (hp_ai h v9 x2).bind fun v11 =>
      if x1 ≤ v11 then
        r4 a0 x1 (x2 + 1) h
      else
        f_Mo_full_73 F r4 a0 x2 h
def f_Mo_full_17 (F : Nat) (r4 : Nat → Int32 → Int32 → hh_H → Option (Int32 × hh_H)) (r17 : Nat → Int32 → Int32 → Int32 → Int32 → hh_H → Option (Int32 × hh_H)) (a0 : Nat) (x1 : Int32) (x2 : Int32) (x3 : Int32) (x4 : Int32) (h : hh_H) : Option (Int32 × hh_H) :=
  (hp_gi h a0 9 15).bind fun v14 =>
  if v14 ≤ x4 then
    f_Mo_full_51 F r4 a0 x1 x2 x3 h
  else
    (hp_ga h a0 9 14).bind fun v17 =>
    (hp_ai h v17 x4).bind fun v19 =>
    (hp_ga h a0 9 14).bind fun v21 =>
    (hp_ai h v21 x2).bind fun v23 =>
    if v19 = v23 then
      r17 a0 x1 x2 (x3 + 1) (x4 + 1) h
    else
      r17 a0 x1 x2 x3 (x4 + 1) h
def l_Mo_full_17 (F : Nat) (r4 : Nat → Int32 → Int32 → hh_H → Option (Int32 × hh_H)) : Nat → Int32 → Int32 → Int32 → Int32 → hh_H → Option (Int32 × hh_H) := hp_it (fun _ _ _ _ _ _ => none) (f_Mo_full_17 F r4) F
def f_Mo_full_4 (F : Nat) (r4 : Nat → Int32 → Int32 → hh_H → Option (Int32 × hh_H)) (a0 : Nat) (x1 : Int32) (x2 : Int32) (h : hh_H) : Option (Int32 × hh_H) :=
  (hp_gi h a0 9 15).bind fun v26 =>
  if v26 ≤ x2 then
    some (x1, h)
  else
    l_Mo_full_17 F r4 a0 x1 x2 0 0 h
def l_Mo_full_4 (F : Nat) : Nat → Int32 → Int32 → hh_H → Option (Int32 × hh_H) := hp_it (fun _ _ _ _ => none) (f_Mo_full_4 F) F
def f_Mo_full (F : Nat) (a0 : Nat) (h : hh_H) : Option (Int32 × hh_H) :=
  l_Mo_full_4 F a0 (-1) 0 h
def f_Mo_merge_313 (F : Nat) (a0 : Nat) (z4 : Int64) (z6 : Int64) (x10 : Int32) (h : hh_H) : Option (Int32 × hh_H) :=
  (hp_pi h a0 9 15 x10).bind fun h1 =>
  (hp_gj h1 a0 9 16).bind fun v3 =>
  (hp_pj h1 a0 9 16 ((v3 &&& (z4 ^^^ (-1))) ||| z6)).bind fun h5 =>
  (hp_gi h5 a0 9 19).bind fun v7 =>
  (hp_pi h5 a0 9 19 (v7 + 1)).bind fun h9 =>
  some (1, h9)
def f_Mo_merge_277 (F : Nat) (r179 : Nat → Int32 → Int64 → Int64 → Int64 → Int32 → Int32 → Int32 → Int32 → hh_H → Option (Int32 × hh_H)) (a0 : Nat) (x1 : Int32) (z2 : Int64) (z4 : Int64) (z6 : Int64) (x8 : Int32) (x9 : Int32) (x10 : Int32) (x11 : Int32) (x12 : Int32) (s0 : Nat) (s1 : Int32) (s2 : Int64) (h : hh_H) : Option (Int32 × hh_H) :=
  (hp_sj h s0 s1 s2).bind fun h11 =>
  (hp_ga h11 a0 9 14).bind fun v13 =>
  if x12 = 0 then
    (hp_ga h11 a0 9 14).bind fun v16 =>
    (hp_ai h11 v16 x11).bind fun v18 =>
    (hp_si h11 v13 x10 v18).bind fun h20 =>
    r179 a0 x1 z2 z4 z6 x8 x9 (x10 + 1) (x11 + 1) h20
  else
    (hp_si h11 v13 x10 (x9 + 1)).bind fun h22 =>
    r179 a0 x1 z2 z4 z6 x8 x9 (x10 + 1) (x11 + 1) h22
def f_Mo_merge_253 (F : Nat) (r179 : Nat → Int32 → Int64 → Int64 → Int64 → Int32 → Int32 → Int32 → Int32 → hh_H → Option (Int32 × hh_H)) (a0 : Nat) (x1 : Int32) (z2 : Int64) (z4 : Int64) (z6 : Int64) (x8 : Int32) (x9 : Int32) (x10 : Int32) (x11 : Int32) (x12 : Int32) (s0 : Nat) (s1 : Int32) (s2 : Int64) (h : hh_H) : Option (Int32 × hh_H) :=
  (hp_sj h s0 s1 s2).bind fun h24 =>
  (hp_ga h24 a0 9 13).bind fun v26 =>
  if x12 = 0 then
    (hp_ga h24 a0 9 13).bind fun v29 =>
    (hp_aj h24 v29 x11).bind fun v31 =>
    f_Mo_merge_277 F r179 a0 x1 z2 z4 z6 x8 x9 x10 x11 x12 v26 x10 v31 h24
  else
    f_Mo_merge_277 F r179 a0 x1 z2 z4 z6 x8 x9 x10 x11 x12 v26 x10 z6 h24
def f_Mo_merge_231 (F : Nat) (r179 : Nat → Int32 → Int64 → Int64 → Int64 → Int32 → Int32 → Int32 → Int32 → hh_H → Option (Int32 × hh_H)) (a0 : Nat) (x1 : Int32) (z2 : Int64) (z4 : Int64) (z6 : Int64) (x8 : Int32) (x9 : Int32) (x10 : Int32) (x11 : Int32) (x12 : Int32) (h : hh_H) : Option (Int32 × hh_H) :=
  (hp_ga h a0 9 12).bind fun v33 =>
  if x12 = 0 then
    (hp_ga h a0 9 12).bind fun v36 =>
    (hp_aj h v36 x11).bind fun v38 =>
    f_Mo_merge_253 F r179 a0 x1 z2 z4 z6 x8 x9 x10 x11 x12 v33 x10 v38 h
  else
    f_Mo_merge_253 F r179 a0 x1 z2 z4 z6 x8 x9 x10 x11 x12 v33 x10 z2 h
def f_Mo_merge_208 (F : Nat) (r179 : Nat → Int32 → Int64 → Int64 → Int64 → Int32 → Int32 → Int32 → Int32 → hh_H → Option (Int32 × hh_H)) (a0 : Nat) (x1 : Int32) (z2 : Int64) (z4 : Int64) (z6 : Int64) (x8 : Int32) (x9 : Int32) (x10 : Int32) (x11 : Int32) (s0 : Int32) (h : hh_H) : Option (Int32 × hh_H) :=
  if s0 = 0 then
    f_Mo_merge_231 F r179 a0 x1 z2 z4 z6 x8 x9 x10 x11 s0 h
  else
    if x11 = x8 then
      if (lg_cmp z2 0) = 0 then
        r179 a0 x1 z2 z4 z6 x8 x9 x10 (x11 + 1) h
      else
        f_Mo_merge_231 F r179 a0 x1 z2 z4 z6 x8 x9 x10 x11 s0 h
    else
      r179 a0 x1 z2 z4 z6 x8 x9 x10 (x11 + 1) h
def f_Mo_merge_203 (F : Nat) (r179 : Nat → Int32 → Int64 → Int64 → Int64 → Int32 → Int32 → Int32 → Int32 → hh_H → Option (Int32 × hh_H)) (a0 : Nat) (x1 : Int32) (z2 : Int64) (z4 : Int64) (z6 : Int64) (x8 : Int32) (x9 : Int32) (x10 : Int32) (x11 : Int32) (h : hh_H) : Option (Int32 × hh_H) :=
  f_Mo_merge_208 F r179 a0 x1 z2 z4 z6 x8 x9 x10 x11 1 h
def f_Mo_merge_179 (F : Nat) (r179 : Nat → Int32 → Int64 → Int64 → Int64 → Int32 → Int32 → Int32 → Int32 → hh_H → Option (Int32 × hh_H)) (a0 : Nat) (x1 : Int32) (z2 : Int64) (z4 : Int64) (z6 : Int64) (x8 : Int32) (x9 : Int32) (x10 : Int32) (x11 : Int32) (h : hh_H) : Option (Int32 × hh_H) :=
  (hp_gi h a0 9 15).bind fun v43 =>
  if v43 ≤ x11 then
    f_Mo_merge_313 F a0 z4 z6 x10 h
  else
    if x1 < 0 then
      f_Mo_merge_203 F r179 a0 x1 z2 z4 z6 x8 x9 x10 x11 h
    else
      (hp_ga h a0 9 14).bind fun v47 =>
      (hp_ai h v47 x11).bind fun v49 =>
      if v49 = x1 then
        f_Mo_merge_203 F r179 a0 x1 z2 z4 z6 x8 x9 x10 x11 h
      else
        f_Mo_merge_208 F r179 a0 x1 z2 z4 z6 x8 x9 x10 x11 0 h
def l_Mo_merge_179 (F : Nat) : Nat → Int32 → Int64 → Int64 → Int64 → Int32 → Int32 → Int32 → Int32 → hh_H → Option (Int32 × hh_H) := hp_it (fun _ _ _ _ _ _ _ _ _ _ => none) (f_Mo_merge_179 F) F
def f_Mo_merge_173 (F : Nat) (a0 : Nat) (x1 : Int32) (z2 : Int64) (z4 : Int64) (z6 : Int64) (x8 : Int32) (x9 : Int32) (h : hh_H) : Option (Int32 × hh_H) :=
  l_Mo_merge_179 F a0 x1 z2 z4 z6 x8 x9 0 0 h
def f_Mo_merge_102 (F : Nat) (a0 : Nat) (x1 : Int32) (z2 : Int64) (z4 : Int64) (z6 : Int64) (x8 : Int32) (x9 : Int32) (h : hh_H) : Option (Int32 × hh_H) :=
  (hp_gi h a0 9 17).bind fun v52 =>
  hp_cb (f_Mo_bits F z4 h) fun q54 h55 =>
  (hp_pi h55 a0 9 17 (v52 + q54)).bind fun h57 =>
  (hp_gj h57 a0 9 11).bind fun v59 =>
  if (lg_cmp (z2 &&& (v59 ^^^ (-1))) 0) = 0 then
    f_Mo_merge_173 F a0 x1 (z2 &&& (v59 ^^^ (-1))) z4 z6 x8 x9 h57
  else
    (hp_is h57 a0 9).bind fun _ =>
    hp_cb (f_Mo_room F a0 (z2 &&& (v59 ^^^ (-1))) h57) fun q62 h63 =>
    if (lg_cmp q62 0) = 0 then
      (hp_gi h63 a0 9 20).bind fun v75 =>
      (hp_pi h63 a0 9 20 (v75 + 1)).bind fun h77 =>
      some (0, h77)
    else
      (hp_gi h63 a0 9 18).bind fun v68 =>
      hp_cb (f_Mo_bits F q62 h63) fun q70 h71 =>
      (hp_pi h71 a0 9 18 (v68 + q70)).bind fun h73 =>
      f_Mo_merge_173 F a0 x1 (z2 &&& (v59 ^^^ (-1))) z4 q62 x8 x9 h73
def f_Mo_merge_75 (F : Nat) (r17 : Nat → Int32 → Int64 → Int64 → Int64 → Int32 → Int32 → Int32 → hh_H → Option (Int32 × hh_H)) (a0 : Nat) (x1 : Int32) (z2 : Int64) (z4 : Int64) (z6 : Int64) (x8 : Int32) (x9 : Int32) (x10 : Int32) (h : hh_H) : Option (Int32 × hh_H) :=
  (hp_ga h a0 9 14).bind fun v79 =>
  (hp_ai h v79 x10).bind fun v81 =>
  if v81 ≤ x9 then
    r17 a0 x1 z2 z4 z6 x8 x9 (x10 + 1) h
  else
    (hp_ga h a0 9 14).bind fun v84 =>
    (hp_ai h v84 x10).bind fun v86 =>
    r17 a0 x1 z2 z4 z6 x8 v86 (x10 + 1) h
def f_Mo_merge_44 (F : Nat) (r17 : Nat → Int32 → Int64 → Int64 → Int64 → Int32 → Int32 → Int32 → hh_H → Option (Int32 × hh_H)) (a0 : Nat) (x1 : Int32) (z2 : Int64) (z4 : Int64) (z6 : Int64) (x8 : Int32) (x9 : Int32) (x10 : Int32) (h : hh_H) : Option (Int32 × hh_H) :=
  (hp_ga h a0 9 12).bind fun v88 =>
  (hp_aj h v88 x10).bind fun v90 =>
  (hp_ga h a0 9 13).bind fun v92 =>
  (hp_aj h v92 x10).bind fun v94 =>
  if 0 ≤ x8 then
    f_Mo_merge_75 F r17 a0 x1 (z2 ||| v90) (z4 ||| v94) z6 x8 x9 x10 h
  else
    f_Mo_merge_75 F r17 a0 x1 (z2 ||| v90) (z4 ||| v94) z6 x10 x9 x10 h
def f_Mo_merge_17 (F : Nat) (r17 : Nat → Int32 → Int64 → Int64 → Int64 → Int32 → Int32 → Int32 → hh_H → Option (Int32 × hh_H)) (a0 : Nat) (x1 : Int32) (z2 : Int64) (z4 : Int64) (z6 : Int64) (x8 : Int32) (x9 : Int32) (x10 : Int32) (h : hh_H) : Option (Int32 × hh_H) :=
  (hp_gi h a0 9 15).bind fun v97 =>
  if v97 ≤ x10 then
    f_Mo_merge_102 F a0 x1 z2 z4 z6 x8 x9 h
  else
    if x1 < 0 then
      f_Mo_merge_44 F r17 a0 x1 z2 z4 z6 x8 x9 x10 h
    else
      (hp_ga h a0 9 14).bind fun v101 =>
      (hp_ai h v101 x10).bind fun v103 =>
      if v103 = x1 then
        f_Mo_merge_44 F r17 a0 x1 z2 z4 z6 x8 x9 x10 h
      else
        r17 a0 x1 z2 z4 z6 x8 x9 (x10 + 1) h
def l_Mo_merge_17 (F : Nat) : Nat → Int32 → Int64 → Int64 → Int64 → Int32 → Int32 → Int32 → hh_H → Option (Int32 × hh_H) := hp_it (fun _ _ _ _ _ _ _ _ _ => none) (f_Mo_merge_17 F) F
def f_Mo_merge (F : Nat) (a0 : Nat) (x1 : Int32) (h : hh_H) : Option (Int32 × hh_H) :=
  l_Mo_merge_17 F a0 x1 0 0 0 (-1) 0 0 h
def f_Mo_adjacent_3 (F : Nat) (r3 : Nat → Int32 → Int32 → Int32 → Int32 → hh_H → Option (Int32 × hh_H)) (a0 : Nat) (x1 : Int32) (x2 : Int32) (x3 : Int32) (x4 : Int32) (h : hh_H) : Option (Int32 × hh_H) :=
  (hp_ga h a0 9 7).bind fun v1 =>
  (hp_ai h v1 x1).bind fun v3 =>
  if v3 ≤ (x4 + 1) then
    some (0, h)
  else
    (hp_ga h a0 9 6).bind fun v6 =>
    (hp_ai h v6 ((20 * x1) + x4)).bind fun v8 =>
    if v8 = x2 then
      (hp_ga h a0 9 6).bind fun v11 =>
      (hp_ai h v11 (((20 * x1) + x4) + 1)).bind fun v13 =>
      if v13 = x3 then
        some (1, h)
      else
        r3 a0 x1 x2 x3 (x4 + 1) h
    else
      r3 a0 x1 x2 x3 (x4 + 1) h
def l_Mo_adjacent_3 (F : Nat) : Nat → Int32 → Int32 → Int32 → Int32 → hh_H → Option (Int32 × hh_H) := hp_it (fun _ _ _ _ _ _ => none) (f_Mo_adjacent_3 F) F
def f_Mo_adjacent (F : Nat) (a0 : Nat) (x1 : Int32) (x2 : Int32) (x3 : Int32) (h : hh_H) : Option (Int32 × hh_H) :=
  l_Mo_adjacent_3 F a0 x1 x2 x3 0 h
def f_Mo_fits_30 (F : Nat) (a0 : Nat) (x1 : Int32) (x2 : Int32) (x3 : Int32) (x4 : Int32) (x5 : Int32) (s0 : Int32) (h : hh_H) : Option (Int32 × hh_H) :=
  if x4 = 0 then
    if x5 = 0 then
      some (0, h)
    else
      if s0 = 0 then
        some (0, h)
      else
        some (1, h)
  else
    if x4 = 1 then
      if x5 = 0 then
        if s0 = 0 then
          some (0, h)
        else
          some (1, h)
      else
        some (1, h)
    else
      if x4 = 2 then
        (hp_is h a0 9).bind fun _ =>
        hp_cb (f_Mo_adjacent F a0 x1 x2 x3 h) fun q6 h7 =>
        (hp_zb q6).bind fun w11 =>
        some (q6, h7)
      else
        if x5 = 0 then
          some (0, h)
        else
          if s0 = 0 then
            some (1, h)
          else
            some (0, h)
def f_Mo_fits_14 (F : Nat) (a0 : Nat) (x1 : Int32) (x2 : Int32) (x3 : Int32) (x4 : Int32) (s0 : Int32) (h : hh_H) : Option (Int32 × hh_H) :=
  (hp_is h a0 9).bind fun _ =>
  hp_cb (f_Mo_often F a0 x1 x3 h) fun q17 h18 =>
  if q17 ≤ 0 then
    f_Mo_fits_30 F a0 x1 x2 x3 x4 s0 0 h18
  else
    f_Mo_fits_30 F a0 x1 x2 x3 x4 s0 1 h18
def f_Mo_fits (F : Nat) (a0 : Nat) (x1 : Int32) (x2 : Int32) (x3 : Int32) (x4 : Int32) (h : hh_H) : Option (Int32 × hh_H) :=
  (hp_is h a0 9).bind fun _ =>
  hp_cb (f_Mo_often F a0 x1 x2 h) fun q23 h24 =>
  if q23 ≤ 0 then
    f_Mo_fits_14 F a0 x1 x2 x3 x4 0 h24
  else
    f_Mo_fits_14 F a0 x1 x2 x3 x4 1 h24
def f_Mo_find_63 (F : Nat) (r63 : Nat → Int32 → Int32 → Int32 → Int32 → hh_H → Option (Int32 × hh_H)) (a0 : Nat) (x1 : Int32) (x2 : Int32) (x3 : Int32) (x4 : Int32) (h : hh_H) : Option (Int32 × hh_H) :=
  (hp_gi h a0 9 9).bind fun v1 =>
  if v1 ≤ x4 then
    (hp_gi h a0 9 23).bind fun v4 =>
    some (v4, h)
  else
    (hp_gj h a0 9 11).bind fun v6 =>
    hp_cb (f_Mo_in F v6 x4 h) fun q8 h9 =>
    if q8 = 0 then
      (hp_is h9 a0 9).bind fun _ =>
      hp_cb (f_Mo_fits F a0 x4 x1 x2 x3 h9) fun q12 h13 =>
      if q12 = 0 then
        r63 a0 x1 x2 x3 (x4 + 1) h13
      else
        (hp_ga h13 a0 9 21).bind fun v18 =>
        (hp_gi h13 a0 9 23).bind fun v20 =>
        (hp_si h13 v18 v20 x4).bind fun h22 =>
        (hp_gi h22 a0 9 23).bind fun v24 =>
        (hp_pi h22 a0 9 23 (v24 + 1)).bind fun h26 =>
        r63 a0 x1 x2 x3 (x4 + 1) h26
    else
      r63 a0 x1 x2 x3 (x4 + 1) h9
def l_Mo_find_63 (F : Nat) : Nat → Int32 → Int32 → Int32 → Int32 → hh_H → Option (Int32 × hh_H) := hp_it (fun _ _ _ _ _ _ => none) (f_Mo_find_63 F) F
def f_Mo_find (F : Nat) (a0 : Nat) (x1 : Int32) (x2 : Int32) (x3 : Int32) (h : hh_H) : Option (Int32 × hh_H) :=
  (hp_pi h a0 9 0 0).bind fun h28 =>
  hp_cb (f_Mo_noWord F x1 h28) fun q30 h31 =>
  if q30 = 0 then
    hp_cb (f_Mo_noWord F x2 h31) fun q39 h40 =>
    if q39 = 0 then
      if x3 < 0 then
        (hp_is h40 a0 9).bind fun _ =>
        hp_cb (f_Mo_fail F a0 1 h40) fun q49 h50 =>
        some (q49, h50)
      else
        if x3 ≤ 3 then
          (hp_gi h40 a0 9 17).bind fun v55 =>
          (hp_gj h40 a0 9 16).bind fun v57 =>
          hp_cb (f_Mo_bits F v57 h40) fun q59 h60 =>
          (hp_pi h60 a0 9 17 (v55 + q59)).bind fun h62 =>
          (hp_pi h62 a0 9 23 0).bind fun h64 =>
          (hp_pz h64 a0 9 24 0).bind fun h66 =>
          l_Mo_find_63 F a0 x1 x2 x3 0 h66
        else
          (hp_is h40 a0 9).bind fun _ =>
          hp_cb (f_Mo_fail F a0 1 h40) fun q68 h69 =>
          some (q68, h69)
    else
      (hp_is h40 a0 9).bind fun _ =>
      hp_cb (f_Mo_fail F a0 1 h40) fun q43 h44 =>
      some (q43, h44)
  else
    (hp_is h31 a0 9).bind fun _ =>
    hp_cb (f_Mo_fail F a0 1 h31) fun q34 h35 =>
    some (q34, h35)
def f_Mo_part_56 (F : Nat) (a0 : Nat) (x1 : Int32) (x2 : Int32) (x3 : Int32) (h : hh_H) : Option (UInt64 × hh_H) :=
  (hp_is h a0 9).bind fun _ =>
  hp_cb (f_Mo_often F a0 x1 x2 h) fun q1 h2 =>
  (hp_nn (FP.ddiv (FP.i2d q1) (FP.i2d x3))).bind fun y6 =>
  some (y6, h2)
def f_Mo_part_16 (F : Nat) (r16 : Nat → Int32 → Int32 → Int32 → Int32 → hh_H → Option (UInt64 × hh_H)) (a0 : Nat) (x1 : Int32) (x2 : Int32) (x3 : Int32) (x4 : Int32) (h : hh_H) : Option (UInt64 × hh_H) :=
  (hp_gi h a0 9 9).bind fun v8 =>
  if v8 ≤ x4 then
    f_Mo_part_56 F a0 x1 x2 x3 h
  else
    (hp_gj h a0 9 11).bind fun v11 =>
    hp_cb (f_Mo_in F v11 x4 h) fun q13 h14 =>
    if q13 = 0 then
      (hp_is h14 a0 9).bind fun _ =>
      hp_cb (f_Mo_often F a0 x4 x2 h14) fun q17 h18 =>
      if q17 ≤ 0 then
        r16 a0 x1 x2 x3 (x4 + 1) h18
      else
        r16 a0 x1 x2 (x3 + 1) (x4 + 1) h18
    else
      r16 a0 x1 x2 x3 (x4 + 1) h14
def l_Mo_part_16 (F : Nat) : Nat → Int32 → Int32 → Int32 → Int32 → hh_H → Option (UInt64 × hh_H) := hp_it (fun _ _ _ _ _ _ => none) (f_Mo_part_16 F) F
def f_Mo_part (F : Nat) (a0 : Nat) (x1 : Int32) (x2 : Int32) (h : hh_H) : Option (UInt64 × hh_H) :=
  (hp_is h a0 9).bind fun _ =>
  hp_cb (f_Mo_often F a0 x1 x2 h) fun q23 h24 =>
  if q23 = 0 then
    some (FP.dconst0, h24)
  else
    l_Mo_part_16 F a0 x1 x2 0 0 h24
def f_Mo_rank_165 (F : Nat) (r53 : Nat → Int32 → Int32 → Int32 → hh_H → Option (Int32 × hh_H)) (a0 : Nat) (x1 : Int32) (x2 : Int32) (x3 : Int32) (y4 : UInt64) (x6 : Int32) (h : hh_H) : Option (Int32 × hh_H) :=
  (hp_ga h a0 9 21).bind fun v1 =>
  (hp_si h v1 x6 x3).bind fun h3 =>
  (hp_ga h3 a0 9 22).bind fun v5 =>
  (hp_sd h3 v5 x6 y4).bind fun h7 =>
  (hp_gi h7 a0 9 23).bind fun v9 =>
  (hp_pi h7 a0 9 23 (v9 + 1)).bind fun h11 =>
  r53 a0 x1 x2 (x3 + 1) h11
def f_Mo_rank_107 (F : Nat) (r53 : Nat → Int32 → Int32 → Int32 → hh_H → Option (Int32 × hh_H)) (r107 : Nat → Int32 → Int32 → Int32 → UInt64 → Int32 → hh_H → Option (Int32 × hh_H)) (a0 : Nat) (x1 : Int32) (x2 : Int32) (x3 : Int32) (y4 : UInt64) (x6 : Int32) (h : hh_H) : Option (Int32 × hh_H) :=
  if x6 ≤ 0 then
    f_Mo_rank_165 F r53 a0 x1 x2 x3 y4 x6 h
  else
    (hp_ga h a0 9 22).bind fun v14 =>
    (hp_ad h v14 (x6 - 1)).bind fun v16 =>
    if 0 ≤ (Op.cmpValue (FP.dcmp v16 y4) .g) then
      f_Mo_rank_165 F r53 a0 x1 x2 x3 y4 x6 h
    else
      (hp_ga h a0 9 21).bind fun v19 =>
      (hp_ga h a0 9 21).bind fun v21 =>
      (hp_ai h v21 (x6 - 1)).bind fun v23 =>
      (hp_si h v19 x6 v23).bind fun h25 =>
      (hp_ga h25 a0 9 22).bind fun v27 =>
      (hp_ga h25 a0 9 22).bind fun v29 =>
      (hp_ad h25 v29 (x6 - 1)).bind fun v31 =>
      (hp_sd h25 v27 x6 v31).bind fun h33 =>
      r107 a0 x1 x2 x3 y4 (x6 + (-1)) h33
def l_Mo_rank_107 (F : Nat) (r53 : Nat → Int32 → Int32 → Int32 → hh_H → Option (Int32 × hh_H)) : Nat → Int32 → Int32 → Int32 → UInt64 → Int32 → hh_H → Option (Int32 × hh_H) := hp_it (fun _ _ _ _ _ _ _ => none) (f_Mo_rank_107 F r53) F
def f_Mo_rank_53 (F : Nat) (r53 : Nat → Int32 → Int32 → Int32 → hh_H → Option (Int32 × hh_H)) (a0 : Nat) (x1 : Int32) (x2 : Int32) (x3 : Int32) (h : hh_H) : Option (Int32 × hh_H) :=
  (hp_gi h a0 9 9).bind fun v35 =>
  if v35 ≤ x3 then
    (hp_gi h a0 9 23).bind fun v38 =>
    some (v38, h)
  else
    (hp_gj h a0 9 11).bind fun v40 =>
    hp_cb (f_Mo_in F v40 x3 h) fun q42 h43 =>
    if q42 = 0 then
      (hp_is h43 a0 9).bind fun _ =>
      hp_cb (f_Mo_fits F a0 x3 x1 x2 1 h43) fun q46 h47 =>
      if q46 = 0 then
        r53 a0 x1 x2 (x3 + 1) h47
      else
        (hp_is h47 a0 9).bind fun _ =>
        hp_cb (f_Mo_part F a0 x3 x1 h47) fun q52 h53 =>
        (hp_is h53 a0 9).bind fun _ =>
        hp_cb (f_Mo_part F a0 x3 x2 h53) fun q57 h58 =>
        (hp_nn (FP.dadd q52 q57)).bind fun y62 =>
        (hp_gi h58 a0 9 23).bind fun v64 =>
        l_Mo_rank_107 F r53 a0 x1 x2 x3 y62 v64 h58
    else
      r53 a0 x1 x2 (x3 + 1) h43
def l_Mo_rank_53 (F : Nat) : Nat → Int32 → Int32 → Int32 → hh_H → Option (Int32 × hh_H) := hp_it (fun _ _ _ _ _ => none) (f_Mo_rank_53 F) F
def f_Mo_rank (F : Nat) (a0 : Nat) (x1 : Int32) (x2 : Int32) (h : hh_H) : Option (Int32 × hh_H) :=
  (hp_pi h a0 9 0 0).bind fun h66 =>
  hp_cb (f_Mo_noWord F x1 h66) fun q68 h69 =>
  if q68 = 0 then
    hp_cb (f_Mo_noWord F x2 h69) fun q77 h78 =>
    if q77 = 0 then
      (hp_gi h78 a0 9 17).bind fun v81 =>
      (hp_gj h78 a0 9 16).bind fun v83 =>
      hp_cb (f_Mo_bits F v83 h78) fun q85 h86 =>
      (hp_pi h86 a0 9 17 (v81 + q85)).bind fun h88 =>
      (hp_pi h88 a0 9 23 0).bind fun h90 =>
      (hp_pz h90 a0 9 24 1).bind fun h92 =>
      l_Mo_rank_53 F a0 x1 x2 0 h92
    else
      (hp_is h78 a0 9).bind fun _ =>
      hp_cb (f_Mo_fail F a0 1 h78) fun q94 h95 =>
      some (q94, h95)
  else
    (hp_is h69 a0 9).bind fun _ =>
    hp_cb (f_Mo_fail F a0 1 h69) fun q72 h73 =>
    some (q72, h73)
def f_Mo_result (F : Nat) (a0 : Nat) (x1 : Int32) (h : hh_H) : Option (Int32 × hh_H) :=
  (hp_pi h a0 9 0 0).bind fun h1 =>
  if x1 < 0 then
    (hp_is h1 a0 9).bind fun _ =>
    hp_cb (f_Mo_fail F a0 1 h1) fun q4 h5 =>
    some (q4, h5)
  else
    (hp_gi h1 a0 9 23).bind fun v9 =>
    if x1 < v9 then
      (hp_ga h1 a0 9 21).bind fun v12 =>
      (hp_ai h1 v12 x1).bind fun v14 =>
      some (v14, h1)
    else
      (hp_is h1 a0 9).bind fun _ =>
      hp_cb (f_Mo_fail F a0 1 h1) fun q16 h17 =>
      some (q16, h17)
def f_Mo_score_17 (F : Nat) (a0 : Nat) (h : hh_H) : Option (UInt64 × hh_H) :=
  (hp_is h a0 9).bind fun _ =>
  hp_cb (f_Mo_fail F a0 1 h) fun q1 h2 =>
  some (FP.i2d q1, h2)
def f_Mo_score (F : Nat) (a0 : Nat) (x1 : Int32) (h : hh_H) : Option (UInt64 × hh_H) :=
  (hp_pi h a0 9 0 0).bind fun h6 =>
  if x1 < 0 then
    f_Mo_score_17 F a0 h6
  else
    (hp_gi h6 a0 9 23).bind fun v9 =>
    if x1 < v9 then
      (hp_gi h6 a0 9 24).bind fun v12 =>
      if v12 = 0 then
        (hp_is h6 a0 9).bind fun _ =>
        hp_cb (f_Mo_fail F a0 2 h6) fun q19 h20 =>
        some (FP.i2d q19, h20)
      else
        (hp_ga h6 a0 9 22).bind fun v15 =>
        (hp_ad h6 v15 x1).bind fun v17 =>
        some (v17, h6)
    else
      f_Mo_score_17 F a0 h6
def f_Mo_byteOf_59 (F : Nat) (a0 : Nat) (x1 : Int32) (x2 : Int32) (x3 : Int32) (h : hh_H) : Option (Int32 × hh_H) :=
  (hp_ga h a0 9 12).bind fun v1 =>
  (hp_aj h v1 x3).bind fun v3 =>
  (hp_is h a0 9).bind fun _ =>
  hp_cb (f_Mo_encode F a0 v3 h) fun q5 h6 =>
  (hp_ga h6 a0 9 13).bind fun v10 =>
  (hp_aj h6 v10 x3).bind fun v12 =>
  hp_cb (f_Mo_bits F (v12 &&& ((1 <<< (x1.toInt64 &&& 63)) - 1)) h6) fun q14 h15 =>
  (hp_gi h15 a0 9 26).bind fun v17 =>
  if v17 ≤ ((16 * q14) + x2) then
    some (0, h15)
  else
    (hp_ga h15 a0 9 25).bind fun v20 =>
    (hp_ab h15 v20 ((16 * q14) + x2)).bind fun v22 =>
    some (v22, h15)
def f_Mo_byteOf_35 (F : Nat) (r35 : Nat → Int32 → Int32 → Int32 → hh_H → Option (Int32 × hh_H)) (a0 : Nat) (x1 : Int32) (x2 : Int32) (x3 : Int32) (h : hh_H) : Option (Int32 × hh_H) :=
  (hp_gi h a0 9 15).bind fun v24 =>
  if v24 ≤ x3 then
    some (0, h)
  else
    (hp_ga h a0 9 13).bind fun v27 =>
    (hp_aj h v27 x3).bind fun v29 =>
    hp_cb (f_Mo_in F v29 x1 h) fun q31 h32 =>
    if q31 = 0 then
      r35 a0 x1 x2 (x3 + 1) h32
    else
      f_Mo_byteOf_59 F a0 x1 x2 x3 h32
def l_Mo_byteOf_35 (F : Nat) : Nat → Int32 → Int32 → Int32 → hh_H → Option (Int32 × hh_H) := hp_it (fun _ _ _ _ _ => none) (f_Mo_byteOf_35 F) F
def f_Mo_byteOf (F : Nat) (a0 : Nat) (x1 : Int32) (x2 : Int32) (h : hh_H) : Option (Int32 × hh_H) :=
  (hp_pi h a0 9 0 0).bind fun h35 =>
  if x1 < 0 then
    (hp_is h35 a0 9).bind fun _ =>
    hp_cb (f_Mo_fail F a0 1 h35) fun q38 h39 =>
    some (q38, h39)
  else
    (hp_gi h35 a0 9 3).bind fun v43 =>
    if v43 ≤ x1 then
      (hp_is h35 a0 9).bind fun _ =>
      hp_cb (f_Mo_fail F a0 1 h35) fun q46 h47 =>
      some (q46, h47)
    else
      if x2 < 0 then
        (hp_is h35 a0 9).bind fun _ =>
        hp_cb (f_Mo_fail F a0 1 h35) fun q52 h53 =>
        some (q52, h53)
      else
        if x2 ≤ 15 then
          l_Mo_byteOf_35 F a0 x1 x2 0 h35
        else
          (hp_is h35 a0 9).bind fun _ =>
          hp_cb (f_Mo_fail F a0 1 h35) fun q58 h59 =>
          some (q58, h59)
def f_Mo_run_86 (F : Nat) (r86 : Nat → Int32 → Int32 → hh_H → Option (Int32 × hh_H)) (a0 : Nat) (x1 : Int32) (x3 : Int32) (h : hh_H) : Option (Int32 × hh_H) :=
  (hp_gi h a0 9 3).bind fun v1 =>
  if v1 ≤ x3 then
    some ((-1), h)
  else
    (hp_ga h a0 9 13).bind fun v4 =>
    (hp_aj h v4 x1).bind fun v6 =>
    hp_cb (f_Mo_in F v6 x3 h) fun q8 h9 =>
    if q8 = 0 then
      r86 a0 x1 (x3 + 1) h9
    else
      some (x3, h9)
def l_Mo_run_86 (F : Nat) : Nat → Int32 → Int32 → hh_H → Option (Int32 × hh_H) := hp_it (fun _ _ _ _ => none) (f_Mo_run_86 F) F
def f_Mo_run (F : Nat) (a0 : Nat) (x1 : Int32) (x2 : Int32) (h : hh_H) : Option (Int32 × hh_H) :=
  (hp_pi h a0 9 0 0).bind fun h12 =>
  if x1 < 0 then
    (hp_is h12 a0 9).bind fun _ =>
    hp_cb (f_Mo_fail F a0 1 h12) fun q15 h16 =>
    some (q15, h16)
  else
    (hp_gi h12 a0 9 15).bind fun v20 =>
    if x1 < v20 then
      if x2 < 0 then
        (hp_is h12 a0 9).bind fun _ =>
        hp_cb (f_Mo_fail F a0 2 h12) fun q24 h25 =>
        some (q24, h25)
      else
        if x2 ≤ 3 then
          if x2 = 0 then
            (hp_ga h12 a0 9 14).bind fun v51 =>
            (hp_ai h12 v51 x1).bind fun v53 =>
            some (v53, h12)
          else
            if x2 = 1 then
              (hp_ga h12 a0 9 13).bind fun v44 =>
              (hp_aj h12 v44 x1).bind fun v46 =>
              hp_cb (f_Mo_bits F v46 h12) fun q48 h49 =>
              some (q48, h49)
            else
              if x2 = 3 then
                (hp_ga h12 a0 9 12).bind fun v33 =>
                (hp_aj h12 v33 x1).bind fun v35 =>
                (hp_is h12 a0 9).bind fun _ =>
                hp_cb (f_Mo_encode F a0 v35 h12) fun q37 h38 =>
                (hp_gi h38 a0 9 26).bind fun v42 =>
                some (v42, h38)
              else
                l_Mo_run_86 F a0 x1 0 h12
        else
          (hp_is h12 a0 9).bind fun _ =>
          hp_cb (f_Mo_fail F a0 2 h12) fun q55 h56 =>
          some (q55, h56)
    else
      (hp_is h12 a0 9).bind fun _ =>
      hp_cb (f_Mo_fail F a0 1 h12) fun q60 h61 =>
      some (q60, h61)
def f_Mo_count (F : Nat) (a0 : Nat) (x1 : Int32) (h : hh_H) : Option (Int32 × hh_H) :=
  (hp_pi h a0 9 0 0).bind fun h1 =>
  if x1 = 0 then
    (hp_gi h1 a0 9 9).bind fun v4 =>
    some (v4, h1)
  else
  if x1 = 1 then
    (hp_gi h1 a0 9 9).bind fun v7 =>
    (hp_gj h1 a0 9 11).bind fun v9 =>
    hp_cb (f_Mo_bits F v9 h1) fun q11 h12 =>
    some (v7 - q11, h12)
  else
  if x1 = 2 then
    (hp_is h1 a0 9).bind fun _ =>
    hp_cb (f_Mo_buffered F a0 h1) fun q15 h16 =>
    some (q15, h16)
  else
  if x1 = 3 then
    (hp_gi h1 a0 9 15).bind fun v21 =>
    some (v21, h1)
  else
  if x1 = 4 then
    (hp_gi h1 a0 9 3).bind fun v24 =>
    (hp_gj h1 a0 9 16).bind fun v26 =>
    hp_cb (f_Mo_bits F v26 h1) fun q28 h29 =>
    some (v24 - q28, h29)
  else
  if x1 = 5 then
    (hp_gi h1 a0 9 17).bind fun v32 =>
    some (v32, h1)
  else
  if x1 = 6 then
    (hp_gi h1 a0 9 18).bind fun v35 =>
    some (v35, h1)
  else
  if x1 = 7 then
    (hp_gi h1 a0 9 19).bind fun v38 =>
    some (v38, h1)
  else
  if x1 = 8 then
    (hp_gi h1 a0 9 20).bind fun v41 =>
    some (v41, h1)
  else
  if x1 = 9 then
    (hp_gi h1 a0 9 5).bind fun v44 =>
    some (v44, h1)
  else
    some ((-1), h1)
def f_Mo_init (F : Nat) (a0 : Nat) (x1 : Int32) (x2 : Int32) (x3 : Int32) (h : hh_H) : Option (Unit × hh_H) :=
  hp_cb (hp_na h 0 20 20) fun b1 h3 =>
  (hp_pa h3 a0 9 4 b1).bind fun h4 =>
  hp_cb (hp_na h4 0 800 800) fun b6 h8 =>
  (hp_pa h8 a0 9 6 b6).bind fun h9 =>
  hp_cb (hp_na h9 0 40 40) fun b11 h13 =>
  (hp_pa h13 a0 9 7 b11).bind fun h14 =>
  hp_cb (hp_na h14 0 4000 4000) fun b16 h18 =>
  (hp_pa h18 a0 9 8 b16).bind fun h19 =>
  hp_cb (hp_na h19 3 60 60) fun b21 h23 =>
  (hp_pa h23 a0 9 12 b21).bind fun h24 =>
  hp_cb (hp_na h24 3 60 60) fun b26 h28 =>
  (hp_pa h28 a0 9 13 b26).bind fun h29 =>
  hp_cb (hp_na h29 0 60 60) fun b31 h33 =>
  (hp_pa h33 a0 9 14 b31).bind fun h34 =>
  hp_cb (hp_na h34 0 40 40) fun b36 h38 =>
  (hp_pa h38 a0 9 21 b36).bind fun h39 =>
  hp_cb (hp_na h39 2 40 40) fun b41 h43 =>
  (hp_pa h43 a0 9 22 b41).bind fun h44 =>
  hp_cb (hp_na h44 5 4001 4001) fun b46 h48 =>
  (hp_pa h48 a0 9 25 b46).bind fun h49 =>
  hp_cb (f_Mo_clamp F x1 20 48 h49) fun q51 h52 =>
  (hp_pi h52 a0 9 1 q51).bind fun h54 =>
  hp_cb (f_Mo_clamp F x2 2 4 h54) fun q56 h57 =>
  (hp_pi h57 a0 9 2 q56).bind fun h59 =>
  hp_cb (f_Mo_clamp F x3 8 60 h59) fun q61 h62 =>
  (hp_pi h62 a0 9 3 q61).bind fun h64 =>
  some ((), h64)
def f_Mo_flushing_149 (F : Nat) (r149 : Nat → Int32 → hh_H → Option (Int32 × hh_H)) (a0 : Nat) (x3 : Int32) (h : hh_H) : Option (Int32 × hh_H) :=
  if 64 ≤ x3 then
    some (1, h)
  else
    (hp_is h a0 9).bind fun _ =>
    hp_cb (f_Mo_full F a0 h) fun q2 h3 =>
    if q2 < 0 then
      some (1, h3)
    else
      (hp_is h3 a0 9).bind fun _ =>
      hp_cb (f_Mo_merge F a0 q2 h3) fun q8 h9 =>
      if q8 = 0 then
        some (1, h9)
      else
        r149 a0 (x3 + 1) h9
def l_Mo_flushing_149 (F : Nat) : Nat → Int32 → hh_H → Option (Int32 × hh_H) := hp_it (fun _ _ _ => none) (f_Mo_flushing_149 F) F
def f_Mo_flushing_139 (F : Nat) (a0 : Nat) (h : hh_H) : Option (Int32 × hh_H) :=
  (hp_gi h a0 9 9).bind fun v14 =>
  (hp_pi h a0 9 10 v14).bind fun h16 =>
  l_Mo_flushing_149 F a0 0 h16
def f_Mo_flushing_56 (F : Nat) (a0 : Nat) (z1 : Int64) (h : hh_H) : Option (Int32 × hh_H) :=
  if (lg_cmp z1 0) = 0 then
    f_Mo_flushing_139 F a0 h
  else
    (hp_is h a0 9).bind fun _ =>
    hp_cb (f_Mo_room F a0 z1 h) fun q19 h20 =>
    if (lg_cmp q19 0) = 0 then
      some (0, h20)
    else
      (hp_ga h20 a0 9 12).bind fun v25 =>
      (hp_gi h20 a0 9 15).bind fun v27 =>
      (hp_sj h20 v25 v27 z1).bind fun h29 =>
      (hp_ga h29 a0 9 13).bind fun v31 =>
      (hp_gi h29 a0 9 15).bind fun v33 =>
      (hp_sj h29 v31 v33 q19).bind fun h35 =>
      (hp_ga h35 a0 9 14).bind fun v37 =>
      (hp_gi h35 a0 9 15).bind fun v39 =>
      (hp_si h35 v37 v39 0).bind fun h41 =>
      (hp_gi h41 a0 9 15).bind fun v43 =>
      (hp_pi h41 a0 9 15 (v43 + 1)).bind fun h45 =>
      (hp_gj h45 a0 9 16).bind fun v47 =>
      (hp_pj h45 a0 9 16 (v47 ||| q19)).bind fun h49 =>
      (hp_gi h49 a0 9 18).bind fun v51 =>
      hp_cb (f_Mo_bits F q19 h49) fun q53 h54 =>
      (hp_pi h54 a0 9 18 (v51 + q53)).bind fun h56 =>
      f_Mo_flushing_139 F a0 h56
def f_Mo_flushing_16 (F : Nat) (r16 : Nat → Int64 → Int32 → hh_H → Option (Int32 × hh_H)) (a0 : Nat) (z1 : Int64) (x3 : Int32) (h : hh_H) : Option (Int32 × hh_H) :=
  (hp_gi h a0 9 9).bind fun v58 =>
  if v58 ≤ x3 then
    f_Mo_flushing_56 F a0 z1 h
  else
    (hp_gj h a0 9 11).bind fun v61 =>
    hp_cb (f_Mo_in F v61 x3 h) fun q63 h64 =>
    if q63 = 0 then
      (hp_ga h64 a0 9 7).bind fun v67 =>
      (hp_ai h64 v67 x3).bind fun v69 =>
      if v69 ≤ 0 then
        r16 a0 z1 (x3 + 1) h64
      else
        r16 a0 (z1 ||| (1 <<< (x3.toInt64 &&& 63))) (x3 + 1) h64
    else
      r16 a0 z1 (x3 + 1) h64
def l_Mo_flushing_16 (F : Nat) : Nat → Int64 → Int32 → hh_H → Option (Int32 × hh_H) := hp_it (fun _ _ _ _ => none) (f_Mo_flushing_16 F) F
def f_Mo_flushing (F : Nat) (a0 : Nat) (h : hh_H) : Option (Int32 × hh_H) :=
  (hp_is h a0 9).bind fun _ =>
  hp_cb (f_Mo_buffered F a0 h) fun q72 h73 =>
  if q72 = 0 then
    some (1, h73)
  else
    (hp_gi h73 a0 9 10).bind fun v78 =>
    l_Mo_flushing_16 F a0 0 v78 h73
def f_Mo_flush (F : Nat) (a0 : Nat) (h : hh_H) : Option (Int32 × hh_H) :=
  (hp_pi h a0 9 0 0).bind fun h1 =>
  (hp_is h1 a0 9).bind fun _ =>
  hp_cb (f_Mo_flushing F a0 h1) fun q3 h4 =>
  if q3 = 0 then
    (hp_is h4 a0 9).bind fun _ =>
    hp_cb (f_Mo_fail F a0 1 h4) fun q11 h12 =>
    some (q11, h12)
  else
    (hp_gi h4 a0 9 15).bind fun v9 =>
    some (v9, h4)
def f_Mo_finish (F : Nat) (a0 : Nat) (h : hh_H) : Option (Int32 × hh_H) :=
  (hp_pi h a0 9 0 0).bind fun h1 =>
  (hp_is h1 a0 9).bind fun _ =>
  hp_cb (f_Mo_flushing F a0 h1) fun q3 h4 =>
  if q3 = 0 then
    (hp_is h4 a0 9).bind fun _ =>
    hp_cb (f_Mo_fail F a0 1 h4) fun q27 h28 =>
    some (q27, h28)
  else
    (hp_gi h4 a0 9 15).bind fun v9 =>
    if v9 ≤ 0 then
      (hp_gi h4 a0 9 15).bind fun v12 =>
      some (v12, h4)
    else
      (hp_is h4 a0 9).bind fun _ =>
      hp_cb (f_Mo_merge F a0 (-1) h4) fun q14 h15 =>
      if q14 = 0 then
        (hp_is h15 a0 9).bind fun _ =>
        hp_cb (f_Mo_fail F a0 1 h15) fun q22 h23 =>
        some (q22, h23)
      else
        (hp_gi h15 a0 9 15).bind fun v20 =>
        some (v20, h15)
def f_Mo_close_108 (F : Nat) (a0 : Nat) (h : hh_H) : Option (Int32 × hh_H) :=
  (hp_ga h a0 9 7).bind fun v1 =>
  (hp_gi h a0 9 9).bind fun v3 =>
  (hp_gi h a0 9 5).bind fun v5 =>
  (hp_si h v1 v3 v5).bind fun h7 =>
  (hp_pi h7 a0 9 5 0).bind fun h9 =>
  (hp_gi h9 a0 9 9).bind fun v11 =>
  (hp_pi h9 a0 9 9 (v11 + 1)).bind fun h13 =>
  (hp_gi h13 a0 9 9).bind fun v15 =>
  some (v15 - 1, h13)
def f_Mo_close_51 (F : Nat) (r51 : Nat → Int32 → hh_H → Option (Int32 × hh_H)) (a0 : Nat) (x1 : Int32) (h : hh_H) : Option (Int32 × hh_H) :=
  (hp_gi h a0 9 5).bind fun v17 =>
  if v17 ≤ x1 then
    f_Mo_close_108 F a0 h
  else
    (hp_ga h a0 9 6).bind fun v20 =>
    (hp_gi h a0 9 9).bind fun v22 =>
    (hp_ga h a0 9 4).bind fun v24 =>
    (hp_ai h v24 x1).bind fun v26 =>
    (hp_si h v20 ((20 * v22) + x1) v26).bind fun h28 =>
    (hp_ga h28 a0 9 8).bind fun v30 =>
    (hp_gi h28 a0 9 9).bind fun v32 =>
    (hp_ga h28 a0 9 4).bind fun v34 =>
    (hp_ai h28 v34 x1).bind fun v36 =>
    (hp_ai h28 v30 ((100 * v32) + v36)).bind fun v38 =>
    (hp_si h28 v30 ((100 * v32) + v36) (v38 + 1)).bind fun h40 =>
    r51 a0 (x1 + 1) h40
def l_Mo_close_51 (F : Nat) : Nat → Int32 → hh_H → Option (Int32 × hh_H) := hp_it (fun _ _ _ => none) (f_Mo_close_51 F) F
def f_Mo_close_49 (F : Nat) (a0 : Nat) (h : hh_H) : Option (Int32 × hh_H) :=
  l_Mo_close_51 F a0 0 h
def f_Mo_close (F : Nat) (a0 : Nat) (h : hh_H) : Option (Int32 × hh_H) :=
  (hp_pi h a0 9 0 0).bind fun h42 =>
  (hp_gi h42 a0 9 9).bind fun v44 =>
  if v44 = 40 then
    (hp_is h42 a0 9).bind fun _ =>
    hp_cb (f_Mo_fail F a0 1 h42) fun q68 h69 =>
    some (q68, h69)
  else
    (hp_is h42 a0 9).bind fun _ =>
    hp_cb (f_Mo_buffered F a0 h42) fun q47 h48 =>
    (hp_gi h48 a0 9 5).bind fun v52 =>
    (hp_gi h48 a0 9 1).bind fun v54 =>
    if (q47 + v52) ≤ v54 then
      f_Mo_close_49 F a0 h48
    else
      (hp_is h48 a0 9).bind fun _ =>
      hp_cb (f_Mo_flushing F a0 h48) fun q57 h58 =>
      if q57 = 0 then
        (hp_is h58 a0 9).bind fun _ =>
        hp_cb (f_Mo_fail F a0 2 h58) fun q63 h64 =>
        some (q63, h64)
      else
        f_Mo_close_49 F a0 h58
theorem lay_X9 : ∀ w ∈ u_ws RX9 TX9 28, w ∈ hh_T := hh_sub (by decide +kernel) (by decide +kernel)
theorem tyok_X9 : ∀ k, k < 28 → parseFieldDescriptor (TX9 k).2.2.1 = some (tyX9 k) := by decide +kernel
theorem nmok_X9 : ∀ a, a < 28 → ∀ b, b < 28 → a ≠ b → (TX9 a).2.1 ≠ (TX9 b).2.1 := by decide +kernel
theorem fl_RX9_57 : hh_FL RX9 57 9 0 .int false := ⟨_, _, _, tyX9, "IndexBuilderModel", rfl, by decide, lay_X9, ⟨hh_at 1190 (by decide +kernel) (by decide +kernel), Or.inl rfl⟩, rfl, by decide +kernel, tyok_X9, nmok_X9⟩
theorem fl_RX9_19 : hh_FL RX9 19 9 8 (.array .int) true := ⟨_, _, _, tyX9, "IndexBuilderModel", rfl, by decide, lay_X9, ⟨hh_at 1198 (by decide +kernel) (by decide +kernel), Or.inl rfl⟩, rfl, by decide +kernel, tyok_X9, nmok_X9⟩
theorem cw_X9_noWord : Cond.code yX9_noWord cX9_noWord 1 (some .boolean) ∈ hh_T := hh_at 1286 (by decide +kernel) (by decide +kernel)
theorem cs_RX9_60 : hh_CS RX9 60 yX9_noWord cX9_noWord 1 (some .boolean) 1 [.static yX9_noWord] := ⟨cw_X9_noWord, hh_at 1284 (by decide +kernel) (by decide +kernel), hh_at 47 (by decide +kernel) (by decide +kernel), hh_all1 (hh_at 1285 (by decide +kernel) (by decide +kernel)), by decide +kernel⟩
theorem fl_RX9_68 : hh_FL RX9 68 9 5 .int false := ⟨_, _, _, tyX9, "IndexBuilderModel", rfl, by decide, lay_X9, ⟨hh_at 1195 (by decide +kernel) (by decide +kernel), Or.inl rfl⟩, rfl, by decide +kernel, tyok_X9, nmok_X9⟩
theorem fl_RX9_7 : hh_FL RX9 7 9 4 (.array .int) true := ⟨_, _, _, tyX9, "IndexBuilderModel", rfl, by decide, lay_X9, ⟨hh_at 1194 (by decide +kernel) (by decide +kernel), Or.inl rfl⟩, rfl, by decide +kernel, tyok_X9, nmok_X9⟩
theorem cw_X9_fail : Cond.code yX9_fail cX9_fail 2 (some .int) ∈ hh_T := hh_at 1290 (by decide +kernel) (by decide +kernel)
theorem cs_RX9_64 : hh_CS RX9 64 yX9_fail cX9_fail 2 (some .int) 1 [.instanceMethod yX9_fail, .selects yX9_fail.cls yX9_fail yX9_fail] := ⟨cw_X9_fail, hh_at 1287 (by decide +kernel) (by decide +kernel), hh_at 47 (by decide +kernel) (by decide +kernel), hh_all2 (hh_at 1289 (by decide +kernel) (by decide +kernel)) (hh_at 21 (by decide +kernel) (by decide +kernel)), by decide +kernel⟩
theorem fl_RX9_74 : hh_FL RX9 74 9 9 .int false := ⟨_, _, _, tyX9, "IndexBuilderModel", rfl, by decide, lay_X9, ⟨hh_at 1199 (by decide +kernel) (by decide +kernel), Or.inl rfl⟩, rfl, by decide +kernel, tyok_X9, nmok_X9⟩
theorem fl_RX9_16 : hh_FL RX9 16 9 7 (.array .int) true := ⟨_, _, _, tyX9, "IndexBuilderModel", rfl, by decide, lay_X9, ⟨hh_at 1197 (by decide +kernel) (by decide +kernel), Or.inl rfl⟩, rfl, by decide +kernel, tyok_X9, nmok_X9⟩
theorem fl_RX9_71 : hh_FL RX9 71 9 10 .int false := ⟨_, _, _, tyX9, "IndexBuilderModel", rfl, by decide, lay_X9, ⟨hh_at 1200 (by decide +kernel) (by decide +kernel), Or.inl rfl⟩, rfl, by decide +kernel, tyok_X9, nmok_X9⟩
theorem fl_RX9_85 : hh_FL RX9 85 9 11 .long false := ⟨_, _, _, tyX9, "IndexBuilderModel", rfl, by decide, lay_X9, ⟨hh_at 1201 (by decide +kernel) (by decide +kernel), Or.inl rfl⟩, rfl, by decide +kernel, tyok_X9, nmok_X9⟩
theorem cw_X9_in : Cond.code yX9_in cX9_in 3 (some .boolean) ∈ hh_T := hh_at 1305 (by decide +kernel) (by decide +kernel)
theorem cs_RX9_89 : hh_CS RX9 89 yX9_in cX9_in 3 (some .boolean) 2 [.static yX9_in] := ⟨cw_X9_in, hh_at 1303 (by decide +kernel) (by decide +kernel), hh_at 47 (by decide +kernel) (by decide +kernel), hh_all1 (hh_at 1304 (by decide +kernel) (by decide +kernel)), by decide +kernel⟩
theorem cw_X9_bits : Cond.code yX9_bits cX9_bits 4 (some .int) ∈ hh_T := hh_at 1328 (by decide +kernel) (by decide +kernel)
theorem cs_RX9_93 : hh_CS RX9 93 yX9_bits cX9_bits 4 (some .int) 1 [.static yX9_bits] := ⟨cw_X9_bits, hh_at 1326 (by decide +kernel) (by decide +kernel), hh_at 47 (by decide +kernel) (by decide +kernel), hh_all1 (hh_at 1327 (by decide +kernel) (by decide +kernel)), by decide +kernel⟩
theorem fl_RX9_39 : hh_FL RX9 39 9 25 (.array .byte) true := ⟨_, _, _, tyX9, "IndexBuilderModel", rfl, by decide, lay_X9, ⟨hh_at 1215 (by decide +kernel) (by decide +kernel), Or.inl rfl⟩, rfl, by decide +kernel, tyok_X9, nmok_X9⟩
theorem fl_RX9_97 : hh_FL RX9 97 9 26 .int false := ⟨_, _, _, tyX9, "IndexBuilderModel", rfl, by decide, lay_X9, ⟨hh_at 1216 (by decide +kernel) (by decide +kernel), Or.inl rfl⟩, rfl, by decide +kernel, tyok_X9, nmok_X9⟩
theorem fl_RX9_13 : hh_FL RX9 13 9 6 (.array .int) true := ⟨_, _, _, tyX9, "IndexBuilderModel", rfl, by decide, lay_X9, ⟨hh_at 1196 (by decide +kernel) (by decide +kernel), Or.inl rfl⟩, rfl, by decide +kernel, tyok_X9, nmok_X9⟩
theorem cw_X9_put : Cond.code yX9_put cX9_put 2 none ∈ hh_T := hh_at 1321 (by decide +kernel) (by decide +kernel)
theorem cs_RX9_103 : hh_CS RX9 103 yX9_put cX9_put 2 none 1 [.instanceMethod yX9_put, .selects yX9_put.cls yX9_put yX9_put] := ⟨cw_X9_put, hh_at 1318 (by decide +kernel) (by decide +kernel), hh_at 47 (by decide +kernel) (by decide +kernel), hh_all2 (hh_at 1320 (by decide +kernel) (by decide +kernel)) (hh_at 27 (by decide +kernel) (by decide +kernel)), by decide +kernel⟩
theorem cw_X9_often : Cond.code yX9_often cX9_often 3 (some .int) ∈ hh_T := hh_at 1317 (by decide +kernel) (by decide +kernel)
theorem cs_RX9_100 : hh_CS RX9 100 yX9_often cX9_often 3 (some .int) 2 [.instanceMethod yX9_often, .selects yX9_often.cls yX9_often yX9_often] := ⟨cw_X9_often, hh_at 1314 (by decide +kernel) (by decide +kernel), hh_at 47 (by decide +kernel) (by decide +kernel), hh_all2 (hh_at 1316 (by decide +kernel) (by decide +kernel)) (hh_at 26 (by decide +kernel) (by decide +kernel)), by decide +kernel⟩
theorem cw_X9_putWord : Cond.code yX9_putWord cX9_putWord 8 none ∈ hh_T := hh_at 1325 (by decide +kernel) (by decide +kernel)
theorem cs_RX9_110 : hh_CS RX9 110 yX9_putWord cX9_putWord 8 none 2 [.instanceMethod yX9_putWord, .selects yX9_putWord.cls yX9_putWord yX9_putWord] := ⟨cw_X9_putWord, hh_at 1322 (by decide +kernel) (by decide +kernel), hh_at 47 (by decide +kernel) (by decide +kernel), hh_all2 (hh_at 1324 (by decide +kernel) (by decide +kernel)) (hh_at 28 (by decide +kernel) (by decide +kernel)), by decide +kernel⟩
theorem fl_RX9_107 : hh_FL RX9 107 9 27 .long false := ⟨_, _, _, tyX9, "IndexBuilderModel", rfl, by decide, lay_X9, ⟨hh_at 1217 (by decide +kernel) (by decide +kernel), Or.inl rfl⟩, rfl, by decide +kernel, tyok_X9, nmok_X9⟩
theorem fl_RX9_54 : hh_FL RX9 54 9 3 .int true := ⟨_, _, _, tyX9, "IndexBuilderModel", rfl, by decide, lay_X9, ⟨hh_at 1193 (by decide +kernel) (by decide +kernel), Or.inl rfl⟩, rfl, by decide +kernel, tyok_X9, nmok_X9⟩
theorem fl_RX9_118 : hh_FL RX9 118 9 16 .long false := ⟨_, _, _, tyX9, "IndexBuilderModel", rfl, by decide, lay_X9, ⟨hh_at 1206 (by decide +kernel) (by decide +kernel), Or.inl rfl⟩, rfl, by decide +kernel, tyok_X9, nmok_X9⟩
theorem cw_X9_encode : Cond.code yX9_encode cX9_encode 7 none ∈ hh_T := hh_at 1313 (by decide +kernel) (by decide +kernel)
theorem cs_RX9_114 : hh_CS RX9 114 yX9_encode cX9_encode 7 none 1 [.instanceMethod yX9_encode, .selects yX9_encode.cls yX9_encode yX9_encode] := ⟨cw_X9_encode, hh_at 1310 (by decide +kernel) (by decide +kernel), hh_at 47 (by decide +kernel) (by decide +kernel), hh_all2 (hh_at 1312 (by decide +kernel) (by decide +kernel)) (hh_at 25 (by decide +kernel) (by decide +kernel)), by decide +kernel⟩
theorem fl_RX9_29 : hh_FL RX9 29 9 14 (.array .int) true := ⟨_, _, _, tyX9, "IndexBuilderModel", rfl, by decide, lay_X9, ⟨hh_at 1204 (by decide +kernel) (by decide +kernel), Or.inl rfl⟩, rfl, by decide +kernel, tyok_X9, nmok_X9⟩
theorem fl_RX9_51 : hh_FL RX9 51 9 2 .int true := ⟨_, _, _, tyX9, "IndexBuilderModel", rfl, by decide, lay_X9, ⟨hh_at 1192 (by decide +kernel) (by decide +kernel), Or.inl rfl⟩, rfl, by decide +kernel, tyok_X9, nmok_X9⟩
theorem fl_RX9_125 : hh_FL RX9 125 9 15 .int false := ⟨_, _, _, tyX9, "IndexBuilderModel", rfl, by decide, lay_X9, ⟨hh_at 1205 (by decide +kernel) (by decide +kernel), Or.inl rfl⟩, rfl, by decide +kernel, tyok_X9, nmok_X9⟩
theorem kl_RX9_140 : Jvm.Cond.constantLong RX9 140 (-1) ∈ hh_T := hh_at 1337 (by decide +kernel) (by decide +kernel)
theorem fl_RX9_145 : hh_FL RX9 145 9 19 .int false := ⟨_, _, _, tyX9, "IndexBuilderModel", rfl, by decide, lay_X9, ⟨hh_at 1209 (by decide +kernel) (by decide +kernel), Or.inl rfl⟩, rfl, by decide +kernel, tyok_X9, nmok_X9⟩
theorem fl_RX9_26 : hh_FL RX9 26 9 13 (.array .long) true := ⟨_, _, _, tyX9, "IndexBuilderModel", rfl, by decide, lay_X9, ⟨hh_at 1203 (by decide +kernel) (by decide +kernel), Or.inl rfl⟩, rfl, by decide +kernel, tyok_X9, nmok_X9⟩
theorem fl_RX9_22 : hh_FL RX9 22 9 12 (.array .long) true := ⟨_, _, _, tyX9, "IndexBuilderModel", rfl, by decide, lay_X9, ⟨hh_at 1202 (by decide +kernel) (by decide +kernel), Or.inl rfl⟩, rfl, by decide +kernel, tyok_X9, nmok_X9⟩
theorem fl_RX9_137 : hh_FL RX9 137 9 17 .int false := ⟨_, _, _, tyX9, "IndexBuilderModel", rfl, by decide, lay_X9, ⟨hh_at 1207 (by decide +kernel) (by decide +kernel), Or.inl rfl⟩, rfl, by decide +kernel, tyok_X9, nmok_X9⟩
theorem cw_X9_room : Cond.code yX9_room cX9_room 7 (some .long) ∈ hh_T := hh_at 1309 (by decide +kernel) (by decide +kernel)
theorem cs_RX9_121 : hh_CS RX9 121 yX9_room cX9_room 7 (some .long) 1 [.instanceMethod yX9_room, .selects yX9_room.cls yX9_room yX9_room] := ⟨cw_X9_room, hh_at 1306 (by decide +kernel) (by decide +kernel), hh_at 47 (by decide +kernel) (by decide +kernel), hh_all2 (hh_at 1308 (by decide +kernel) (by decide +kernel)) (hh_at 24 (by decide +kernel) (by decide +kernel)), by decide +kernel⟩
theorem fl_RX9_128 : hh_FL RX9 128 9 18 .int false := ⟨_, _, _, tyX9, "IndexBuilderModel", rfl, by decide, lay_X9, ⟨hh_at 1208 (by decide +kernel) (by decide +kernel), Or.inl rfl⟩, rfl, by decide +kernel, tyok_X9, nmok_X9⟩
theorem fl_RX9_142 : hh_FL RX9 142 9 20 .int false := ⟨_, _, _, tyX9, "IndexBuilderModel", rfl, by decide, lay_X9, ⟨hh_at 1210 (by decide +kernel) (by decide +kernel), Or.inl rfl⟩, rfl, by decide +kernel, tyok_X9, nmok_X9⟩
theorem cw_X9_adjacent : Cond.code yX9_adjacent cX9_adjacent 5 (some .boolean) ∈ hh_T := hh_at 1361 (by decide +kernel) (by decide +kernel)
theorem cs_RX9_148 : hh_CS RX9 148 yX9_adjacent cX9_adjacent 5 (some .boolean) 3 [.instanceMethod yX9_adjacent, .selects yX9_adjacent.cls yX9_adjacent yX9_adjacent] := ⟨cw_X9_adjacent, hh_at 1358 (by decide +kernel) (by decide +kernel), hh_at 47 (by decide +kernel) (by decide +kernel), hh_all2 (hh_at 1360 (by decide +kernel) (by decide +kernel)) (hh_at 32 (by decide +kernel) (by decide +kernel)), by decide +kernel⟩
theorem fl_RX9_152 : hh_FL RX9 152 9 23 .int false := ⟨_, _, _, tyX9, "IndexBuilderModel", rfl, by decide, lay_X9, ⟨hh_at 1213 (by decide +kernel) (by decide +kernel), Or.inl rfl⟩, rfl, by decide +kernel, tyok_X9, nmok_X9⟩
theorem cw_X9_fits : Cond.code yX9_fits cX9_fits 7 (some .boolean) ∈ hh_T := hh_at 1357 (by decide +kernel) (by decide +kernel)
theorem cs_RX9_159 : hh_CS RX9 159 yX9_fits cX9_fits 7 (some .boolean) 4 [.instanceMethod yX9_fits, .selects yX9_fits.cls yX9_fits yX9_fits] := ⟨cw_X9_fits, hh_at 1354 (by decide +kernel) (by decide +kernel), hh_at 47 (by decide +kernel) (by decide +kernel), hh_all2 (hh_at 1356 (by decide +kernel) (by decide +kernel)) (hh_at 31 (by decide +kernel) (by decide +kernel)), by decide +kernel⟩
theorem fl_RX9_32 : hh_FL RX9 32 9 21 (.array .int) true := ⟨_, _, _, tyX9, "IndexBuilderModel", rfl, by decide, lay_X9, ⟨hh_at 1211 (by decide +kernel) (by decide +kernel), Or.inl rfl⟩, rfl, by decide +kernel, tyok_X9, nmok_X9⟩
theorem fl_RX9_155 : hh_FL RX9 155 9 24 .boolean false := ⟨_, _, _, tyX9, "IndexBuilderModel", rfl, by decide, lay_X9, ⟨hh_at 1214 (by decide +kernel) (by decide +kernel), Or.inl rfl⟩, rfl, by decide +kernel, tyok_X9, nmok_X9⟩
theorem fl_RX9_35 : hh_FL RX9 35 9 22 (.array .double) true := ⟨_, _, _, tyX9, "IndexBuilderModel", rfl, by decide, lay_X9, ⟨hh_at 1212 (by decide +kernel) (by decide +kernel), Or.inl rfl⟩, rfl, by decide +kernel, tyok_X9, nmok_X9⟩
theorem cw_X9_part : Cond.code yX9_part cX9_part 5 (some .double) ∈ hh_T := hh_at 1369 (by decide +kernel) (by decide +kernel)
theorem cs_RX9_163 : hh_CS RX9 163 yX9_part cX9_part 5 (some .double) 2 [.instanceMethod yX9_part, .selects yX9_part.cls yX9_part yX9_part] := ⟨cw_X9_part, hh_at 1366 (by decide +kernel) (by decide +kernel), hh_at 47 (by decide +kernel) (by decide +kernel), hh_all2 (hh_at 1368 (by decide +kernel) (by decide +kernel)) (hh_at 33 (by decide +kernel) (by decide +kernel)), by decide +kernel⟩
theorem cw_X9_buffered : Cond.code yX9_buffered cX9_buffered 3 (some .int) ∈ hh_T := hh_at 1298 (by decide +kernel) (by decide +kernel)
theorem cs_RX9_77 : hh_CS RX9 77 yX9_buffered cX9_buffered 3 (some .int) 0 [.instanceMethod yX9_buffered, .selects yX9_buffered.cls yX9_buffered yX9_buffered] := ⟨cw_X9_buffered, hh_at 1295 (by decide +kernel) (by decide +kernel), hh_at 47 (by decide +kernel) (by decide +kernel), hh_all2 (hh_at 1297 (by decide +kernel) (by decide +kernel)) (hh_at 22 (by decide +kernel) (by decide +kernel)), by decide +kernel⟩
theorem oi_RX9_1 : Cond.methodLink RX9 1 Lib.objectInit ∈ hh_T := hh_at 1186 (by decide +kernel) (by decide +kernel)
theorem cw_X9_clamp : Cond.code yX9_clamp cX9_clamp 3 (some .int) ∈ hh_T := hh_at 1189 (by decide +kernel) (by decide +kernel)
theorem cs_RX9_43 : hh_CS RX9 43 yX9_clamp cX9_clamp 3 (some .int) 3 [.static yX9_clamp] := ⟨cw_X9_clamp, hh_at 1187 (by decide +kernel) (by decide +kernel), hh_at 47 (by decide +kernel) (by decide +kernel), hh_all1 (hh_at 1188 (by decide +kernel) (by decide +kernel)), by decide +kernel⟩
theorem fl_RX9_47 : hh_FL RX9 47 9 1 .int true := ⟨_, _, _, tyX9, "IndexBuilderModel", rfl, by decide, lay_X9, ⟨hh_at 1191 (by decide +kernel) (by decide +kernel), Or.inl rfl⟩, rfl, by decide +kernel, tyok_X9, nmok_X9⟩
theorem cw_X9_full : Cond.code yX9_full cX9_full 5 (some .int) ∈ hh_T := hh_at 1332 (by decide +kernel) (by decide +kernel)
theorem cs_RX9_131 : hh_CS RX9 131 yX9_full cX9_full 5 (some .int) 0 [.instanceMethod yX9_full, .selects yX9_full.cls yX9_full yX9_full] := ⟨cw_X9_full, hh_at 1329 (by decide +kernel) (by decide +kernel), hh_at 47 (by decide +kernel) (by decide +kernel), hh_all2 (hh_at 1331 (by decide +kernel) (by decide +kernel)) (hh_at 29 (by decide +kernel) (by decide +kernel)), by decide +kernel⟩
theorem cw_X9_merge : Cond.code yX9_merge cX9_merge 13 (some .boolean) ∈ hh_T := hh_at 1336 (by decide +kernel) (by decide +kernel)
theorem cs_RX9_134 : hh_CS RX9 134 yX9_merge cX9_merge 13 (some .boolean) 1 [.instanceMethod yX9_merge, .selects yX9_merge.cls yX9_merge yX9_merge] := ⟨cw_X9_merge, hh_at 1333 (by decide +kernel) (by decide +kernel), hh_at 47 (by decide +kernel) (by decide +kernel), hh_all2 (hh_at 1335 (by decide +kernel) (by decide +kernel)) (hh_at 30 (by decide +kernel) (by decide +kernel)), by decide +kernel⟩
theorem cw_X9_flushing : Cond.code yX9_flushing cX9_flushing 5 (some .boolean) ∈ hh_T := hh_at 1302 (by decide +kernel) (by decide +kernel)
theorem cs_RX9_81 : hh_CS RX9 81 yX9_flushing cX9_flushing 5 (some .boolean) 0 [.instanceMethod yX9_flushing, .selects yX9_flushing.cls yX9_flushing yX9_flushing] := ⟨cw_X9_flushing, hh_at 1299 (by decide +kernel) (by decide +kernel), hh_at 47 (by decide +kernel) (by decide +kernel), hh_all2 (hh_at 1301 (by decide +kernel) (by decide +kernel)) (hh_at 23 (by decide +kernel) (by decide +kernel)), by decide +kernel⟩
def mc_Mo_clamp : Nat := 0
def ms_Mo_clamp : Nat := 0
def rm_Mo_clamp : Room := { frames := 0, cells := 0, slots := 0, locals := 0 }
abbrev ok_Mo_clamp (X : hh_X) (B e0 : Nat) : Prop := hh_ok X B e0 cX9_clamp RX9 3 (some .int) "clamp" rm_Mo_clamp
set_option maxRecDepth 100000 in
set_option maxHeartbeats 4000000 in
theorem w_Mo_clamp {X : hh_X} {B e0 : Nat} {rr : Int32 × hh_H} (C : ok_Mo_clamp X B e0) (E : hh_End X B e0 (.returned (some (.int rr.1))) rr.2 mc_Mo_clamp ms_Mo_clamp) (F : Nat) (x0 : Int32) (x1 : Int32) (x2 : Int32) (h : hh_H)
    (hf : f_Mo_clamp F x0 x1 x2 h = some rr) : hh_W X 0 0 0 [(0, .int x0), (1, .int x1), (2, .int x2)] [] h := by
  unfold f_Mo_clamp at hf
  refine r_iload_n C dX9_clamp_0 rfl 0 rfl ?_
  refine r_iload_n C dX9_clamp_1 rfl 1 rfl ?_
  refine r_icmp_ge C dX9_clamp_2 (tgt := 9) (by decide) (fun c1 => ?_) (fun c1 => ?_)
  · rw [if_pos c1] at hf
    refine r_iload_n C dX9_clamp_9 rfl 0 rfl ?_
    refine r_iload_n C dX9_clamp_10 rfl 2 rfl ?_
    refine r_icmp_le C dX9_clamp_11 (tgt := 18) (by decide) (fun c2 => ?_) (fun c2 => ?_)
    · rw [if_pos c2] at hf
      refine r_iload_n C dX9_clamp_18 rfl 0 rfl ?_
      exact r_ireturn C E dX9_clamp_19 (by decide) (by decide) hf
    · rw [if_neg c2] at hf
      refine r_iload_n C dX9_clamp_14 rfl 2 rfl ?_
      refine r_goto C dX9_clamp_15 (tgt := 19) (by decide) ?_
      exact r_ireturn C E dX9_clamp_19 (by decide) (by decide) hf
  · rw [if_neg c1] at hf
    refine r_iload_n C dX9_clamp_5 rfl 1 rfl ?_
    refine r_goto C dX9_clamp_6 (tgt := 19) (by decide) ?_
    exact r_ireturn C E dX9_clamp_19 (by decide) (by decide) hf
theorem c_Mo_clamp (B e0 F : Nat) (x0 : Int32) (x1 : Int32) (x2 : Int32) (h : hh_H) (rr : Int32 × hh_H) (hf : f_Mo_clamp F x0 x1 x2 h = some rr) : hh_Met yX9_clamp cX9_clamp 3 (some .int) rm_Mo_clamp mc_Mo_clamp ms_Mo_clamp B e0 [.int x0, .int x1, .int x2] h (.returned (some (.int rr.1))) rr.2 :=
  hh_met (by decide) (Nat.le_of_ble_eq_true rfl) fun X C E => hh_pick [0, 1, 2] rfl (w_Mo_clamp C E F x0 x1 x2 h hf)
def mc_Mo_thrown : Nat := 0
def ms_Mo_thrown : Nat := 0
def rm_Mo_thrown : Room := { frames := 0, cells := 0, slots := 0, locals := 0 }
abbrev ok_Mo_thrown (X : hh_X) (B e0 : Nat) : Prop := hh_ok X B e0 cX9_thrown RX9 1 (some .int) "thrown" rm_Mo_thrown
set_option maxRecDepth 100000 in
set_option maxHeartbeats 4000000 in
theorem w_Mo_thrown {X : hh_X} {B e0 : Nat} {rr : Int32 × hh_H} (C : ok_Mo_thrown X B e0) (E : hh_End X B e0 (.returned (some (.int rr.1))) rr.2 mc_Mo_thrown ms_Mo_thrown) (F : Nat) (a0 : Nat) (h : hh_H)
    (hf : f_Mo_thrown F a0 h = some rr) : hh_W X 0 0 0 [(0, .ref (hh_ad B e0 a0))] [] h := by
  unfold f_Mo_thrown at hf
  refine r_aload_n C dX9_thrown_0 rfl 0 rfl ?_
  obtain ⟨v1, e2, hf⟩ := hp_bind hf
  refine r_getI C dX9_thrown_1 fl_RX9_57 e2 ?_
  exact r_ireturn C E dX9_thrown_4 (by decide) (by decide) hf
theorem c_Mo_thrown (B e0 F : Nat) (a0 : Nat) (h : hh_H) (rr : Int32 × hh_H) (hf : f_Mo_thrown F a0 h = some rr) : hh_Met yX9_thrown cX9_thrown 1 (some .int) rm_Mo_thrown mc_Mo_thrown ms_Mo_thrown B e0 [.ref (hh_ad B e0 a0)] h (.returned (some (.int rr.1))) rr.2 :=
  hh_met (by decide) (Nat.le_of_ble_eq_true rfl) fun X C E => hh_pick [0] rfl (w_Mo_thrown C E F a0 h hf)
def mc_Mo_fail : Nat := 0
def ms_Mo_fail : Nat := 0
def rm_Mo_fail : Room := { frames := 0, cells := 0, slots := 0, locals := 0 }
abbrev ok_Mo_fail (X : hh_X) (B e0 : Nat) : Prop := hh_ok X B e0 cX9_fail RX9 2 (some .int) "fail" rm_Mo_fail
set_option maxRecDepth 100000 in
set_option maxHeartbeats 4000000 in
theorem w_Mo_fail {X : hh_X} {B e0 : Nat} {rr : Int32 × hh_H} (C : ok_Mo_fail X B e0) (E : hh_End X B e0 (.returned (some (.int rr.1))) rr.2 mc_Mo_fail ms_Mo_fail) (F : Nat) (a0 : Nat) (x1 : Int32) (h : hh_H)
    (hf : f_Mo_fail F a0 x1 h = some rr) : hh_W X 0 0 0 [(0, .ref (hh_ad B e0 a0)), (1, .int x1)] [] h := by
  unfold f_Mo_fail at hf
  refine r_aload_n C dX9_fail_0 rfl 0 rfl ?_
  refine r_iload_n C dX9_fail_1 rfl 1 rfl ?_
  obtain ⟨h1, e2, hf⟩ := hp_bind hf
  refine r_putI C dX9_fail_2 fl_RX9_57 e2 ?_
  refine r_iconst C dX9_fail_5 (v := 0) (by decide) ?_
  exact r_ireturn C E dX9_fail_6 (by decide) (by decide) hf
theorem c_Mo_fail (B e0 F : Nat) (a0 : Nat) (x1 : Int32) (h : hh_H) (rr : Int32 × hh_H) (hf : f_Mo_fail F a0 x1 h = some rr) : hh_Met yX9_fail cX9_fail 2 (some .int) rm_Mo_fail mc_Mo_fail ms_Mo_fail B e0 [.ref (hh_ad B e0 a0), .int x1] h (.returned (some (.int rr.1))) rr.2 :=
  hh_met (by decide) (Nat.le_of_ble_eq_true rfl) fun X C E => hh_pick [0, 1] rfl (w_Mo_fail C E F a0 x1 h hf)
def mc_Mo_bits : Nat := 0
def ms_Mo_bits : Nat := 0
def rm_Mo_bits : Room := { frames := 0, cells := 0, slots := 0, locals := 0 }
abbrev ok_Mo_bits (X : hh_X) (B e0 : Nat) : Prop := hh_ok X B e0 cX9_bits RX9 4 (some .int) "bits" rm_Mo_bits
set_option maxRecDepth 100000 in
set_option maxHeartbeats 4000000 in
theorem w_Mo_bits_4 {X : hh_X} {B e0 : Nat} {rr : Int32 × hh_H} (C : ok_Mo_bits X B e0) (E : hh_End X B e0 (.returned (some (.int rr.1))) rr.2 mc_Mo_bits ms_Mo_bits) (F : Nat) (r4 : Int64 → Int32 → Int32 → hh_H → Option (Int32 × hh_H)) (H4 : ∀ (z0 : Int64) (x2 : Int32) (x3 : Int32) (h : hh_H), r4 z0 x2 x3 h = some rr → hh_W X 0 0 4 [(0, .long z0), (2, .int x2), (3, .int x3)] [] h) (z0 : Int64) (x2 : Int32) (x3 : Int32) (h : hh_H)
    (hf : f_Mo_bits_4 F r4 z0 x2 x3 h = some rr) : hh_W X 0 0 4 [(0, .long z0), (2, .int x2), (3, .int x3)] [] h := by
  unfold f_Mo_bits_4 at hf
  refine r_iload_n C dX9_bits_4 rfl 2 rfl ?_
  refine r_bipush C dX9_bits_5 (v := 64) (by decide) ?_
  refine r_icmp_ge C dX9_bits_7 (tgt := 29) (by decide) (fun c1 => ?_) (fun c1 => ?_)
  · rw [if_pos c1] at hf
    refine r_iload_n C dX9_bits_29 rfl 1 rfl ?_
    exact r_ireturn C E dX9_bits_30 (by decide) (by decide) hf
  · rw [if_neg c1] at hf
    refine r_lload_n C dX9_bits_10 rfl 0 rfl ?_
    refine r_iload_n C dX9_bits_11 rfl 2 rfl ?_
    refine r_lushr C dX9_bits_12 ?_
    refine r_lconst C dX9_bits_13 (v := 1) (by decide) ?_
    refine r_land C dX9_bits_14 ?_
    refine r_lconst C dX9_bits_15 (v := 0) (by decide) ?_
    refine r_lcmp C dX9_bits_16 ?_
    refine r_if_eq C dX9_bits_17 (tgt := 23) (by decide) (fun c2 => ?_) (fun c2 => ?_)
    · rw [if_pos c2] at hf
      refine r_iinc (lv' := [(3, .int (x3 + 1)), (0, .long z0), (2, .int x2)]) C dX9_bits_23 2 rfl rfl (by decide) rfl ?_
      refine r_goto C dX9_bits_26 (tgt := 4) (by decide) ?_
      refine hh_pick [1, 2, 0] rfl ?_
      exact H4 z0 x2 (x3 + 1) h hf
    · rw [if_neg c2] at hf
      refine r_iinc (lv' := [(2, .int (x2 + 1)), (0, .long z0), (3, .int x3)]) C dX9_bits_20 1 rfl rfl (by decide) rfl ?_
      refine r_iinc (lv' := [(3, .int (x3 + 1)), (2, .int (x2 + 1)), (0, .long z0)]) C dX9_bits_23 2 rfl rfl (by decide) rfl ?_
      refine r_goto C dX9_bits_26 (tgt := 4) (by decide) ?_
      refine hh_pick [2, 1, 0] rfl ?_
      exact H4 z0 (x2 + 1) (x3 + 1) h hf
theorem wl_Mo_bits_4 {X : hh_X} {B e0 : Nat} {rr : Int32 × hh_H} (C : ok_Mo_bits X B e0) (E : hh_End X B e0 (.returned (some (.int rr.1))) rr.2 mc_Mo_bits ms_Mo_bits) (F : Nat) :
    ∀ (n : Nat) (z0 : Int64) (x2 : Int32) (x3 : Int32) (h : hh_H), hp_it (fun _ _ _ _ => none) (f_Mo_bits_4 F) n z0 x2 x3 h = some rr → hh_W X 0 0 4 [(0, .long z0), (2, .int x2), (3, .int x3)] [] h := by
  intro n
  induction n with
  | zero => intro z0 x2 x3 h hf; cases hf
  | succ n ih =>
    intro z0 x2 x3 h hf
    exact w_Mo_bits_4 C E F _ ih z0 x2 x3 h hf
set_option maxRecDepth 100000 in
set_option maxHeartbeats 4000000 in
theorem w_Mo_bits {X : hh_X} {B e0 : Nat} {rr : Int32 × hh_H} (C : ok_Mo_bits X B e0) (E : hh_End X B e0 (.returned (some (.int rr.1))) rr.2 mc_Mo_bits ms_Mo_bits) (F : Nat) (z0 : Int64) (h : hh_H)
    (hf : f_Mo_bits F z0 h = some rr) : hh_W X 0 0 0 [(0, .long z0)] [] h := by
  unfold f_Mo_bits at hf
  refine r_iconst C dX9_bits_0 (v := 0) (by decide) ?_
  refine r_istore_n (lv' := [(2, .int 0), (0, .long z0)]) C dX9_bits_1 rfl (by decide) rfl ?_
  refine r_iconst C dX9_bits_2 (v := 0) (by decide) ?_
  refine r_istore_n (lv' := [(3, .int 0), (2, .int 0), (0, .long z0)]) C dX9_bits_3 rfl (by decide) rfl ?_
  refine hh_pick [2, 1, 0] rfl ?_
  exact wl_Mo_bits_4 C E F F z0 0 0 h hf
theorem c_Mo_bits (B e0 F : Nat) (z0 : Int64) (h : hh_H) (rr : Int32 × hh_H) (hf : f_Mo_bits F z0 h = some rr) : hh_Met yX9_bits cX9_bits 4 (some .int) rm_Mo_bits mc_Mo_bits ms_Mo_bits B e0 [.long z0] h (.returned (some (.int rr.1))) rr.2 :=
  hh_met (by decide) (Nat.le_of_ble_eq_true rfl) fun X C E => hh_pick [0] rfl (w_Mo_bits C E F z0 h hf)
def mc_Mo_in : Nat := 0
def ms_Mo_in : Nat := 0
def rm_Mo_in : Room := { frames := 0, cells := 0, slots := 0, locals := 0 }
abbrev ok_Mo_in (X : hh_X) (B e0 : Nat) : Prop := hh_ok X B e0 cX9_in RX9 3 (some .boolean) "in" rm_Mo_in
set_option maxRecDepth 100000 in
set_option maxHeartbeats 4000000 in
theorem w_Mo_in {X : hh_X} {B e0 : Nat} {rr : Int32 × hh_H} (C : ok_Mo_in X B e0) (E : hh_End X B e0 (.returned (some (.int rr.1))) rr.2 mc_Mo_in ms_Mo_in) (F : Nat) (z0 : Int64) (x2 : Int32) (h : hh_H)
    (hf : f_Mo_in F z0 x2 h = some rr) : hh_W X 0 0 0 [(0, .long z0), (2, .int x2)] [] h := by
  unfold f_Mo_in at hf
  refine r_lload_n C dX9_in_0 rfl 0 rfl ?_
  refine r_iload_n C dX9_in_1 rfl 1 rfl ?_
  refine r_lushr C dX9_in_2 ?_
  refine r_lconst C dX9_in_3 (v := 1) (by decide) ?_
  refine r_land C dX9_in_4 ?_
  refine r_lconst C dX9_in_5 (v := 0) (by decide) ?_
  refine r_lcmp C dX9_in_6 ?_
  refine r_if_eq C dX9_in_7 (tgt := 14) (by decide) (fun c1 => ?_) (fun c1 => ?_)
  · rw [if_pos c1] at hf
    refine r_iconst C dX9_in_14 (v := 0) (by decide) ?_
    exact r_ireturnz C E dX9_in_15 rfl (by decide) (by decide) hf
  · rw [if_neg c1] at hf
    refine r_iconst C dX9_in_10 (v := 1) (by decide) ?_
    refine r_goto C dX9_in_11 (tgt := 15) (by decide) ?_
    exact r_ireturnz C E dX9_in_15 rfl (by decide) (by decide) hf
theorem c_Mo_in (B e0 F : Nat) (z0 : Int64) (x2 : Int32) (h : hh_H) (rr : Int32 × hh_H) (hf : f_Mo_in F z0 x2 h = some rr) : hh_Met yX9_in cX9_in 3 (some .boolean) rm_Mo_in mc_Mo_in ms_Mo_in B e0 [.long z0, .int x2] h (.returned (some (.int rr.1))) rr.2 :=
  hh_met (by decide) (Nat.le_of_ble_eq_true rfl) fun X C E => hh_pick [0, 1] rfl (w_Mo_in C E F z0 x2 h hf)
def mc_Mo_noWord : Nat := 0
def ms_Mo_noWord : Nat := 0
def rm_Mo_noWord : Room := { frames := 0, cells := 0, slots := 0, locals := 0 }
abbrev ok_Mo_noWord (X : hh_X) (B e0 : Nat) : Prop := hh_ok X B e0 cX9_noWord RX9 1 (some .boolean) "noWord" rm_Mo_noWord
set_option maxRecDepth 100000 in
set_option maxHeartbeats 4000000 in
theorem w_Mo_noWord {X : hh_X} {B e0 : Nat} {rr : Int32 × hh_H} (C : ok_Mo_noWord X B e0) (E : hh_End X B e0 (.returned (some (.int rr.1))) rr.2 mc_Mo_noWord ms_Mo_noWord) (F : Nat) (x0 : Int32) (h : hh_H)
    (hf : f_Mo_noWord F x0 h = some rr) : hh_W X 0 0 0 [(0, .int x0)] [] h := by
  unfold f_Mo_noWord at hf
  refine r_iload_n C dX9_noWord_0 rfl 0 rfl ?_
  refine r_if_lt C dX9_noWord_1 (tgt := 10) (by decide) (fun c1 => ?_) (fun c1 => ?_)
  · rw [if_pos c1] at hf
    refine r_iconst C dX9_noWord_10 (v := 1) (by decide) ?_
    refine r_goto C dX9_noWord_11 (tgt := 15) (by decide) ?_
    exact r_ireturnz C E dX9_noWord_15 rfl (by decide) (by decide) hf
  · rw [if_neg c1] at hf
    refine r_iload_n C dX9_noWord_4 rfl 0 rfl ?_
    refine r_bipush C dX9_noWord_5 (v := 99) (by decide) ?_
    refine r_icmp_le C dX9_noWord_7 (tgt := 14) (by decide) (fun c2 => ?_) (fun c2 => ?_)
    · rw [if_pos c2] at hf
      refine r_iconst C dX9_noWord_14 (v := 0) (by decide) ?_
      exact r_ireturnz C E dX9_noWord_15 rfl (by decide) (by decide) hf
    · rw [if_neg c2] at hf
      refine r_iconst C dX9_noWord_10 (v := 1) (by decide) ?_
      refine r_goto C dX9_noWord_11 (tgt := 15) (by decide) ?_
      exact r_ireturnz C E dX9_noWord_15 rfl (by decide) (by decide) hf
theorem c_Mo_noWord (B e0 F : Nat) (x0 : Int32) (h : hh_H) (rr : Int32 × hh_H) (hf : f_Mo_noWord F x0 h = some rr) : hh_Met yX9_noWord cX9_noWord 1 (some .boolean) rm_Mo_noWord mc_Mo_noWord ms_Mo_noWord B e0 [.int x0] h (.returned (some (.int rr.1))) rr.2 :=
  hh_met (by decide) (Nat.le_of_ble_eq_true rfl) fun X C E => hh_pick [0] rfl (w_Mo_noWord C E F x0 h hf)
def mc_Mo_often : Nat := 0
def ms_Mo_often : Nat := 0
def rm_Mo_often : Room := { frames := 0, cells := 0, slots := 0, locals := 0 }
abbrev ok_Mo_often (X : hh_X) (B e0 : Nat) : Prop := hh_ok X B e0 cX9_often RX9 3 (some .int) "often" rm_Mo_often
set_option maxRecDepth 100000 in
set_option maxHeartbeats 4000000 in
theorem w_Mo_often {X : hh_X} {B e0 : Nat} {rr : Int32 × hh_H} (C : ok_Mo_often X B e0) (E : hh_End X B e0 (.returned (some (.int rr.1))) rr.2 mc_Mo_often ms_Mo_often) (F : Nat) (a0 : Nat) (x1 : Int32) (x2 : Int32) (h : hh_H)
    (hf : f_Mo_often F a0 x1 x2 h = some rr) : hh_W X 0 0 0 [(0, .ref (hh_ad B e0 a0)), (1, .int x1), (2, .int x2)] [] h := by
  unfold f_Mo_often at hf
  refine r_aload_n C dX9_often_0 rfl 0 rfl ?_
  obtain ⟨v1, e2, hf⟩ := hp_bind hf
  refine r_getA C dX9_often_1 fl_RX9_19 e2 ?_
  refine r_bipush C dX9_often_4 (v := 100) (by decide) ?_
  refine r_iload_n C dX9_often_6 rfl 1 rfl ?_
  refine r_imul C dX9_often_7 ?_
  refine r_iload_n C dX9_often_8 rfl 2 rfl ?_
  refine r_iadd C dX9_often_9 ?_
  obtain ⟨v3, e4, hf⟩ := hp_bind hf
  refine r_ai C dX9_often_10 e4 ?_
  exact r_ireturn C E dX9_often_11 (by decide) (by decide) hf
theorem c_Mo_often (B e0 F : Nat) (a0 : Nat) (x1 : Int32) (x2 : Int32) (h : hh_H) (rr : Int32 × hh_H) (hf : f_Mo_often F a0 x1 x2 h = some rr) : hh_Met yX9_often cX9_often 3 (some .int) rm_Mo_often mc_Mo_often ms_Mo_often B e0 [.ref (hh_ad B e0 a0), .int x1, .int x2] h (.returned (some (.int rr.1))) rr.2 :=
  hh_met (by decide) (Nat.le_of_ble_eq_true rfl) fun X C E => hh_pick [0, 1, 2] rfl (w_Mo_often C E F a0 x1 x2 h hf)
def mc_Mo_word : Nat := 0
def ms_Mo_word : Nat := 0
def rm_Mo_word : Room := { frames := 1, cells := 0, slots := 0, locals := 21 }
abbrev ok_Mo_word (X : hh_X) (B e0 : Nat) : Prop := hh_ok X B e0 cX9_word RX9 2 (some .int) "word" rm_Mo_word
set_option maxRecDepth 100000 in
set_option maxHeartbeats 4000000 in
theorem w_Mo_word {X : hh_X} {B e0 : Nat} {rr : Int32 × hh_H} (C : ok_Mo_word X B e0) (E : hh_End X B e0 (.returned (some (.int rr.1))) rr.2 mc_Mo_word ms_Mo_word) (F : Nat) (a0 : Nat) (x1 : Int32) (h : hh_H)
    (hf : f_Mo_word F a0 x1 h = some rr) : hh_W X 0 0 0 [(0, .ref (hh_ad B e0 a0)), (1, .int x1)] [] h := by
  unfold f_Mo_word at hf
  refine r_aload_n C dX9_word_0 rfl 0 rfl ?_
  refine r_iconst C dX9_word_1 (v := 0) (by decide) ?_
  obtain ⟨h1, e2, hf⟩ := hp_bind hf
  refine r_putI C dX9_word_2 fl_RX9_57 e2 ?_
  refine r_iload_n C dX9_word_5 rfl 1 rfl ?_
  obtain ⟨q3, h4, e5, hf⟩ := hp_cbe hf
  refine r_callS C dX9_word_6 cs_RX9_60 (c_Mo_noWord B e0 F x1 h1 _ e5) rfl rfl rfl ⟨by decide, by decide⟩ ⟨by decide, by decide⟩ (Nat.le_of_ble_eq_true rfl) rfl ?_
  refine r_if_eq C dX9_word_9 (tgt := 18) (by decide) (fun c6 => ?_) (fun c6 => ?_)
  · rw [if_pos c6] at hf
    refine r_aload_n C dX9_word_18 rfl 0 rfl ?_
    obtain ⟨v7, e8, hf⟩ := hp_bind hf
    refine r_getI C dX9_word_19 fl_RX9_68 e8 ?_
    refine r_bipush C dX9_word_22 (v := 20) (by decide) ?_
    refine r_icmp_ne C dX9_word_24 (tgt := 33) (by decide) (fun c9 => ?_) (fun c9 => ?_)
    · rw [if_neg c9] at hf
      refine r_aload_n C dX9_word_33 rfl 0 rfl ?_
      obtain ⟨v10, e11, hf⟩ := hp_bind hf
      refine r_getA C dX9_word_34 fl_RX9_7 e11 ?_
      refine r_aload_n C dX9_word_37 rfl 0 rfl ?_
      obtain ⟨v12, e13, hf⟩ := hp_bind hf
      refine r_getI C dX9_word_38 fl_RX9_68 e13 ?_
      refine r_iload_n C dX9_word_41 rfl 1 rfl ?_
      obtain ⟨h14, e15, hf⟩ := hp_bind hf
      refine r_si C dX9_word_42 e15 ?_
      refine r_aload_n C dX9_word_43 rfl 0 rfl ?_
      refine r_dup C dX9_word_44 rfl ?_
      obtain ⟨v16, e17, hf⟩ := hp_bind hf
      refine r_getI C dX9_word_45 fl_RX9_68 e17 ?_
      refine r_iconst C dX9_word_48 (v := 1) (by decide) ?_
      refine r_iadd C dX9_word_49 ?_
      obtain ⟨h18, e19, hf⟩ := hp_bind hf
      refine r_putI C dX9_word_50 fl_RX9_68 e19 ?_
      refine r_aload_n C dX9_word_53 rfl 0 rfl ?_
      obtain ⟨v20, e21, hf⟩ := hp_bind hf
      refine r_getI C dX9_word_54 fl_RX9_68 e21 ?_
      refine r_iconst C dX9_word_57 (v := 1) (by decide) ?_
      refine r_isub C dX9_word_58 ?_
      exact r_ireturn C E dX9_word_59 (by decide) (by decide) hf
    · rw [if_pos c9] at hf
      refine r_aload_n C dX9_word_27 rfl 0 rfl ?_
      refine r_iconst C dX9_word_28 (v := 2) (by decide) ?_
      obtain ⟨_, e25, hf⟩ := hp_bind hf
      obtain ⟨g26, e25⟩ := hp_is_of e25
      obtain ⟨q22, h23, e24, hf⟩ := hp_cbe hf
      refine r_callV C dX9_word_29 cs_RX9_64 rfl e25 (c_Mo_fail B e0 F a0 2 h4 _ e24) rfl rfl rfl ⟨by decide, by decide⟩ ⟨by decide, by decide⟩ (Nat.le_of_ble_eq_true rfl) rfl ?_
      exact r_ireturn C E dX9_word_32 (by decide) (by decide) hf
  · rw [if_neg c6] at hf
    refine r_aload_n C dX9_word_12 rfl 0 rfl ?_
    refine r_iconst C dX9_word_13 (v := 1) (by decide) ?_
    obtain ⟨_, e30, hf⟩ := hp_bind hf
    obtain ⟨g31, e30⟩ := hp_is_of e30
    obtain ⟨q27, h28, e29, hf⟩ := hp_cbe hf
    refine r_callV C dX9_word_14 cs_RX9_64 rfl e30 (c_Mo_fail B e0 F a0 1 h4 _ e29) rfl rfl rfl ⟨by decide, by decide⟩ ⟨by decide, by decide⟩ (Nat.le_of_ble_eq_true rfl) rfl ?_
    exact r_ireturn C E dX9_word_17 (by decide) (by decide) hf
theorem c_Mo_word (B e0 F : Nat) (a0 : Nat) (x1 : Int32) (h : hh_H) (rr : Int32 × hh_H) (hf : f_Mo_word F a0 x1 h = some rr) : hh_Met yX9_word cX9_word 2 (some .int) rm_Mo_word mc_Mo_word ms_Mo_word B e0 [.ref (hh_ad B e0 a0), .int x1] h (.returned (some (.int rr.1))) rr.2 :=
  hh_met (by decide) (Nat.le_of_ble_eq_true rfl) fun X C E => hh_pick [0, 1] rfl (w_Mo_word C E F a0 x1 h hf)
def mc_Mo_buffered : Nat := 0
def ms_Mo_buffered : Nat := 0
def rm_Mo_buffered : Room := { frames := 0, cells := 0, slots := 0, locals := 0 }
abbrev ok_Mo_buffered (X : hh_X) (B e0 : Nat) : Prop := hh_ok X B e0 cX9_buffered RX9 3 (some .int) "buffered" rm_Mo_buffered
set_option maxRecDepth 100000 in
set_option maxHeartbeats 4000000 in
theorem w_Mo_buffered_7 {X : hh_X} {B e0 : Nat} {rr : Int32 × hh_H} (C : ok_Mo_buffered X B e0) (E : hh_End X B e0 (.returned (some (.int rr.1))) rr.2 mc_Mo_buffered ms_Mo_buffered) (F : Nat) (r7 : Nat → Int32 → Int32 → hh_H → Option (Int32 × hh_H)) (H7 : ∀ (a0 : Nat) (x1 : Int32) (x2 : Int32) (h : hh_H), r7 a0 x1 x2 h = some rr → hh_W X 0 0 7 [(0, .ref (hh_ad B e0 a0)), (1, .int x1), (2, .int x2)] [] h) (a0 : Nat) (x1 : Int32) (x2 : Int32) (h : hh_H)
    (hf : f_Mo_buffered_7 F r7 a0 x1 x2 h = some rr) : hh_W X 0 0 7 [(0, .ref (hh_ad B e0 a0)), (1, .int x1), (2, .int x2)] [] h := by
  unfold f_Mo_buffered_7 at hf
  refine r_iload_n C dX9_buffered_7 rfl 2 rfl ?_
  refine r_aload_n C dX9_buffered_8 rfl 0 rfl ?_
  obtain ⟨v1, e2, hf⟩ := hp_bind hf
  refine r_getI C dX9_buffered_9 fl_RX9_74 e2 ?_
  refine r_icmp_ge C dX9_buffered_12 (tgt := 30) (by decide) (fun c3 => ?_) (fun c3 => ?_)
  · rw [if_pos c3] at hf
    refine r_iload_n C dX9_buffered_30 rfl 1 rfl ?_
    exact r_ireturn C E dX9_buffered_31 (by decide) (by decide) hf
  · rw [if_neg c3] at hf
    refine r_iload_n C dX9_buffered_15 rfl 1 rfl ?_
    refine r_aload_n C dX9_buffered_16 rfl 0 rfl ?_
    obtain ⟨v4, e5, hf⟩ := hp_bind hf
    refine r_getA C dX9_buffered_17 fl_RX9_16 e5 ?_
    refine r_iload_n C dX9_buffered_20 rfl 2 rfl ?_
    obtain ⟨v6, e7, hf⟩ := hp_bind hf
    refine r_ai C dX9_buffered_21 e7 ?_
    refine r_iadd C dX9_buffered_22 ?_
    refine r_istore_n (lv' := [(1, .int (x1 + v6)), (0, .ref (hh_ad B e0 a0)), (2, .int x2)]) C dX9_buffered_23 rfl (by decide) rfl ?_
    refine r_iinc (lv' := [(2, .int (x2 + 1)), (1, .int (x1 + v6)), (0, .ref (hh_ad B e0 a0))]) C dX9_buffered_24 2 rfl rfl (by decide) rfl ?_
    refine r_goto C dX9_buffered_27 (tgt := 7) (by decide) ?_
    refine hh_pick [2, 1, 0] rfl ?_
    exact H7 a0 (x1 + v6) (x2 + 1) h hf
theorem wl_Mo_buffered_7 {X : hh_X} {B e0 : Nat} {rr : Int32 × hh_H} (C : ok_Mo_buffered X B e0) (E : hh_End X B e0 (.returned (some (.int rr.1))) rr.2 mc_Mo_buffered ms_Mo_buffered) (F : Nat) :
    ∀ (n : Nat) (a0 : Nat) (x1 : Int32) (x2 : Int32) (h : hh_H), hp_it (fun _ _ _ _ => none) (f_Mo_buffered_7 F) n a0 x1 x2 h = some rr → hh_W X 0 0 7 [(0, .ref (hh_ad B e0 a0)), (1, .int x1), (2, .int x2)] [] h := by
  intro n
  induction n with
  | zero => intro a0 x1 x2 h hf; cases hf
  | succ n ih =>
    intro a0 x1 x2 h hf
    exact w_Mo_buffered_7 C E F _ ih a0 x1 x2 h hf
set_option maxRecDepth 100000 in
set_option maxHeartbeats 4000000 in
theorem w_Mo_buffered {X : hh_X} {B e0 : Nat} {rr : Int32 × hh_H} (C : ok_Mo_buffered X B e0) (E : hh_End X B e0 (.returned (some (.int rr.1))) rr.2 mc_Mo_buffered ms_Mo_buffered) (F : Nat) (a0 : Nat) (h : hh_H)
    (hf : f_Mo_buffered F a0 h = some rr) : hh_W X 0 0 0 [(0, .ref (hh_ad B e0 a0))] [] h := by
  unfold f_Mo_buffered at hf
  refine r_iconst C dX9_buffered_0 (v := 0) (by decide) ?_
  refine r_istore_n (lv' := [(1, .int 0), (0, .ref (hh_ad B e0 a0))]) C dX9_buffered_1 rfl (by decide) rfl ?_
  refine r_aload_n C dX9_buffered_2 rfl 1 rfl ?_
  obtain ⟨v8, e9, hf⟩ := hp_bind hf
  refine r_getI C dX9_buffered_3 fl_RX9_71 e9 ?_
  refine r_istore_n (lv' := [(2, .int v8), (1, .int 0), (0, .ref (hh_ad B e0 a0))]) C dX9_buffered_6 rfl (by decide) rfl ?_
  refine hh_pick [2, 1, 0] rfl ?_
  exact wl_Mo_buffered_7 C E F F a0 0 v8 h hf
theorem c_Mo_buffered (B e0 F : Nat) (a0 : Nat) (h : hh_H) (rr : Int32 × hh_H) (hf : f_Mo_buffered F a0 h = some rr) : hh_Met yX9_buffered cX9_buffered 3 (some .int) rm_Mo_buffered mc_Mo_buffered ms_Mo_buffered B e0 [.ref (hh_ad B e0 a0)] h (.returned (some (.int rr.1))) rr.2 :=
  hh_met (by decide) (Nat.le_of_ble_eq_true rfl) fun X C E => hh_pick [0] rfl (w_Mo_buffered C E F a0 h hf)
def mc_Mo_drop : Nat := 0
def ms_Mo_drop : Nat := 0
def rm_Mo_drop : Room := { frames := 1, cells := 0, slots := 0, locals := 23 }
abbrev ok_Mo_drop (X : hh_X) (B e0 : Nat) : Prop := hh_ok X B e0 cX9_drop RX9 2 (some .int) "drop" rm_Mo_drop
set_option maxRecDepth 100000 in
set_option maxHeartbeats 4000000 in
theorem w_Mo_drop {X : hh_X} {B e0 : Nat} {rr : Int32 × hh_H} (C : ok_Mo_drop X B e0) (E : hh_End X B e0 (.returned (some (.int rr.1))) rr.2 mc_Mo_drop ms_Mo_drop) (F : Nat) (a0 : Nat) (x1 : Int32) (h : hh_H)
    (hf : f_Mo_drop F a0 x1 h = some rr) : hh_W X 0 0 0 [(0, .ref (hh_ad B e0 a0)), (1, .int x1)] [] h := by
  unfold f_Mo_drop at hf
  refine r_aload_n C dX9_drop_0 rfl 0 rfl ?_
  refine r_iconst C dX9_drop_1 (v := 0) (by decide) ?_
  obtain ⟨h1, e2, hf⟩ := hp_bind hf
  refine r_putI C dX9_drop_2 fl_RX9_57 e2 ?_
  refine r_iload_n C dX9_drop_5 rfl 1 rfl ?_
  refine r_if_lt C dX9_drop_6 (tgt := 28) (by decide) (fun c3 => ?_) (fun c3 => ?_)
  · rw [if_pos c3] at hf
    refine r_aload_n C dX9_drop_28 rfl 0 rfl ?_
    refine r_iconst C dX9_drop_29 (v := 1) (by decide) ?_
    obtain ⟨_, e7, hf⟩ := hp_bind hf
    obtain ⟨g8, e7⟩ := hp_is_of e7
    obtain ⟨q4, h5, e6, hf⟩ := hp_cbe hf
    refine r_callV C dX9_drop_30 cs_RX9_64 rfl e7 (c_Mo_fail B e0 F a0 1 h1 _ e6) rfl rfl rfl ⟨by decide, by decide⟩ ⟨by decide, by decide⟩ (Nat.le_of_ble_eq_true rfl) rfl ?_
    exact r_ireturn C E dX9_drop_33 (by decide) (by decide) hf
  · rw [if_neg c3] at hf
    refine r_iload_n C dX9_drop_9 rfl 1 rfl ?_
    refine r_aload_n C dX9_drop_10 rfl 0 rfl ?_
    obtain ⟨v9, e10, hf⟩ := hp_bind hf
    refine r_getI C dX9_drop_11 fl_RX9_74 e10 ?_
    refine r_icmp_ge C dX9_drop_14 (tgt := 28) (by decide) (fun c11 => ?_) (fun c11 => ?_)
    · rw [if_pos c11] at hf
      refine r_aload_n C dX9_drop_28 rfl 0 rfl ?_
      refine r_iconst C dX9_drop_29 (v := 1) (by decide) ?_
      obtain ⟨_, e15, hf⟩ := hp_bind hf
      obtain ⟨g16, e15⟩ := hp_is_of e15
      obtain ⟨q12, h13, e14, hf⟩ := hp_cbe hf
      refine r_callV C dX9_drop_30 cs_RX9_64 rfl e15 (c_Mo_fail B e0 F a0 1 h1 _ e14) rfl rfl rfl ⟨by decide, by decide⟩ ⟨by decide, by decide⟩ (Nat.le_of_ble_eq_true rfl) rfl ?_
      exact r_ireturn C E dX9_drop_33 (by decide) (by decide) hf
    · rw [if_neg c11] at hf
      refine r_aload_n C dX9_drop_17 rfl 0 rfl ?_
      obtain ⟨v17, e18, hf⟩ := hp_bind hf
      refine r_getJ C dX9_drop_18 fl_RX9_85 e18 ?_
      refine r_iload_n C dX9_drop_21 rfl 1 rfl ?_
      obtain ⟨q19, h20, e21, hf⟩ := hp_cbe hf
      refine r_callS C dX9_drop_22 cs_RX9_89 (c_Mo_in B e0 F v17 x1 h1 _ e21) rfl rfl rfl ⟨by decide, by decide⟩ ⟨by decide, by decide⟩ (Nat.le_of_ble_eq_true rfl) rfl ?_
      refine r_if_eq C dX9_drop_25 (tgt := 34) (by decide) (fun c22 => ?_) (fun c22 => ?_)
      · rw [if_pos c22] at hf
        refine r_aload_n C dX9_drop_34 rfl 0 rfl ?_
        refine r_dup C dX9_drop_35 rfl ?_
        obtain ⟨v23, e24, hf⟩ := hp_bind hf
        refine r_getJ C dX9_drop_36 fl_RX9_85 e24 ?_
        refine r_lconst C dX9_drop_39 (v := 1) (by decide) ?_
        refine r_iload_n C dX9_drop_40 rfl 1 rfl ?_
        refine r_lshl C dX9_drop_41 ?_
        refine r_lor C dX9_drop_42 ?_
        obtain ⟨h25, e26, hf⟩ := hp_bind hf
        refine r_putJ C dX9_drop_43 fl_RX9_85 e26 ?_
        refine r_aload_n C dX9_drop_46 rfl 0 rfl ?_
        obtain ⟨v27, e28, hf⟩ := hp_bind hf
        refine r_getI C dX9_drop_47 fl_RX9_74 e28 ?_
        refine r_aload_n C dX9_drop_50 rfl 0 rfl ?_
        obtain ⟨v29, e30, hf⟩ := hp_bind hf
        refine r_getJ C dX9_drop_51 fl_RX9_85 e30 ?_
        obtain ⟨q31, h32, e33, hf⟩ := hp_cbe hf
        refine r_callS C dX9_drop_54 cs_RX9_93 (c_Mo_bits B e0 F v29 h25 _ e33) rfl rfl rfl ⟨by decide, by decide⟩ ⟨by decide, by decide⟩ (Nat.le_of_ble_eq_true rfl) rfl ?_
        refine r_isub C dX9_drop_57 ?_
        exact r_ireturn C E dX9_drop_58 (by decide) (by decide) hf
      · rw [if_neg c22] at hf
        refine r_aload_n C dX9_drop_28 rfl 0 rfl ?_
        refine r_iconst C dX9_drop_29 (v := 1) (by decide) ?_
        obtain ⟨_, e37, hf⟩ := hp_bind hf
        obtain ⟨g38, e37⟩ := hp_is_of e37
        obtain ⟨q34, h35, e36, hf⟩ := hp_cbe hf
        refine r_callV C dX9_drop_30 cs_RX9_64 rfl e37 (c_Mo_fail B e0 F a0 1 h20 _ e36) rfl rfl rfl ⟨by decide, by decide⟩ ⟨by decide, by decide⟩ (Nat.le_of_ble_eq_true rfl) rfl ?_
        exact r_ireturn C E dX9_drop_33 (by decide) (by decide) hf
theorem c_Mo_drop (B e0 F : Nat) (a0 : Nat) (x1 : Int32) (h : hh_H) (rr : Int32 × hh_H) (hf : f_Mo_drop F a0 x1 h = some rr) : hh_Met yX9_drop cX9_drop 2 (some .int) rm_Mo_drop mc_Mo_drop ms_Mo_drop B e0 [.ref (hh_ad B e0 a0), .int x1] h (.returned (some (.int rr.1))) rr.2 :=
  hh_met (by decide) (Nat.le_of_ble_eq_true rfl) fun X C E => hh_pick [0, 1] rfl (w_Mo_drop C E F a0 x1 h hf)
def mc_Mo_put : Nat := 0
def ms_Mo_put : Nat := 0
def rm_Mo_put : Room := { frames := 0, cells := 0, slots := 0, locals := 0 }
abbrev ok_Mo_put (X : hh_X) (B e0 : Nat) : Prop := hh_ok X B e0 cX9_put RX9 2 none "put" rm_Mo_put
set_option maxRecDepth 100000 in
set_option maxHeartbeats 4000000 in
theorem w_Mo_put {X : hh_X} {B e0 : Nat} {rr : Unit × hh_H} (C : ok_Mo_put X B e0) (E : hh_End X B e0 (.returned none) rr.2 mc_Mo_put ms_Mo_put) (F : Nat) (a0 : Nat) (x1 : Int32) (h : hh_H)
    (hf : f_Mo_put F a0 x1 h = some rr) : hh_W X 0 0 0 [(0, .ref (hh_ad B e0 a0)), (1, .int x1)] [] h := by
  unfold f_Mo_put at hf
  refine r_aload_n C dX9_put_0 rfl 0 rfl ?_
  obtain ⟨v1, e2, hf⟩ := hp_bind hf
  refine r_getA C dX9_put_1 fl_RX9_39 e2 ?_
  refine r_aload_n C dX9_put_4 rfl 0 rfl ?_
  obtain ⟨v3, e4, hf⟩ := hp_bind hf
  refine r_getI C dX9_put_5 fl_RX9_97 e4 ?_
  refine r_iload_n C dX9_put_8 rfl 1 rfl ?_
  refine r_i2b C dX9_put_9 ?_
  obtain ⟨h5, e6, hf⟩ := hp_bind hf
  refine r_sb C dX9_put_10 e6 ?_
  refine r_aload_n C dX9_put_11 rfl 0 rfl ?_
  refine r_dup C dX9_put_12 rfl ?_
  obtain ⟨v7, e8, hf⟩ := hp_bind hf
  refine r_getI C dX9_put_13 fl_RX9_97 e8 ?_
  refine r_iconst C dX9_put_16 (v := 1) (by decide) ?_
  refine r_iadd C dX9_put_17 ?_
  obtain ⟨h9, e10, hf⟩ := hp_bind hf
  refine r_putI C dX9_put_18 fl_RX9_97 e10 ?_
  exact r_return C E dX9_put_21 (by decide) (by decide) hf
theorem c_Mo_put (B e0 F : Nat) (a0 : Nat) (x1 : Int32) (h : hh_H) (rr : Unit × hh_H) (hf : f_Mo_put F a0 x1 h = some rr) : hh_Met yX9_put cX9_put 2 none rm_Mo_put mc_Mo_put ms_Mo_put B e0 [.ref (hh_ad B e0 a0), .int x1] h (.returned none) rr.2 :=
  hh_met (by decide) (Nat.le_of_ble_eq_true rfl) fun X C E => hh_pick [0, 1] rfl (w_Mo_put C E F a0 x1 h hf)
def mc_Mo_putWord : Nat := 0
def ms_Mo_putWord : Nat := 0
def rm_Mo_putWord : Room := { frames := 1, cells := 0, slots := 0, locals := 22 }
abbrev ok_Mo_putWord (X : hh_X) (B e0 : Nat) : Prop := hh_ok X B e0 cX9_putWord RX9 8 none "putWord" rm_Mo_putWord
set_option maxRecDepth 100000 in
set_option maxHeartbeats 4000000 in
theorem w_Mo_putWord_67 {X : hh_X} {B e0 : Nat} {rr : Unit × hh_H} (C : ok_Mo_putWord X B e0) (E : hh_End X B e0 (.returned none) rr.2 mc_Mo_putWord ms_Mo_putWord) (F : Nat) (r6 : Nat → Int64 → Int32 → Int32 → Int32 → hh_H → Option (Unit × hh_H)) (r67 : Nat → Int64 → Int32 → Int32 → Int32 → Int32 → Int32 → hh_H → Option (Unit × hh_H)) (H6 : ∀ (a0 : Nat) (z1 : Int64) (x3 : Int32) (x4 : Int32) (x5 : Int32) (h : hh_H), r6 a0 z1 x3 x4 x5 h = some rr → hh_W X 0 0 6 [(0, .ref (hh_ad B e0 a0)), (1, .long z1), (3, .int x3), (4, .int x4), (5, .int x5)] [] h) (H67 : ∀ (a0 : Nat) (z1 : Int64) (x3 : Int32) (x4 : Int32) (x5 : Int32) (x6 : Int32) (x7 : Int32) (h : hh_H), r67 a0 z1 x3 x4 x5 x6 x7 h = some rr → hh_W X 0 0 67 [(0, .ref (hh_ad B e0 a0)), (1, .long z1), (3, .int x3), (4, .int x4), (5, .int x5), (6, .int x6), (7, .int x7)] [] h) (a0 : Nat) (z1 : Int64) (x3 : Int32) (x4 : Int32) (x5 : Int32) (x6 : Int32) (x7 : Int32) (h : hh_H)
    (hf : f_Mo_putWord_67 F r6 r67 a0 z1 x3 x4 x5 x6 x7 h = some rr) : hh_W X 0 0 67 [(0, .ref (hh_ad B e0 a0)), (1, .long z1), (3, .int x3), (4, .int x4), (5, .int x5), (6, .int x6), (7, .int x7)] [] h := by
  unfold f_Mo_putWord_67 at hf
  refine r_iload C dX9_putWord_67 6 rfl ?_
  refine r_aload_n C dX9_putWord_69 rfl 0 rfl ?_
  obtain ⟨v1, e2, hf⟩ := hp_bind hf
  refine r_getA C dX9_putWord_70 fl_RX9_16 e2 ?_
  refine r_iload C dX9_putWord_73 4 rfl ?_
  obtain ⟨v3, e4, hf⟩ := hp_bind hf
  refine r_ai C dX9_putWord_75 e4 ?_
  refine r_icmp_ge C dX9_putWord_76 (tgt := 118) (by decide) (fun c5 => ?_) (fun c5 => ?_)
  · rw [if_pos c5] at hf
    refine r_iinc (lv' := [(5, .int (x5 + 1)), (0, .ref (hh_ad B e0 a0)), (1, .long z1), (3, .int x3), (4, .int x4), (6, .int x6), (7, .int x7)]) C dX9_putWord_118 4 rfl rfl (by decide) rfl ?_
    refine r_goto C dX9_putWord_121 (tgt := 6) (by decide) ?_
    refine hh_pick [1, 2, 3, 4, 0] rfl ?_
    exact H6 a0 z1 x3 x4 (x5 + 1) h hf
  · rw [if_neg c5] at hf
    refine r_aload_n C dX9_putWord_79 rfl 0 rfl ?_
    obtain ⟨v6, e7, hf⟩ := hp_bind hf
    refine r_getA C dX9_putWord_80 fl_RX9_13 e7 ?_
    refine r_bipush C dX9_putWord_83 (v := 20) (by decide) ?_
    refine r_iload C dX9_putWord_85 4 rfl ?_
    refine r_imul C dX9_putWord_87 ?_
    refine r_iload C dX9_putWord_88 6 rfl ?_
    refine r_iadd C dX9_putWord_90 ?_
    obtain ⟨v8, e9, hf⟩ := hp_bind hf
    refine r_ai C dX9_putWord_91 e9 ?_
    refine r_iload_n C dX9_putWord_92 rfl 2 rfl ?_
    refine r_icmp_eq C dX9_putWord_93 (tgt := 99) (by decide) (fun c10 => ?_) (fun c10 => ?_)
    · rw [if_pos c10] at hf
      refine r_aload_n C dX9_putWord_99 rfl 0 rfl ?_
      refine r_iload C dX9_putWord_100 6 rfl ?_
      refine r_iload C dX9_putWord_102 5 rfl ?_
      refine r_isub C dX9_putWord_104 ?_
      obtain ⟨_, e14, hf⟩ := hp_bind hf
      obtain ⟨g15, e14⟩ := hp_is_of e14
      obtain ⟨q11, h12, e13, hf⟩ := hp_cbe hf
      refine r_callV C dX9_putWord_105 cs_RX9_103 rfl e14 (c_Mo_put B e0 F a0 (x7 - x6) h _ e13) rfl rfl rfl ⟨by decide, by decide⟩ ⟨by decide, by decide⟩ (Nat.le_of_ble_eq_true rfl) rfl ?_
      refine r_iload C dX9_putWord_108 6 rfl ?_
      refine r_istore (lv' := [(6, .int x7), (0, .ref (hh_ad B e0 a0)), (1, .long z1), (3, .int x3), (4, .int x4), (5, .int x5), (7, .int x7)]) C dX9_putWord_110 (by decide) rfl ?_
      refine r_iinc (lv' := [(7, .int (x7 + 1)), (6, .int x7), (0, .ref (hh_ad B e0 a0)), (1, .long z1), (3, .int x3), (4, .int x4), (5, .int x5)]) C dX9_putWord_112 6 rfl rfl (by decide) rfl ?_
      refine r_goto C dX9_putWord_115 (tgt := 67) (by decide) ?_
      refine hh_pick [2, 3, 4, 5, 6, 1, 0] rfl ?_
      exact H67 a0 z1 x3 x4 x5 x7 (x7 + 1) h12 hf
    · rw [if_neg c10] at hf
      refine r_goto C dX9_putWord_96 (tgt := 112) (by decide) ?_
      refine r_iinc (lv' := [(7, .int (x7 + 1)), (0, .ref (hh_ad B e0 a0)), (1, .long z1), (3, .int x3), (4, .int x4), (5, .int x5), (6, .int x6)]) C dX9_putWord_112 6 rfl rfl (by decide) rfl ?_
      refine r_goto C dX9_putWord_115 (tgt := 67) (by decide) ?_
      refine hh_pick [1, 2, 3, 4, 5, 6, 0] rfl ?_
      exact H67 a0 z1 x3 x4 x5 x6 (x7 + 1) h hf
theorem wl_Mo_putWord_67 {X : hh_X} {B e0 : Nat} {rr : Unit × hh_H} (C : ok_Mo_putWord X B e0) (E : hh_End X B e0 (.returned none) rr.2 mc_Mo_putWord ms_Mo_putWord) (F : Nat) (r6 : Nat → Int64 → Int32 → Int32 → Int32 → hh_H → Option (Unit × hh_H)) (H6 : ∀ (a0 : Nat) (z1 : Int64) (x3 : Int32) (x4 : Int32) (x5 : Int32) (h : hh_H), r6 a0 z1 x3 x4 x5 h = some rr → hh_W X 0 0 6 [(0, .ref (hh_ad B e0 a0)), (1, .long z1), (3, .int x3), (4, .int x4), (5, .int x5)] [] h) :
    ∀ (n : Nat) (a0 : Nat) (z1 : Int64) (x3 : Int32) (x4 : Int32) (x5 : Int32) (x6 : Int32) (x7 : Int32) (h : hh_H), hp_it (fun _ _ _ _ _ _ _ _ => none) (f_Mo_putWord_67 F r6) n a0 z1 x3 x4 x5 x6 x7 h = some rr → hh_W X 0 0 67 [(0, .ref (hh_ad B e0 a0)), (1, .long z1), (3, .int x3), (4, .int x4), (5, .int x5), (6, .int x6), (7, .int x7)] [] h := by
  intro n
  induction n with
  | zero => intro a0 z1 x3 x4 x5 x6 x7 h hf; cases hf
  | succ n ih =>
    intro a0 z1 x3 x4 x5 x6 x7 h hf
    exact w_Mo_putWord_67 C E F r6 _ H6 ih a0 z1 x3 x4 x5 x6 x7 h hf
set_option maxRecDepth 100000 in
set_option maxHeartbeats 4000000 in
theorem w_Mo_putWord_6 {X : hh_X} {B e0 : Nat} {rr : Unit × hh_H} (C : ok_Mo_putWord X B e0) (E : hh_End X B e0 (.returned none) rr.2 mc_Mo_putWord ms_Mo_putWord) (F : Nat) (r6 : Nat → Int64 → Int32 → Int32 → Int32 → hh_H → Option (Unit × hh_H)) (H6 : ∀ (a0 : Nat) (z1 : Int64) (x3 : Int32) (x4 : Int32) (x5 : Int32) (h : hh_H), r6 a0 z1 x3 x4 x5 h = some rr → hh_W X 0 0 6 [(0, .ref (hh_ad B e0 a0)), (1, .long z1), (3, .int x3), (4, .int x4), (5, .int x5)] [] h) (a0 : Nat) (z1 : Int64) (x3 : Int32) (x4 : Int32) (x5 : Int32) (h : hh_H)
    (hf : f_Mo_putWord_6 F r6 a0 z1 x3 x4 x5 h = some rr) : hh_W X 0 0 6 [(0, .ref (hh_ad B e0 a0)), (1, .long z1), (3, .int x3), (4, .int x4), (5, .int x5)] [] h := by
  unfold f_Mo_putWord_6 at hf
  refine r_iload C dX9_putWord_6 4 rfl ?_
  refine r_aload_n C dX9_putWord_8 rfl 0 rfl ?_
  obtain ⟨v16, e17, hf⟩ := hp_bind hf
  refine r_getI C dX9_putWord_9 fl_RX9_74 e17 ?_
  refine r_icmp_ge C dX9_putWord_12 (tgt := 124) (by decide) (fun c18 => ?_) (fun c18 => ?_)
  · rw [if_pos c18] at hf
    exact r_return C E dX9_putWord_124 (by decide) (by decide) hf
  · rw [if_neg c18] at hf
    refine r_lload_n C dX9_putWord_15 rfl 1 rfl ?_
    refine r_iload C dX9_putWord_16 4 rfl ?_
    obtain ⟨q19, h20, e21, hf⟩ := hp_cbe hf
    refine r_callS C dX9_putWord_18 cs_RX9_89 (c_Mo_in B e0 F z1 x5 h _ e21) rfl rfl rfl ⟨by decide, by decide⟩ ⟨by decide, by decide⟩ (Nat.le_of_ble_eq_true rfl) rfl ?_
    refine r_if_eq C dX9_putWord_21 (tgt := 118) (by decide) (fun c22 => ?_) (fun c22 => ?_)
    · rw [if_pos c22] at hf
      refine r_iinc (lv' := [(5, .int (x5 + 1)), (0, .ref (hh_ad B e0 a0)), (1, .long z1), (3, .int x3), (4, .int x4)]) C dX9_putWord_118 4 rfl rfl (by decide) rfl ?_
      refine r_goto C dX9_putWord_121 (tgt := 6) (by decide) ?_
      refine hh_pick [1, 2, 3, 4, 0] rfl ?_
      exact H6 a0 z1 x3 x4 (x5 + 1) h20 hf
    · rw [if_neg c22] at hf
      refine r_aload_n C dX9_putWord_24 rfl 0 rfl ?_
      refine r_iload C dX9_putWord_25 4 rfl ?_
      refine r_iload_n C dX9_putWord_27 rfl 2 rfl ?_
      obtain ⟨_, e26, hf⟩ := hp_bind hf
      obtain ⟨g27, e26⟩ := hp_is_of e26
      obtain ⟨q23, h24, e25, hf⟩ := hp_cbe hf
      refine r_callV C dX9_putWord_28 cs_RX9_100 rfl e26 (c_Mo_often B e0 F a0 x5 x3 h20 _ e25) rfl rfl rfl ⟨by decide, by decide⟩ ⟨by decide, by decide⟩ (Nat.le_of_ble_eq_true rfl) rfl ?_
      refine r_if_ne C dX9_putWord_31 (tgt := 37) (by decide) (fun c28 => ?_) (fun c28 => ?_)
      · rw [if_neg c28] at hf
        refine r_aload_n C dX9_putWord_37 rfl 0 rfl ?_
        refine r_iload C dX9_putWord_38 4 rfl ?_
        refine r_iload C dX9_putWord_40 3 rfl ?_
        refine r_isub C dX9_putWord_42 ?_
        obtain ⟨_, e32, hf⟩ := hp_bind hf
        obtain ⟨g33, e32⟩ := hp_is_of e32
        obtain ⟨q29, h30, e31, hf⟩ := hp_cbe hf
        refine r_callV C dX9_putWord_43 cs_RX9_103 rfl e32 (c_Mo_put B e0 F a0 (x5 - x4) h24 _ e31) rfl rfl rfl ⟨by decide, by decide⟩ ⟨by decide, by decide⟩ (Nat.le_of_ble_eq_true rfl) rfl ?_
        refine r_iload C dX9_putWord_46 4 rfl ?_
        refine r_istore (lv' := [(4, .int x5), (0, .ref (hh_ad B e0 a0)), (1, .long z1), (3, .int x3), (5, .int x5)]) C dX9_putWord_48 (by decide) rfl ?_
        refine r_aload_n C dX9_putWord_50 rfl 1 rfl ?_
        refine r_aload_n C dX9_putWord_51 rfl 1 rfl ?_
        refine r_iload C dX9_putWord_52 4 rfl ?_
        refine r_iload_n C dX9_putWord_54 rfl 3 rfl ?_
        obtain ⟨_, e37, hf⟩ := hp_bind hf
        obtain ⟨g38, e37⟩ := hp_is_of e37
        obtain ⟨q34, h35, e36, hf⟩ := hp_cbe hf
        refine r_callV C dX9_putWord_55 cs_RX9_100 rfl e37 (c_Mo_often B e0 F a0 x5 x3 h30 _ e36) rfl rfl rfl ⟨by decide, by decide⟩ ⟨by decide, by decide⟩ (Nat.le_of_ble_eq_true rfl) rfl ?_
        obtain ⟨_, e42, hf⟩ := hp_bind hf
        obtain ⟨g43, e42⟩ := hp_is_of e42
        obtain ⟨q39, h40, e41, hf⟩ := hp_cbe hf
        refine r_callV C dX9_putWord_58 cs_RX9_103 rfl e42 (c_Mo_put B e0 F a0 q34 h35 _ e41) rfl rfl rfl ⟨by decide, by decide⟩ ⟨by decide, by decide⟩ (Nat.le_of_ble_eq_true rfl) rfl ?_
        refine r_iconst C dX9_putWord_61 (v := 0) (by decide) ?_
        refine r_istore (lv' := [(6, .int 0), (4, .int x5), (0, .ref (hh_ad B e0 a0)), (1, .long z1), (3, .int x3), (5, .int x5)]) C dX9_putWord_62 (by decide) rfl ?_
        refine r_iconst C dX9_putWord_64 (v := 0) (by decide) ?_
        refine r_istore (lv' := [(7, .int 0), (6, .int 0), (4, .int x5), (0, .ref (hh_ad B e0 a0)), (1, .long z1), (3, .int x3), (5, .int x5)]) C dX9_putWord_65 (by decide) rfl ?_
        refine hh_pick [3, 4, 5, 2, 6, 1, 0] rfl ?_
        exact wl_Mo_putWord_67 C E F r6 H6 F a0 z1 x3 x5 x5 0 0 h40 hf
      · rw [if_pos c28] at hf
        refine r_goto C dX9_putWord_34 (tgt := 118) (by decide) ?_
        refine r_iinc (lv' := [(5, .int (x5 + 1)), (0, .ref (hh_ad B e0 a0)), (1, .long z1), (3, .int x3), (4, .int x4)]) C dX9_putWord_118 4 rfl rfl (by decide) rfl ?_
        refine r_goto C dX9_putWord_121 (tgt := 6) (by decide) ?_
        refine hh_pick [1, 2, 3, 4, 0] rfl ?_
        exact H6 a0 z1 x3 x4 (x5 + 1) h24 hf
theorem wl_Mo_putWord_6 {X : hh_X} {B e0 : Nat} {rr : Unit × hh_H} (C : ok_Mo_putWord X B e0) (E : hh_End X B e0 (.returned none) rr.2 mc_Mo_putWord ms_Mo_putWord) (F : Nat) :
    ∀ (n : Nat) (a0 : Nat) (z1 : Int64) (x3 : Int32) (x4 : Int32) (x5 : Int32) (h : hh_H), hp_it (fun _ _ _ _ _ _ => none) (f_Mo_putWord_6 F) n a0 z1 x3 x4 x5 h = some rr → hh_W X 0 0 6 [(0, .ref (hh_ad B e0 a0)), (1, .long z1), (3, .int x3), (4, .int x4), (5, .int x5)] [] h := by
  intro n
  induction n with
  | zero => intro a0 z1 x3 x4 x5 h hf; cases hf
  | succ n ih =>
    intro a0 z1 x3 x4 x5 h hf
    exact w_Mo_putWord_6 C E F _ ih a0 z1 x3 x4 x5 h hf
set_option maxRecDepth 100000 in
set_option maxHeartbeats 4000000 in
theorem w_Mo_putWord {X : hh_X} {B e0 : Nat} {rr : Unit × hh_H} (C : ok_Mo_putWord X B e0) (E : hh_End X B e0 (.returned none) rr.2 mc_Mo_putWord ms_Mo_putWord) (F : Nat) (a0 : Nat) (z1 : Int64) (x3 : Int32) (h : hh_H)
    (hf : f_Mo_putWord F a0 z1 x3 h = some rr) : hh_W X 0 0 0 [(0, .ref (hh_ad B e0 a0)), (1, .long z1), (3, .int x3)] [] h := by
  unfold f_Mo_putWord at hf
  refine r_iconst C dX9_putWord_0 (v := 0) (by decide) ?_
  refine r_istore (lv' := [(4, .int 0), (0, .ref (hh_ad B e0 a0)), (1, .long z1), (3, .int x3)]) C dX9_putWord_1 (by decide) rfl ?_
  refine r_iconst C dX9_putWord_3 (v := 0) (by decide) ?_
  refine r_istore (lv' := [(5, .int 0), (4, .int 0), (0, .ref (hh_ad B e0 a0)), (1, .long z1), (3, .int x3)]) C dX9_putWord_4 (by decide) rfl ?_
  refine hh_pick [2, 3, 4, 1, 0] rfl ?_
  exact wl_Mo_putWord_6 C E F F a0 z1 x3 0 0 h hf
theorem c_Mo_putWord (B e0 F : Nat) (a0 : Nat) (z1 : Int64) (x3 : Int32) (h : hh_H) (rr : Unit × hh_H) (hf : f_Mo_putWord F a0 z1 x3 h = some rr) : hh_Met yX9_putWord cX9_putWord 8 none rm_Mo_putWord mc_Mo_putWord ms_Mo_putWord B e0 [.ref (hh_ad B e0 a0), .long z1, .int x3] h (.returned none) rr.2 :=
  hh_met (by decide) (Nat.le_of_ble_eq_true rfl) fun X C E => hh_pick [0, 1, 2] rfl (w_Mo_putWord C E F a0 z1 x3 h hf)
def mc_Mo_encode : Nat := 0
def ms_Mo_encode : Nat := 0
def rm_Mo_encode : Room := { frames := 2, cells := 0, slots := 0, locals := 49 }
abbrev ok_Mo_encode (X : hh_X) (B e0 : Nat) : Prop := hh_ok X B e0 cX9_encode RX9 7 none "encode" rm_Mo_encode
set_option maxRecDepth 100000 in
set_option maxHeartbeats 4000000 in
theorem w_Mo_encode_76 {X : hh_X} {B e0 : Nat} {rr : Unit × hh_H} (C : ok_Mo_encode X B e0) (E : hh_End X B e0 (.returned none) rr.2 mc_Mo_encode ms_Mo_encode) (F : Nat) (r25 : Nat → Int64 → Int32 → Int32 → hh_H → Option (Unit × hh_H)) (H25 : ∀ (a0 : Nat) (z1 : Int64) (x3 : Int32) (x4 : Int32) (h : hh_H), r25 a0 z1 x3 x4 h = some rr → hh_W X 0 0 25 [(0, .ref (hh_ad B e0 a0)), (1, .long z1), (3, .int x3), (4, .int x4)] [] h) (a0 : Nat) (z1 : Int64) (x3 : Int32) (x4 : Int32) (x5 : Int32) (h : hh_H)
    (hf : f_Mo_encode_76 F r25 a0 z1 x3 x4 x5 h = some rr) : hh_W X 0 0 76 [(0, .ref (hh_ad B e0 a0)), (1, .long z1), (3, .int x3), (4, .int x4), (5, .int x5)] [] h := by
  unfold f_Mo_encode_76 at hf
  refine r_iload C dX9_encode_76 4 rfl ?_
  refine r_if_ne C dX9_encode_78 (tgt := 84) (by decide) (fun c1 => ?_) (fun c1 => ?_)
  · rw [if_neg c1] at hf
    refine r_aload_n C dX9_encode_84 rfl 0 rfl ?_
    refine r_iload C dX9_encode_85 3 rfl ?_
    refine r_iload_n C dX9_encode_87 rfl 2 rfl ?_
    refine r_isub C dX9_encode_88 ?_
    obtain ⟨_, e5, hf⟩ := hp_bind hf
    obtain ⟨g6, e5⟩ := hp_is_of e5
    obtain ⟨q2, h3, e4, hf⟩ := hp_cbe hf
    refine r_callV C dX9_encode_89 cs_RX9_103 rfl e5 (c_Mo_put B e0 F a0 (x4 - x3) h _ e4) rfl rfl rfl ⟨by decide, by decide⟩ ⟨by decide, by decide⟩ (Nat.le_of_ble_eq_true rfl) rfl ?_
    refine r_iload C dX9_encode_92 3 rfl ?_
    refine r_istore_n (lv' := [(3, .int x4), (0, .ref (hh_ad B e0 a0)), (1, .long z1), (4, .int x4), (5, .int x5)]) C dX9_encode_94 rfl (by decide) rfl ?_
    refine r_aload_n C dX9_encode_95 rfl 1 rfl ?_
    refine r_iload C dX9_encode_96 4 rfl ?_
    obtain ⟨_, e10, hf⟩ := hp_bind hf
    obtain ⟨g11, e10⟩ := hp_is_of e10
    obtain ⟨q7, h8, e9, hf⟩ := hp_cbe hf
    refine r_callV C dX9_encode_98 cs_RX9_103 rfl e10 (c_Mo_put B e0 F a0 x5 h3 _ e9) rfl rfl rfl ⟨by decide, by decide⟩ ⟨by decide, by decide⟩ (Nat.le_of_ble_eq_true rfl) rfl ?_
    refine r_aload_n C dX9_encode_101 rfl 1 rfl ?_
    refine r_lload_n C dX9_encode_102 rfl 2 rfl ?_
    refine r_iload C dX9_encode_103 3 rfl ?_
    obtain ⟨_, e15, hf⟩ := hp_bind hf
    obtain ⟨g16, e15⟩ := hp_is_of e15
    obtain ⟨q12, h13, e14, hf⟩ := hp_cbe hf
    refine r_callV C dX9_encode_105 cs_RX9_110 rfl e15 (c_Mo_putWord B e0 F a0 z1 x4 h8 _ e14) rfl rfl rfl ⟨by decide, by decide⟩ ⟨by decide, by decide⟩ (Nat.le_of_ble_eq_true rfl) rfl ?_
    refine r_iinc (lv' := [(4, .int (x4 + 1)), (3, .int x4), (0, .ref (hh_ad B e0 a0)), (1, .long z1), (5, .int x5)]) C dX9_encode_108 3 rfl rfl (by decide) rfl ?_
    refine r_goto C dX9_encode_111 (tgt := 25) (by decide) ?_
    refine hh_pick [2, 3, 1, 0] rfl ?_
    exact H25 a0 z1 x4 (x4 + 1) h13 hf
  · rw [if_pos c1] at hf
    refine r_goto C dX9_encode_81 (tgt := 108) (by decide) ?_
    refine r_iinc (lv' := [(4, .int (x4 + 1)), (0, .ref (hh_ad B e0 a0)), (1, .long z1), (3, .int x3), (5, .int x5)]) C dX9_encode_108 3 rfl rfl (by decide) rfl ?_
    refine r_goto C dX9_encode_111 (tgt := 25) (by decide) ?_
    refine hh_pick [1, 2, 3, 0] rfl ?_
    exact H25 a0 z1 x3 (x4 + 1) h hf
set_option maxRecDepth 100000 in
set_option maxHeartbeats 4000000 in
theorem w_Mo_encode_38 {X : hh_X} {B e0 : Nat} {rr : Unit × hh_H} (C : ok_Mo_encode X B e0) (E : hh_End X B e0 (.returned none) rr.2 mc_Mo_encode ms_Mo_encode) (F : Nat) (r25 : Nat → Int64 → Int32 → Int32 → hh_H → Option (Unit × hh_H)) (r38 : Nat → Int64 → Int32 → Int32 → Int32 → Int32 → hh_H → Option (Unit × hh_H)) (H25 : ∀ (a0 : Nat) (z1 : Int64) (x3 : Int32) (x4 : Int32) (h : hh_H), r25 a0 z1 x3 x4 h = some rr → hh_W X 0 0 25 [(0, .ref (hh_ad B e0 a0)), (1, .long z1), (3, .int x3), (4, .int x4)] [] h) (H38 : ∀ (a0 : Nat) (z1 : Int64) (x3 : Int32) (x4 : Int32) (x5 : Int32) (x6 : Int32) (h : hh_H), r38 a0 z1 x3 x4 x5 x6 h = some rr → hh_W X 0 0 38 [(0, .ref (hh_ad B e0 a0)), (1, .long z1), (3, .int x3), (4, .int x4), (5, .int x5), (6, .int x6)] [] h) (a0 : Nat) (z1 : Int64) (x3 : Int32) (x4 : Int32) (x5 : Int32) (x6 : Int32) (h : hh_H)
    (hf : f_Mo_encode_38 F r25 r38 a0 z1 x3 x4 x5 x6 h = some rr) : hh_W X 0 0 38 [(0, .ref (hh_ad B e0 a0)), (1, .long z1), (3, .int x3), (4, .int x4), (5, .int x5), (6, .int x6)] [] h := by
  unfold f_Mo_encode_38 at hf
  refine r_iload C dX9_encode_38 5 rfl ?_
  refine r_aload_n C dX9_encode_40 rfl 0 rfl ?_
  obtain ⟨v17, e18, hf⟩ := hp_bind hf
  refine r_getI C dX9_encode_41 fl_RX9_74 e18 ?_
  refine r_icmp_ge C dX9_encode_44 (tgt := 76) (by decide) (fun c19 => ?_) (fun c19 => ?_)
  · rw [if_pos c19] at hf
    refine hh_pick [0, 1, 2, 3, 4] rfl ?_
    exact w_Mo_encode_76 C E F r25 H25 a0 z1 x3 x4 x5 h hf
  · rw [if_neg c19] at hf
    refine r_lload_n C dX9_encode_47 rfl 1 rfl ?_
    refine r_iload C dX9_encode_48 5 rfl ?_
    obtain ⟨q20, h21, e22, hf⟩ := hp_cbe hf
    refine r_callS C dX9_encode_50 cs_RX9_89 (c_Mo_in B e0 F z1 x6 h _ e22) rfl rfl rfl ⟨by decide, by decide⟩ ⟨by decide, by decide⟩ (Nat.le_of_ble_eq_true rfl) rfl ?_
    refine r_if_eq C dX9_encode_53 (tgt := 70) (by decide) (fun c23 => ?_) (fun c23 => ?_)
    · rw [if_pos c23] at hf
      refine r_iinc (lv' := [(6, .int (x6 + 1)), (0, .ref (hh_ad B e0 a0)), (1, .long z1), (3, .int x3), (4, .int x4), (5, .int x5)]) C dX9_encode_70 5 rfl rfl (by decide) rfl ?_
      refine r_goto C dX9_encode_73 (tgt := 38) (by decide) ?_
      refine hh_pick [1, 2, 3, 4, 5, 0] rfl ?_
      exact H38 a0 z1 x3 x4 x5 (x6 + 1) h21 hf
    · rw [if_neg c23] at hf
      refine r_aload_n C dX9_encode_56 rfl 0 rfl ?_
      refine r_iload C dX9_encode_57 5 rfl ?_
      refine r_iload C dX9_encode_59 3 rfl ?_
      obtain ⟨_, e27, hf⟩ := hp_bind hf
      obtain ⟨g28, e27⟩ := hp_is_of e27
      obtain ⟨q24, h25, e26, hf⟩ := hp_cbe hf
      refine r_callV C dX9_encode_61 cs_RX9_100 rfl e27 (c_Mo_often B e0 F a0 x6 x4 h21 _ e26) rfl rfl rfl ⟨by decide, by decide⟩ ⟨by decide, by decide⟩ (Nat.le_of_ble_eq_true rfl) rfl ?_
      refine r_if_le C dX9_encode_64 (tgt := 70) (by decide) (fun c29 => ?_) (fun c29 => ?_)
      · rw [if_pos c29] at hf
        refine r_iinc (lv' := [(6, .int (x6 + 1)), (0, .ref (hh_ad B e0 a0)), (1, .long z1), (3, .int x3), (4, .int x4), (5, .int x5)]) C dX9_encode_70 5 rfl rfl (by decide) rfl ?_
        refine r_goto C dX9_encode_73 (tgt := 38) (by decide) ?_
        refine hh_pick [1, 2, 3, 4, 5, 0] rfl ?_
        exact H38 a0 z1 x3 x4 x5 (x6 + 1) h25 hf
      · rw [if_neg c29] at hf
        refine r_iinc (lv' := [(5, .int (x5 + 1)), (0, .ref (hh_ad B e0 a0)), (1, .long z1), (3, .int x3), (4, .int x4), (6, .int x6)]) C dX9_encode_67 4 rfl rfl (by decide) rfl ?_
        refine r_iinc (lv' := [(6, .int (x6 + 1)), (5, .int (x5 + 1)), (0, .ref (hh_ad B e0 a0)), (1, .long z1), (3, .int x3), (4, .int x4)]) C dX9_encode_70 5 rfl rfl (by decide) rfl ?_
        refine r_goto C dX9_encode_73 (tgt := 38) (by decide) ?_
        refine hh_pick [2, 3, 4, 5, 1, 0] rfl ?_
        exact H38 a0 z1 x3 x4 (x5 + 1) (x6 + 1) h25 hf
theorem wl_Mo_encode_38 {X : hh_X} {B e0 : Nat} {rr : Unit × hh_H} (C : ok_Mo_encode X B e0) (E : hh_End X B e0 (.returned none) rr.2 mc_Mo_encode ms_Mo_encode) (F : Nat) (r25 : Nat → Int64 → Int32 → Int32 → hh_H → Option (Unit × hh_H)) (H25 : ∀ (a0 : Nat) (z1 : Int64) (x3 : Int32) (x4 : Int32) (h : hh_H), r25 a0 z1 x3 x4 h = some rr → hh_W X 0 0 25 [(0, .ref (hh_ad B e0 a0)), (1, .long z1), (3, .int x3), (4, .int x4)] [] h) :
    ∀ (n : Nat) (a0 : Nat) (z1 : Int64) (x3 : Int32) (x4 : Int32) (x5 : Int32) (x6 : Int32) (h : hh_H), hp_it (fun _ _ _ _ _ _ _ => none) (f_Mo_encode_38 F r25) n a0 z1 x3 x4 x5 x6 h = some rr → hh_W X 0 0 38 [(0, .ref (hh_ad B e0 a0)), (1, .long z1), (3, .int x3), (4, .int x4), (5, .int x5), (6, .int x6)] [] h := by
  intro n
  induction n with
  | zero => intro a0 z1 x3 x4 x5 x6 h hf; cases hf
  | succ n ih =>
    intro a0 z1 x3 x4 x5 x6 h hf
    exact w_Mo_encode_38 C E F r25 _ H25 ih a0 z1 x3 x4 x5 x6 h hf
set_option maxRecDepth 100000 in
set_option maxHeartbeats 4000000 in
theorem w_Mo_encode_25 {X : hh_X} {B e0 : Nat} {rr : Unit × hh_H} (C : ok_Mo_encode X B e0) (E : hh_End X B e0 (.returned none) rr.2 mc_Mo_encode ms_Mo_encode) (F : Nat) (r25 : Nat → Int64 → Int32 → Int32 → hh_H → Option (Unit × hh_H)) (H25 : ∀ (a0 : Nat) (z1 : Int64) (x3 : Int32) (x4 : Int32) (h : hh_H), r25 a0 z1 x3 x4 h = some rr → hh_W X 0 0 25 [(0, .ref (hh_ad B e0 a0)), (1, .long z1), (3, .int x3), (4, .int x4)] [] h) (a0 : Nat) (z1 : Int64) (x3 : Int32) (x4 : Int32) (h : hh_H)
    (hf : f_Mo_encode_25 F r25 a0 z1 x3 x4 h = some rr) : hh_W X 0 0 25 [(0, .ref (hh_ad B e0 a0)), (1, .long z1), (3, .int x3), (4, .int x4)] [] h := by
  unfold f_Mo_encode_25 at hf
  refine r_iload C dX9_encode_25 3 rfl ?_
  refine r_bipush C dX9_encode_27 (v := 100) (by decide) ?_
  refine r_icmp_ge C dX9_encode_29 (tgt := 114) (by decide) (fun c30 => ?_) (fun c30 => ?_)
  · rw [if_pos c30] at hf
    refine r_aload_n C dX9_encode_114 rfl 0 rfl ?_
    refine r_bipush C dX9_encode_115 (v := 127) (by decide) ?_
    obtain ⟨_, e34, hf⟩ := hp_bind hf
    obtain ⟨g35, e34⟩ := hp_is_of e34
    obtain ⟨q31, h32, e33, hf⟩ := hp_cbe hf
    refine r_callV C dX9_encode_117 cs_RX9_103 rfl e34 (c_Mo_put B e0 F a0 127 h _ e33) rfl rfl rfl ⟨by decide, by decide⟩ ⟨by decide, by decide⟩ (Nat.le_of_ble_eq_true rfl) rfl ?_
    exact r_return C E dX9_encode_120 (by decide) (by decide) hf
  · rw [if_neg c30] at hf
    refine r_iconst C dX9_encode_32 (v := 0) (by decide) ?_
    refine r_istore (lv' := [(5, .int 0), (0, .ref (hh_ad B e0 a0)), (1, .long z1), (3, .int x3), (4, .int x4)]) C dX9_encode_33 (by decide) rfl ?_
    refine r_iconst C dX9_encode_35 (v := 0) (by decide) ?_
    refine r_istore (lv' := [(6, .int 0), (5, .int 0), (0, .ref (hh_ad B e0 a0)), (1, .long z1), (3, .int x3), (4, .int x4)]) C dX9_encode_36 (by decide) rfl ?_
    refine hh_pick [2, 3, 4, 5, 1, 0] rfl ?_
    exact wl_Mo_encode_38 C E F r25 H25 F a0 z1 x3 x4 0 0 h hf
theorem wl_Mo_encode_25 {X : hh_X} {B e0 : Nat} {rr : Unit × hh_H} (C : ok_Mo_encode X B e0) (E : hh_End X B e0 (.returned none) rr.2 mc_Mo_encode ms_Mo_encode) (F : Nat) :
    ∀ (n : Nat) (a0 : Nat) (z1 : Int64) (x3 : Int32) (x4 : Int32) (h : hh_H), hp_it (fun _ _ _ _ _ => none) (f_Mo_encode_25 F) n a0 z1 x3 x4 h = some rr → hh_W X 0 0 25 [(0, .ref (hh_ad B e0 a0)), (1, .long z1), (3, .int x3), (4, .int x4)] [] h := by
  intro n
  induction n with
  | zero => intro a0 z1 x3 x4 h hf; cases hf
  | succ n ih =>
    intro a0 z1 x3 x4 h hf
    exact w_Mo_encode_25 C E F _ ih a0 z1 x3 x4 h hf
set_option maxRecDepth 100000 in
set_option maxHeartbeats 4000000 in
theorem w_Mo_encode {X : hh_X} {B e0 : Nat} {rr : Unit × hh_H} (C : ok_Mo_encode X B e0) (E : hh_End X B e0 (.returned none) rr.2 mc_Mo_encode ms_Mo_encode) (F : Nat) (a0 : Nat) (z1 : Int64) (h : hh_H)
    (hf : f_Mo_encode F a0 z1 h = some rr) : hh_W X 0 0 0 [(0, .ref (hh_ad B e0 a0)), (1, .long z1)] [] h := by
  unfold f_Mo_encode at hf
  refine r_lload_n C dX9_encode_0 rfl 1 rfl ?_
  refine r_aload_n C dX9_encode_1 rfl 0 rfl ?_
  obtain ⟨v36, e37, hf⟩ := hp_bind hf
  refine r_getJ C dX9_encode_2 fl_RX9_107 e37 ?_
  refine r_lcmp C dX9_encode_5 ?_
  refine r_if_ne C dX9_encode_6 (tgt := 10) (by decide) (fun c38 => ?_) (fun c38 => ?_)
  · rw [if_neg c38] at hf
    refine r_aload_n C dX9_encode_10 rfl 0 rfl ?_
    refine r_lload_n C dX9_encode_11 rfl 1 rfl ?_
    obtain ⟨h39, e40, hf⟩ := hp_bind hf
    refine r_putJ C dX9_encode_12 fl_RX9_107 e40 ?_
    refine r_aload_n C dX9_encode_15 rfl 0 rfl ?_
    refine r_iconst C dX9_encode_16 (v := 0) (by decide) ?_
    obtain ⟨h41, e42, hf⟩ := hp_bind hf
    refine r_putI C dX9_encode_17 fl_RX9_97 e42 ?_
    refine r_iconst C dX9_encode_20 (v := 0) (by decide) ?_
    refine r_istore_n (lv' := [(3, .int 0), (0, .ref (hh_ad B e0 a0)), (1, .long z1)]) C dX9_encode_21 rfl (by decide) rfl ?_
    refine r_iconst C dX9_encode_22 (v := 0) (by decide) ?_
    refine r_istore (lv' := [(4, .int 0), (3, .int 0), (0, .ref (hh_ad B e0 a0)), (1, .long z1)]) C dX9_encode_23 (by decide) rfl ?_
    refine hh_pick [2, 3, 1, 0] rfl ?_
    exact wl_Mo_encode_25 C E F F a0 z1 0 0 h41 hf
  · rw [if_pos c38] at hf
    exact r_return C E dX9_encode_9 (by decide) (by decide) hf
theorem c_Mo_encode (B e0 F : Nat) (a0 : Nat) (z1 : Int64) (h : hh_H) (rr : Unit × hh_H) (hf : f_Mo_encode F a0 z1 h = some rr) : hh_Met yX9_encode cX9_encode 7 none rm_Mo_encode mc_Mo_encode ms_Mo_encode B e0 [.ref (hh_ad B e0 a0), .long z1] h (.returned none) rr.2 :=
  hh_met (by decide) (Nat.le_of_ble_eq_true rfl) fun X C E => hh_pick [0, 1] rfl (w_Mo_encode C E F a0 z1 h hf)
def mc_Mo_room : Nat := 0
def ms_Mo_room : Nat := 0
def rm_Mo_room : Room := { frames := 3, cells := 0, slots := 0, locals := 75 }
abbrev ok_Mo_room (X : hh_X) (B e0 : Nat) : Prop := hh_ok X B e0 cX9_room RX9 7 (some .long) "room" rm_Mo_room
set_option maxRecDepth 100000 in
set_option maxHeartbeats 4000000 in
theorem w_Mo_room_68 {X : hh_X} {B e0 : Nat} {rr : Int64 × hh_H} (C : ok_Mo_room X B e0) (E : hh_End X B e0 (.returned (some (.long rr.1))) rr.2 mc_Mo_room ms_Mo_room) (F : Nat) (x3 : Int32) (z4 : Int64) (h : hh_H)
    (hf : f_Mo_room_68 F x3 z4 h = some rr) : hh_W X 0 0 68 [(3, .int x3), (4, .long z4)] [] h := by
  unfold f_Mo_room_68 at hf
  refine r_iload_n C dX9_room_68 rfl 0 rfl ?_
  refine r_if_ne C dX9_room_69 (tgt := 77) (by decide) (fun c1 => ?_) (fun c1 => ?_)
  · rw [if_neg c1] at hf
    refine r_lconst C dX9_room_77 (v := 0) (by decide) ?_
    exact r_lreturn C E dX9_room_78 (by decide) (by decide) hf
  · rw [if_pos c1] at hf
    refine r_lload C dX9_room_72 1 rfl ?_
    refine r_goto C dX9_room_74 (tgt := 78) (by decide) ?_
    exact r_lreturn C E dX9_room_78 (by decide) (by decide) hf
set_option maxRecDepth 100000 in
set_option maxHeartbeats 4000000 in
theorem w_Mo_room_22 {X : hh_X} {B e0 : Nat} {rr : Int64 × hh_H} (C : ok_Mo_room X B e0) (E : hh_End X B e0 (.returned (some (.long rr.1))) rr.2 mc_Mo_room ms_Mo_room) (F : Nat) (r22 : Nat → Int32 → Int64 → Int32 → hh_H → Option (Int64 × hh_H)) (H22 : ∀ (a0 : Nat) (x3 : Int32) (z4 : Int64) (x6 : Int32) (h : hh_H), r22 a0 x3 z4 x6 h = some rr → hh_W X 0 0 22 [(0, .ref (hh_ad B e0 a0)), (3, .int x3), (4, .long z4), (6, .int x6)] [] h) (a0 : Nat) (x3 : Int32) (z4 : Int64) (x6 : Int32) (h : hh_H)
    (hf : f_Mo_room_22 F r22 a0 x3 z4 x6 h = some rr) : hh_W X 0 0 22 [(0, .ref (hh_ad B e0 a0)), (3, .int x3), (4, .long z4), (6, .int x6)] [] h := by
  unfold f_Mo_room_22 at hf
  refine r_iload C dX9_room_22 3 rfl ?_
  refine r_aload_n C dX9_room_24 rfl 0 rfl ?_
  obtain ⟨v2, e3, hf⟩ := hp_bind hf
  refine r_getI C dX9_room_25 fl_RX9_54 e3 ?_
  refine r_icmp_ge C dX9_room_28 (tgt := 68) (by decide) (fun c4 => ?_) (fun c4 => ?_)
  · rw [if_pos c4] at hf
    refine hh_pick [1, 2] rfl ?_
    exact w_Mo_room_68 C E F x3 z4 h hf
  · rw [if_neg c4] at hf
    refine r_iload_n C dX9_room_31 rfl 1 rfl ?_
    refine r_if_eq C dX9_room_32 (tgt := 62) (by decide) (fun c5 => ?_) (fun c5 => ?_)
    · rw [if_pos c5] at hf
      refine r_iinc (lv' := [(6, .int (x6 + 1)), (0, .ref (hh_ad B e0 a0)), (3, .int x3), (4, .long z4)]) C dX9_room_62 3 rfl rfl (by decide) rfl ?_
      refine r_goto C dX9_room_65 (tgt := 22) (by decide) ?_
      refine hh_pick [1, 2, 3, 0] rfl ?_
      exact H22 a0 x3 z4 (x6 + 1) h hf
    · rw [if_neg c5] at hf
      refine r_aload_n C dX9_room_35 rfl 0 rfl ?_
      obtain ⟨v6, e7, hf⟩ := hp_bind hf
      refine r_getJ C dX9_room_36 fl_RX9_118 e7 ?_
      refine r_iload C dX9_room_39 3 rfl ?_
      obtain ⟨q8, h9, e10, hf⟩ := hp_cbe hf
      refine r_callS C dX9_room_41 cs_RX9_89 (c_Mo_in B e0 F v6 x6 h _ e10) rfl rfl rfl ⟨by decide, by decide⟩ ⟨by decide, by decide⟩ (Nat.le_of_ble_eq_true rfl) rfl ?_
      refine r_if_eq C dX9_room_44 (tgt := 50) (by decide) (fun c11 => ?_) (fun c11 => ?_)
      · rw [if_pos c11] at hf
        refine r_lload C dX9_room_50 2 rfl ?_
        refine r_lconst C dX9_room_52 (v := 1) (by decide) ?_
        refine r_iload C dX9_room_53 3 rfl ?_
        refine r_lshl C dX9_room_55 ?_
        refine r_lor C dX9_room_56 ?_
        refine r_lstore (lv' := [(4, .long (z4 ||| (1 <<< (x6.toInt64 &&& 63)))), (0, .ref (hh_ad B e0 a0)), (3, .int x3), (6, .int x6)]) C dX9_room_57 (by decide) rfl ?_
        refine r_iinc (lv' := [(3, .int (x3 + (-1))), (4, .long (z4 ||| (1 <<< (x6.toInt64 &&& 63)))), (0, .ref (hh_ad B e0 a0)), (6, .int x6)]) C dX9_room_59 2 rfl rfl (by decide) rfl ?_
        refine r_iinc (lv' := [(6, .int (x6 + 1)), (3, .int (x3 + (-1))), (4, .long (z4 ||| (1 <<< (x6.toInt64 &&& 63)))), (0, .ref (hh_ad B e0 a0))]) C dX9_room_62 3 rfl rfl (by decide) rfl ?_
        refine r_goto C dX9_room_65 (tgt := 22) (by decide) ?_
        refine hh_pick [3, 1, 2, 0] rfl ?_
        exact H22 a0 (x3 + (-1)) (z4 ||| (1 <<< (x6.toInt64 &&& 63))) (x6 + 1) h9 hf
      · rw [if_neg c11] at hf
        refine r_goto C dX9_room_47 (tgt := 62) (by decide) ?_
        refine r_iinc (lv' := [(6, .int (x6 + 1)), (0, .ref (hh_ad B e0 a0)), (3, .int x3), (4, .long z4)]) C dX9_room_62 3 rfl rfl (by decide) rfl ?_
        refine r_goto C dX9_room_65 (tgt := 22) (by decide) ?_
        refine hh_pick [1, 2, 3, 0] rfl ?_
        exact H22 a0 x3 z4 (x6 + 1) h9 hf
theorem wl_Mo_room_22 {X : hh_X} {B e0 : Nat} {rr : Int64 × hh_H} (C : ok_Mo_room X B e0) (E : hh_End X B e0 (.returned (some (.long rr.1))) rr.2 mc_Mo_room ms_Mo_room) (F : Nat) :
    ∀ (n : Nat) (a0 : Nat) (x3 : Int32) (z4 : Int64) (x6 : Int32) (h : hh_H), hp_it (fun _ _ _ _ _ => none) (f_Mo_room_22 F) n a0 x3 z4 x6 h = some rr → hh_W X 0 0 22 [(0, .ref (hh_ad B e0 a0)), (3, .int x3), (4, .long z4), (6, .int x6)] [] h := by
  intro n
  induction n with
  | zero => intro a0 x3 z4 x6 h hf; cases hf
  | succ n ih =>
    intro a0 x3 z4 x6 h hf
    exact w_Mo_room_22 C E F _ ih a0 x3 z4 x6 h hf
set_option maxRecDepth 100000 in
set_option maxHeartbeats 4000000 in
theorem w_Mo_room {X : hh_X} {B e0 : Nat} {rr : Int64 × hh_H} (C : ok_Mo_room X B e0) (E : hh_End X B e0 (.returned (some (.long rr.1))) rr.2 mc_Mo_room ms_Mo_room) (F : Nat) (a0 : Nat) (z1 : Int64) (h : hh_H)
    (hf : f_Mo_room F a0 z1 h = some rr) : hh_W X 0 0 0 [(0, .ref (hh_ad B e0 a0)), (1, .long z1)] [] h := by
  unfold f_Mo_room at hf
  refine r_aload_n C dX9_room_0 rfl 0 rfl ?_
  refine r_lload_n C dX9_room_1 rfl 1 rfl ?_
  obtain ⟨_, e15, hf⟩ := hp_bind hf
  obtain ⟨g16, e15⟩ := hp_is_of e15
  obtain ⟨q12, h13, e14, hf⟩ := hp_cbe hf
  refine r_callV C dX9_room_2 cs_RX9_114 rfl e15 (c_Mo_encode B e0 F a0 z1 h _ e14) rfl rfl rfl ⟨by decide, by decide⟩ ⟨by decide, by decide⟩ (Nat.le_of_ble_eq_true rfl) rfl ?_
  refine r_aload_n C dX9_room_5 rfl 0 rfl ?_
  obtain ⟨v17, e18, hf⟩ := hp_bind hf
  refine r_getI C dX9_room_6 fl_RX9_97 e18 ?_
  refine r_bipush C dX9_room_9 (v := 15) (by decide) ?_
  refine r_iadd C dX9_room_11 ?_
  refine r_bipush C dX9_room_12 (v := 16) (by decide) ?_
  refine r_idiv C dX9_room_14 (by decide) ?_
  refine r_istore_n (lv' := [(3, .int ((v17 + 15) / 16)), (0, .ref (hh_ad B e0 a0)), (1, .long z1)]) C dX9_room_15 rfl (by decide) rfl ?_
  refine r_lconst C dX9_room_16 (v := 0) (by decide) ?_
  refine r_lstore (lv' := [(4, .long 0), (3, .int ((v17 + 15) / 16)), (0, .ref (hh_ad B e0 a0)), (1, .long z1)]) C dX9_room_17 (by decide) rfl ?_
  refine r_iconst C dX9_room_19 (v := 0) (by decide) ?_
  refine r_istore (lv' := [(6, .int 0), (4, .long 0), (3, .int ((v17 + 15) / 16)), (0, .ref (hh_ad B e0 a0)), (1, .long z1)]) C dX9_room_20 (by decide) rfl ?_
  refine hh_pick [3, 2, 1, 0] rfl ?_
  exact wl_Mo_room_22 C E F F a0 ((v17 + 15) / 16) 0 0 h13 hf
theorem c_Mo_room (B e0 F : Nat) (a0 : Nat) (z1 : Int64) (h : hh_H) (rr : Int64 × hh_H) (hf : f_Mo_room F a0 z1 h = some rr) : hh_Met yX9_room cX9_room 7 (some .long) rm_Mo_room mc_Mo_room ms_Mo_room B e0 [.ref (hh_ad B e0 a0), .long z1] h (.returned (some (.long rr.1))) rr.2 :=
  hh_met (by decide) (Nat.le_of_ble_eq_true rfl) fun X C E => hh_pick [0, 1] rfl (w_Mo_room C E F a0 z1 h hf)
def mc_Mo_full : Nat := 0
def ms_Mo_full : Nat := 0
def rm_Mo_full : Room := { frames := 0, cells := 0, slots := 0, locals := 0 }
abbrev ok_Mo_full (X : hh_X) (B e0 : Nat) : Prop := hh_ok X B e0 cX9_full RX9 5 (some .int) "full" rm_Mo_full
set_option maxRecDepth 100000 in
set_option maxHeartbeats 4000000 in
theorem w_Mo_full_73 {X : hh_X} {B e0 : Nat} {rr : Int32 × hh_H} (C : ok_Mo_full X B e0) (E : hh_End X B e0 (.returned (some (.int rr.1))) rr.2 mc_Mo_full ms_Mo_full) (F : Nat) (r4 : Nat → Int32 → Int32 → hh_H → Option (Int32 × hh_H)) (H4 : ∀ (a0 : Nat) (x1 : Int32) (x2 : Int32) (h : hh_H), r4 a0 x1 x2 h = some rr → hh_W X 0 0 4 [(0, .ref (hh_ad B e0 a0)), (1, .int x1), (2, .int x2)] [] h) (a0 : Nat) (x2 : Int32) (h : hh_H)
    (hf : f_Mo_full_73 F r4 a0 x2 h = some rr) : hh_W X 0 0 73 [(0, .ref (hh_ad B e0 a0)), (2, .int x2)] [] h := by
  unfold f_Mo_full_73 at hf
  refine r_aload_n C dX9_full_73 rfl 0 rfl ?_
  obtain ⟨v1, e2, hf⟩ := hp_bind hf
  refine r_getA C dX9_full_74 fl_RX9_29 e2 ?_
  refine r_iload_n C dX9_full_77 rfl 1 rfl ?_
  obtain ⟨v3, e4, hf⟩ := hp_bind hf
  refine r_ai C dX9_full_78 e4 ?_
  refine r_istore_n (lv' := [(1, .int v3), (0, .ref (hh_ad B e0 a0)), (2, .int x2)]) C dX9_full_79 rfl (by decide) rfl ?_
  refine r_iinc (lv' := [(2, .int (x2 + 1)), (1, .int v3), (0, .ref (hh_ad B e0 a0))]) C dX9_full_80 2 rfl rfl (by decide) rfl ?_
  refine r_goto C dX9_full_83 (tgt := 4) (by decide) ?_
  refine hh_pick [2, 1, 0] rfl ?_
  exact H4 a0 v3 (x2 + 1) h hf
set_option maxRecDepth 100000 in
set_option maxHeartbeats 4000000 in
theorem w_Mo_full_51 {X : hh_X} {B e0 : Nat} {rr : Int32 × hh_H} (C : ok_Mo_full X B e0) (E : hh_End X B e0 (.returned (some (.int rr.1))) rr.2 mc_Mo_full ms_Mo_full) (F : Nat) (r4 : Nat → Int32 → Int32 → hh_H → Option (Int32 × hh_H)) (H4 : ∀ (a0 : Nat) (x1 : Int32) (x2 : Int32) (h : hh_H), r4 a0 x1 x2 h = some rr → hh_W X 0 0 4 [(0, .ref (hh_ad B e0 a0)), (1, .int x1), (2, .int x2)] [] h) (a0 : Nat) (x1 : Int32) (x2 : Int32) (x3 : Int32) (h : hh_H)
    (hf : f_Mo_full_51 F r4 a0 x1 x2 x3 h = some rr) : hh_W X 0 0 51 [(0, .ref (hh_ad B e0 a0)), (1, .int x1), (2, .int x2), (3, .int x3)] [] h := by
  unfold f_Mo_full_51 at hf
  refine r_iload_n C dX9_full_51 rfl 3 rfl ?_
  refine r_aload_n C dX9_full_52 rfl 0 rfl ?_
  obtain ⟨v5, e6, hf⟩ := hp_bind hf
  refine r_getI C dX9_full_53 fl_RX9_51 e6 ?_
  refine r_icmp_lt C dX9_full_56 (tgt := 80) (by decide) (fun c7 => ?_) (fun c7 => ?_)
  · rw [if_pos c7] at hf
    refine r_iinc (lv' := [(2, .int (x2 + 1)), (0, .ref (hh_ad B e0 a0)), (1, .int x1), (3, .int x3)]) C dX9_full_80 2 rfl rfl (by decide) rfl ?_
    refine r_goto C dX9_full_83 (tgt := 4) (by decide) ?_
    refine hh_pick [1, 2, 0] rfl ?_
    exact H4 a0 x1 (x2 + 1) h hf
  · rw [if_neg c7] at hf
    refine r_iload_n C dX9_full_59 rfl 1 rfl ?_
    refine r_if_lt C dX9_full_60 (tgt := 73) (by decide) (fun c8 => ?_) (fun c8 => ?_)
    · rw [if_pos c8] at hf
      refine hh_pick [0, 2] rfl ?_
      exact w_Mo_full_73 C E F r4 H4 a0 x2 h hf
    · rw [if_neg c8] at hf
      refine r_aload_n C dX9_full_63 rfl 0 rfl ?_
      obtain ⟨v9, e10, hf⟩ := hp_bind hf
      refine r_getA C dX9_full_64 fl_RX9_29 e10 ?_
      refine r_iload_n C dX9_full_67 rfl 2 rfl ?_
      obtain ⟨v11, e12, hf⟩ := hp_bind hf
      refine r_ai C dX9_full_68 e12 ?_
      refine r_iload_n C dX9_full_69 rfl 1 rfl ?_
      refine r_icmp_ge C dX9_full_70 (tgt := 80) (by decide) (fun c13 => ?_) (fun c13 => ?_)
      · rw [if_pos c13] at hf
        refine r_iinc (lv' := [(2, .int (x2 + 1)), (0, .ref (hh_ad B e0 a0)), (1, .int x1), (3, .int x3)]) C dX9_full_80 2 rfl rfl (by decide) rfl ?_
        refine r_goto C dX9_full_83 (tgt := 4) (by decide) ?_
        refine hh_pick [1, 2, 0] rfl ?_
        exact H4 a0 x1 (x2 + 1) h hf
      · rw [if_neg c13] at hf
        refine hh_pick [0, 2] rfl ?_
        exact w_Mo_full_73 C E F r4 H4 a0 x2 h hf
set_option maxRecDepth 100000 in
set_option maxHeartbeats 4000000 in
theorem w_Mo_full_17 {X : hh_X} {B e0 : Nat} {rr : Int32 × hh_H} (C : ok_Mo_full X B e0) (E : hh_End X B e0 (.returned (some (.int rr.1))) rr.2 mc_Mo_full ms_Mo_full) (F : Nat) (r4 : Nat → Int32 → Int32 → hh_H → Option (Int32 × hh_H)) (r17 : Nat → Int32 → Int32 → Int32 → Int32 → hh_H → Option (Int32 × hh_H)) (H4 : ∀ (a0 : Nat) (x1 : Int32) (x2 : Int32) (h : hh_H), r4 a0 x1 x2 h = some rr → hh_W X 0 0 4 [(0, .ref (hh_ad B e0 a0)), (1, .int x1), (2, .int x2)] [] h) (H17 : ∀ (a0 : Nat) (x1 : Int32) (x2 : Int32) (x3 : Int32) (x4 : Int32) (h : hh_H), r17 a0 x1 x2 x3 x4 h = some rr → hh_W X 0 0 17 [(0, .ref (hh_ad B e0 a0)), (1, .int x1), (2, .int x2), (3, .int x3), (4, .int x4)] [] h) (a0 : Nat) (x1 : Int32) (x2 : Int32) (x3 : Int32) (x4 : Int32) (h : hh_H)
    (hf : f_Mo_full_17 F r4 r17 a0 x1 x2 x3 x4 h = some rr) : hh_W X 0 0 17 [(0, .ref (hh_ad B e0 a0)), (1, .int x1), (2, .int x2), (3, .int x3), (4, .int x4)] [] h := by
  unfold f_Mo_full_17 at hf
  refine r_iload C dX9_full_17 4 rfl ?_
  refine r_aload_n C dX9_full_19 rfl 0 rfl ?_
  obtain ⟨v14, e15, hf⟩ := hp_bind hf
  refine r_getI C dX9_full_20 fl_RX9_125 e15 ?_
  refine r_icmp_ge C dX9_full_23 (tgt := 51) (by decide) (fun c16 => ?_) (fun c16 => ?_)
  · rw [if_pos c16] at hf
    refine hh_pick [0, 1, 2, 3] rfl ?_
    exact w_Mo_full_51 C E F r4 H4 a0 x1 x2 x3 h hf
  · rw [if_neg c16] at hf
    refine r_aload_n C dX9_full_26 rfl 0 rfl ?_
    obtain ⟨v17, e18, hf⟩ := hp_bind hf
    refine r_getA C dX9_full_27 fl_RX9_29 e18 ?_
    refine r_iload C dX9_full_30 4 rfl ?_
    obtain ⟨v19, e20, hf⟩ := hp_bind hf
    refine r_ai C dX9_full_32 e20 ?_
    refine r_aload_n C dX9_full_33 rfl 0 rfl ?_
    obtain ⟨v21, e22, hf⟩ := hp_bind hf
    refine r_getA C dX9_full_34 fl_RX9_29 e22 ?_
    refine r_iload_n C dX9_full_37 rfl 2 rfl ?_
    obtain ⟨v23, e24, hf⟩ := hp_bind hf
    refine r_ai C dX9_full_38 e24 ?_
    refine r_icmp_ne C dX9_full_39 (tgt := 45) (by decide) (fun c25 => ?_) (fun c25 => ?_)
    · rw [if_neg c25] at hf
      refine r_iinc (lv' := [(4, .int (x4 + 1)), (0, .ref (hh_ad B e0 a0)), (1, .int x1), (2, .int x2), (3, .int x3)]) C dX9_full_45 4 rfl rfl (by decide) rfl ?_
      refine r_goto C dX9_full_48 (tgt := 17) (by decide) ?_
      refine hh_pick [1, 2, 3, 4, 0] rfl ?_
      exact H17 a0 x1 x2 x3 (x4 + 1) h hf
    · rw [if_pos c25] at hf
      refine r_iinc (lv' := [(3, .int (x3 + 1)), (0, .ref (hh_ad B e0 a0)), (1, .int x1), (2, .int x2), (4, .int x4)]) C dX9_full_42 3 rfl rfl (by decide) rfl ?_
      refine r_iinc (lv' := [(4, .int (x4 + 1)), (3, .int (x3 + 1)), (0, .ref (hh_ad B e0 a0)), (1, .int x1), (2, .int x2)]) C dX9_full_45 4 rfl rfl (by decide) rfl ?_
      refine r_goto C dX9_full_48 (tgt := 17) (by decide) ?_
      refine hh_pick [2, 3, 4, 1, 0] rfl ?_
      exact H17 a0 x1 x2 (x3 + 1) (x4 + 1) h hf
theorem wl_Mo_full_17 {X : hh_X} {B e0 : Nat} {rr : Int32 × hh_H} (C : ok_Mo_full X B e0) (E : hh_End X B e0 (.returned (some (.int rr.1))) rr.2 mc_Mo_full ms_Mo_full) (F : Nat) (r4 : Nat → Int32 → Int32 → hh_H → Option (Int32 × hh_H)) (H4 : ∀ (a0 : Nat) (x1 : Int32) (x2 : Int32) (h : hh_H), r4 a0 x1 x2 h = some rr → hh_W X 0 0 4 [(0, .ref (hh_ad B e0 a0)), (1, .int x1), (2, .int x2)] [] h) :
    ∀ (n : Nat) (a0 : Nat) (x1 : Int32) (x2 : Int32) (x3 : Int32) (x4 : Int32) (h : hh_H), hp_it (fun _ _ _ _ _ _ => none) (f_Mo_full_17 F r4) n a0 x1 x2 x3 x4 h = some rr → hh_W X 0 0 17 [(0, .ref (hh_ad B e0 a0)), (1, .int x1), (2, .int x2), (3, .int x3), (4, .int x4)] [] h := by
  intro n
  induction n with
  | zero => intro a0 x1 x2 x3 x4 h hf; cases hf
  | succ n ih =>
    intro a0 x1 x2 x3 x4 h hf
    exact w_Mo_full_17 C E F r4 _ H4 ih a0 x1 x2 x3 x4 h hf
set_option maxRecDepth 100000 in
set_option maxHeartbeats 4000000 in
theorem w_Mo_full_4 {X : hh_X} {B e0 : Nat} {rr : Int32 × hh_H} (C : ok_Mo_full X B e0) (E : hh_End X B e0 (.returned (some (.int rr.1))) rr.2 mc_Mo_full ms_Mo_full) (F : Nat) (r4 : Nat → Int32 → Int32 → hh_H → Option (Int32 × hh_H)) (H4 : ∀ (a0 : Nat) (x1 : Int32) (x2 : Int32) (h : hh_H), r4 a0 x1 x2 h = some rr → hh_W X 0 0 4 [(0, .ref (hh_ad B e0 a0)), (1, .int x1), (2, .int x2)] [] h) (a0 : Nat) (x1 : Int32) (x2 : Int32) (h : hh_H)
    (hf : f_Mo_full_4 F r4 a0 x1 x2 h = some rr) : hh_W X 0 0 4 [(0, .ref (hh_ad B e0 a0)), (1, .int x1), (2, .int x2)] [] h := by
  unfold f_Mo_full_4 at hf
  refine r_iload_n C dX9_full_4 rfl 2 rfl ?_
  refine r_aload_n C dX9_full_5 rfl 0 rfl ?_
  obtain ⟨v26, e27, hf⟩ := hp_bind hf
  refine r_getI C dX9_full_6 fl_RX9_125 e27 ?_
  refine r_icmp_ge C dX9_full_9 (tgt := 86) (by decide) (fun c28 => ?_) (fun c28 => ?_)
  · rw [if_pos c28] at hf
    refine r_iload_n C dX9_full_86 rfl 1 rfl ?_
    exact r_ireturn C E dX9_full_87 (by decide) (by decide) hf
  · rw [if_neg c28] at hf
    refine r_iconst C dX9_full_12 (v := 0) (by decide) ?_
    refine r_istore_n (lv' := [(3, .int 0), (0, .ref (hh_ad B e0 a0)), (1, .int x1), (2, .int x2)]) C dX9_full_13 rfl (by decide) rfl ?_
    refine r_iconst C dX9_full_14 (v := 0) (by decide) ?_
    refine r_istore (lv' := [(4, .int 0), (3, .int 0), (0, .ref (hh_ad B e0 a0)), (1, .int x1), (2, .int x2)]) C dX9_full_15 (by decide) rfl ?_
    refine hh_pick [2, 3, 4, 1, 0] rfl ?_
    exact wl_Mo_full_17 C E F r4 H4 F a0 x1 x2 0 0 h hf
theorem wl_Mo_full_4 {X : hh_X} {B e0 : Nat} {rr : Int32 × hh_H} (C : ok_Mo_full X B e0) (E : hh_End X B e0 (.returned (some (.int rr.1))) rr.2 mc_Mo_full ms_Mo_full) (F : Nat) :
    ∀ (n : Nat) (a0 : Nat) (x1 : Int32) (x2 : Int32) (h : hh_H), hp_it (fun _ _ _ _ => none) (f_Mo_full_4 F) n a0 x1 x2 h = some rr → hh_W X 0 0 4 [(0, .ref (hh_ad B e0 a0)), (1, .int x1), (2, .int x2)] [] h := by
  intro n
  induction n with
  | zero => intro a0 x1 x2 h hf; cases hf
  | succ n ih =>
    intro a0 x1 x2 h hf
    exact w_Mo_full_4 C E F _ ih a0 x1 x2 h hf
set_option maxRecDepth 100000 in
set_option maxHeartbeats 4000000 in
theorem w_Mo_full {X : hh_X} {B e0 : Nat} {rr : Int32 × hh_H} (C : ok_Mo_full X B e0) (E : hh_End X B e0 (.returned (some (.int rr.1))) rr.2 mc_Mo_full ms_Mo_full) (F : Nat) (a0 : Nat) (h : hh_H)
    (hf : f_Mo_full F a0 h = some rr) : hh_W X 0 0 0 [(0, .ref (hh_ad B e0 a0))] [] h := by
  unfold f_Mo_full at hf
  refine r_iconst C dX9_full_0 (v := (-1)) (by decide) ?_
  refine r_istore_n (lv' := [(1, .int (-1)), (0, .ref (hh_ad B e0 a0))]) C dX9_full_1 rfl (by decide) rfl ?_
  refine r_iconst C dX9_full_2 (v := 0) (by decide) ?_
  refine r_istore_n (lv' := [(2, .int 0), (1, .int (-1)), (0, .ref (hh_ad B e0 a0))]) C dX9_full_3 rfl (by decide) rfl ?_
  refine hh_pick [2, 1, 0] rfl ?_
  exact wl_Mo_full_4 C E F F a0 (-1) 0 h hf
theorem c_Mo_full (B e0 F : Nat) (a0 : Nat) (h : hh_H) (rr : Int32 × hh_H) (hf : f_Mo_full F a0 h = some rr) : hh_Met yX9_full cX9_full 5 (some .int) rm_Mo_full mc_Mo_full ms_Mo_full B e0 [.ref (hh_ad B e0 a0)] h (.returned (some (.int rr.1))) rr.2 :=
  hh_met (by decide) (Nat.le_of_ble_eq_true rfl) fun X C E => hh_pick [0] rfl (w_Mo_full C E F a0 h hf)
def mc_Mo_merge : Nat := 0
def ms_Mo_merge : Nat := 0
def rm_Mo_merge : Room := { frames := 4, cells := 0, slots := 0, locals := 101 }
abbrev ok_Mo_merge (X : hh_X) (B e0 : Nat) : Prop := hh_ok X B e0 cX9_merge RX9 13 (some .boolean) "merge" rm_Mo_merge
set_option maxRecDepth 100000 in
set_option maxHeartbeats 4000000 in
theorem w_Mo_merge_313 {X : hh_X} {B e0 : Nat} {rr : Int32 × hh_H} (C : ok_Mo_merge X B e0) (E : hh_End X B e0 (.returned (some (.int rr.1))) rr.2 mc_Mo_merge ms_Mo_merge) (F : Nat) (a0 : Nat) (z4 : Int64) (z6 : Int64) (x10 : Int32) (h : hh_H)
    (hf : f_Mo_merge_313 F a0 z4 z6 x10 h = some rr) : hh_W X 0 0 313 [(0, .ref (hh_ad B e0 a0)), (4, .long z4), (6, .long z6), (10, .int x10)] [] h := by
  unfold f_Mo_merge_313 at hf
  refine r_aload_n C dX9_merge_313 rfl 0 rfl ?_
  refine r_iload C dX9_merge_314 3 rfl ?_
  obtain ⟨h1, e2, hf⟩ := hp_bind hf
  refine r_putI C dX9_merge_316 fl_RX9_125 e2 ?_
  refine r_aload_n C dX9_merge_319 rfl 0 rfl ?_
  refine r_aload_n C dX9_merge_320 rfl 0 rfl ?_
  obtain ⟨v3, e4, hf⟩ := hp_bind hf
  refine r_getJ C dX9_merge_321 fl_RX9_118 e4 ?_
  refine r_lload C dX9_merge_324 1 rfl ?_
  refine r_ldc2 C dX9_merge_326 (v := (-1)) kl_RX9_140 ?_
  refine r_lxor C dX9_merge_329 ?_
  refine r_land C dX9_merge_330 ?_
  refine r_lload C dX9_merge_331 2 rfl ?_
  refine r_lor C dX9_merge_333 ?_
  obtain ⟨h5, e6, hf⟩ := hp_bind hf
  refine r_putJ C dX9_merge_334 fl_RX9_118 e6 ?_
  refine r_aload_n C dX9_merge_337 rfl 0 rfl ?_
  refine r_dup C dX9_merge_338 rfl ?_
  obtain ⟨v7, e8, hf⟩ := hp_bind hf
  refine r_getI C dX9_merge_339 fl_RX9_145 e8 ?_
  refine r_iconst C dX9_merge_342 (v := 1) (by decide) ?_
  refine r_iadd C dX9_merge_343 ?_
  obtain ⟨h9, e10, hf⟩ := hp_bind hf
  refine r_putI C dX9_merge_344 fl_RX9_145 e10 ?_
  refine r_iconst C dX9_merge_347 (v := 1) (by decide) ?_
  exact r_ireturnz C E dX9_merge_348 rfl (by decide) (by decide) hf
set_option maxRecDepth 100000 in
set_option maxHeartbeats 4000000 in
theorem w_Mo_merge_277 {X : hh_X} {B e0 : Nat} {rr : Int32 × hh_H} (C : ok_Mo_merge X B e0) (E : hh_End X B e0 (.returned (some (.int rr.1))) rr.2 mc_Mo_merge ms_Mo_merge) (F : Nat) (r179 : Nat → Int32 → Int64 → Int64 → Int64 → Int32 → Int32 → Int32 → Int32 → hh_H → Option (Int32 × hh_H)) (H179 : ∀ (a0 : Nat) (x1 : Int32) (z2 : Int64) (z4 : Int64) (z6 : Int64) (x8 : Int32) (x9 : Int32) (x10 : Int32) (x11 : Int32) (h : hh_H), r179 a0 x1 z2 z4 z6 x8 x9 x10 x11 h = some rr → hh_W X 0 0 179 [(0, .ref (hh_ad B e0 a0)), (1, .int x1), (2, .long z2), (4, .long z4), (6, .long z6), (8, .int x8), (9, .int x9), (10, .int x10), (11, .int x11)] [] h) (a0 : Nat) (x1 : Int32) (z2 : Int64) (z4 : Int64) (z6 : Int64) (x8 : Int32) (x9 : Int32) (x10 : Int32) (x11 : Int32) (x12 : Int32) (s0 : Nat) (s1 : Int32) (s2 : Int64) (h : hh_H)
    (hf : f_Mo_merge_277 F r179 a0 x1 z2 z4 z6 x8 x9 x10 x11 x12 s0 s1 s2 h = some rr) : hh_W X 0 0 277 [(0, .ref (hh_ad B e0 a0)), (1, .int x1), (2, .long z2), (4, .long z4), (6, .long z6), (8, .int x8), (9, .int x9), (10, .int x10), (11, .int x11), (12, .int x12)] [.long s2, .int s1, .ref (hh_ad B e0 s0)] h := by
  unfold f_Mo_merge_277 at hf
  obtain ⟨h11, e12, hf⟩ := hp_bind hf
  refine r_sj C dX9_merge_277 e12 ?_
  refine r_aload_n C dX9_merge_278 rfl 0 rfl ?_
  obtain ⟨v13, e14, hf⟩ := hp_bind hf
  refine r_getA C dX9_merge_279 fl_RX9_29 e14 ?_
  refine r_iload C dX9_merge_282 7 rfl ?_
  refine r_iload C dX9_merge_284 9 rfl ?_
  refine r_if_eq C dX9_merge_286 (tgt := 296) (by decide) (fun c15 => ?_) (fun c15 => ?_)
  · rw [if_pos c15] at hf
    refine r_aload_n C dX9_merge_296 rfl 0 rfl ?_
    obtain ⟨v16, e17, hf⟩ := hp_bind hf
    refine r_getA C dX9_merge_297 fl_RX9_29 e17 ?_
    refine r_iload C dX9_merge_300 8 rfl ?_
    obtain ⟨v18, e19, hf⟩ := hp_bind hf
    refine r_ai C dX9_merge_302 e19 ?_
    obtain ⟨h20, e21, hf⟩ := hp_bind hf
    refine r_si C dX9_merge_303 e21 ?_
    refine r_iinc (lv' := [(10, .int (x10 + 1)), (0, .ref (hh_ad B e0 a0)), (1, .int x1), (2, .long z2), (4, .long z4), (6, .long z6), (8, .int x8), (9, .int x9), (11, .int x11), (12, .int x12)]) C dX9_merge_304 7 rfl rfl (by decide) rfl ?_
    refine r_iinc (lv' := [(11, .int (x11 + 1)), (10, .int (x10 + 1)), (0, .ref (hh_ad B e0 a0)), (1, .int x1), (2, .long z2), (4, .long z4), (6, .long z6), (8, .int x8), (9, .int x9), (12, .int x12)]) C dX9_merge_307 8 rfl rfl (by decide) rfl ?_
    refine r_goto C dX9_merge_310 (tgt := 179) (by decide) ?_
    refine hh_pick [2, 3, 4, 5, 6, 7, 8, 1, 0] rfl ?_
    exact H179 a0 x1 z2 z4 z6 x8 x9 (x10 + 1) (x11 + 1) h20 hf
  · rw [if_neg c15] at hf
    refine r_iload C dX9_merge_289 6 rfl ?_
    refine r_iconst C dX9_merge_291 (v := 1) (by decide) ?_
    refine r_iadd C dX9_merge_292 ?_
    refine r_goto C dX9_merge_293 (tgt := 303) (by decide) ?_
    obtain ⟨h22, e23, hf⟩ := hp_bind hf
    refine r_si C dX9_merge_303 e23 ?_
    refine r_iinc (lv' := [(10, .int (x10 + 1)), (0, .ref (hh_ad B e0 a0)), (1, .int x1), (2, .long z2), (4, .long z4), (6, .long z6), (8, .int x8), (9, .int x9), (11, .int x11), (12, .int x12)]) C dX9_merge_304 7 rfl rfl (by decide) rfl ?_
    refine r_iinc (lv' := [(11, .int (x11 + 1)), (10, .int (x10 + 1)), (0, .ref (hh_ad B e0 a0)), (1, .int x1), (2, .long z2), (4, .long z4), (6, .long z6), (8, .int x8), (9, .int x9), (12, .int x12)]) C dX9_merge_307 8 rfl rfl (by decide) rfl ?_
    refine r_goto C dX9_merge_310 (tgt := 179) (by decide) ?_
    refine hh_pick [2, 3, 4, 5, 6, 7, 8, 1, 0] rfl ?_
    exact H179 a0 x1 z2 z4 z6 x8 x9 (x10 + 1) (x11 + 1) h22 hf
set_option maxRecDepth 100000 in
set_option maxHeartbeats 4000000 in
theorem w_Mo_merge_253 {X : hh_X} {B e0 : Nat} {rr : Int32 × hh_H} (C : ok_Mo_merge X B e0) (E : hh_End X B e0 (.returned (some (.int rr.1))) rr.2 mc_Mo_merge ms_Mo_merge) (F : Nat) (r179 : Nat → Int32 → Int64 → Int64 → Int64 → Int32 → Int32 → Int32 → Int32 → hh_H → Option (Int32 × hh_H)) (H179 : ∀ (a0 : Nat) (x1 : Int32) (z2 : Int64) (z4 : Int64) (z6 : Int64) (x8 : Int32) (x9 : Int32) (x10 : Int32) (x11 : Int32) (h : hh_H), r179 a0 x1 z2 z4 z6 x8 x9 x10 x11 h = some rr → hh_W X 0 0 179 [(0, .ref (hh_ad B e0 a0)), (1, .int x1), (2, .long z2), (4, .long z4), (6, .long z6), (8, .int x8), (9, .int x9), (10, .int x10), (11, .int x11)] [] h) (a0 : Nat) (x1 : Int32) (z2 : Int64) (z4 : Int64) (z6 : Int64) (x8 : Int32) (x9 : Int32) (x10 : Int32) (x11 : Int32) (x12 : Int32) (s0 : Nat) (s1 : Int32) (s2 : Int64) (h : hh_H)
    (hf : f_Mo_merge_253 F r179 a0 x1 z2 z4 z6 x8 x9 x10 x11 x12 s0 s1 s2 h = some rr) : hh_W X 0 0 253 [(0, .ref (hh_ad B e0 a0)), (1, .int x1), (2, .long z2), (4, .long z4), (6, .long z6), (8, .int x8), (9, .int x9), (10, .int x10), (11, .int x11), (12, .int x12)] [.long s2, .int s1, .ref (hh_ad B e0 s0)] h := by
  unfold f_Mo_merge_253 at hf
  obtain ⟨h24, e25, hf⟩ := hp_bind hf
  refine r_sj C dX9_merge_253 e25 ?_
  refine r_aload_n C dX9_merge_254 rfl 0 rfl ?_
  obtain ⟨v26, e27, hf⟩ := hp_bind hf
  refine r_getA C dX9_merge_255 fl_RX9_26 e27 ?_
  refine r_iload C dX9_merge_258 7 rfl ?_
  refine r_iload C dX9_merge_260 9 rfl ?_
  refine r_if_eq C dX9_merge_262 (tgt := 270) (by decide) (fun c28 => ?_) (fun c28 => ?_)
  · rw [if_pos c28] at hf
    refine r_aload_n C dX9_merge_270 rfl 0 rfl ?_
    obtain ⟨v29, e30, hf⟩ := hp_bind hf
    refine r_getA C dX9_merge_271 fl_RX9_26 e30 ?_
    refine r_iload C dX9_merge_274 8 rfl ?_
    obtain ⟨v31, e32, hf⟩ := hp_bind hf
    refine r_aj C dX9_merge_276 e32 ?_
    refine hh_pick [0, 1, 2, 3, 4, 5, 6, 7, 8, 9] rfl ?_
    exact w_Mo_merge_277 C E F r179 H179 a0 x1 z2 z4 z6 x8 x9 x10 x11 x12 v26 x10 v31 h24 hf
  · rw [if_neg c28] at hf
    refine r_lload C dX9_merge_265 4 rfl ?_
    refine r_goto C dX9_merge_267 (tgt := 277) (by decide) ?_
    refine hh_pick [0, 1, 2, 3, 4, 5, 6, 7, 8, 9] rfl ?_
    exact w_Mo_merge_277 C E F r179 H179 a0 x1 z2 z4 z6 x8 x9 x10 x11 x12 v26 x10 z6 h24 hf
set_option maxRecDepth 100000 in
set_option maxHeartbeats 4000000 in
theorem w_Mo_merge_231 {X : hh_X} {B e0 : Nat} {rr : Int32 × hh_H} (C : ok_Mo_merge X B e0) (E : hh_End X B e0 (.returned (some (.int rr.1))) rr.2 mc_Mo_merge ms_Mo_merge) (F : Nat) (r179 : Nat → Int32 → Int64 → Int64 → Int64 → Int32 → Int32 → Int32 → Int32 → hh_H → Option (Int32 × hh_H)) (H179 : ∀ (a0 : Nat) (x1 : Int32) (z2 : Int64) (z4 : Int64) (z6 : Int64) (x8 : Int32) (x9 : Int32) (x10 : Int32) (x11 : Int32) (h : hh_H), r179 a0 x1 z2 z4 z6 x8 x9 x10 x11 h = some rr → hh_W X 0 0 179 [(0, .ref (hh_ad B e0 a0)), (1, .int x1), (2, .long z2), (4, .long z4), (6, .long z6), (8, .int x8), (9, .int x9), (10, .int x10), (11, .int x11)] [] h) (a0 : Nat) (x1 : Int32) (z2 : Int64) (z4 : Int64) (z6 : Int64) (x8 : Int32) (x9 : Int32) (x10 : Int32) (x11 : Int32) (x12 : Int32) (h : hh_H)
    (hf : f_Mo_merge_231 F r179 a0 x1 z2 z4 z6 x8 x9 x10 x11 x12 h = some rr) : hh_W X 0 0 231 [(0, .ref (hh_ad B e0 a0)), (1, .int x1), (2, .long z2), (4, .long z4), (6, .long z6), (8, .int x8), (9, .int x9), (10, .int x10), (11, .int x11), (12, .int x12)] [] h := by
  unfold f_Mo_merge_231 at hf
  refine r_aload_n C dX9_merge_231 rfl 0 rfl ?_
  obtain ⟨v33, e34, hf⟩ := hp_bind hf
  refine r_getA C dX9_merge_232 fl_RX9_22 e34 ?_
  refine r_iload C dX9_merge_235 7 rfl ?_
  refine r_iload C dX9_merge_237 9 rfl ?_
  refine r_if_eq C dX9_merge_239 (tgt := 246) (by decide) (fun c35 => ?_) (fun c35 => ?_)
  · rw [if_pos c35] at hf
    refine r_aload_n C dX9_merge_246 rfl 0 rfl ?_
    obtain ⟨v36, e37, hf⟩ := hp_bind hf
    refine r_getA C dX9_merge_247 fl_RX9_22 e37 ?_
    refine r_iload C dX9_merge_250 8 rfl ?_
    obtain ⟨v38, e39, hf⟩ := hp_bind hf
    refine r_aj C dX9_merge_252 e39 ?_
    refine hh_pick [0, 1, 2, 3, 4, 5, 6, 7, 8, 9] rfl ?_
    exact w_Mo_merge_253 C E F r179 H179 a0 x1 z2 z4 z6 x8 x9 x10 x11 x12 v33 x10 v38 h hf
  · rw [if_neg c35] at hf
    refine r_lload_n C dX9_merge_242 rfl 2 rfl ?_
    refine r_goto C dX9_merge_243 (tgt := 253) (by decide) ?_
    refine hh_pick [0, 1, 2, 3, 4, 5, 6, 7, 8, 9] rfl ?_
    exact w_Mo_merge_253 C E F r179 H179 a0 x1 z2 z4 z6 x8 x9 x10 x11 x12 v33 x10 z2 h hf
set_option maxRecDepth 100000 in
set_option maxHeartbeats 4000000 in
theorem w_Mo_merge_208 {X : hh_X} {B e0 : Nat} {rr : Int32 × hh_H} (C : ok_Mo_merge X B e0) (E : hh_End X B e0 (.returned (some (.int rr.1))) rr.2 mc_Mo_merge ms_Mo_merge) (F : Nat) (r179 : Nat → Int32 → Int64 → Int64 → Int64 → Int32 → Int32 → Int32 → Int32 → hh_H → Option (Int32 × hh_H)) (H179 : ∀ (a0 : Nat) (x1 : Int32) (z2 : Int64) (z4 : Int64) (z6 : Int64) (x8 : Int32) (x9 : Int32) (x10 : Int32) (x11 : Int32) (h : hh_H), r179 a0 x1 z2 z4 z6 x8 x9 x10 x11 h = some rr → hh_W X 0 0 179 [(0, .ref (hh_ad B e0 a0)), (1, .int x1), (2, .long z2), (4, .long z4), (6, .long z6), (8, .int x8), (9, .int x9), (10, .int x10), (11, .int x11)] [] h) (a0 : Nat) (x1 : Int32) (z2 : Int64) (z4 : Int64) (z6 : Int64) (x8 : Int32) (x9 : Int32) (x10 : Int32) (x11 : Int32) (s0 : Int32) (h : hh_H)
    (hf : f_Mo_merge_208 F r179 a0 x1 z2 z4 z6 x8 x9 x10 x11 s0 h = some rr) : hh_W X 0 0 208 [(0, .ref (hh_ad B e0 a0)), (1, .int x1), (2, .long z2), (4, .long z4), (6, .long z6), (8, .int x8), (9, .int x9), (10, .int x10), (11, .int x11)] [.int s0] h := by
  unfold f_Mo_merge_208 at hf
  refine r_istore (lv' := [(12, .int s0), (0, .ref (hh_ad B e0 a0)), (1, .int x1), (2, .long z2), (4, .long z4), (6, .long z6), (8, .int x8), (9, .int x9), (10, .int x10), (11, .int x11)]) C dX9_merge_208 (by decide) rfl ?_
  refine r_iload C dX9_merge_210 0 rfl ?_
  refine r_if_eq C dX9_merge_212 (tgt := 231) (by decide) (fun c40 => ?_) (fun c40 => ?_)
  · rw [if_pos c40] at hf
    refine hh_pick [1, 2, 3, 4, 5, 6, 7, 8, 9, 0] rfl ?_
    exact w_Mo_merge_231 C E F r179 H179 a0 x1 z2 z4 z6 x8 x9 x10 x11 s0 h hf
  · rw [if_neg c40] at hf
    refine r_iload C dX9_merge_215 9 rfl ?_
    refine r_iload C dX9_merge_217 6 rfl ?_
    refine r_icmp_ne C dX9_merge_219 (tgt := 307) (by decide) (fun c41 => ?_) (fun c41 => ?_)
    · rw [if_neg c41] at hf
      refine r_iinc (lv' := [(11, .int (x11 + 1)), (12, .int s0), (0, .ref (hh_ad B e0 a0)), (1, .int x1), (2, .long z2), (4, .long z4), (6, .long z6), (8, .int x8), (9, .int x9), (10, .int x10)]) C dX9_merge_307 9 rfl rfl (by decide) rfl ?_
      refine r_goto C dX9_merge_310 (tgt := 179) (by decide) ?_
      refine hh_pick [2, 3, 4, 5, 6, 7, 8, 9, 0] rfl ?_
      exact H179 a0 x1 z2 z4 z6 x8 x9 x10 (x11 + 1) h hf
    · rw [if_pos c41] at hf
      refine r_lload_n C dX9_merge_222 rfl 3 rfl ?_
      refine r_lconst C dX9_merge_223 (v := 0) (by decide) ?_
      refine r_lcmp C dX9_merge_224 ?_
      refine r_if_ne C dX9_merge_225 (tgt := 231) (by decide) (fun c42 => ?_) (fun c42 => ?_)
      · rw [if_neg c42] at hf
        refine hh_pick [1, 2, 3, 4, 5, 6, 7, 8, 9, 0] rfl ?_
        exact w_Mo_merge_231 C E F r179 H179 a0 x1 z2 z4 z6 x8 x9 x10 x11 s0 h hf
      · rw [if_pos c42] at hf
        refine r_goto C dX9_merge_228 (tgt := 307) (by decide) ?_
        refine r_iinc (lv' := [(11, .int (x11 + 1)), (12, .int s0), (0, .ref (hh_ad B e0 a0)), (1, .int x1), (2, .long z2), (4, .long z4), (6, .long z6), (8, .int x8), (9, .int x9), (10, .int x10)]) C dX9_merge_307 9 rfl rfl (by decide) rfl ?_
        refine r_goto C dX9_merge_310 (tgt := 179) (by decide) ?_
        refine hh_pick [2, 3, 4, 5, 6, 7, 8, 9, 0] rfl ?_
        exact H179 a0 x1 z2 z4 z6 x8 x9 x10 (x11 + 1) h hf
set_option maxRecDepth 100000 in
set_option maxHeartbeats 4000000 in
theorem w_Mo_merge_203 {X : hh_X} {B e0 : Nat} {rr : Int32 × hh_H} (C : ok_Mo_merge X B e0) (E : hh_End X B e0 (.returned (some (.int rr.1))) rr.2 mc_Mo_merge ms_Mo_merge) (F : Nat) (r179 : Nat → Int32 → Int64 → Int64 → Int64 → Int32 → Int32 → Int32 → Int32 → hh_H → Option (Int32 × hh_H)) (H179 : ∀ (a0 : Nat) (x1 : Int32) (z2 : Int64) (z4 : Int64) (z6 : Int64) (x8 : Int32) (x9 : Int32) (x10 : Int32) (x11 : Int32) (h : hh_H), r179 a0 x1 z2 z4 z6 x8 x9 x10 x11 h = some rr → hh_W X 0 0 179 [(0, .ref (hh_ad B e0 a0)), (1, .int x1), (2, .long z2), (4, .long z4), (6, .long z6), (8, .int x8), (9, .int x9), (10, .int x10), (11, .int x11)] [] h) (a0 : Nat) (x1 : Int32) (z2 : Int64) (z4 : Int64) (z6 : Int64) (x8 : Int32) (x9 : Int32) (x10 : Int32) (x11 : Int32) (h : hh_H)
    (hf : f_Mo_merge_203 F r179 a0 x1 z2 z4 z6 x8 x9 x10 x11 h = some rr) : hh_W X 0 0 203 [(0, .ref (hh_ad B e0 a0)), (1, .int x1), (2, .long z2), (4, .long z4), (6, .long z6), (8, .int x8), (9, .int x9), (10, .int x10), (11, .int x11)] [] h := by
  unfold f_Mo_merge_203 at hf
  refine r_iconst C dX9_merge_203 (v := 1) (by decide) ?_
  refine r_goto C dX9_merge_204 (tgt := 208) (by decide) ?_
  refine hh_pick [0, 1, 2, 3, 4, 5, 6, 7, 8] rfl ?_
  exact w_Mo_merge_208 C E F r179 H179 a0 x1 z2 z4 z6 x8 x9 x10 x11 1 h hf
set_option maxRecDepth 100000 in
set_option maxHeartbeats 4000000 in
theorem w_Mo_merge_179 {X : hh_X} {B e0 : Nat} {rr : Int32 × hh_H} (C : ok_Mo_merge X B e0) (E : hh_End X B e0 (.returned (some (.int rr.1))) rr.2 mc_Mo_merge ms_Mo_merge) (F : Nat) (r179 : Nat → Int32 → Int64 → Int64 → Int64 → Int32 → Int32 → Int32 → Int32 → hh_H → Option (Int32 × hh_H)) (H179 : ∀ (a0 : Nat) (x1 : Int32) (z2 : Int64) (z4 : Int64) (z6 : Int64) (x8 : Int32) (x9 : Int32) (x10 : Int32) (x11 : Int32) (h : hh_H), r179 a0 x1 z2 z4 z6 x8 x9 x10 x11 h = some rr → hh_W X 0 0 179 [(0, .ref (hh_ad B e0 a0)), (1, .int x1), (2, .long z2), (4, .long z4), (6, .long z6), (8, .int x8), (9, .int x9), (10, .int x10), (11, .int x11)] [] h) (a0 : Nat) (x1 : Int32) (z2 : Int64) (z4 : Int64) (z6 : Int64) (x8 : Int32) (x9 : Int32) (x10 : Int32) (x11 : Int32) (h : hh_H)
    (hf : f_Mo_merge_179 F r179 a0 x1 z2 z4 z6 x8 x9 x10 x11 h = some rr) : hh_W X 0 0 179 [(0, .ref (hh_ad B e0 a0)), (1, .int x1), (2, .long z2), (4, .long z4), (6, .long z6), (8, .int x8), (9, .int x9), (10, .int x10), (11, .int x11)] [] h := by
  unfold f_Mo_merge_179 at hf
  refine r_iload C dX9_merge_179 8 rfl ?_
  refine r_aload_n C dX9_merge_181 rfl 0 rfl ?_
  obtain ⟨v43, e44, hf⟩ := hp_bind hf
  refine r_getI C dX9_merge_182 fl_RX9_125 e44 ?_
  refine r_icmp_ge C dX9_merge_185 (tgt := 313) (by decide) (fun c45 => ?_) (fun c45 => ?_)
  · rw [if_pos c45] at hf
    refine hh_pick [0, 3, 4, 7] rfl ?_
    exact w_Mo_merge_313 C E F a0 z4 z6 x10 h hf
  · rw [if_neg c45] at hf
    refine r_iload_n C dX9_merge_188 rfl 1 rfl ?_
    refine r_if_lt C dX9_merge_189 (tgt := 203) (by decide) (fun c46 => ?_) (fun c46 => ?_)
    · rw [if_pos c46] at hf
      refine hh_pick [0, 1, 2, 3, 4, 5, 6, 7, 8] rfl ?_
      exact w_Mo_merge_203 C E F r179 H179 a0 x1 z2 z4 z6 x8 x9 x10 x11 h hf
    · rw [if_neg c46] at hf
      refine r_aload_n C dX9_merge_192 rfl 0 rfl ?_
      obtain ⟨v47, e48, hf⟩ := hp_bind hf
      refine r_getA C dX9_merge_193 fl_RX9_29 e48 ?_
      refine r_iload C dX9_merge_196 8 rfl ?_
      obtain ⟨v49, e50, hf⟩ := hp_bind hf
      refine r_ai C dX9_merge_198 e50 ?_
      refine r_iload_n C dX9_merge_199 rfl 1 rfl ?_
      refine r_icmp_ne C dX9_merge_200 (tgt := 207) (by decide) (fun c51 => ?_) (fun c51 => ?_)
      · rw [if_neg c51] at hf
        refine r_iconst C dX9_merge_207 (v := 0) (by decide) ?_
        refine hh_pick [0, 1, 2, 3, 4, 5, 6, 7, 8] rfl ?_
        exact w_Mo_merge_208 C E F r179 H179 a0 x1 z2 z4 z6 x8 x9 x10 x11 0 h hf
      · rw [if_pos c51] at hf
        refine hh_pick [0, 1, 2, 3, 4, 5, 6, 7, 8] rfl ?_
        exact w_Mo_merge_203 C E F r179 H179 a0 x1 z2 z4 z6 x8 x9 x10 x11 h hf
theorem wl_Mo_merge_179 {X : hh_X} {B e0 : Nat} {rr : Int32 × hh_H} (C : ok_Mo_merge X B e0) (E : hh_End X B e0 (.returned (some (.int rr.1))) rr.2 mc_Mo_merge ms_Mo_merge) (F : Nat) :
    ∀ (n : Nat) (a0 : Nat) (x1 : Int32) (z2 : Int64) (z4 : Int64) (z6 : Int64) (x8 : Int32) (x9 : Int32) (x10 : Int32) (x11 : Int32) (h : hh_H), hp_it (fun _ _ _ _ _ _ _ _ _ _ => none) (f_Mo_merge_179 F) n a0 x1 z2 z4 z6 x8 x9 x10 x11 h = some rr → hh_W X 0 0 179 [(0, .ref (hh_ad B e0 a0)), (1, .int x1), (2, .long z2), (4, .long z4), (6, .long z6), (8, .int x8), (9, .int x9), (10, .int x10), (11, .int x11)] [] h := by
  intro n
  induction n with
  | zero => intro a0 x1 z2 z4 z6 x8 x9 x10 x11 h hf; cases hf
  | succ n ih =>
    intro a0 x1 z2 z4 z6 x8 x9 x10 x11 h hf
    exact w_Mo_merge_179 C E F _ ih a0 x1 z2 z4 z6 x8 x9 x10 x11 h hf
set_option maxRecDepth 100000 in
set_option maxHeartbeats 4000000 in
theorem w_Mo_merge_173 {X : hh_X} {B e0 : Nat} {rr : Int32 × hh_H} (C : ok_Mo_merge X B e0) (E : hh_End X B e0 (.returned (some (.int rr.1))) rr.2 mc_Mo_merge ms_Mo_merge) (F : Nat) (a0 : Nat) (x1 : Int32) (z2 : Int64) (z4 : Int64) (z6 : Int64) (x8 : Int32) (x9 : Int32) (h : hh_H)
    (hf : f_Mo_merge_173 F a0 x1 z2 z4 z6 x8 x9 h = some rr) : hh_W X 0 0 173 [(0, .ref (hh_ad B e0 a0)), (1, .int x1), (2, .long z2), (4, .long z4), (6, .long z6), (8, .int x8), (9, .int x9)] [] h := by
  unfold f_Mo_merge_173 at hf
  refine r_iconst C dX9_merge_173 (v := 0) (by decide) ?_
  refine r_istore (lv' := [(10, .int 0), (0, .ref (hh_ad B e0 a0)), (1, .int x1), (2, .long z2), (4, .long z4), (6, .long z6), (8, .int x8), (9, .int x9)]) C dX9_merge_174 (by decide) rfl ?_
  refine r_iconst C dX9_merge_176 (v := 0) (by decide) ?_
  refine r_istore (lv' := [(11, .int 0), (10, .int 0), (0, .ref (hh_ad B e0 a0)), (1, .int x1), (2, .long z2), (4, .long z4), (6, .long z6), (8, .int x8), (9, .int x9)]) C dX9_merge_177 (by decide) rfl ?_
  refine hh_pick [2, 3, 4, 5, 6, 7, 8, 1, 0] rfl ?_
  exact wl_Mo_merge_179 C E F F a0 x1 z2 z4 z6 x8 x9 0 0 h hf
set_option maxRecDepth 100000 in
set_option maxHeartbeats 4000000 in
theorem w_Mo_merge_102 {X : hh_X} {B e0 : Nat} {rr : Int32 × hh_H} (C : ok_Mo_merge X B e0) (E : hh_End X B e0 (.returned (some (.int rr.1))) rr.2 mc_Mo_merge ms_Mo_merge) (F : Nat) (a0 : Nat) (x1 : Int32) (z2 : Int64) (z4 : Int64) (z6 : Int64) (x8 : Int32) (x9 : Int32) (h : hh_H)
    (hf : f_Mo_merge_102 F a0 x1 z2 z4 z6 x8 x9 h = some rr) : hh_W X 0 0 102 [(0, .ref (hh_ad B e0 a0)), (1, .int x1), (2, .long z2), (4, .long z4), (6, .long z6), (8, .int x8), (9, .int x9)] [] h := by
  unfold f_Mo_merge_102 at hf
  refine r_aload_n C dX9_merge_102 rfl 0 rfl ?_
  refine r_dup C dX9_merge_103 rfl ?_
  obtain ⟨v52, e53, hf⟩ := hp_bind hf
  refine r_getI C dX9_merge_104 fl_RX9_137 e53 ?_
  refine r_lload C dX9_merge_107 3 rfl ?_
  obtain ⟨q54, h55, e56, hf⟩ := hp_cbe hf
  refine r_callS C dX9_merge_109 cs_RX9_93 (c_Mo_bits B e0 F z4 h _ e56) rfl rfl rfl ⟨by decide, by decide⟩ ⟨by decide, by decide⟩ (Nat.le_of_ble_eq_true rfl) rfl ?_
  refine r_iadd C dX9_merge_112 ?_
  obtain ⟨h57, e58, hf⟩ := hp_bind hf
  refine r_putI C dX9_merge_113 fl_RX9_137 e58 ?_
  refine r_lload_n C dX9_merge_116 rfl 2 rfl ?_
  refine r_aload_n C dX9_merge_117 rfl 0 rfl ?_
  obtain ⟨v59, e60, hf⟩ := hp_bind hf
  refine r_getJ C dX9_merge_118 fl_RX9_85 e60 ?_
  refine r_ldc2 C dX9_merge_121 (v := (-1)) kl_RX9_140 ?_
  refine r_lxor C dX9_merge_124 ?_
  refine r_land C dX9_merge_125 ?_
  refine r_lstore_n (lv' := [(2, .long (z2 &&& (v59 ^^^ (-1)))), (0, .ref (hh_ad B e0 a0)), (1, .int x1), (4, .long z4), (6, .long z6), (8, .int x8), (9, .int x9)]) C dX9_merge_126 rfl (by decide) rfl ?_
  refine r_lload_n C dX9_merge_127 rfl 0 rfl ?_
  refine r_lconst C dX9_merge_128 (v := 0) (by decide) ?_
  refine r_lcmp C dX9_merge_129 ?_
  refine r_if_eq C dX9_merge_130 (tgt := 173) (by decide) (fun c61 => ?_) (fun c61 => ?_)
  · rw [if_pos c61] at hf
    refine hh_pick [1, 2, 0, 3, 4, 5, 6] rfl ?_
    exact w_Mo_merge_173 C E F a0 x1 (z2 &&& (v59 ^^^ (-1))) z4 z6 x8 x9 h57 hf
  · rw [if_neg c61] at hf
    refine r_aload_n C dX9_merge_133 rfl 1 rfl ?_
    refine r_lload_n C dX9_merge_134 rfl 0 rfl ?_
    obtain ⟨_, e65, hf⟩ := hp_bind hf
    obtain ⟨g66, e65⟩ := hp_is_of e65
    obtain ⟨q62, h63, e64, hf⟩ := hp_cbe hf
    refine r_callV C dX9_merge_135 cs_RX9_121 rfl e65 (c_Mo_room B e0 F a0 (z2 &&& (v59 ^^^ (-1))) h57 _ e64) rfl rfl rfl ⟨by decide, by decide⟩ ⟨by decide, by decide⟩ (Nat.le_of_ble_eq_true rfl) rfl ?_
    refine r_lstore (lv' := [(6, .long q62), (2, .long (z2 &&& (v59 ^^^ (-1)))), (0, .ref (hh_ad B e0 a0)), (1, .int x1), (4, .long z4), (8, .int x8), (9, .int x9)]) C dX9_merge_138 (by decide) rfl ?_
    refine r_lload C dX9_merge_140 0 rfl ?_
    refine r_lconst C dX9_merge_142 (v := 0) (by decide) ?_
    refine r_lcmp C dX9_merge_143 ?_
    refine r_if_ne C dX9_merge_144 (tgt := 159) (by decide) (fun c67 => ?_) (fun c67 => ?_)
    · rw [if_neg c67] at hf
      refine r_aload_n C dX9_merge_159 rfl 2 rfl ?_
      refine r_dup C dX9_merge_160 rfl ?_
      obtain ⟨v68, e69, hf⟩ := hp_bind hf
      refine r_getI C dX9_merge_161 fl_RX9_128 e69 ?_
      refine r_lload C dX9_merge_164 0 rfl ?_
      obtain ⟨q70, h71, e72, hf⟩ := hp_cbe hf
      refine r_callS C dX9_merge_166 cs_RX9_93 (c_Mo_bits B e0 F q62 h63 _ e72) rfl rfl rfl ⟨by decide, by decide⟩ ⟨by decide, by decide⟩ (Nat.le_of_ble_eq_true rfl) rfl ?_
      refine r_iadd C dX9_merge_169 ?_
      obtain ⟨h73, e74, hf⟩ := hp_bind hf
      refine r_putI C dX9_merge_170 fl_RX9_128 e74 ?_
      refine hh_pick [2, 3, 1, 4, 0, 5, 6] rfl ?_
      exact w_Mo_merge_173 C E F a0 x1 (z2 &&& (v59 ^^^ (-1))) z4 q62 x8 x9 h73 hf
    · rw [if_pos c67] at hf
      refine r_aload_n C dX9_merge_147 rfl 2 rfl ?_
      refine r_dup C dX9_merge_148 rfl ?_
      obtain ⟨v75, e76, hf⟩ := hp_bind hf
      refine r_getI C dX9_merge_149 fl_RX9_142 e76 ?_
      refine r_iconst C dX9_merge_152 (v := 1) (by decide) ?_
      refine r_iadd C dX9_merge_153 ?_
      obtain ⟨h77, e78, hf⟩ := hp_bind hf
      refine r_putI C dX9_merge_154 fl_RX9_142 e78 ?_
      refine r_iconst C dX9_merge_157 (v := 0) (by decide) ?_
      exact r_ireturnz C E dX9_merge_158 rfl (by decide) (by decide) hf
set_option maxRecDepth 100000 in
set_option maxHeartbeats 4000000 in
theorem w_Mo_merge_75 {X : hh_X} {B e0 : Nat} {rr : Int32 × hh_H} (C : ok_Mo_merge X B e0) (E : hh_End X B e0 (.returned (some (.int rr.1))) rr.2 mc_Mo_merge ms_Mo_merge) (F : Nat) (r17 : Nat → Int32 → Int64 → Int64 → Int64 → Int32 → Int32 → Int32 → hh_H → Option (Int32 × hh_H)) (H17 : ∀ (a0 : Nat) (x1 : Int32) (z2 : Int64) (z4 : Int64) (z6 : Int64) (x8 : Int32) (x9 : Int32) (x10 : Int32) (h : hh_H), r17 a0 x1 z2 z4 z6 x8 x9 x10 h = some rr → hh_W X 0 0 17 [(0, .ref (hh_ad B e0 a0)), (1, .int x1), (2, .long z2), (4, .long z4), (6, .long z6), (8, .int x8), (9, .int x9), (10, .int x10)] [] h) (a0 : Nat) (x1 : Int32) (z2 : Int64) (z4 : Int64) (z6 : Int64) (x8 : Int32) (x9 : Int32) (x10 : Int32) (h : hh_H)
    (hf : f_Mo_merge_75 F r17 a0 x1 z2 z4 z6 x8 x9 x10 h = some rr) : hh_W X 0 0 75 [(0, .ref (hh_ad B e0 a0)), (1, .int x1), (2, .long z2), (4, .long z4), (6, .long z6), (8, .int x8), (9, .int x9), (10, .int x10)] [] h := by
  unfold f_Mo_merge_75 at hf
  refine r_aload_n C dX9_merge_75 rfl 0 rfl ?_
  obtain ⟨v79, e80, hf⟩ := hp_bind hf
  refine r_getA C dX9_merge_76 fl_RX9_29 e80 ?_
  refine r_iload C dX9_merge_79 7 rfl ?_
  obtain ⟨v81, e82, hf⟩ := hp_bind hf
  refine r_ai C dX9_merge_81 e82 ?_
  refine r_iload C dX9_merge_82 6 rfl ?_
  refine r_icmp_le C dX9_merge_84 (tgt := 96) (by decide) (fun c83 => ?_) (fun c83 => ?_)
  · rw [if_pos c83] at hf
    refine r_iinc (lv' := [(10, .int (x10 + 1)), (0, .ref (hh_ad B e0 a0)), (1, .int x1), (2, .long z2), (4, .long z4), (6, .long z6), (8, .int x8), (9, .int x9)]) C dX9_merge_96 7 rfl rfl (by decide) rfl ?_
    refine r_goto C dX9_merge_99 (tgt := 17) (by decide) ?_
    refine hh_pick [1, 2, 3, 4, 5, 6, 7, 0] rfl ?_
    exact H17 a0 x1 z2 z4 z6 x8 x9 (x10 + 1) h hf
  · rw [if_neg c83] at hf
    refine r_aload_n C dX9_merge_87 rfl 0 rfl ?_
    obtain ⟨v84, e85, hf⟩ := hp_bind hf
    refine r_getA C dX9_merge_88 fl_RX9_29 e85 ?_
    refine r_iload C dX9_merge_91 7 rfl ?_
    obtain ⟨v86, e87, hf⟩ := hp_bind hf
    refine r_ai C dX9_merge_93 e87 ?_
    refine r_istore (lv' := [(9, .int v86), (0, .ref (hh_ad B e0 a0)), (1, .int x1), (2, .long z2), (4, .long z4), (6, .long z6), (8, .int x8), (10, .int x10)]) C dX9_merge_94 (by decide) rfl ?_
    refine r_iinc (lv' := [(10, .int (x10 + 1)), (9, .int v86), (0, .ref (hh_ad B e0 a0)), (1, .int x1), (2, .long z2), (4, .long z4), (6, .long z6), (8, .int x8)]) C dX9_merge_96 7 rfl rfl (by decide) rfl ?_
    refine r_goto C dX9_merge_99 (tgt := 17) (by decide) ?_
    refine hh_pick [2, 3, 4, 5, 6, 7, 1, 0] rfl ?_
    exact H17 a0 x1 z2 z4 z6 x8 v86 (x10 + 1) h hf
set_option maxRecDepth 100000 in
set_option maxHeartbeats 4000000 in
theorem w_Mo_merge_44 {X : hh_X} {B e0 : Nat} {rr : Int32 × hh_H} (C : ok_Mo_merge X B e0) (E : hh_End X B e0 (.returned (some (.int rr.1))) rr.2 mc_Mo_merge ms_Mo_merge) (F : Nat) (r17 : Nat → Int32 → Int64 → Int64 → Int64 → Int32 → Int32 → Int32 → hh_H → Option (Int32 × hh_H)) (H17 : ∀ (a0 : Nat) (x1 : Int32) (z2 : Int64) (z4 : Int64) (z6 : Int64) (x8 : Int32) (x9 : Int32) (x10 : Int32) (h : hh_H), r17 a0 x1 z2 z4 z6 x8 x9 x10 h = some rr → hh_W X 0 0 17 [(0, .ref (hh_ad B e0 a0)), (1, .int x1), (2, .long z2), (4, .long z4), (6, .long z6), (8, .int x8), (9, .int x9), (10, .int x10)] [] h) (a0 : Nat) (x1 : Int32) (z2 : Int64) (z4 : Int64) (z6 : Int64) (x8 : Int32) (x9 : Int32) (x10 : Int32) (h : hh_H)
    (hf : f_Mo_merge_44 F r17 a0 x1 z2 z4 z6 x8 x9 x10 h = some rr) : hh_W X 0 0 44 [(0, .ref (hh_ad B e0 a0)), (1, .int x1), (2, .long z2), (4, .long z4), (6, .long z6), (8, .int x8), (9, .int x9), (10, .int x10)] [] h := by
  unfold f_Mo_merge_44 at hf
  refine r_lload_n C dX9_merge_44 rfl 2 rfl ?_
  refine r_aload_n C dX9_merge_45 rfl 0 rfl ?_
  obtain ⟨v88, e89, hf⟩ := hp_bind hf
  refine r_getA C dX9_merge_46 fl_RX9_22 e89 ?_
  refine r_iload C dX9_merge_49 7 rfl ?_
  obtain ⟨v90, e91, hf⟩ := hp_bind hf
  refine r_aj C dX9_merge_51 e91 ?_
  refine r_lor C dX9_merge_52 ?_
  refine r_lstore_n (lv' := [(2, .long (z2 ||| v90)), (0, .ref (hh_ad B e0 a0)), (1, .int x1), (4, .long z4), (6, .long z6), (8, .int x8), (9, .int x9), (10, .int x10)]) C dX9_merge_53 rfl (by decide) rfl ?_
  refine r_lload C dX9_merge_54 3 rfl ?_
  refine r_aload_n C dX9_merge_56 rfl 1 rfl ?_
  obtain ⟨v92, e93, hf⟩ := hp_bind hf
  refine r_getA C dX9_merge_57 fl_RX9_26 e93 ?_
  refine r_iload C dX9_merge_60 7 rfl ?_
  obtain ⟨v94, e95, hf⟩ := hp_bind hf
  refine r_aj C dX9_merge_62 e95 ?_
  refine r_lor C dX9_merge_63 ?_
  refine r_lstore (lv' := [(4, .long (z4 ||| v94)), (2, .long (z2 ||| v90)), (0, .ref (hh_ad B e0 a0)), (1, .int x1), (6, .long z6), (8, .int x8), (9, .int x9), (10, .int x10)]) C dX9_merge_64 (by decide) rfl ?_
  refine r_iload C dX9_merge_66 5 rfl ?_
  refine r_if_ge C dX9_merge_68 (tgt := 75) (by decide) (fun c96 => ?_) (fun c96 => ?_)
  · rw [if_pos c96] at hf
    refine hh_pick [2, 3, 1, 0, 4, 5, 6, 7] rfl ?_
    exact w_Mo_merge_75 C E F r17 H17 a0 x1 (z2 ||| v90) (z4 ||| v94) z6 x8 x9 x10 h hf
  · rw [if_neg c96] at hf
    refine r_iload C dX9_merge_71 7 rfl ?_
    refine r_istore (lv' := [(8, .int x10), (4, .long (z4 ||| v94)), (2, .long (z2 ||| v90)), (0, .ref (hh_ad B e0 a0)), (1, .int x1), (6, .long z6), (9, .int x9), (10, .int x10)]) C dX9_merge_73 (by decide) rfl ?_
    refine hh_pick [3, 4, 2, 1, 5, 0, 6, 7] rfl ?_
    exact w_Mo_merge_75 C E F r17 H17 a0 x1 (z2 ||| v90) (z4 ||| v94) z6 x10 x9 x10 h hf
set_option maxRecDepth 100000 in
set_option maxHeartbeats 4000000 in
theorem w_Mo_merge_17 {X : hh_X} {B e0 : Nat} {rr : Int32 × hh_H} (C : ok_Mo_merge X B e0) (E : hh_End X B e0 (.returned (some (.int rr.1))) rr.2 mc_Mo_merge ms_Mo_merge) (F : Nat) (r17 : Nat → Int32 → Int64 → Int64 → Int64 → Int32 → Int32 → Int32 → hh_H → Option (Int32 × hh_H)) (H17 : ∀ (a0 : Nat) (x1 : Int32) (z2 : Int64) (z4 : Int64) (z6 : Int64) (x8 : Int32) (x9 : Int32) (x10 : Int32) (h : hh_H), r17 a0 x1 z2 z4 z6 x8 x9 x10 h = some rr → hh_W X 0 0 17 [(0, .ref (hh_ad B e0 a0)), (1, .int x1), (2, .long z2), (4, .long z4), (6, .long z6), (8, .int x8), (9, .int x9), (10, .int x10)] [] h) (a0 : Nat) (x1 : Int32) (z2 : Int64) (z4 : Int64) (z6 : Int64) (x8 : Int32) (x9 : Int32) (x10 : Int32) (h : hh_H)
    (hf : f_Mo_merge_17 F r17 a0 x1 z2 z4 z6 x8 x9 x10 h = some rr) : hh_W X 0 0 17 [(0, .ref (hh_ad B e0 a0)), (1, .int x1), (2, .long z2), (4, .long z4), (6, .long z6), (8, .int x8), (9, .int x9), (10, .int x10)] [] h := by
  unfold f_Mo_merge_17 at hf
  refine r_iload C dX9_merge_17 7 rfl ?_
  refine r_aload_n C dX9_merge_19 rfl 0 rfl ?_
  obtain ⟨v97, e98, hf⟩ := hp_bind hf
  refine r_getI C dX9_merge_20 fl_RX9_125 e98 ?_
  refine r_icmp_ge C dX9_merge_23 (tgt := 102) (by decide) (fun c99 => ?_) (fun c99 => ?_)
  · rw [if_pos c99] at hf
    refine hh_pick [0, 1, 2, 3, 4, 5, 6] rfl ?_
    exact w_Mo_merge_102 C E F a0 x1 z2 z4 z6 x8 x9 h hf
  · rw [if_neg c99] at hf
    refine r_iload_n C dX9_merge_26 rfl 1 rfl ?_
    refine r_if_lt C dX9_merge_27 (tgt := 44) (by decide) (fun c100 => ?_) (fun c100 => ?_)
    · rw [if_pos c100] at hf
      refine hh_pick [0, 1, 2, 3, 4, 5, 6, 7] rfl ?_
      exact w_Mo_merge_44 C E F r17 H17 a0 x1 z2 z4 z6 x8 x9 x10 h hf
    · rw [if_neg c100] at hf
      refine r_aload_n C dX9_merge_30 rfl 0 rfl ?_
      obtain ⟨v101, e102, hf⟩ := hp_bind hf
      refine r_getA C dX9_merge_31 fl_RX9_29 e102 ?_
      refine r_iload C dX9_merge_34 7 rfl ?_
      obtain ⟨v103, e104, hf⟩ := hp_bind hf
      refine r_ai C dX9_merge_36 e104 ?_
      refine r_iload_n C dX9_merge_37 rfl 1 rfl ?_
      refine r_icmp_eq C dX9_merge_38 (tgt := 44) (by decide) (fun c105 => ?_) (fun c105 => ?_)
      · rw [if_pos c105] at hf
        refine hh_pick [0, 1, 2, 3, 4, 5, 6, 7] rfl ?_
        exact w_Mo_merge_44 C E F r17 H17 a0 x1 z2 z4 z6 x8 x9 x10 h hf
      · rw [if_neg c105] at hf
        refine r_goto C dX9_merge_41 (tgt := 96) (by decide) ?_
        refine r_iinc (lv' := [(10, .int (x10 + 1)), (0, .ref (hh_ad B e0 a0)), (1, .int x1), (2, .long z2), (4, .long z4), (6, .long z6), (8, .int x8), (9, .int x9)]) C dX9_merge_96 7 rfl rfl (by decide) rfl ?_
        refine r_goto C dX9_merge_99 (tgt := 17) (by decide) ?_
        refine hh_pick [1, 2, 3, 4, 5, 6, 7, 0] rfl ?_
        exact H17 a0 x1 z2 z4 z6 x8 x9 (x10 + 1) h hf
theorem wl_Mo_merge_17 {X : hh_X} {B e0 : Nat} {rr : Int32 × hh_H} (C : ok_Mo_merge X B e0) (E : hh_End X B e0 (.returned (some (.int rr.1))) rr.2 mc_Mo_merge ms_Mo_merge) (F : Nat) :
    ∀ (n : Nat) (a0 : Nat) (x1 : Int32) (z2 : Int64) (z4 : Int64) (z6 : Int64) (x8 : Int32) (x9 : Int32) (x10 : Int32) (h : hh_H), hp_it (fun _ _ _ _ _ _ _ _ _ => none) (f_Mo_merge_17 F) n a0 x1 z2 z4 z6 x8 x9 x10 h = some rr → hh_W X 0 0 17 [(0, .ref (hh_ad B e0 a0)), (1, .int x1), (2, .long z2), (4, .long z4), (6, .long z6), (8, .int x8), (9, .int x9), (10, .int x10)] [] h := by
  intro n
  induction n with
  | zero => intro a0 x1 z2 z4 z6 x8 x9 x10 h hf; cases hf
  | succ n ih =>
    intro a0 x1 z2 z4 z6 x8 x9 x10 h hf
    exact w_Mo_merge_17 C E F _ ih a0 x1 z2 z4 z6 x8 x9 x10 h hf
set_option maxRecDepth 100000 in
set_option maxHeartbeats 4000000 in
theorem w_Mo_merge {X : hh_X} {B e0 : Nat} {rr : Int32 × hh_H} (C : ok_Mo_merge X B e0) (E : hh_End X B e0 (.returned (some (.int rr.1))) rr.2 mc_Mo_merge ms_Mo_merge) (F : Nat) (a0 : Nat) (x1 : Int32) (h : hh_H)
    (hf : f_Mo_merge F a0 x1 h = some rr) : hh_W X 0 0 0 [(0, .ref (hh_ad B e0 a0)), (1, .int x1)] [] h := by
  unfold f_Mo_merge at hf
  refine r_lconst C dX9_merge_0 (v := 0) (by decide) ?_
  refine r_lstore_n (lv' := [(2, .long 0), (0, .ref (hh_ad B e0 a0)), (1, .int x1)]) C dX9_merge_1 rfl (by decide) rfl ?_
  refine r_lconst C dX9_merge_2 (v := 0) (by decide) ?_
  refine r_lstore (lv' := [(4, .long 0), (2, .long 0), (0, .ref (hh_ad B e0 a0)), (1, .int x1)]) C dX9_merge_3 (by decide) rfl ?_
  refine r_lconst C dX9_merge_5 (v := 0) (by decide) ?_
  refine r_lstore (lv' := [(6, .long 0), (4, .long 0), (2, .long 0), (0, .ref (hh_ad B e0 a0)), (1, .int x1)]) C dX9_merge_6 (by decide) rfl ?_
  refine r_iconst C dX9_merge_8 (v := (-1)) (by decide) ?_
  refine r_istore (lv' := [(8, .int (-1)), (6, .long 0), (4, .long 0), (2, .long 0), (0, .ref (hh_ad B e0 a0)), (1, .int x1)]) C dX9_merge_9 (by decide) rfl ?_
  refine r_iconst C dX9_merge_11 (v := 0) (by decide) ?_
  refine r_istore (lv' := [(9, .int 0), (8, .int (-1)), (6, .long 0), (4, .long 0), (2, .long 0), (0, .ref (hh_ad B e0 a0)), (1, .int x1)]) C dX9_merge_12 (by decide) rfl ?_
  refine r_iconst C dX9_merge_14 (v := 0) (by decide) ?_
  refine r_istore (lv' := [(10, .int 0), (9, .int 0), (8, .int (-1)), (6, .long 0), (4, .long 0), (2, .long 0), (0, .ref (hh_ad B e0 a0)), (1, .int x1)]) C dX9_merge_15 (by decide) rfl ?_
  refine hh_pick [6, 7, 5, 4, 3, 2, 1, 0] rfl ?_
  exact wl_Mo_merge_17 C E F F a0 x1 0 0 0 (-1) 0 0 h hf
theorem c_Mo_merge (B e0 F : Nat) (a0 : Nat) (x1 : Int32) (h : hh_H) (rr : Int32 × hh_H) (hf : f_Mo_merge F a0 x1 h = some rr) : hh_Met yX9_merge cX9_merge 13 (some .boolean) rm_Mo_merge mc_Mo_merge ms_Mo_merge B e0 [.ref (hh_ad B e0 a0), .int x1] h (.returned (some (.int rr.1))) rr.2 :=
  hh_met (by decide) (Nat.le_of_ble_eq_true rfl) fun X C E => hh_pick [0, 1] rfl (w_Mo_merge C E F a0 x1 h hf)
def mc_Mo_adjacent : Nat := 0
def ms_Mo_adjacent : Nat := 0
def rm_Mo_adjacent : Room := { frames := 0, cells := 0, slots := 0, locals := 0 }
abbrev ok_Mo_adjacent (X : hh_X) (B e0 : Nat) : Prop := hh_ok X B e0 cX9_adjacent RX9 5 (some .boolean) "adjacent" rm_Mo_adjacent
set_option maxRecDepth 100000 in
set_option maxHeartbeats 4000000 in
theorem w_Mo_adjacent_3 {X : hh_X} {B e0 : Nat} {rr : Int32 × hh_H} (C : ok_Mo_adjacent X B e0) (E : hh_End X B e0 (.returned (some (.int rr.1))) rr.2 mc_Mo_adjacent ms_Mo_adjacent) (F : Nat) (r3 : Nat → Int32 → Int32 → Int32 → Int32 → hh_H → Option (Int32 × hh_H)) (H3 : ∀ (a0 : Nat) (x1 : Int32) (x2 : Int32) (x3 : Int32) (x4 : Int32) (h : hh_H), r3 a0 x1 x2 x3 x4 h = some rr → hh_W X 0 0 3 [(0, .ref (hh_ad B e0 a0)), (1, .int x1), (2, .int x2), (3, .int x3), (4, .int x4)] [] h) (a0 : Nat) (x1 : Int32) (x2 : Int32) (x3 : Int32) (x4 : Int32) (h : hh_H)
    (hf : f_Mo_adjacent_3 F r3 a0 x1 x2 x3 x4 h = some rr) : hh_W X 0 0 3 [(0, .ref (hh_ad B e0 a0)), (1, .int x1), (2, .int x2), (3, .int x3), (4, .int x4)] [] h := by
  unfold f_Mo_adjacent_3 at hf
  refine r_iload C dX9_adjacent_3 4 rfl ?_
  refine r_iconst C dX9_adjacent_5 (v := 1) (by decide) ?_
  refine r_iadd C dX9_adjacent_6 ?_
  refine r_aload_n C dX9_adjacent_7 rfl 0 rfl ?_
  obtain ⟨v1, e2, hf⟩ := hp_bind hf
  refine r_getA C dX9_adjacent_8 fl_RX9_16 e2 ?_
  refine r_iload_n C dX9_adjacent_11 rfl 1 rfl ?_
  obtain ⟨v3, e4, hf⟩ := hp_bind hf
  refine r_ai C dX9_adjacent_12 e4 ?_
  refine r_icmp_ge C dX9_adjacent_13 (tgt := 58) (by decide) (fun c5 => ?_) (fun c5 => ?_)
  · rw [if_pos c5] at hf
    refine r_iconst C dX9_adjacent_58 (v := 0) (by decide) ?_
    exact r_ireturnz C E dX9_adjacent_59 rfl (by decide) (by decide) hf
  · rw [if_neg c5] at hf
    refine r_aload_n C dX9_adjacent_16 rfl 0 rfl ?_
    obtain ⟨v6, e7, hf⟩ := hp_bind hf
    refine r_getA C dX9_adjacent_17 fl_RX9_13 e7 ?_
    refine r_bipush C dX9_adjacent_20 (v := 20) (by decide) ?_
    refine r_iload_n C dX9_adjacent_22 rfl 1 rfl ?_
    refine r_imul C dX9_adjacent_23 ?_
    refine r_iload C dX9_adjacent_24 4 rfl ?_
    refine r_iadd C dX9_adjacent_26 ?_
    obtain ⟨v8, e9, hf⟩ := hp_bind hf
    refine r_ai C dX9_adjacent_27 e9 ?_
    refine r_iload_n C dX9_adjacent_28 rfl 2 rfl ?_
    refine r_icmp_ne C dX9_adjacent_29 (tgt := 52) (by decide) (fun c10 => ?_) (fun c10 => ?_)
    · rw [if_neg c10] at hf
      refine r_iinc (lv' := [(4, .int (x4 + 1)), (0, .ref (hh_ad B e0 a0)), (1, .int x1), (2, .int x2), (3, .int x3)]) C dX9_adjacent_52 4 rfl rfl (by decide) rfl ?_
      refine r_goto C dX9_adjacent_55 (tgt := 3) (by decide) ?_
      refine hh_pick [1, 2, 3, 4, 0] rfl ?_
      exact H3 a0 x1 x2 x3 (x4 + 1) h hf
    · rw [if_pos c10] at hf
      refine r_aload_n C dX9_adjacent_32 rfl 0 rfl ?_
      obtain ⟨v11, e12, hf⟩ := hp_bind hf
      refine r_getA C dX9_adjacent_33 fl_RX9_13 e12 ?_
      refine r_bipush C dX9_adjacent_36 (v := 20) (by decide) ?_
      refine r_iload_n C dX9_adjacent_38 rfl 1 rfl ?_
      refine r_imul C dX9_adjacent_39 ?_
      refine r_iload C dX9_adjacent_40 4 rfl ?_
      refine r_iadd C dX9_adjacent_42 ?_
      refine r_iconst C dX9_adjacent_43 (v := 1) (by decide) ?_
      refine r_iadd C dX9_adjacent_44 ?_
      obtain ⟨v13, e14, hf⟩ := hp_bind hf
      refine r_ai C dX9_adjacent_45 e14 ?_
      refine r_iload_n C dX9_adjacent_46 rfl 3 rfl ?_
      refine r_icmp_ne C dX9_adjacent_47 (tgt := 52) (by decide) (fun c15 => ?_) (fun c15 => ?_)
      · rw [if_neg c15] at hf
        refine r_iinc (lv' := [(4, .int (x4 + 1)), (0, .ref (hh_ad B e0 a0)), (1, .int x1), (2, .int x2), (3, .int x3)]) C dX9_adjacent_52 4 rfl rfl (by decide) rfl ?_
        refine r_goto C dX9_adjacent_55 (tgt := 3) (by decide) ?_
        refine hh_pick [1, 2, 3, 4, 0] rfl ?_
        exact H3 a0 x1 x2 x3 (x4 + 1) h hf
      · rw [if_pos c15] at hf
        refine r_iconst C dX9_adjacent_50 (v := 1) (by decide) ?_
        exact r_ireturnz C E dX9_adjacent_51 rfl (by decide) (by decide) hf
theorem wl_Mo_adjacent_3 {X : hh_X} {B e0 : Nat} {rr : Int32 × hh_H} (C : ok_Mo_adjacent X B e0) (E : hh_End X B e0 (.returned (some (.int rr.1))) rr.2 mc_Mo_adjacent ms_Mo_adjacent) (F : Nat) :
    ∀ (n : Nat) (a0 : Nat) (x1 : Int32) (x2 : Int32) (x3 : Int32) (x4 : Int32) (h : hh_H), hp_it (fun _ _ _ _ _ _ => none) (f_Mo_adjacent_3 F) n a0 x1 x2 x3 x4 h = some rr → hh_W X 0 0 3 [(0, .ref (hh_ad B e0 a0)), (1, .int x1), (2, .int x2), (3, .int x3), (4, .int x4)] [] h := by
  intro n
  induction n with
  | zero => intro a0 x1 x2 x3 x4 h hf; cases hf
  | succ n ih =>
    intro a0 x1 x2 x3 x4 h hf
    exact w_Mo_adjacent_3 C E F _ ih a0 x1 x2 x3 x4 h hf
set_option maxRecDepth 100000 in
set_option maxHeartbeats 4000000 in
theorem w_Mo_adjacent {X : hh_X} {B e0 : Nat} {rr : Int32 × hh_H} (C : ok_Mo_adjacent X B e0) (E : hh_End X B e0 (.returned (some (.int rr.1))) rr.2 mc_Mo_adjacent ms_Mo_adjacent) (F : Nat) (a0 : Nat) (x1 : Int32) (x2 : Int32) (x3 : Int32) (h : hh_H)
    (hf : f_Mo_adjacent F a0 x1 x2 x3 h = some rr) : hh_W X 0 0 0 [(0, .ref (hh_ad B e0 a0)), (1, .int x1), (2, .int x2), (3, .int x3)] [] h := by
  unfold f_Mo_adjacent at hf
  refine r_iconst C dX9_adjacent_0 (v := 0) (by decide) ?_
  refine r_istore (lv' := [(4, .int 0), (0, .ref (hh_ad B e0 a0)), (1, .int x1), (2, .int x2), (3, .int x3)]) C dX9_adjacent_1 (by decide) rfl ?_
  refine hh_pick [1, 2, 3, 4, 0] rfl ?_
  exact wl_Mo_adjacent_3 C E F F a0 x1 x2 x3 0 h hf
theorem c_Mo_adjacent (B e0 F : Nat) (a0 : Nat) (x1 : Int32) (x2 : Int32) (x3 : Int32) (h : hh_H) (rr : Int32 × hh_H) (hf : f_Mo_adjacent F a0 x1 x2 x3 h = some rr) : hh_Met yX9_adjacent cX9_adjacent 5 (some .boolean) rm_Mo_adjacent mc_Mo_adjacent ms_Mo_adjacent B e0 [.ref (hh_ad B e0 a0), .int x1, .int x2, .int x3] h (.returned (some (.int rr.1))) rr.2 :=
  hh_met (by decide) (Nat.le_of_ble_eq_true rfl) fun X C E => hh_pick [0, 1, 2, 3] rfl (w_Mo_adjacent C E F a0 x1 x2 x3 h hf)
def mc_Mo_fits : Nat := 0
def ms_Mo_fits : Nat := 0
def rm_Mo_fits : Room := { frames := 1, cells := 0, slots := 0, locals := 24 }
abbrev ok_Mo_fits (X : hh_X) (B e0 : Nat) : Prop := hh_ok X B e0 cX9_fits RX9 7 (some .boolean) "fits" rm_Mo_fits
set_option maxRecDepth 100000 in
set_option maxHeartbeats 4000000 in
theorem w_Mo_fits_30 {X : hh_X} {B e0 : Nat} {rr : Int32 × hh_H} (C : ok_Mo_fits X B e0) (E : hh_End X B e0 (.returned (some (.int rr.1))) rr.2 mc_Mo_fits ms_Mo_fits) (F : Nat) (a0 : Nat) (x1 : Int32) (x2 : Int32) (x3 : Int32) (x4 : Int32) (x5 : Int32) (s0 : Int32) (h : hh_H)
    (hf : f_Mo_fits_30 F a0 x1 x2 x3 x4 x5 s0 h = some rr) : hh_W X 0 0 30 [(0, .ref (hh_ad B e0 a0)), (1, .int x1), (2, .int x2), (3, .int x3), (4, .int x4), (5, .int x5)] [.int s0] h := by
  unfold f_Mo_fits_30 at hf
  refine r_istore (lv' := [(6, .int s0), (0, .ref (hh_ad B e0 a0)), (1, .int x1), (2, .int x2), (3, .int x3), (4, .int x4), (5, .int x5)]) C dX9_fits_30 (by decide) rfl ?_
  refine r_iload C dX9_fits_32 5 rfl ?_
  refine r_if_ne C dX9_fits_34 (tgt := 53) (by decide) (fun c1 => ?_) (fun c1 => ?_)
  · rw [if_neg c1] at hf
    refine r_iload C dX9_fits_53 5 rfl ?_
    refine r_iconst C dX9_fits_55 (v := 1) (by decide) ?_
    refine r_icmp_ne C dX9_fits_56 (tgt := 75) (by decide) (fun c2 => ?_) (fun c2 => ?_)
    · rw [if_neg c2] at hf
      refine r_iload C dX9_fits_75 5 rfl ?_
      refine r_iconst C dX9_fits_77 (v := 2) (by decide) ?_
      refine r_icmp_ne C dX9_fits_78 (tgt := 89) (by decide) (fun c3 => ?_) (fun c3 => ?_)
      · rw [if_neg c3] at hf
        refine r_iload C dX9_fits_89 6 rfl ?_
        refine r_if_eq C dX9_fits_91 (tgt := 103) (by decide) (fun c4 => ?_) (fun c4 => ?_)
        · rw [if_pos c4] at hf
          refine r_iconst C dX9_fits_103 (v := 0) (by decide) ?_
          exact r_ireturnz C E dX9_fits_104 rfl (by decide) (by decide) hf
        · rw [if_neg c4] at hf
          refine r_iload C dX9_fits_94 0 rfl ?_
          refine r_if_ne C dX9_fits_96 (tgt := 103) (by decide) (fun c5 => ?_) (fun c5 => ?_)
          · rw [if_neg c5] at hf
            refine r_iconst C dX9_fits_103 (v := 0) (by decide) ?_
            exact r_ireturnz C E dX9_fits_104 rfl (by decide) (by decide) hf
          · rw [if_pos c5] at hf
            refine r_iconst C dX9_fits_99 (v := 1) (by decide) ?_
            refine r_goto C dX9_fits_100 (tgt := 104) (by decide) ?_
            exact r_ireturnz C E dX9_fits_104 rfl (by decide) (by decide) hf
      · rw [if_pos c3] at hf
        refine r_aload_n C dX9_fits_81 rfl 1 rfl ?_
        refine r_iload_n C dX9_fits_82 rfl 2 rfl ?_
        refine r_iload_n C dX9_fits_83 rfl 3 rfl ?_
        refine r_iload_n C dX9_fits_84 rfl 4 rfl ?_
        obtain ⟨_, e9, hf⟩ := hp_bind hf
        obtain ⟨g10, e9⟩ := hp_is_of e9
        obtain ⟨q6, h7, e8, hf⟩ := hp_cbe hf
        refine r_callV C dX9_fits_85 cs_RX9_148 rfl e9 (c_Mo_adjacent B e0 F a0 x1 x2 x3 h _ e8) rfl rfl rfl ⟨by decide, by decide⟩ ⟨by decide, by decide⟩ (Nat.le_of_ble_eq_true rfl) rfl ?_
        obtain ⟨w11, e12, hf⟩ := hp_bind hf
        obtain ⟨rfl, e12⟩ := hp_zb_of e12
        exact r_ireturnz C E dX9_fits_88 e12 (by decide) (by decide) hf
    · rw [if_pos c2] at hf
      refine r_iload C dX9_fits_59 6 rfl ?_
      refine r_if_ne C dX9_fits_61 (tgt := 69) (by decide) (fun c13 => ?_) (fun c13 => ?_)
      · rw [if_neg c13] at hf
        refine r_iconst C dX9_fits_69 (v := 1) (by decide) ?_
        refine r_goto C dX9_fits_70 (tgt := 74) (by decide) ?_
        exact r_ireturnz C E dX9_fits_74 rfl (by decide) (by decide) hf
      · rw [if_pos c13] at hf
        refine r_iload C dX9_fits_64 0 rfl ?_
        refine r_if_eq C dX9_fits_66 (tgt := 73) (by decide) (fun c14 => ?_) (fun c14 => ?_)
        · rw [if_pos c14] at hf
          refine r_iconst C dX9_fits_73 (v := 0) (by decide) ?_
          exact r_ireturnz C E dX9_fits_74 rfl (by decide) (by decide) hf
        · rw [if_neg c14] at hf
          refine r_iconst C dX9_fits_69 (v := 1) (by decide) ?_
          refine r_goto C dX9_fits_70 (tgt := 74) (by decide) ?_
          exact r_ireturnz C E dX9_fits_74 rfl (by decide) (by decide) hf
  · rw [if_pos c1] at hf
    refine r_iload C dX9_fits_37 6 rfl ?_
    refine r_if_eq C dX9_fits_39 (tgt := 51) (by decide) (fun c15 => ?_) (fun c15 => ?_)
    · rw [if_pos c15] at hf
      refine r_iconst C dX9_fits_51 (v := 0) (by decide) ?_
      exact r_ireturnz C E dX9_fits_52 rfl (by decide) (by decide) hf
    · rw [if_neg c15] at hf
      refine r_iload C dX9_fits_42 0 rfl ?_
      refine r_if_eq C dX9_fits_44 (tgt := 51) (by decide) (fun c16 => ?_) (fun c16 => ?_)
      · rw [if_pos c16] at hf
        refine r_iconst C dX9_fits_51 (v := 0) (by decide) ?_
        exact r_ireturnz C E dX9_fits_52 rfl (by decide) (by decide) hf
      · rw [if_neg c16] at hf
        refine r_iconst C dX9_fits_47 (v := 1) (by decide) ?_
        refine r_goto C dX9_fits_48 (tgt := 52) (by decide) ?_
        exact r_ireturnz C E dX9_fits_52 rfl (by decide) (by decide) hf
set_option maxRecDepth 100000 in
set_option maxHeartbeats 4000000 in
theorem w_Mo_fits_14 {X : hh_X} {B e0 : Nat} {rr : Int32 × hh_H} (C : ok_Mo_fits X B e0) (E : hh_End X B e0 (.returned (some (.int rr.1))) rr.2 mc_Mo_fits ms_Mo_fits) (F : Nat) (a0 : Nat) (x1 : Int32) (x2 : Int32) (x3 : Int32) (x4 : Int32) (s0 : Int32) (h : hh_H)
    (hf : f_Mo_fits_14 F a0 x1 x2 x3 x4 s0 h = some rr) : hh_W X 0 0 14 [(0, .ref (hh_ad B e0 a0)), (1, .int x1), (2, .int x2), (3, .int x3), (4, .int x4)] [.int s0] h := by
  unfold f_Mo_fits_14 at hf
  refine r_istore (lv' := [(5, .int s0), (0, .ref (hh_ad B e0 a0)), (1, .int x1), (2, .int x2), (3, .int x3), (4, .int x4)]) C dX9_fits_14 (by decide) rfl ?_
  refine r_aload_n C dX9_fits_16 rfl 1 rfl ?_
  refine r_iload_n C dX9_fits_17 rfl 2 rfl ?_
  refine r_iload_n C dX9_fits_18 rfl 4 rfl ?_
  obtain ⟨_, e20, hf⟩ := hp_bind hf
  obtain ⟨g21, e20⟩ := hp_is_of e20
  obtain ⟨q17, h18, e19, hf⟩ := hp_cbe hf
  refine r_callV C dX9_fits_19 cs_RX9_100 rfl e20 (c_Mo_often B e0 F a0 x1 x3 h _ e19) rfl rfl rfl ⟨by decide, by decide⟩ ⟨by decide, by decide⟩ (Nat.le_of_ble_eq_true rfl) rfl ?_
  refine r_if_le C dX9_fits_22 (tgt := 29) (by decide) (fun c22 => ?_) (fun c22 => ?_)
  · rw [if_pos c22] at hf
    refine r_iconst C dX9_fits_29 (v := 0) (by decide) ?_
    refine hh_pick [1, 2, 3, 4, 5, 0] rfl ?_
    exact w_Mo_fits_30 C E F a0 x1 x2 x3 x4 s0 0 h18 hf
  · rw [if_neg c22] at hf
    refine r_iconst C dX9_fits_25 (v := 1) (by decide) ?_
    refine r_goto C dX9_fits_26 (tgt := 30) (by decide) ?_
    refine hh_pick [1, 2, 3, 4, 5, 0] rfl ?_
    exact w_Mo_fits_30 C E F a0 x1 x2 x3 x4 s0 1 h18 hf
set_option maxRecDepth 100000 in
set_option maxHeartbeats 4000000 in
theorem w_Mo_fits {X : hh_X} {B e0 : Nat} {rr : Int32 × hh_H} (C : ok_Mo_fits X B e0) (E : hh_End X B e0 (.returned (some (.int rr.1))) rr.2 mc_Mo_fits ms_Mo_fits) (F : Nat) (a0 : Nat) (x1 : Int32) (x2 : Int32) (x3 : Int32) (x4 : Int32) (h : hh_H)
    (hf : f_Mo_fits F a0 x1 x2 x3 x4 h = some rr) : hh_W X 0 0 0 [(0, .ref (hh_ad B e0 a0)), (1, .int x1), (2, .int x2), (3, .int x3), (4, .int x4)] [] h := by
  unfold f_Mo_fits at hf
  refine r_aload_n C dX9_fits_0 rfl 0 rfl ?_
  refine r_iload_n C dX9_fits_1 rfl 1 rfl ?_
  refine r_iload_n C dX9_fits_2 rfl 2 rfl ?_
  obtain ⟨_, e26, hf⟩ := hp_bind hf
  obtain ⟨g27, e26⟩ := hp_is_of e26
  obtain ⟨q23, h24, e25, hf⟩ := hp_cbe hf
  refine r_callV C dX9_fits_3 cs_RX9_100 rfl e26 (c_Mo_often B e0 F a0 x1 x2 h _ e25) rfl rfl rfl ⟨by decide, by decide⟩ ⟨by decide, by decide⟩ (Nat.le_of_ble_eq_true rfl) rfl ?_
  refine r_if_le C dX9_fits_6 (tgt := 13) (by decide) (fun c28 => ?_) (fun c28 => ?_)
  · rw [if_pos c28] at hf
    refine r_iconst C dX9_fits_13 (v := 0) (by decide) ?_
    refine hh_pick [0, 1, 2, 3, 4] rfl ?_
    exact w_Mo_fits_14 C E F a0 x1 x2 x3 x4 0 h24 hf
  · rw [if_neg c28] at hf
    refine r_iconst C dX9_fits_9 (v := 1) (by decide) ?_
    refine r_goto C dX9_fits_10 (tgt := 14) (by decide) ?_
    refine hh_pick [0, 1, 2, 3, 4] rfl ?_
    exact w_Mo_fits_14 C E F a0 x1 x2 x3 x4 1 h24 hf
theorem c_Mo_fits (B e0 F : Nat) (a0 : Nat) (x1 : Int32) (x2 : Int32) (x3 : Int32) (x4 : Int32) (h : hh_H) (rr : Int32 × hh_H) (hf : f_Mo_fits F a0 x1 x2 x3 x4 h = some rr) : hh_Met yX9_fits cX9_fits 7 (some .boolean) rm_Mo_fits mc_Mo_fits ms_Mo_fits B e0 [.ref (hh_ad B e0 a0), .int x1, .int x2, .int x3, .int x4] h (.returned (some (.int rr.1))) rr.2 :=
  hh_met (by decide) (Nat.le_of_ble_eq_true rfl) fun X C E => hh_pick [0, 1, 2, 3, 4] rfl (w_Mo_fits C E F a0 x1 x2 x3 x4 h hf)
def mc_Mo_find : Nat := 0
def ms_Mo_find : Nat := 0
def rm_Mo_find : Room := { frames := 2, cells := 0, slots := 0, locals := 50 }
abbrev ok_Mo_find (X : hh_X) (B e0 : Nat) : Prop := hh_ok X B e0 cX9_find RX9 5 (some .int) "find" rm_Mo_find
set_option maxRecDepth 100000 in
set_option maxHeartbeats 4000000 in
theorem w_Mo_find_63 {X : hh_X} {B e0 : Nat} {rr : Int32 × hh_H} (C : ok_Mo_find X B e0) (E : hh_End X B e0 (.returned (some (.int rr.1))) rr.2 mc_Mo_find ms_Mo_find) (F : Nat) (r63 : Nat → Int32 → Int32 → Int32 → Int32 → hh_H → Option (Int32 × hh_H)) (H63 : ∀ (a0 : Nat) (x1 : Int32) (x2 : Int32) (x3 : Int32) (x4 : Int32) (h : hh_H), r63 a0 x1 x2 x3 x4 h = some rr → hh_W X 0 0 63 [(0, .ref (hh_ad B e0 a0)), (1, .int x1), (2, .int x2), (3, .int x3), (4, .int x4)] [] h) (a0 : Nat) (x1 : Int32) (x2 : Int32) (x3 : Int32) (x4 : Int32) (h : hh_H)
    (hf : f_Mo_find_63 F r63 a0 x1 x2 x3 x4 h = some rr) : hh_W X 0 0 63 [(0, .ref (hh_ad B e0 a0)), (1, .int x1), (2, .int x2), (3, .int x3), (4, .int x4)] [] h := by
  unfold f_Mo_find_63 at hf
  refine r_iload C dX9_find_63 4 rfl ?_
  refine r_aload_n C dX9_find_65 rfl 0 rfl ?_
  obtain ⟨v1, e2, hf⟩ := hp_bind hf
  refine r_getI C dX9_find_66 fl_RX9_74 e2 ?_
  refine r_icmp_ge C dX9_find_69 (tgt := 126) (by decide) (fun c3 => ?_) (fun c3 => ?_)
  · rw [if_pos c3] at hf
    refine r_aload_n C dX9_find_126 rfl 0 rfl ?_
    obtain ⟨v4, e5, hf⟩ := hp_bind hf
    refine r_getI C dX9_find_127 fl_RX9_152 e5 ?_
    exact r_ireturn C E dX9_find_130 (by decide) (by decide) hf
  · rw [if_neg c3] at hf
    refine r_aload_n C dX9_find_72 rfl 0 rfl ?_
    obtain ⟨v6, e7, hf⟩ := hp_bind hf
    refine r_getJ C dX9_find_73 fl_RX9_85 e7 ?_
    refine r_iload C dX9_find_76 4 rfl ?_
    obtain ⟨q8, h9, e10, hf⟩ := hp_cbe hf
    refine r_callS C dX9_find_78 cs_RX9_89 (c_Mo_in B e0 F v6 x4 h _ e10) rfl rfl rfl ⟨by decide, by decide⟩ ⟨by decide, by decide⟩ (Nat.le_of_ble_eq_true rfl) rfl ?_
    refine r_if_ne C dX9_find_81 (tgt := 120) (by decide) (fun c11 => ?_) (fun c11 => ?_)
    · rw [if_neg c11] at hf
      refine r_iinc (lv' := [(4, .int (x4 + 1)), (0, .ref (hh_ad B e0 a0)), (1, .int x1), (2, .int x2), (3, .int x3)]) C dX9_find_120 4 rfl rfl (by decide) rfl ?_
      refine r_goto C dX9_find_123 (tgt := 63) (by decide) ?_
      refine hh_pick [1, 2, 3, 4, 0] rfl ?_
      exact H63 a0 x1 x2 x3 (x4 + 1) h9 hf
    · rw [if_pos c11] at hf
      refine r_aload_n C dX9_find_84 rfl 0 rfl ?_
      refine r_iload C dX9_find_85 4 rfl ?_
      refine r_iload_n C dX9_find_87 rfl 1 rfl ?_
      refine r_iload_n C dX9_find_88 rfl 2 rfl ?_
      refine r_iload_n C dX9_find_89 rfl 3 rfl ?_
      obtain ⟨_, e15, hf⟩ := hp_bind hf
      obtain ⟨g16, e15⟩ := hp_is_of e15
      obtain ⟨q12, h13, e14, hf⟩ := hp_cbe hf
      refine r_callV C dX9_find_90 cs_RX9_159 rfl e15 (c_Mo_fits B e0 F a0 x4 x1 x2 x3 h9 _ e14) rfl rfl rfl ⟨by decide, by decide⟩ ⟨by decide, by decide⟩ (Nat.le_of_ble_eq_true rfl) rfl ?_
      refine r_if_ne C dX9_find_93 (tgt := 99) (by decide) (fun c17 => ?_) (fun c17 => ?_)
      · rw [if_neg c17] at hf
        refine r_aload_n C dX9_find_99 rfl 0 rfl ?_
        obtain ⟨v18, e19, hf⟩ := hp_bind hf
        refine r_getA C dX9_find_100 fl_RX9_32 e19 ?_
        refine r_aload_n C dX9_find_103 rfl 0 rfl ?_
        obtain ⟨v20, e21, hf⟩ := hp_bind hf
        refine r_getI C dX9_find_104 fl_RX9_152 e21 ?_
        refine r_iload C dX9_find_107 4 rfl ?_
        obtain ⟨h22, e23, hf⟩ := hp_bind hf
        refine r_si C dX9_find_109 e23 ?_
        refine r_aload_n C dX9_find_110 rfl 0 rfl ?_
        refine r_dup C dX9_find_111 rfl ?_
        obtain ⟨v24, e25, hf⟩ := hp_bind hf
        refine r_getI C dX9_find_112 fl_RX9_152 e25 ?_
        refine r_iconst C dX9_find_115 (v := 1) (by decide) ?_
        refine r_iadd C dX9_find_116 ?_
        obtain ⟨h26, e27, hf⟩ := hp_bind hf
        refine r_putI C dX9_find_117 fl_RX9_152 e27 ?_
        refine r_iinc (lv' := [(4, .int (x4 + 1)), (0, .ref (hh_ad B e0 a0)), (1, .int x1), (2, .int x2), (3, .int x3)]) C dX9_find_120 4 rfl rfl (by decide) rfl ?_
        refine r_goto C dX9_find_123 (tgt := 63) (by decide) ?_
        refine hh_pick [1, 2, 3, 4, 0] rfl ?_
        exact H63 a0 x1 x2 x3 (x4 + 1) h26 hf
      · rw [if_pos c17] at hf
        refine r_goto C dX9_find_96 (tgt := 120) (by decide) ?_
        refine r_iinc (lv' := [(4, .int (x4 + 1)), (0, .ref (hh_ad B e0 a0)), (1, .int x1), (2, .int x2), (3, .int x3)]) C dX9_find_120 4 rfl rfl (by decide) rfl ?_
        refine r_goto C dX9_find_123 (tgt := 63) (by decide) ?_
        refine hh_pick [1, 2, 3, 4, 0] rfl ?_
        exact H63 a0 x1 x2 x3 (x4 + 1) h13 hf
theorem wl_Mo_find_63 {X : hh_X} {B e0 : Nat} {rr : Int32 × hh_H} (C : ok_Mo_find X B e0) (E : hh_End X B e0 (.returned (some (.int rr.1))) rr.2 mc_Mo_find ms_Mo_find) (F : Nat) :
    ∀ (n : Nat) (a0 : Nat) (x1 : Int32) (x2 : Int32) (x3 : Int32) (x4 : Int32) (h : hh_H), hp_it (fun _ _ _ _ _ _ => none) (f_Mo_find_63 F) n a0 x1 x2 x3 x4 h = some rr → hh_W X 0 0 63 [(0, .ref (hh_ad B e0 a0)), (1, .int x1), (2, .int x2), (3, .int x3), (4, .int x4)] [] h := by
  intro n
  induction n with
  | zero => intro a0 x1 x2 x3 x4 h hf; cases hf
  | succ n ih =>
    intro a0 x1 x2 x3 x4 h hf
    exact w_Mo_find_63 C E F _ ih a0 x1 x2 x3 x4 h hf
set_option maxRecDepth 100000 in
set_option maxHeartbeats 4000000 in
theorem w_Mo_find {X : hh_X} {B e0 : Nat} {rr : Int32 × hh_H} (C : ok_Mo_find X B e0) (E : hh_End X B e0 (.returned (some (.int rr.1))) rr.2 mc_Mo_find ms_Mo_find) (F : Nat) (a0 : Nat) (x1 : Int32) (x2 : Int32) (x3 : Int32) (h : hh_H)
    (hf : f_Mo_find F a0 x1 x2 x3 h = some rr) : hh_W X 0 0 0 [(0, .ref (hh_ad B e0 a0)), (1, .int x1), (2, .int x2), (3, .int x3)] [] h := by
  unfold f_Mo_find at hf
  refine r_aload_n C dX9_find_0 rfl 0 rfl ?_
  refine r_iconst C dX9_find_1 (v := 0) (by decide) ?_
  obtain ⟨h28, e29, hf⟩ := hp_bind hf
  refine r_putI C dX9_find_2 fl_RX9_57 e29 ?_
  refine r_iload_n C dX9_find_5 rfl 1 rfl ?_
  obtain ⟨q30, h31, e32, hf⟩ := hp_cbe hf
  refine r_callS C dX9_find_6 cs_RX9_60 (c_Mo_noWord B e0 F x1 h28 _ e32) rfl rfl rfl ⟨by decide, by decide⟩ ⟨by decide, by decide⟩ (Nat.le_of_ble_eq_true rfl) rfl ?_
  refine r_if_ne C dX9_find_9 (tgt := 28) (by decide) (fun c33 => ?_) (fun c33 => ?_)
  · rw [if_neg c33] at hf
    refine r_aload_n C dX9_find_28 rfl 0 rfl ?_
    refine r_iconst C dX9_find_29 (v := 1) (by decide) ?_
    obtain ⟨_, e37, hf⟩ := hp_bind hf
    obtain ⟨g38, e37⟩ := hp_is_of e37
    obtain ⟨q34, h35, e36, hf⟩ := hp_cbe hf
    refine r_callV C dX9_find_30 cs_RX9_64 rfl e37 (c_Mo_fail B e0 F a0 1 h31 _ e36) rfl rfl rfl ⟨by decide, by decide⟩ ⟨by decide, by decide⟩ (Nat.le_of_ble_eq_true rfl) rfl ?_
    exact r_ireturn C E dX9_find_33 (by decide) (by decide) hf
  · rw [if_pos c33] at hf
    refine r_iload_n C dX9_find_12 rfl 2 rfl ?_
    obtain ⟨q39, h40, e41, hf⟩ := hp_cbe hf
    refine r_callS C dX9_find_13 cs_RX9_60 (c_Mo_noWord B e0 F x2 h31 _ e41) rfl rfl rfl ⟨by decide, by decide⟩ ⟨by decide, by decide⟩ (Nat.le_of_ble_eq_true rfl) rfl ?_
    refine r_if_ne C dX9_find_16 (tgt := 28) (by decide) (fun c42 => ?_) (fun c42 => ?_)
    · rw [if_neg c42] at hf
      refine r_aload_n C dX9_find_28 rfl 0 rfl ?_
      refine r_iconst C dX9_find_29 (v := 1) (by decide) ?_
      obtain ⟨_, e46, hf⟩ := hp_bind hf
      obtain ⟨g47, e46⟩ := hp_is_of e46
      obtain ⟨q43, h44, e45, hf⟩ := hp_cbe hf
      refine r_callV C dX9_find_30 cs_RX9_64 rfl e46 (c_Mo_fail B e0 F a0 1 h40 _ e45) rfl rfl rfl ⟨by decide, by decide⟩ ⟨by decide, by decide⟩ (Nat.le_of_ble_eq_true rfl) rfl ?_
      exact r_ireturn C E dX9_find_33 (by decide) (by decide) hf
    · rw [if_pos c42] at hf
      refine r_iload_n C dX9_find_19 rfl 3 rfl ?_
      refine r_if_lt C dX9_find_20 (tgt := 28) (by decide) (fun c48 => ?_) (fun c48 => ?_)
      · rw [if_pos c48] at hf
        refine r_aload_n C dX9_find_28 rfl 0 rfl ?_
        refine r_iconst C dX9_find_29 (v := 1) (by decide) ?_
        obtain ⟨_, e52, hf⟩ := hp_bind hf
        obtain ⟨g53, e52⟩ := hp_is_of e52
        obtain ⟨q49, h50, e51, hf⟩ := hp_cbe hf
        refine r_callV C dX9_find_30 cs_RX9_64 rfl e52 (c_Mo_fail B e0 F a0 1 h40 _ e51) rfl rfl rfl ⟨by decide, by decide⟩ ⟨by decide, by decide⟩ (Nat.le_of_ble_eq_true rfl) rfl ?_
        exact r_ireturn C E dX9_find_33 (by decide) (by decide) hf
      · rw [if_neg c48] at hf
        refine r_iload_n C dX9_find_23 rfl 3 rfl ?_
        refine r_iconst C dX9_find_24 (v := 3) (by decide) ?_
        refine r_icmp_le C dX9_find_25 (tgt := 34) (by decide) (fun c54 => ?_) (fun c54 => ?_)
        · rw [if_pos c54] at hf
          refine r_aload_n C dX9_find_34 rfl 0 rfl ?_
          refine r_dup C dX9_find_35 rfl ?_
          obtain ⟨v55, e56, hf⟩ := hp_bind hf
          refine r_getI C dX9_find_36 fl_RX9_137 e56 ?_
          refine r_aload_n C dX9_find_39 rfl 0 rfl ?_
          obtain ⟨v57, e58, hf⟩ := hp_bind hf
          refine r_getJ C dX9_find_40 fl_RX9_118 e58 ?_
          obtain ⟨q59, h60, e61, hf⟩ := hp_cbe hf
          refine r_callS C dX9_find_43 cs_RX9_93 (c_Mo_bits B e0 F v57 h40 _ e61) rfl rfl rfl ⟨by decide, by decide⟩ ⟨by decide, by decide⟩ (Nat.le_of_ble_eq_true rfl) rfl ?_
          refine r_iadd C dX9_find_46 ?_
          obtain ⟨h62, e63, hf⟩ := hp_bind hf
          refine r_putI C dX9_find_47 fl_RX9_137 e63 ?_
          refine r_aload_n C dX9_find_50 rfl 0 rfl ?_
          refine r_iconst C dX9_find_51 (v := 0) (by decide) ?_
          obtain ⟨h64, e65, hf⟩ := hp_bind hf
          refine r_putI C dX9_find_52 fl_RX9_152 e65 ?_
          refine r_aload_n C dX9_find_55 rfl 0 rfl ?_
          refine r_iconst C dX9_find_56 (v := 0) (by decide) ?_
          obtain ⟨h66, e67, hf⟩ := hp_bind hf
          refine r_putZ C dX9_find_57 fl_RX9_155 e67 ?_
          refine r_iconst C dX9_find_60 (v := 0) (by decide) ?_
          refine r_istore (lv' := [(4, .int 0), (0, .ref (hh_ad B e0 a0)), (1, .int x1), (2, .int x2), (3, .int x3)]) C dX9_find_61 (by decide) rfl ?_
          refine hh_pick [1, 2, 3, 4, 0] rfl ?_
          exact wl_Mo_find_63 C E F F a0 x1 x2 x3 0 h66 hf
        · rw [if_neg c54] at hf
          refine r_aload_n C dX9_find_28 rfl 0 rfl ?_
          refine r_iconst C dX9_find_29 (v := 1) (by decide) ?_
          obtain ⟨_, e71, hf⟩ := hp_bind hf
          obtain ⟨g72, e71⟩ := hp_is_of e71
          obtain ⟨q68, h69, e70, hf⟩ := hp_cbe hf
          refine r_callV C dX9_find_30 cs_RX9_64 rfl e71 (c_Mo_fail B e0 F a0 1 h40 _ e70) rfl rfl rfl ⟨by decide, by decide⟩ ⟨by decide, by decide⟩ (Nat.le_of_ble_eq_true rfl) rfl ?_
          exact r_ireturn C E dX9_find_33 (by decide) (by decide) hf
theorem c_Mo_find (B e0 F : Nat) (a0 : Nat) (x1 : Int32) (x2 : Int32) (x3 : Int32) (h : hh_H) (rr : Int32 × hh_H) (hf : f_Mo_find F a0 x1 x2 x3 h = some rr) : hh_Met yX9_find cX9_find 5 (some .int) rm_Mo_find mc_Mo_find ms_Mo_find B e0 [.ref (hh_ad B e0 a0), .int x1, .int x2, .int x3] h (.returned (some (.int rr.1))) rr.2 :=
  hh_met (by decide) (Nat.le_of_ble_eq_true rfl) fun X C E => hh_pick [0, 1, 2, 3] rfl (w_Mo_find C E F a0 x1 x2 x3 h hf)
def mc_Mo_part : Nat := 0
def ms_Mo_part : Nat := 0
def rm_Mo_part : Room := { frames := 1, cells := 0, slots := 0, locals := 22 }
abbrev ok_Mo_part (X : hh_X) (B e0 : Nat) : Prop := hh_ok X B e0 cX9_part RX9 5 (some .double) "part" rm_Mo_part
set_option maxRecDepth 100000 in
set_option maxHeartbeats 4000000 in
theorem w_Mo_part_56 {X : hh_X} {B e0 : Nat} {rr : UInt64 × hh_H} (C : ok_Mo_part X B e0) (E : hh_End X B e0 (.returned (some (.double rr.1))) rr.2 mc_Mo_part ms_Mo_part) (F : Nat) (a0 : Nat) (x1 : Int32) (x2 : Int32) (x3 : Int32) (h : hh_H)
    (hf : f_Mo_part_56 F a0 x1 x2 x3 h = some rr) : hh_W X 0 0 56 [(0, .ref (hh_ad B e0 a0)), (1, .int x1), (2, .int x2), (3, .int x3)] [] h := by
  unfold f_Mo_part_56 at hf
  refine r_aload_n C dX9_part_56 rfl 0 rfl ?_
  refine r_iload_n C dX9_part_57 rfl 1 rfl ?_
  refine r_iload_n C dX9_part_58 rfl 2 rfl ?_
  obtain ⟨_, e4, hf⟩ := hp_bind hf
  obtain ⟨g5, e4⟩ := hp_is_of e4
  obtain ⟨q1, h2, e3, hf⟩ := hp_cbe hf
  refine r_callV C dX9_part_59 cs_RX9_100 rfl e4 (c_Mo_often B e0 F a0 x1 x2 h _ e3) rfl rfl rfl ⟨by decide, by decide⟩ ⟨by decide, by decide⟩ (Nat.le_of_ble_eq_true rfl) rfl ?_
  refine r_i2d C dX9_part_62 ?_
  refine r_iload_n C dX9_part_63 rfl 3 rfl ?_
  refine r_i2d C dX9_part_64 ?_
  obtain ⟨y6, e7, hf⟩ := hp_bind hf
  refine r_ddiv C dX9_part_65 e7 ?_
  exact r_dreturn C E dX9_part_66 (by decide) (by decide) hf
set_option maxRecDepth 100000 in
set_option maxHeartbeats 4000000 in
theorem w_Mo_part_16 {X : hh_X} {B e0 : Nat} {rr : UInt64 × hh_H} (C : ok_Mo_part X B e0) (E : hh_End X B e0 (.returned (some (.double rr.1))) rr.2 mc_Mo_part ms_Mo_part) (F : Nat) (r16 : Nat → Int32 → Int32 → Int32 → Int32 → hh_H → Option (UInt64 × hh_H)) (H16 : ∀ (a0 : Nat) (x1 : Int32) (x2 : Int32) (x3 : Int32) (x4 : Int32) (h : hh_H), r16 a0 x1 x2 x3 x4 h = some rr → hh_W X 0 0 16 [(0, .ref (hh_ad B e0 a0)), (1, .int x1), (2, .int x2), (3, .int x3), (4, .int x4)] [] h) (a0 : Nat) (x1 : Int32) (x2 : Int32) (x3 : Int32) (x4 : Int32) (h : hh_H)
    (hf : f_Mo_part_16 F r16 a0 x1 x2 x3 x4 h = some rr) : hh_W X 0 0 16 [(0, .ref (hh_ad B e0 a0)), (1, .int x1), (2, .int x2), (3, .int x3), (4, .int x4)] [] h := by
  unfold f_Mo_part_16 at hf
  refine r_iload C dX9_part_16 4 rfl ?_
  refine r_aload_n C dX9_part_18 rfl 0 rfl ?_
  obtain ⟨v8, e9, hf⟩ := hp_bind hf
  refine r_getI C dX9_part_19 fl_RX9_74 e9 ?_
  refine r_icmp_ge C dX9_part_22 (tgt := 56) (by decide) (fun c10 => ?_) (fun c10 => ?_)
  · rw [if_pos c10] at hf
    refine hh_pick [0, 1, 2, 3] rfl ?_
    exact w_Mo_part_56 C E F a0 x1 x2 x3 h hf
  · rw [if_neg c10] at hf
    refine r_aload_n C dX9_part_25 rfl 0 rfl ?_
    obtain ⟨v11, e12, hf⟩ := hp_bind hf
    refine r_getJ C dX9_part_26 fl_RX9_85 e12 ?_
    refine r_iload C dX9_part_29 4 rfl ?_
    obtain ⟨q13, h14, e15, hf⟩ := hp_cbe hf
    refine r_callS C dX9_part_31 cs_RX9_89 (c_Mo_in B e0 F v11 x4 h _ e15) rfl rfl rfl ⟨by decide, by decide⟩ ⟨by decide, by decide⟩ (Nat.le_of_ble_eq_true rfl) rfl ?_
    refine r_if_ne C dX9_part_34 (tgt := 50) (by decide) (fun c16 => ?_) (fun c16 => ?_)
    · rw [if_neg c16] at hf
      refine r_iinc (lv' := [(4, .int (x4 + 1)), (0, .ref (hh_ad B e0 a0)), (1, .int x1), (2, .int x2), (3, .int x3)]) C dX9_part_50 4 rfl rfl (by decide) rfl ?_
      refine r_goto C dX9_part_53 (tgt := 16) (by decide) ?_
      refine hh_pick [1, 2, 3, 4, 0] rfl ?_
      exact H16 a0 x1 x2 x3 (x4 + 1) h14 hf
    · rw [if_pos c16] at hf
      refine r_aload_n C dX9_part_37 rfl 0 rfl ?_
      refine r_iload C dX9_part_38 4 rfl ?_
      refine r_iload_n C dX9_part_40 rfl 2 rfl ?_
      obtain ⟨_, e20, hf⟩ := hp_bind hf
      obtain ⟨g21, e20⟩ := hp_is_of e20
      obtain ⟨q17, h18, e19, hf⟩ := hp_cbe hf
      refine r_callV C dX9_part_41 cs_RX9_100 rfl e20 (c_Mo_often B e0 F a0 x4 x2 h14 _ e19) rfl rfl rfl ⟨by decide, by decide⟩ ⟨by decide, by decide⟩ (Nat.le_of_ble_eq_true rfl) rfl ?_
      refine r_if_le C dX9_part_44 (tgt := 50) (by decide) (fun c22 => ?_) (fun c22 => ?_)
      · rw [if_pos c22] at hf
        refine r_iinc (lv' := [(4, .int (x4 + 1)), (0, .ref (hh_ad B e0 a0)), (1, .int x1), (2, .int x2), (3, .int x3)]) C dX9_part_50 4 rfl rfl (by decide) rfl ?_
        refine r_goto C dX9_part_53 (tgt := 16) (by decide) ?_
        refine hh_pick [1, 2, 3, 4, 0] rfl ?_
        exact H16 a0 x1 x2 x3 (x4 + 1) h18 hf
      · rw [if_neg c22] at hf
        refine r_iinc (lv' := [(3, .int (x3 + 1)), (0, .ref (hh_ad B e0 a0)), (1, .int x1), (2, .int x2), (4, .int x4)]) C dX9_part_47 3 rfl rfl (by decide) rfl ?_
        refine r_iinc (lv' := [(4, .int (x4 + 1)), (3, .int (x3 + 1)), (0, .ref (hh_ad B e0 a0)), (1, .int x1), (2, .int x2)]) C dX9_part_50 4 rfl rfl (by decide) rfl ?_
        refine r_goto C dX9_part_53 (tgt := 16) (by decide) ?_
        refine hh_pick [2, 3, 4, 1, 0] rfl ?_
        exact H16 a0 x1 x2 (x3 + 1) (x4 + 1) h18 hf
theorem wl_Mo_part_16 {X : hh_X} {B e0 : Nat} {rr : UInt64 × hh_H} (C : ok_Mo_part X B e0) (E : hh_End X B e0 (.returned (some (.double rr.1))) rr.2 mc_Mo_part ms_Mo_part) (F : Nat) :
    ∀ (n : Nat) (a0 : Nat) (x1 : Int32) (x2 : Int32) (x3 : Int32) (x4 : Int32) (h : hh_H), hp_it (fun _ _ _ _ _ _ => none) (f_Mo_part_16 F) n a0 x1 x2 x3 x4 h = some rr → hh_W X 0 0 16 [(0, .ref (hh_ad B e0 a0)), (1, .int x1), (2, .int x2), (3, .int x3), (4, .int x4)] [] h := by
  intro n
  induction n with
  | zero => intro a0 x1 x2 x3 x4 h hf; cases hf
  | succ n ih =>
    intro a0 x1 x2 x3 x4 h hf
    exact w_Mo_part_16 C E F _ ih a0 x1 x2 x3 x4 h hf
set_option maxRecDepth 100000 in
set_option maxHeartbeats 4000000 in
theorem w_Mo_part {X : hh_X} {B e0 : Nat} {rr : UInt64 × hh_H} (C : ok_Mo_part X B e0) (E : hh_End X B e0 (.returned (some (.double rr.1))) rr.2 mc_Mo_part ms_Mo_part) (F : Nat) (a0 : Nat) (x1 : Int32) (x2 : Int32) (h : hh_H)
    (hf : f_Mo_part F a0 x1 x2 h = some rr) : hh_W X 0 0 0 [(0, .ref (hh_ad B e0 a0)), (1, .int x1), (2, .int x2)] [] h := by
  unfold f_Mo_part at hf
  refine r_aload_n C dX9_part_0 rfl 0 rfl ?_
  refine r_iload_n C dX9_part_1 rfl 1 rfl ?_
  refine r_iload_n C dX9_part_2 rfl 2 rfl ?_
  obtain ⟨_, e26, hf⟩ := hp_bind hf
  obtain ⟨g27, e26⟩ := hp_is_of e26
  obtain ⟨q23, h24, e25, hf⟩ := hp_cbe hf
  refine r_callV C dX9_part_3 cs_RX9_100 rfl e26 (c_Mo_often B e0 F a0 x1 x2 h _ e25) rfl rfl rfl ⟨by decide, by decide⟩ ⟨by decide, by decide⟩ (Nat.le_of_ble_eq_true rfl) rfl ?_
  refine r_if_ne C dX9_part_6 (tgt := 11) (by decide) (fun c28 => ?_) (fun c28 => ?_)
  · rw [if_neg c28] at hf
    refine r_iconst C dX9_part_11 (v := 0) (by decide) ?_
    refine r_istore_n (lv' := [(3, .int 0), (0, .ref (hh_ad B e0 a0)), (1, .int x1), (2, .int x2)]) C dX9_part_12 rfl (by decide) rfl ?_
    refine r_iconst C dX9_part_13 (v := 0) (by decide) ?_
    refine r_istore (lv' := [(4, .int 0), (3, .int 0), (0, .ref (hh_ad B e0 a0)), (1, .int x1), (2, .int x2)]) C dX9_part_14 (by decide) rfl ?_
    refine hh_pick [2, 3, 4, 1, 0] rfl ?_
    exact wl_Mo_part_16 C E F F a0 x1 x2 0 0 h24 hf
  · rw [if_pos c28] at hf
    refine r_dconst0 C dX9_part_9 ?_
    exact r_dreturn C E dX9_part_10 (by decide) (by decide) hf
theorem c_Mo_part (B e0 F : Nat) (a0 : Nat) (x1 : Int32) (x2 : Int32) (h : hh_H) (rr : UInt64 × hh_H) (hf : f_Mo_part F a0 x1 x2 h = some rr) : hh_Met yX9_part cX9_part 5 (some .double) rm_Mo_part mc_Mo_part ms_Mo_part B e0 [.ref (hh_ad B e0 a0), .int x1, .int x2] h (.returned (some (.double rr.1))) rr.2 :=
  hh_met (by decide) (Nat.le_of_ble_eq_true rfl) fun X C E => hh_pick [0, 1, 2] rfl (w_Mo_part C E F a0 x1 x2 h hf)
def mc_Mo_rank : Nat := 0
def ms_Mo_rank : Nat := 0
def rm_Mo_rank : Room := { frames := 2, cells := 0, slots := 0, locals := 50 }
abbrev ok_Mo_rank (X : hh_X) (B e0 : Nat) : Prop := hh_ok X B e0 cX9_rank RX9 7 (some .int) "rank" rm_Mo_rank
set_option maxRecDepth 100000 in
set_option maxHeartbeats 4000000 in
theorem w_Mo_rank_165 {X : hh_X} {B e0 : Nat} {rr : Int32 × hh_H} (C : ok_Mo_rank X B e0) (E : hh_End X B e0 (.returned (some (.int rr.1))) rr.2 mc_Mo_rank ms_Mo_rank) (F : Nat) (r53 : Nat → Int32 → Int32 → Int32 → hh_H → Option (Int32 × hh_H)) (H53 : ∀ (a0 : Nat) (x1 : Int32) (x2 : Int32) (x3 : Int32) (h : hh_H), r53 a0 x1 x2 x3 h = some rr → hh_W X 0 0 53 [(0, .ref (hh_ad B e0 a0)), (1, .int x1), (2, .int x2), (3, .int x3)] [] h) (a0 : Nat) (x1 : Int32) (x2 : Int32) (x3 : Int32) (y4 : UInt64) (x6 : Int32) (h : hh_H)
    (hf : f_Mo_rank_165 F r53 a0 x1 x2 x3 y4 x6 h = some rr) : hh_W X 0 0 165 [(0, .ref (hh_ad B e0 a0)), (1, .int x1), (2, .int x2), (3, .int x3), (4, .double y4), (6, .int x6)] [] h := by
  unfold f_Mo_rank_165 at hf
  refine r_aload_n C dX9_rank_165 rfl 0 rfl ?_
  obtain ⟨v1, e2, hf⟩ := hp_bind hf
  refine r_getA C dX9_rank_166 fl_RX9_32 e2 ?_
  refine r_iload C dX9_rank_169 5 rfl ?_
  refine r_iload_n C dX9_rank_171 rfl 3 rfl ?_
  obtain ⟨h3, e4, hf⟩ := hp_bind hf
  refine r_si C dX9_rank_172 e4 ?_
  refine r_aload_n C dX9_rank_173 rfl 0 rfl ?_
  obtain ⟨v5, e6, hf⟩ := hp_bind hf
  refine r_getA C dX9_rank_174 fl_RX9_35 e6 ?_
  refine r_iload C dX9_rank_177 5 rfl ?_
  refine r_dload C dX9_rank_179 4 rfl ?_
  obtain ⟨h7, e8, hf⟩ := hp_bind hf
  refine r_sd C dX9_rank_181 e8 ?_
  refine r_aload_n C dX9_rank_182 rfl 0 rfl ?_
  refine r_dup C dX9_rank_183 rfl ?_
  obtain ⟨v9, e10, hf⟩ := hp_bind hf
  refine r_getI C dX9_rank_184 fl_RX9_152 e10 ?_
  refine r_iconst C dX9_rank_187 (v := 1) (by decide) ?_
  refine r_iadd C dX9_rank_188 ?_
  obtain ⟨h11, e12, hf⟩ := hp_bind hf
  refine r_putI C dX9_rank_189 fl_RX9_152 e12 ?_
  refine r_iinc (lv' := [(3, .int (x3 + 1)), (0, .ref (hh_ad B e0 a0)), (1, .int x1), (2, .int x2), (4, .double y4), (6, .int x6)]) C dX9_rank_192 3 rfl rfl (by decide) rfl ?_
  refine r_goto C dX9_rank_195 (tgt := 53) (by decide) ?_
  refine hh_pick [1, 2, 3, 0] rfl ?_
  exact H53 a0 x1 x2 (x3 + 1) h11 hf
set_option maxRecDepth 100000 in
set_option maxHeartbeats 4000000 in
theorem w_Mo_rank_107 {X : hh_X} {B e0 : Nat} {rr : Int32 × hh_H} (C : ok_Mo_rank X B e0) (E : hh_End X B e0 (.returned (some (.int rr.1))) rr.2 mc_Mo_rank ms_Mo_rank) (F : Nat) (r53 : Nat → Int32 → Int32 → Int32 → hh_H → Option (Int32 × hh_H)) (r107 : Nat → Int32 → Int32 → Int32 → UInt64 → Int32 → hh_H → Option (Int32 × hh_H)) (H53 : ∀ (a0 : Nat) (x1 : Int32) (x2 : Int32) (x3 : Int32) (h : hh_H), r53 a0 x1 x2 x3 h = some rr → hh_W X 0 0 53 [(0, .ref (hh_ad B e0 a0)), (1, .int x1), (2, .int x2), (3, .int x3)] [] h) (H107 : ∀ (a0 : Nat) (x1 : Int32) (x2 : Int32) (x3 : Int32) (y4 : UInt64) (x6 : Int32) (h : hh_H), r107 a0 x1 x2 x3 y4 x6 h = some rr → hh_W X 0 0 107 [(0, .ref (hh_ad B e0 a0)), (1, .int x1), (2, .int x2), (3, .int x3), (4, .double y4), (6, .int x6)] [] h) (a0 : Nat) (x1 : Int32) (x2 : Int32) (x3 : Int32) (y4 : UInt64) (x6 : Int32) (h : hh_H)
    (hf : f_Mo_rank_107 F r53 r107 a0 x1 x2 x3 y4 x6 h = some rr) : hh_W X 0 0 107 [(0, .ref (hh_ad B e0 a0)), (1, .int x1), (2, .int x2), (3, .int x3), (4, .double y4), (6, .int x6)] [] h := by
  unfold f_Mo_rank_107 at hf
  refine r_iload C dX9_rank_107 5 rfl ?_
  refine r_if_le C dX9_rank_109 (tgt := 165) (by decide) (fun c13 => ?_) (fun c13 => ?_)
  · rw [if_pos c13] at hf
    refine hh_pick [0, 1, 2, 3, 4, 5] rfl ?_
    exact w_Mo_rank_165 C E F r53 H53 a0 x1 x2 x3 y4 x6 h hf
  · rw [if_neg c13] at hf
    refine r_aload_n C dX9_rank_112 rfl 0 rfl ?_
    obtain ⟨v14, e15, hf⟩ := hp_bind hf
    refine r_getA C dX9_rank_113 fl_RX9_35 e15 ?_
    refine r_iload C dX9_rank_116 5 rfl ?_
    refine r_iconst C dX9_rank_118 (v := 1) (by decide) ?_
    refine r_isub C dX9_rank_119 ?_
    obtain ⟨v16, e17, hf⟩ := hp_bind hf
    refine r_ad C dX9_rank_120 e17 ?_
    refine r_dload C dX9_rank_121 4 rfl ?_
    refine r_dcmp C dX9_rank_123 ?_
    refine r_if_ge C dX9_rank_124 (tgt := 165) (by decide) (fun c18 => ?_) (fun c18 => ?_)
    · rw [if_pos c18] at hf
      refine hh_pick [0, 1, 2, 3, 4, 5] rfl ?_
      exact w_Mo_rank_165 C E F r53 H53 a0 x1 x2 x3 y4 x6 h hf
    · rw [if_neg c18] at hf
      refine r_aload_n C dX9_rank_127 rfl 0 rfl ?_
      obtain ⟨v19, e20, hf⟩ := hp_bind hf
      refine r_getA C dX9_rank_128 fl_RX9_32 e20 ?_
      refine r_iload C dX9_rank_131 5 rfl ?_
      refine r_aload_n C dX9_rank_133 rfl 0 rfl ?_
      obtain ⟨v21, e22, hf⟩ := hp_bind hf
      refine r_getA C dX9_rank_134 fl_RX9_32 e22 ?_
      refine r_iload C dX9_rank_137 5 rfl ?_
      refine r_iconst C dX9_rank_139 (v := 1) (by decide) ?_
      refine r_isub C dX9_rank_140 ?_
      obtain ⟨v23, e24, hf⟩ := hp_bind hf
      refine r_ai C dX9_rank_141 e24 ?_
      obtain ⟨h25, e26, hf⟩ := hp_bind hf
      refine r_si C dX9_rank_142 e26 ?_
      refine r_aload_n C dX9_rank_143 rfl 0 rfl ?_
      obtain ⟨v27, e28, hf⟩ := hp_bind hf
      refine r_getA C dX9_rank_144 fl_RX9_35 e28 ?_
      refine r_iload C dX9_rank_147 5 rfl ?_
      refine r_aload_n C dX9_rank_149 rfl 0 rfl ?_
      obtain ⟨v29, e30, hf⟩ := hp_bind hf
      refine r_getA C dX9_rank_150 fl_RX9_35 e30 ?_
      refine r_iload C dX9_rank_153 5 rfl ?_
      refine r_iconst C dX9_rank_155 (v := 1) (by decide) ?_
      refine r_isub C dX9_rank_156 ?_
      obtain ⟨v31, e32, hf⟩ := hp_bind hf
      refine r_ad C dX9_rank_157 e32 ?_
      obtain ⟨h33, e34, hf⟩ := hp_bind hf
      refine r_sd C dX9_rank_158 e34 ?_
      refine r_iinc (lv' := [(6, .int (x6 + (-1))), (0, .ref (hh_ad B e0 a0)), (1, .int x1), (2, .int x2), (3, .int x3), (4, .double y4)]) C dX9_rank_159 5 rfl rfl (by decide) rfl ?_
      refine r_goto C dX9_rank_162 (tgt := 107) (by decide) ?_
      refine hh_pick [1, 2, 3, 4, 5, 0] rfl ?_
      exact H107 a0 x1 x2 x3 y4 (x6 + (-1)) h33 hf
theorem wl_Mo_rank_107 {X : hh_X} {B e0 : Nat} {rr : Int32 × hh_H} (C : ok_Mo_rank X B e0) (E : hh_End X B e0 (.returned (some (.int rr.1))) rr.2 mc_Mo_rank ms_Mo_rank) (F : Nat) (r53 : Nat → Int32 → Int32 → Int32 → hh_H → Option (Int32 × hh_H)) (H53 : ∀ (a0 : Nat) (x1 : Int32) (x2 : Int32) (x3 : Int32) (h : hh_H), r53 a0 x1 x2 x3 h = some rr → hh_W X 0 0 53 [(0, .ref (hh_ad B e0 a0)), (1, .int x1), (2, .int x2), (3, .int x3)] [] h) :
    ∀ (n : Nat) (a0 : Nat) (x1 : Int32) (x2 : Int32) (x3 : Int32) (y4 : UInt64) (x6 : Int32) (h : hh_H), hp_it (fun _ _ _ _ _ _ _ => none) (f_Mo_rank_107 F r53) n a0 x1 x2 x3 y4 x6 h = some rr → hh_W X 0 0 107 [(0, .ref (hh_ad B e0 a0)), (1, .int x1), (2, .int x2), (3, .int x3), (4, .double y4), (6, .int x6)] [] h := by
  intro n
  induction n with
  | zero => intro a0 x1 x2 x3 y4 x6 h hf; cases hf
  | succ n ih =>
    intro a0 x1 x2 x3 y4 x6 h hf
    exact w_Mo_rank_107 C E F r53 _ H53 ih a0 x1 x2 x3 y4 x6 h hf
set_option maxRecDepth 100000 in
set_option maxHeartbeats 4000000 in
theorem w_Mo_rank_53 {X : hh_X} {B e0 : Nat} {rr : Int32 × hh_H} (C : ok_Mo_rank X B e0) (E : hh_End X B e0 (.returned (some (.int rr.1))) rr.2 mc_Mo_rank ms_Mo_rank) (F : Nat) (r53 : Nat → Int32 → Int32 → Int32 → hh_H → Option (Int32 × hh_H)) (H53 : ∀ (a0 : Nat) (x1 : Int32) (x2 : Int32) (x3 : Int32) (h : hh_H), r53 a0 x1 x2 x3 h = some rr → hh_W X 0 0 53 [(0, .ref (hh_ad B e0 a0)), (1, .int x1), (2, .int x2), (3, .int x3)] [] h) (a0 : Nat) (x1 : Int32) (x2 : Int32) (x3 : Int32) (h : hh_H)
    (hf : f_Mo_rank_53 F r53 a0 x1 x2 x3 h = some rr) : hh_W X 0 0 53 [(0, .ref (hh_ad B e0 a0)), (1, .int x1), (2, .int x2), (3, .int x3)] [] h := by
  unfold f_Mo_rank_53 at hf
  refine r_iload_n C dX9_rank_53 rfl 3 rfl ?_
  refine r_aload_n C dX9_rank_54 rfl 0 rfl ?_
  obtain ⟨v35, e36, hf⟩ := hp_bind hf
  refine r_getI C dX9_rank_55 fl_RX9_74 e36 ?_
  refine r_icmp_ge C dX9_rank_58 (tgt := 198) (by decide) (fun c37 => ?_) (fun c37 => ?_)
  · rw [if_pos c37] at hf
    refine r_aload_n C dX9_rank_198 rfl 0 rfl ?_
    obtain ⟨v38, e39, hf⟩ := hp_bind hf
    refine r_getI C dX9_rank_199 fl_RX9_152 e39 ?_
    exact r_ireturn C E dX9_rank_202 (by decide) (by decide) hf
  · rw [if_neg c37] at hf
    refine r_aload_n C dX9_rank_61 rfl 0 rfl ?_
    obtain ⟨v40, e41, hf⟩ := hp_bind hf
    refine r_getJ C dX9_rank_62 fl_RX9_85 e41 ?_
    refine r_iload_n C dX9_rank_65 rfl 3 rfl ?_
    obtain ⟨q42, h43, e44, hf⟩ := hp_cbe hf
    refine r_callS C dX9_rank_66 cs_RX9_89 (c_Mo_in B e0 F v40 x3 h _ e44) rfl rfl rfl ⟨by decide, by decide⟩ ⟨by decide, by decide⟩ (Nat.le_of_ble_eq_true rfl) rfl ?_
    refine r_if_ne C dX9_rank_69 (tgt := 192) (by decide) (fun c45 => ?_) (fun c45 => ?_)
    · rw [if_neg c45] at hf
      refine r_iinc (lv' := [(3, .int (x3 + 1)), (0, .ref (hh_ad B e0 a0)), (1, .int x1), (2, .int x2)]) C dX9_rank_192 3 rfl rfl (by decide) rfl ?_
      refine r_goto C dX9_rank_195 (tgt := 53) (by decide) ?_
      refine hh_pick [1, 2, 3, 0] rfl ?_
      exact H53 a0 x1 x2 (x3 + 1) h43 hf
    · rw [if_pos c45] at hf
      refine r_aload_n C dX9_rank_72 rfl 0 rfl ?_
      refine r_iload_n C dX9_rank_73 rfl 3 rfl ?_
      refine r_iload_n C dX9_rank_74 rfl 1 rfl ?_
      refine r_iload_n C dX9_rank_75 rfl 2 rfl ?_
      refine r_iconst C dX9_rank_76 (v := 1) (by decide) ?_
      obtain ⟨_, e49, hf⟩ := hp_bind hf
      obtain ⟨g50, e49⟩ := hp_is_of e49
      obtain ⟨q46, h47, e48, hf⟩ := hp_cbe hf
      refine r_callV C dX9_rank_77 cs_RX9_159 rfl e49 (c_Mo_fits B e0 F a0 x3 x1 x2 1 h43 _ e48) rfl rfl rfl ⟨by decide, by decide⟩ ⟨by decide, by decide⟩ (Nat.le_of_ble_eq_true rfl) rfl ?_
      refine r_if_ne C dX9_rank_80 (tgt := 86) (by decide) (fun c51 => ?_) (fun c51 => ?_)
      · rw [if_neg c51] at hf
        refine r_aload_n C dX9_rank_86 rfl 0 rfl ?_
        refine r_iload_n C dX9_rank_87 rfl 3 rfl ?_
        refine r_iload_n C dX9_rank_88 rfl 1 rfl ?_
        obtain ⟨_, e55, hf⟩ := hp_bind hf
        obtain ⟨g56, e55⟩ := hp_is_of e55
        obtain ⟨q52, h53, e54, hf⟩ := hp_cbe hf
        refine r_callV C dX9_rank_89 cs_RX9_163 rfl e55 (c_Mo_part B e0 F a0 x3 x1 h47 _ e54) rfl rfl rfl ⟨by decide, by decide⟩ ⟨by decide, by decide⟩ (Nat.le_of_ble_eq_true rfl) rfl ?_
        refine r_aload_n C dX9_rank_92 rfl 0 rfl ?_
        refine r_iload_n C dX9_rank_93 rfl 3 rfl ?_
        refine r_iload_n C dX9_rank_94 rfl 2 rfl ?_
        obtain ⟨_, e60, hf⟩ := hp_bind hf
        obtain ⟨g61, e60⟩ := hp_is_of e60
        obtain ⟨q57, h58, e59, hf⟩ := hp_cbe hf
        refine r_callV C dX9_rank_95 cs_RX9_163 rfl e60 (c_Mo_part B e0 F a0 x3 x2 h53 _ e59) rfl rfl rfl ⟨by decide, by decide⟩ ⟨by decide, by decide⟩ (Nat.le_of_ble_eq_true rfl) rfl ?_
        obtain ⟨y62, e63, hf⟩ := hp_bind hf
        refine r_dadd C dX9_rank_98 e63 ?_
        refine r_dstore (lv' := [(4, .double y62), (0, .ref (hh_ad B e0 a0)), (1, .int x1), (2, .int x2), (3, .int x3)]) C dX9_rank_99 (by decide) rfl ?_
        refine r_aload_n C dX9_rank_101 rfl 1 rfl ?_
        obtain ⟨v64, e65, hf⟩ := hp_bind hf
        refine r_getI C dX9_rank_102 fl_RX9_152 e65 ?_
        refine r_istore (lv' := [(6, .int v64), (4, .double y62), (0, .ref (hh_ad B e0 a0)), (1, .int x1), (2, .int x2), (3, .int x3)]) C dX9_rank_105 (by decide) rfl ?_
        refine hh_pick [2, 3, 4, 5, 1, 0] rfl ?_
        exact wl_Mo_rank_107 C E F r53 H53 F a0 x1 x2 x3 y62 v64 h58 hf
      · rw [if_pos c51] at hf
        refine r_goto C dX9_rank_83 (tgt := 192) (by decide) ?_
        refine r_iinc (lv' := [(3, .int (x3 + 1)), (0, .ref (hh_ad B e0 a0)), (1, .int x1), (2, .int x2)]) C dX9_rank_192 3 rfl rfl (by decide) rfl ?_
        refine r_goto C dX9_rank_195 (tgt := 53) (by decide) ?_
        refine hh_pick [1, 2, 3, 0] rfl ?_
        exact H53 a0 x1 x2 (x3 + 1) h47 hf
theorem wl_Mo_rank_53 {X : hh_X} {B e0 : Nat} {rr : Int32 × hh_H} (C : ok_Mo_rank X B e0) (E : hh_End X B e0 (.returned (some (.int rr.1))) rr.2 mc_Mo_rank ms_Mo_rank) (F : Nat) :
    ∀ (n : Nat) (a0 : Nat) (x1 : Int32) (x2 : Int32) (x3 : Int32) (h : hh_H), hp_it (fun _ _ _ _ _ => none) (f_Mo_rank_53 F) n a0 x1 x2 x3 h = some rr → hh_W X 0 0 53 [(0, .ref (hh_ad B e0 a0)), (1, .int x1), (2, .int x2), (3, .int x3)] [] h := by
  intro n
  induction n with
  | zero => intro a0 x1 x2 x3 h hf; cases hf
  | succ n ih =>
    intro a0 x1 x2 x3 h hf
    exact w_Mo_rank_53 C E F _ ih a0 x1 x2 x3 h hf
set_option maxRecDepth 100000 in
set_option maxHeartbeats 4000000 in
theorem w_Mo_rank {X : hh_X} {B e0 : Nat} {rr : Int32 × hh_H} (C : ok_Mo_rank X B e0) (E : hh_End X B e0 (.returned (some (.int rr.1))) rr.2 mc_Mo_rank ms_Mo_rank) (F : Nat) (a0 : Nat) (x1 : Int32) (x2 : Int32) (h : hh_H)
    (hf : f_Mo_rank F a0 x1 x2 h = some rr) : hh_W X 0 0 0 [(0, .ref (hh_ad B e0 a0)), (1, .int x1), (2, .int x2)] [] h := by
  unfold f_Mo_rank at hf
  refine r_aload_n C dX9_rank_0 rfl 0 rfl ?_
  refine r_iconst C dX9_rank_1 (v := 0) (by decide) ?_
  obtain ⟨h66, e67, hf⟩ := hp_bind hf
  refine r_putI C dX9_rank_2 fl_RX9_57 e67 ?_
  refine r_iload_n C dX9_rank_5 rfl 1 rfl ?_
  obtain ⟨q68, h69, e70, hf⟩ := hp_cbe hf
  refine r_callS C dX9_rank_6 cs_RX9_60 (c_Mo_noWord B e0 F x1 h66 _ e70) rfl rfl rfl ⟨by decide, by decide⟩ ⟨by decide, by decide⟩ (Nat.le_of_ble_eq_true rfl) rfl ?_
  refine r_if_ne C dX9_rank_9 (tgt := 19) (by decide) (fun c71 => ?_) (fun c71 => ?_)
  · rw [if_neg c71] at hf
    refine r_aload_n C dX9_rank_19 rfl 0 rfl ?_
    refine r_iconst C dX9_rank_20 (v := 1) (by decide) ?_
    obtain ⟨_, e75, hf⟩ := hp_bind hf
    obtain ⟨g76, e75⟩ := hp_is_of e75
    obtain ⟨q72, h73, e74, hf⟩ := hp_cbe hf
    refine r_callV C dX9_rank_21 cs_RX9_64 rfl e75 (c_Mo_fail B e0 F a0 1 h69 _ e74) rfl rfl rfl ⟨by decide, by decide⟩ ⟨by decide, by decide⟩ (Nat.le_of_ble_eq_true rfl) rfl ?_
    exact r_ireturn C E dX9_rank_24 (by decide) (by decide) hf
  · rw [if_pos c71] at hf
    refine r_iload_n C dX9_rank_12 rfl 2 rfl ?_
    obtain ⟨q77, h78, e79, hf⟩ := hp_cbe hf
    refine r_callS C dX9_rank_13 cs_RX9_60 (c_Mo_noWord B e0 F x2 h69 _ e79) rfl rfl rfl ⟨by decide, by decide⟩ ⟨by decide, by decide⟩ (Nat.le_of_ble_eq_true rfl) rfl ?_
    refine r_if_eq C dX9_rank_16 (tgt := 25) (by decide) (fun c80 => ?_) (fun c80 => ?_)
    · rw [if_pos c80] at hf
      refine r_aload_n C dX9_rank_25 rfl 0 rfl ?_
      refine r_dup C dX9_rank_26 rfl ?_
      obtain ⟨v81, e82, hf⟩ := hp_bind hf
      refine r_getI C dX9_rank_27 fl_RX9_137 e82 ?_
      refine r_aload_n C dX9_rank_30 rfl 0 rfl ?_
      obtain ⟨v83, e84, hf⟩ := hp_bind hf
      refine r_getJ C dX9_rank_31 fl_RX9_118 e84 ?_
      obtain ⟨q85, h86, e87, hf⟩ := hp_cbe hf
      refine r_callS C dX9_rank_34 cs_RX9_93 (c_Mo_bits B e0 F v83 h78 _ e87) rfl rfl rfl ⟨by decide, by decide⟩ ⟨by decide, by decide⟩ (Nat.le_of_ble_eq_true rfl) rfl ?_
      refine r_iadd C dX9_rank_37 ?_
      obtain ⟨h88, e89, hf⟩ := hp_bind hf
      refine r_putI C dX9_rank_38 fl_RX9_137 e89 ?_
      refine r_aload_n C dX9_rank_41 rfl 0 rfl ?_
      refine r_iconst C dX9_rank_42 (v := 0) (by decide) ?_
      obtain ⟨h90, e91, hf⟩ := hp_bind hf
      refine r_putI C dX9_rank_43 fl_RX9_152 e91 ?_
      refine r_aload_n C dX9_rank_46 rfl 0 rfl ?_
      refine r_iconst C dX9_rank_47 (v := 1) (by decide) ?_
      obtain ⟨h92, e93, hf⟩ := hp_bind hf
      refine r_putZ C dX9_rank_48 fl_RX9_155 e93 ?_
      refine r_iconst C dX9_rank_51 (v := 0) (by decide) ?_
      refine r_istore_n (lv' := [(3, .int 0), (0, .ref (hh_ad B e0 a0)), (1, .int x1), (2, .int x2)]) C dX9_rank_52 rfl (by decide) rfl ?_
      refine hh_pick [1, 2, 3, 0] rfl ?_
      exact wl_Mo_rank_53 C E F F a0 x1 x2 0 h92 hf
    · rw [if_neg c80] at hf
      refine r_aload_n C dX9_rank_19 rfl 0 rfl ?_
      refine r_iconst C dX9_rank_20 (v := 1) (by decide) ?_
      obtain ⟨_, e97, hf⟩ := hp_bind hf
      obtain ⟨g98, e97⟩ := hp_is_of e97
      obtain ⟨q94, h95, e96, hf⟩ := hp_cbe hf
      refine r_callV C dX9_rank_21 cs_RX9_64 rfl e97 (c_Mo_fail B e0 F a0 1 h78 _ e96) rfl rfl rfl ⟨by decide, by decide⟩ ⟨by decide, by decide⟩ (Nat.le_of_ble_eq_true rfl) rfl ?_
      exact r_ireturn C E dX9_rank_24 (by decide) (by decide) hf
theorem c_Mo_rank (B e0 F : Nat) (a0 : Nat) (x1 : Int32) (x2 : Int32) (h : hh_H) (rr : Int32 × hh_H) (hf : f_Mo_rank F a0 x1 x2 h = some rr) : hh_Met yX9_rank cX9_rank 7 (some .int) rm_Mo_rank mc_Mo_rank ms_Mo_rank B e0 [.ref (hh_ad B e0 a0), .int x1, .int x2] h (.returned (some (.int rr.1))) rr.2 :=
  hh_met (by decide) (Nat.le_of_ble_eq_true rfl) fun X C E => hh_pick [0, 1, 2] rfl (w_Mo_rank C E F a0 x1 x2 h hf)
def mc_Mo_result : Nat := 0
def ms_Mo_result : Nat := 0
def rm_Mo_result : Room := { frames := 1, cells := 0, slots := 0, locals := 21 }
abbrev ok_Mo_result (X : hh_X) (B e0 : Nat) : Prop := hh_ok X B e0 cX9_result RX9 2 (some .int) "result" rm_Mo_result
set_option maxRecDepth 100000 in
set_option maxHeartbeats 4000000 in
theorem w_Mo_result {X : hh_X} {B e0 : Nat} {rr : Int32 × hh_H} (C : ok_Mo_result X B e0) (E : hh_End X B e0 (.returned (some (.int rr.1))) rr.2 mc_Mo_result ms_Mo_result) (F : Nat) (a0 : Nat) (x1 : Int32) (h : hh_H)
    (hf : f_Mo_result F a0 x1 h = some rr) : hh_W X 0 0 0 [(0, .ref (hh_ad B e0 a0)), (1, .int x1)] [] h := by
  unfold f_Mo_result at hf
  refine r_aload_n C dX9_result_0 rfl 0 rfl ?_
  refine r_iconst C dX9_result_1 (v := 0) (by decide) ?_
  obtain ⟨h1, e2, hf⟩ := hp_bind hf
  refine r_putI C dX9_result_2 fl_RX9_57 e2 ?_
  refine r_iload_n C dX9_result_5 rfl 1 rfl ?_
  refine r_if_lt C dX9_result_6 (tgt := 17) (by decide) (fun c3 => ?_) (fun c3 => ?_)
  · rw [if_pos c3] at hf
    refine r_aload_n C dX9_result_17 rfl 0 rfl ?_
    refine r_iconst C dX9_result_18 (v := 1) (by decide) ?_
    obtain ⟨_, e7, hf⟩ := hp_bind hf
    obtain ⟨g8, e7⟩ := hp_is_of e7
    obtain ⟨q4, h5, e6, hf⟩ := hp_cbe hf
    refine r_callV C dX9_result_19 cs_RX9_64 rfl e7 (c_Mo_fail B e0 F a0 1 h1 _ e6) rfl rfl rfl ⟨by decide, by decide⟩ ⟨by decide, by decide⟩ (Nat.le_of_ble_eq_true rfl) rfl ?_
    exact r_ireturn C E dX9_result_22 (by decide) (by decide) hf
  · rw [if_neg c3] at hf
    refine r_iload_n C dX9_result_9 rfl 1 rfl ?_
    refine r_aload_n C dX9_result_10 rfl 0 rfl ?_
    obtain ⟨v9, e10, hf⟩ := hp_bind hf
    refine r_getI C dX9_result_11 fl_RX9_152 e10 ?_
    refine r_icmp_lt C dX9_result_14 (tgt := 23) (by decide) (fun c11 => ?_) (fun c11 => ?_)
    · rw [if_pos c11] at hf
      refine r_aload_n C dX9_result_23 rfl 0 rfl ?_
      obtain ⟨v12, e13, hf⟩ := hp_bind hf
      refine r_getA C dX9_result_24 fl_RX9_32 e13 ?_
      refine r_iload_n C dX9_result_27 rfl 1 rfl ?_
      obtain ⟨v14, e15, hf⟩ := hp_bind hf
      refine r_ai C dX9_result_28 e15 ?_
      exact r_ireturn C E dX9_result_29 (by decide) (by decide) hf
    · rw [if_neg c11] at hf
      refine r_aload_n C dX9_result_17 rfl 0 rfl ?_
      refine r_iconst C dX9_result_18 (v := 1) (by decide) ?_
      obtain ⟨_, e19, hf⟩ := hp_bind hf
      obtain ⟨g20, e19⟩ := hp_is_of e19
      obtain ⟨q16, h17, e18, hf⟩ := hp_cbe hf
      refine r_callV C dX9_result_19 cs_RX9_64 rfl e19 (c_Mo_fail B e0 F a0 1 h1 _ e18) rfl rfl rfl ⟨by decide, by decide⟩ ⟨by decide, by decide⟩ (Nat.le_of_ble_eq_true rfl) rfl ?_
      exact r_ireturn C E dX9_result_22 (by decide) (by decide) hf
theorem c_Mo_result (B e0 F : Nat) (a0 : Nat) (x1 : Int32) (h : hh_H) (rr : Int32 × hh_H) (hf : f_Mo_result F a0 x1 h = some rr) : hh_Met yX9_result cX9_result 2 (some .int) rm_Mo_result mc_Mo_result ms_Mo_result B e0 [.ref (hh_ad B e0 a0), .int x1] h (.returned (some (.int rr.1))) rr.2 :=
  hh_met (by decide) (Nat.le_of_ble_eq_true rfl) fun X C E => hh_pick [0, 1] rfl (w_Mo_result C E F a0 x1 h hf)
def mc_Mo_score : Nat := 0
def ms_Mo_score : Nat := 0
def rm_Mo_score : Room := { frames := 1, cells := 0, slots := 0, locals := 21 }
abbrev ok_Mo_score (X : hh_X) (B e0 : Nat) : Prop := hh_ok X B e0 cX9_score RX9 2 (some .double) "score" rm_Mo_score
set_option maxRecDepth 100000 in
set_option maxHeartbeats 4000000 in
theorem w_Mo_score_17 {X : hh_X} {B e0 : Nat} {rr : UInt64 × hh_H} (C : ok_Mo_score X B e0) (E : hh_End X B e0 (.returned (some (.double rr.1))) rr.2 mc_Mo_score ms_Mo_score) (F : Nat) (a0 : Nat) (h : hh_H)
    (hf : f_Mo_score_17 F a0 h = some rr) : hh_W X 0 0 17 [(0, .ref (hh_ad B e0 a0))] [] h := by
  unfold f_Mo_score_17 at hf
  refine r_aload_n C dX9_score_17 rfl 0 rfl ?_
  refine r_iconst C dX9_score_18 (v := 1) (by decide) ?_
  obtain ⟨_, e4, hf⟩ := hp_bind hf
  obtain ⟨g5, e4⟩ := hp_is_of e4
  obtain ⟨q1, h2, e3, hf⟩ := hp_cbe hf
  refine r_callV C dX9_score_19 cs_RX9_64 rfl e4 (c_Mo_fail B e0 F a0 1 h _ e3) rfl rfl rfl ⟨by decide, by decide⟩ ⟨by decide, by decide⟩ (Nat.le_of_ble_eq_true rfl) rfl ?_
  refine r_i2d C dX9_score_22 ?_
  exact r_dreturn C E dX9_score_23 (by decide) (by decide) hf
set_option maxRecDepth 100000 in
set_option maxHeartbeats 4000000 in
theorem w_Mo_score {X : hh_X} {B e0 : Nat} {rr : UInt64 × hh_H} (C : ok_Mo_score X B e0) (E : hh_End X B e0 (.returned (some (.double rr.1))) rr.2 mc_Mo_score ms_Mo_score) (F : Nat) (a0 : Nat) (x1 : Int32) (h : hh_H)
    (hf : f_Mo_score F a0 x1 h = some rr) : hh_W X 0 0 0 [(0, .ref (hh_ad B e0 a0)), (1, .int x1)] [] h := by
  unfold f_Mo_score at hf
  refine r_aload_n C dX9_score_0 rfl 0 rfl ?_
  refine r_iconst C dX9_score_1 (v := 0) (by decide) ?_
  obtain ⟨h6, e7, hf⟩ := hp_bind hf
  refine r_putI C dX9_score_2 fl_RX9_57 e7 ?_
  refine r_iload_n C dX9_score_5 rfl 1 rfl ?_
  refine r_if_lt C dX9_score_6 (tgt := 17) (by decide) (fun c8 => ?_) (fun c8 => ?_)
  · rw [if_pos c8] at hf
    refine hh_pick [0] rfl ?_
    exact w_Mo_score_17 C E F a0 h6 hf
  · rw [if_neg c8] at hf
    refine r_iload_n C dX9_score_9 rfl 1 rfl ?_
    refine r_aload_n C dX9_score_10 rfl 0 rfl ?_
    obtain ⟨v9, e10, hf⟩ := hp_bind hf
    refine r_getI C dX9_score_11 fl_RX9_152 e10 ?_
    refine r_icmp_lt C dX9_score_14 (tgt := 24) (by decide) (fun c11 => ?_) (fun c11 => ?_)
    · rw [if_pos c11] at hf
      refine r_aload_n C dX9_score_24 rfl 0 rfl ?_
      obtain ⟨v12, e13, hf⟩ := hp_bind hf
      refine r_getI C dX9_score_25 fl_RX9_155 e13 ?_
      refine r_if_ne C dX9_score_28 (tgt := 38) (by decide) (fun c14 => ?_) (fun c14 => ?_)
      · rw [if_neg c14] at hf
        refine r_aload_n C dX9_score_38 rfl 0 rfl ?_
        obtain ⟨v15, e16, hf⟩ := hp_bind hf
        refine r_getA C dX9_score_39 fl_RX9_35 e16 ?_
        refine r_iload_n C dX9_score_42 rfl 1 rfl ?_
        obtain ⟨v17, e18, hf⟩ := hp_bind hf
        refine r_ad C dX9_score_43 e18 ?_
        exact r_dreturn C E dX9_score_44 (by decide) (by decide) hf
      · rw [if_pos c14] at hf
        refine r_aload_n C dX9_score_31 rfl 0 rfl ?_
        refine r_iconst C dX9_score_32 (v := 2) (by decide) ?_
        obtain ⟨_, e22, hf⟩ := hp_bind hf
        obtain ⟨g23, e22⟩ := hp_is_of e22
        obtain ⟨q19, h20, e21, hf⟩ := hp_cbe hf
        refine r_callV C dX9_score_33 cs_RX9_64 rfl e22 (c_Mo_fail B e0 F a0 2 h6 _ e21) rfl rfl rfl ⟨by decide, by decide⟩ ⟨by decide, by decide⟩ (Nat.le_of_ble_eq_true rfl) rfl ?_
        refine r_i2d C dX9_score_36 ?_
        exact r_dreturn C E dX9_score_37 (by decide) (by decide) hf
    · rw [if_neg c11] at hf
      refine hh_pick [0] rfl ?_
      exact w_Mo_score_17 C E F a0 h6 hf
theorem c_Mo_score (B e0 F : Nat) (a0 : Nat) (x1 : Int32) (h : hh_H) (rr : UInt64 × hh_H) (hf : f_Mo_score F a0 x1 h = some rr) : hh_Met yX9_score cX9_score 2 (some .double) rm_Mo_score mc_Mo_score ms_Mo_score B e0 [.ref (hh_ad B e0 a0), .int x1] h (.returned (some (.double rr.1))) rr.2 :=
  hh_met (by decide) (Nat.le_of_ble_eq_true rfl) fun X C E => hh_pick [0, 1] rfl (w_Mo_score C E F a0 x1 h hf)
def mc_Mo_byteOf : Nat := 0
def ms_Mo_byteOf : Nat := 0
def rm_Mo_byteOf : Room := { frames := 3, cells := 0, slots := 0, locals := 75 }
abbrev ok_Mo_byteOf (X : hh_X) (B e0 : Nat) : Prop := hh_ok X B e0 cX9_byteOf RX9 5 (some .int) "byteOf" rm_Mo_byteOf
set_option maxRecDepth 100000 in
set_option maxHeartbeats 4000000 in
theorem w_Mo_byteOf_59 {X : hh_X} {B e0 : Nat} {rr : Int32 × hh_H} (C : ok_Mo_byteOf X B e0) (E : hh_End X B e0 (.returned (some (.int rr.1))) rr.2 mc_Mo_byteOf ms_Mo_byteOf) (F : Nat) (a0 : Nat) (x1 : Int32) (x2 : Int32) (x3 : Int32) (h : hh_H)
    (hf : f_Mo_byteOf_59 F a0 x1 x2 x3 h = some rr) : hh_W X 0 0 59 [(0, .ref (hh_ad B e0 a0)), (1, .int x1), (2, .int x2), (3, .int x3)] [] h := by
  unfold f_Mo_byteOf_59 at hf
  refine r_aload_n C dX9_byteOf_59 rfl 0 rfl ?_
  refine r_aload_n C dX9_byteOf_60 rfl 0 rfl ?_
  obtain ⟨v1, e2, hf⟩ := hp_bind hf
  refine r_getA C dX9_byteOf_61 fl_RX9_22 e2 ?_
  refine r_iload_n C dX9_byteOf_64 rfl 3 rfl ?_
  obtain ⟨v3, e4, hf⟩ := hp_bind hf
  refine r_aj C dX9_byteOf_65 e4 ?_
  obtain ⟨_, e8, hf⟩ := hp_bind hf
  obtain ⟨g9, e8⟩ := hp_is_of e8
  obtain ⟨q5, h6, e7, hf⟩ := hp_cbe hf
  refine r_callV C dX9_byteOf_66 cs_RX9_114 rfl e8 (c_Mo_encode B e0 F a0 v3 h _ e7) rfl rfl rfl ⟨by decide, by decide⟩ ⟨by decide, by decide⟩ (Nat.le_of_ble_eq_true rfl) rfl ?_
  refine r_bipush C dX9_byteOf_69 (v := 16) (by decide) ?_
  refine r_aload_n C dX9_byteOf_71 rfl 0 rfl ?_
  obtain ⟨v10, e11, hf⟩ := hp_bind hf
  refine r_getA C dX9_byteOf_72 fl_RX9_26 e11 ?_
  refine r_iload_n C dX9_byteOf_75 rfl 3 rfl ?_
  obtain ⟨v12, e13, hf⟩ := hp_bind hf
  refine r_aj C dX9_byteOf_76 e13 ?_
  refine r_lconst C dX9_byteOf_77 (v := 1) (by decide) ?_
  refine r_iload_n C dX9_byteOf_78 rfl 1 rfl ?_
  refine r_lshl C dX9_byteOf_79 ?_
  refine r_lconst C dX9_byteOf_80 (v := 1) (by decide) ?_
  refine r_lsub C dX9_byteOf_81 ?_
  refine r_land C dX9_byteOf_82 ?_
  obtain ⟨q14, h15, e16, hf⟩ := hp_cbe hf
  refine r_callS C dX9_byteOf_83 cs_RX9_93 (c_Mo_bits B e0 F (v12 &&& ((1 <<< (x1.toInt64 &&& 63)) - 1)) h6 _ e16) rfl rfl rfl ⟨by decide, by decide⟩ ⟨by decide, by decide⟩ (Nat.le_of_ble_eq_true rfl) rfl ?_
  refine r_imul C dX9_byteOf_86 ?_
  refine r_iload_n C dX9_byteOf_87 rfl 2 rfl ?_
  refine r_iadd C dX9_byteOf_88 ?_
  refine r_istore (lv' := [(4, .int ((16 * q14) + x2)), (0, .ref (hh_ad B e0 a0)), (1, .int x1), (2, .int x2), (3, .int x3)]) C dX9_byteOf_89 (by decide) rfl ?_
  refine r_iload C dX9_byteOf_91 0 rfl ?_
  refine r_aload_n C dX9_byteOf_93 rfl 1 rfl ?_
  obtain ⟨v17, e18, hf⟩ := hp_bind hf
  refine r_getI C dX9_byteOf_94 fl_RX9_97 e18 ?_
  refine r_icmp_ge C dX9_byteOf_97 (tgt := 110) (by decide) (fun c19 => ?_) (fun c19 => ?_)
  · rw [if_pos c19] at hf
    refine r_iconst C dX9_byteOf_110 (v := 0) (by decide) ?_
    exact r_ireturn C E dX9_byteOf_111 (by decide) (by decide) hf
  · rw [if_neg c19] at hf
    refine r_aload_n C dX9_byteOf_100 rfl 1 rfl ?_
    obtain ⟨v20, e21, hf⟩ := hp_bind hf
    refine r_getA C dX9_byteOf_101 fl_RX9_39 e21 ?_
    refine r_iload C dX9_byteOf_104 0 rfl ?_
    obtain ⟨v22, e23, hf⟩ := hp_bind hf
    refine r_ab C dX9_byteOf_106 e23 ?_
    refine r_goto C dX9_byteOf_107 (tgt := 111) (by decide) ?_
    exact r_ireturn C E dX9_byteOf_111 (by decide) (by decide) hf
set_option maxRecDepth 100000 in
set_option maxHeartbeats 4000000 in
theorem w_Mo_byteOf_35 {X : hh_X} {B e0 : Nat} {rr : Int32 × hh_H} (C : ok_Mo_byteOf X B e0) (E : hh_End X B e0 (.returned (some (.int rr.1))) rr.2 mc_Mo_byteOf ms_Mo_byteOf) (F : Nat) (r35 : Nat → Int32 → Int32 → Int32 → hh_H → Option (Int32 × hh_H)) (H35 : ∀ (a0 : Nat) (x1 : Int32) (x2 : Int32) (x3 : Int32) (h : hh_H), r35 a0 x1 x2 x3 h = some rr → hh_W X 0 0 35 [(0, .ref (hh_ad B e0 a0)), (1, .int x1), (2, .int x2), (3, .int x3)] [] h) (a0 : Nat) (x1 : Int32) (x2 : Int32) (x3 : Int32) (h : hh_H)
    (hf : f_Mo_byteOf_35 F r35 a0 x1 x2 x3 h = some rr) : hh_W X 0 0 35 [(0, .ref (hh_ad B e0 a0)), (1, .int x1), (2, .int x2), (3, .int x3)] [] h := by
  unfold f_Mo_byteOf_35 at hf
  refine r_iload_n C dX9_byteOf_35 rfl 3 rfl ?_
  refine r_aload_n C dX9_byteOf_36 rfl 0 rfl ?_
  obtain ⟨v24, e25, hf⟩ := hp_bind hf
  refine r_getI C dX9_byteOf_37 fl_RX9_125 e25 ?_
  refine r_icmp_ge C dX9_byteOf_40 (tgt := 118) (by decide) (fun c26 => ?_) (fun c26 => ?_)
  · rw [if_pos c26] at hf
    refine r_iconst C dX9_byteOf_118 (v := 0) (by decide) ?_
    exact r_ireturn C E dX9_byteOf_119 (by decide) (by decide) hf
  · rw [if_neg c26] at hf
    refine r_aload_n C dX9_byteOf_43 rfl 0 rfl ?_
    obtain ⟨v27, e28, hf⟩ := hp_bind hf
    refine r_getA C dX9_byteOf_44 fl_RX9_26 e28 ?_
    refine r_iload_n C dX9_byteOf_47 rfl 3 rfl ?_
    obtain ⟨v29, e30, hf⟩ := hp_bind hf
    refine r_aj C dX9_byteOf_48 e30 ?_
    refine r_iload_n C dX9_byteOf_49 rfl 1 rfl ?_
    obtain ⟨q31, h32, e33, hf⟩ := hp_cbe hf
    refine r_callS C dX9_byteOf_50 cs_RX9_89 (c_Mo_in B e0 F v29 x1 h _ e33) rfl rfl rfl ⟨by decide, by decide⟩ ⟨by decide, by decide⟩ (Nat.le_of_ble_eq_true rfl) rfl ?_
    refine r_if_ne C dX9_byteOf_53 (tgt := 59) (by decide) (fun c34 => ?_) (fun c34 => ?_)
    · rw [if_neg c34] at hf
      refine hh_pick [0, 1, 2, 3] rfl ?_
      exact w_Mo_byteOf_59 C E F a0 x1 x2 x3 h32 hf
    · rw [if_pos c34] at hf
      refine r_goto C dX9_byteOf_56 (tgt := 112) (by decide) ?_
      refine r_iinc (lv' := [(3, .int (x3 + 1)), (0, .ref (hh_ad B e0 a0)), (1, .int x1), (2, .int x2)]) C dX9_byteOf_112 3 rfl rfl (by decide) rfl ?_
      refine r_goto C dX9_byteOf_115 (tgt := 35) (by decide) ?_
      refine hh_pick [1, 2, 3, 0] rfl ?_
      exact H35 a0 x1 x2 (x3 + 1) h32 hf
theorem wl_Mo_byteOf_35 {X : hh_X} {B e0 : Nat} {rr : Int32 × hh_H} (C : ok_Mo_byteOf X B e0) (E : hh_End X B e0 (.returned (some (.int rr.1))) rr.2 mc_Mo_byteOf ms_Mo_byteOf) (F : Nat) :
    ∀ (n : Nat) (a0 : Nat) (x1 : Int32) (x2 : Int32) (x3 : Int32) (h : hh_H), hp_it (fun _ _ _ _ _ => none) (f_Mo_byteOf_35 F) n a0 x1 x2 x3 h = some rr → hh_W X 0 0 35 [(0, .ref (hh_ad B e0 a0)), (1, .int x1), (2, .int x2), (3, .int x3)] [] h := by
  intro n
  induction n with
  | zero => intro a0 x1 x2 x3 h hf; cases hf
  | succ n ih =>
    intro a0 x1 x2 x3 h hf
    exact w_Mo_byteOf_35 C E F _ ih a0 x1 x2 x3 h hf
set_option maxRecDepth 100000 in
set_option maxHeartbeats 4000000 in
theorem w_Mo_byteOf {X : hh_X} {B e0 : Nat} {rr : Int32 × hh_H} (C : ok_Mo_byteOf X B e0) (E : hh_End X B e0 (.returned (some (.int rr.1))) rr.2 mc_Mo_byteOf ms_Mo_byteOf) (F : Nat) (a0 : Nat) (x1 : Int32) (x2 : Int32) (h : hh_H)
    (hf : f_Mo_byteOf F a0 x1 x2 h = some rr) : hh_W X 0 0 0 [(0, .ref (hh_ad B e0 a0)), (1, .int x1), (2, .int x2)] [] h := by
  unfold f_Mo_byteOf at hf
  refine r_aload_n C dX9_byteOf_0 rfl 0 rfl ?_
  refine r_iconst C dX9_byteOf_1 (v := 0) (by decide) ?_
  obtain ⟨h35, e36, hf⟩ := hp_bind hf
  refine r_putI C dX9_byteOf_2 fl_RX9_57 e36 ?_
  refine r_iload_n C dX9_byteOf_5 rfl 1 rfl ?_
  refine r_if_lt C dX9_byteOf_6 (tgt := 27) (by decide) (fun c37 => ?_) (fun c37 => ?_)
  · rw [if_pos c37] at hf
    refine r_aload_n C dX9_byteOf_27 rfl 0 rfl ?_
    refine r_iconst C dX9_byteOf_28 (v := 1) (by decide) ?_
    obtain ⟨_, e41, hf⟩ := hp_bind hf
    obtain ⟨g42, e41⟩ := hp_is_of e41
    obtain ⟨q38, h39, e40, hf⟩ := hp_cbe hf
    refine r_callV C dX9_byteOf_29 cs_RX9_64 rfl e41 (c_Mo_fail B e0 F a0 1 h35 _ e40) rfl rfl rfl ⟨by decide, by decide⟩ ⟨by decide, by decide⟩ (Nat.le_of_ble_eq_true rfl) rfl ?_
    exact r_ireturn C E dX9_byteOf_32 (by decide) (by decide) hf
  · rw [if_neg c37] at hf
    refine r_iload_n C dX9_byteOf_9 rfl 1 rfl ?_
    refine r_aload_n C dX9_byteOf_10 rfl 0 rfl ?_
    obtain ⟨v43, e44, hf⟩ := hp_bind hf
    refine r_getI C dX9_byteOf_11 fl_RX9_54 e44 ?_
    refine r_icmp_ge C dX9_byteOf_14 (tgt := 27) (by decide) (fun c45 => ?_) (fun c45 => ?_)
    · rw [if_pos c45] at hf
      refine r_aload_n C dX9_byteOf_27 rfl 0 rfl ?_
      refine r_iconst C dX9_byteOf_28 (v := 1) (by decide) ?_
      obtain ⟨_, e49, hf⟩ := hp_bind hf
      obtain ⟨g50, e49⟩ := hp_is_of e49
      obtain ⟨q46, h47, e48, hf⟩ := hp_cbe hf
      refine r_callV C dX9_byteOf_29 cs_RX9_64 rfl e49 (c_Mo_fail B e0 F a0 1 h35 _ e48) rfl rfl rfl ⟨by decide, by decide⟩ ⟨by decide, by decide⟩ (Nat.le_of_ble_eq_true rfl) rfl ?_
      exact r_ireturn C E dX9_byteOf_32 (by decide) (by decide) hf
    · rw [if_neg c45] at hf
      refine r_iload_n C dX9_byteOf_17 rfl 2 rfl ?_
      refine r_if_lt C dX9_byteOf_18 (tgt := 27) (by decide) (fun c51 => ?_) (fun c51 => ?_)
      · rw [if_pos c51] at hf
        refine r_aload_n C dX9_byteOf_27 rfl 0 rfl ?_
        refine r_iconst C dX9_byteOf_28 (v := 1) (by decide) ?_
        obtain ⟨_, e55, hf⟩ := hp_bind hf
        obtain ⟨g56, e55⟩ := hp_is_of e55
        obtain ⟨q52, h53, e54, hf⟩ := hp_cbe hf
        refine r_callV C dX9_byteOf_29 cs_RX9_64 rfl e55 (c_Mo_fail B e0 F a0 1 h35 _ e54) rfl rfl rfl ⟨by decide, by decide⟩ ⟨by decide, by decide⟩ (Nat.le_of_ble_eq_true rfl) rfl ?_
        exact r_ireturn C E dX9_byteOf_32 (by decide) (by decide) hf
      · rw [if_neg c51] at hf
        refine r_iload_n C dX9_byteOf_21 rfl 2 rfl ?_
        refine r_bipush C dX9_byteOf_22 (v := 15) (by decide) ?_
        refine r_icmp_le C dX9_byteOf_24 (tgt := 33) (by decide) (fun c57 => ?_) (fun c57 => ?_)
        · rw [if_pos c57] at hf
          refine r_iconst C dX9_byteOf_33 (v := 0) (by decide) ?_
          refine r_istore_n (lv' := [(3, .int 0), (0, .ref (hh_ad B e0 a0)), (1, .int x1), (2, .int x2)]) C dX9_byteOf_34 rfl (by decide) rfl ?_
          refine hh_pick [1, 2, 3, 0] rfl ?_
          exact wl_Mo_byteOf_35 C E F F a0 x1 x2 0 h35 hf
        · rw [if_neg c57] at hf
          refine r_aload_n C dX9_byteOf_27 rfl 0 rfl ?_
          refine r_iconst C dX9_byteOf_28 (v := 1) (by decide) ?_
          obtain ⟨_, e61, hf⟩ := hp_bind hf
          obtain ⟨g62, e61⟩ := hp_is_of e61
          obtain ⟨q58, h59, e60, hf⟩ := hp_cbe hf
          refine r_callV C dX9_byteOf_29 cs_RX9_64 rfl e61 (c_Mo_fail B e0 F a0 1 h35 _ e60) rfl rfl rfl ⟨by decide, by decide⟩ ⟨by decide, by decide⟩ (Nat.le_of_ble_eq_true rfl) rfl ?_
          exact r_ireturn C E dX9_byteOf_32 (by decide) (by decide) hf
theorem c_Mo_byteOf (B e0 F : Nat) (a0 : Nat) (x1 : Int32) (x2 : Int32) (h : hh_H) (rr : Int32 × hh_H) (hf : f_Mo_byteOf F a0 x1 x2 h = some rr) : hh_Met yX9_byteOf cX9_byteOf 5 (some .int) rm_Mo_byteOf mc_Mo_byteOf ms_Mo_byteOf B e0 [.ref (hh_ad B e0 a0), .int x1, .int x2] h (.returned (some (.int rr.1))) rr.2 :=
  hh_met (by decide) (Nat.le_of_ble_eq_true rfl) fun X C E => hh_pick [0, 1, 2] rfl (w_Mo_byteOf C E F a0 x1 x2 h hf)
def mc_Mo_run : Nat := 0
def ms_Mo_run : Nat := 0
def rm_Mo_run : Room := { frames := 3, cells := 0, slots := 0, locals := 75 }
abbrev ok_Mo_run (X : hh_X) (B e0 : Nat) : Prop := hh_ok X B e0 cX9_run RX9 4 (some .int) "run" rm_Mo_run
set_option maxRecDepth 100000 in
set_option maxHeartbeats 4000000 in
theorem w_Mo_run_86 {X : hh_X} {B e0 : Nat} {rr : Int32 × hh_H} (C : ok_Mo_run X B e0) (E : hh_End X B e0 (.returned (some (.int rr.1))) rr.2 mc_Mo_run ms_Mo_run) (F : Nat) (r86 : Nat → Int32 → Int32 → hh_H → Option (Int32 × hh_H)) (H86 : ∀ (a0 : Nat) (x1 : Int32) (x3 : Int32) (h : hh_H), r86 a0 x1 x3 h = some rr → hh_W X 0 0 86 [(0, .ref (hh_ad B e0 a0)), (1, .int x1), (3, .int x3)] [] h) (a0 : Nat) (x1 : Int32) (x3 : Int32) (h : hh_H)
    (hf : f_Mo_run_86 F r86 a0 x1 x3 h = some rr) : hh_W X 0 0 86 [(0, .ref (hh_ad B e0 a0)), (1, .int x1), (3, .int x3)] [] h := by
  unfold f_Mo_run_86 at hf
  refine r_iload_n C dX9_run_86 rfl 2 rfl ?_
  refine r_aload_n C dX9_run_87 rfl 0 rfl ?_
  obtain ⟨v1, e2, hf⟩ := hp_bind hf
  refine r_getI C dX9_run_88 fl_RX9_54 e2 ?_
  refine r_icmp_ge C dX9_run_91 (tgt := 115) (by decide) (fun c3 => ?_) (fun c3 => ?_)
  · rw [if_pos c3] at hf
    refine r_iconst C dX9_run_115 (v := (-1)) (by decide) ?_
    exact r_ireturn C E dX9_run_116 (by decide) (by decide) hf
  · rw [if_neg c3] at hf
    refine r_aload_n C dX9_run_94 rfl 0 rfl ?_
    obtain ⟨v4, e5, hf⟩ := hp_bind hf
    refine r_getA C dX9_run_95 fl_RX9_26 e5 ?_
    refine r_iload_n C dX9_run_98 rfl 1 rfl ?_
    obtain ⟨v6, e7, hf⟩ := hp_bind hf
    refine r_aj C dX9_run_99 e7 ?_
    refine r_iload_n C dX9_run_100 rfl 2 rfl ?_
    obtain ⟨q8, h9, e10, hf⟩ := hp_cbe hf
    refine r_callS C dX9_run_101 cs_RX9_89 (c_Mo_in B e0 F v6 x3 h _ e10) rfl rfl rfl ⟨by decide, by decide⟩ ⟨by decide, by decide⟩ (Nat.le_of_ble_eq_true rfl) rfl ?_
    refine r_if_eq C dX9_run_104 (tgt := 109) (by decide) (fun c11 => ?_) (fun c11 => ?_)
    · rw [if_pos c11] at hf
      refine r_iinc (lv' := [(3, .int (x3 + 1)), (0, .ref (hh_ad B e0 a0)), (1, .int x1)]) C dX9_run_109 2 rfl rfl (by decide) rfl ?_
      refine r_goto C dX9_run_112 (tgt := 86) (by decide) ?_
      refine hh_pick [1, 2, 0] rfl ?_
      exact H86 a0 x1 (x3 + 1) h9 hf
    · rw [if_neg c11] at hf
      refine r_iload_n C dX9_run_107 rfl 2 rfl ?_
      exact r_ireturn C E dX9_run_108 (by decide) (by decide) hf
theorem wl_Mo_run_86 {X : hh_X} {B e0 : Nat} {rr : Int32 × hh_H} (C : ok_Mo_run X B e0) (E : hh_End X B e0 (.returned (some (.int rr.1))) rr.2 mc_Mo_run ms_Mo_run) (F : Nat) :
    ∀ (n : Nat) (a0 : Nat) (x1 : Int32) (x3 : Int32) (h : hh_H), hp_it (fun _ _ _ _ => none) (f_Mo_run_86 F) n a0 x1 x3 h = some rr → hh_W X 0 0 86 [(0, .ref (hh_ad B e0 a0)), (1, .int x1), (3, .int x3)] [] h := by
  intro n
  induction n with
  | zero => intro a0 x1 x3 h hf; cases hf
  | succ n ih =>
    intro a0 x1 x3 h hf
    exact w_Mo_run_86 C E F _ ih a0 x1 x3 h hf
set_option maxRecDepth 100000 in
set_option maxHeartbeats 4000000 in
theorem w_Mo_run {X : hh_X} {B e0 : Nat} {rr : Int32 × hh_H} (C : ok_Mo_run X B e0) (E : hh_End X B e0 (.returned (some (.int rr.1))) rr.2 mc_Mo_run ms_Mo_run) (F : Nat) (a0 : Nat) (x1 : Int32) (x2 : Int32) (h : hh_H)
    (hf : f_Mo_run F a0 x1 x2 h = some rr) : hh_W X 0 0 0 [(0, .ref (hh_ad B e0 a0)), (1, .int x1), (2, .int x2)] [] h := by
  unfold f_Mo_run at hf
  refine r_aload_n C dX9_run_0 rfl 0 rfl ?_
  refine r_iconst C dX9_run_1 (v := 0) (by decide) ?_
  obtain ⟨h12, e13, hf⟩ := hp_bind hf
  refine r_putI C dX9_run_2 fl_RX9_57 e13 ?_
  refine r_iload_n C dX9_run_5 rfl 1 rfl ?_
  refine r_if_lt C dX9_run_6 (tgt := 17) (by decide) (fun c14 => ?_) (fun c14 => ?_)
  · rw [if_pos c14] at hf
    refine r_aload_n C dX9_run_17 rfl 0 rfl ?_
    refine r_iconst C dX9_run_18 (v := 1) (by decide) ?_
    obtain ⟨_, e18, hf⟩ := hp_bind hf
    obtain ⟨g19, e18⟩ := hp_is_of e18
    obtain ⟨q15, h16, e17, hf⟩ := hp_cbe hf
    refine r_callV C dX9_run_19 cs_RX9_64 rfl e18 (c_Mo_fail B e0 F a0 1 h12 _ e17) rfl rfl rfl ⟨by decide, by decide⟩ ⟨by decide, by decide⟩ (Nat.le_of_ble_eq_true rfl) rfl ?_
    exact r_ireturn C E dX9_run_22 (by decide) (by decide) hf
  · rw [if_neg c14] at hf
    refine r_iload_n C dX9_run_9 rfl 1 rfl ?_
    refine r_aload_n C dX9_run_10 rfl 0 rfl ?_
    obtain ⟨v20, e21, hf⟩ := hp_bind hf
    refine r_getI C dX9_run_11 fl_RX9_125 e21 ?_
    refine r_icmp_lt C dX9_run_14 (tgt := 23) (by decide) (fun c22 => ?_) (fun c22 => ?_)
    · rw [if_pos c22] at hf
      refine r_iload_n C dX9_run_23 rfl 2 rfl ?_
      refine r_if_lt C dX9_run_24 (tgt := 32) (by decide) (fun c23 => ?_) (fun c23 => ?_)
      · rw [if_pos c23] at hf
        refine r_aload_n C dX9_run_32 rfl 0 rfl ?_
        refine r_iconst C dX9_run_33 (v := 2) (by decide) ?_
        obtain ⟨_, e27, hf⟩ := hp_bind hf
        obtain ⟨g28, e27⟩ := hp_is_of e27
        obtain ⟨q24, h25, e26, hf⟩ := hp_cbe hf
        refine r_callV C dX9_run_34 cs_RX9_64 rfl e27 (c_Mo_fail B e0 F a0 2 h12 _ e26) rfl rfl rfl ⟨by decide, by decide⟩ ⟨by decide, by decide⟩ (Nat.le_of_ble_eq_true rfl) rfl ?_
        exact r_ireturn C E dX9_run_37 (by decide) (by decide) hf
      · rw [if_neg c23] at hf
        refine r_iload_n C dX9_run_27 rfl 2 rfl ?_
        refine r_iconst C dX9_run_28 (v := 3) (by decide) ?_
        refine r_icmp_le C dX9_run_29 (tgt := 38) (by decide) (fun c29 => ?_) (fun c29 => ?_)
        · rw [if_pos c29] at hf
          refine r_iload_n C dX9_run_38 rfl 2 rfl ?_
          refine r_if_ne C dX9_run_39 (tgt := 49) (by decide) (fun c30 => ?_) (fun c30 => ?_)
          · rw [if_neg c30] at hf
            refine r_iload_n C dX9_run_49 rfl 2 rfl ?_
            refine r_iconst C dX9_run_50 (v := 1) (by decide) ?_
            refine r_icmp_ne C dX9_run_51 (tgt := 64) (by decide) (fun c31 => ?_) (fun c31 => ?_)
            · rw [if_neg c31] at hf
              refine r_iload_n C dX9_run_64 rfl 2 rfl ?_
              refine r_iconst C dX9_run_65 (v := 3) (by decide) ?_
              refine r_icmp_ne C dX9_run_66 (tgt := 84) (by decide) (fun c32 => ?_) (fun c32 => ?_)
              · rw [if_neg c32] at hf
                refine r_iconst C dX9_run_84 (v := 0) (by decide) ?_
                refine r_istore_n (lv' := [(3, .int 0), (0, .ref (hh_ad B e0 a0)), (1, .int x1), (2, .int x2)]) C dX9_run_85 rfl (by decide) rfl ?_
                refine hh_pick [1, 2, 0] rfl ?_
                exact wl_Mo_run_86 C E F F a0 x1 0 h12 hf
              · rw [if_pos c32] at hf
                refine r_aload_n C dX9_run_69 rfl 0 rfl ?_
                refine r_aload_n C dX9_run_70 rfl 0 rfl ?_
                obtain ⟨v33, e34, hf⟩ := hp_bind hf
                refine r_getA C dX9_run_71 fl_RX9_22 e34 ?_
                refine r_iload_n C dX9_run_74 rfl 1 rfl ?_
                obtain ⟨v35, e36, hf⟩ := hp_bind hf
                refine r_aj C dX9_run_75 e36 ?_
                obtain ⟨_, e40, hf⟩ := hp_bind hf
                obtain ⟨g41, e40⟩ := hp_is_of e40
                obtain ⟨q37, h38, e39, hf⟩ := hp_cbe hf
                refine r_callV C dX9_run_76 cs_RX9_114 rfl e40 (c_Mo_encode B e0 F a0 v35 h12 _ e39) rfl rfl rfl ⟨by decide, by decide⟩ ⟨by decide, by decide⟩ (Nat.le_of_ble_eq_true rfl) rfl ?_
                refine r_aload_n C dX9_run_79 rfl 0 rfl ?_
                obtain ⟨v42, e43, hf⟩ := hp_bind hf
                refine r_getI C dX9_run_80 fl_RX9_97 e43 ?_
                exact r_ireturn C E dX9_run_83 (by decide) (by decide) hf
            · rw [if_pos c31] at hf
              refine r_aload_n C dX9_run_54 rfl 0 rfl ?_
              obtain ⟨v44, e45, hf⟩ := hp_bind hf
              refine r_getA C dX9_run_55 fl_RX9_26 e45 ?_
              refine r_iload_n C dX9_run_58 rfl 1 rfl ?_
              obtain ⟨v46, e47, hf⟩ := hp_bind hf
              refine r_aj C dX9_run_59 e47 ?_
              obtain ⟨q48, h49, e50, hf⟩ := hp_cbe hf
              refine r_callS C dX9_run_60 cs_RX9_93 (c_Mo_bits B e0 F v46 h12 _ e50) rfl rfl rfl ⟨by decide, by decide⟩ ⟨by decide, by decide⟩ (Nat.le_of_ble_eq_true rfl) rfl ?_
              exact r_ireturn C E dX9_run_63 (by decide) (by decide) hf
          · rw [if_pos c30] at hf
            refine r_aload_n C dX9_run_42 rfl 0 rfl ?_
            obtain ⟨v51, e52, hf⟩ := hp_bind hf
            refine r_getA C dX9_run_43 fl_RX9_29 e52 ?_
            refine r_iload_n C dX9_run_46 rfl 1 rfl ?_
            obtain ⟨v53, e54, hf⟩ := hp_bind hf
            refine r_ai C dX9_run_47 e54 ?_
            exact r_ireturn C E dX9_run_48 (by decide) (by decide) hf
        · rw [if_neg c29] at hf
          refine r_aload_n C dX9_run_32 rfl 0 rfl ?_
          refine r_iconst C dX9_run_33 (v := 2) (by decide) ?_
          obtain ⟨_, e58, hf⟩ := hp_bind hf
          obtain ⟨g59, e58⟩ := hp_is_of e58
          obtain ⟨q55, h56, e57, hf⟩ := hp_cbe hf
          refine r_callV C dX9_run_34 cs_RX9_64 rfl e58 (c_Mo_fail B e0 F a0 2 h12 _ e57) rfl rfl rfl ⟨by decide, by decide⟩ ⟨by decide, by decide⟩ (Nat.le_of_ble_eq_true rfl) rfl ?_
          exact r_ireturn C E dX9_run_37 (by decide) (by decide) hf
    · rw [if_neg c22] at hf
      refine r_aload_n C dX9_run_17 rfl 0 rfl ?_
      refine r_iconst C dX9_run_18 (v := 1) (by decide) ?_
      obtain ⟨_, e63, hf⟩ := hp_bind hf
      obtain ⟨g64, e63⟩ := hp_is_of e63
      obtain ⟨q60, h61, e62, hf⟩ := hp_cbe hf
      refine r_callV C dX9_run_19 cs_RX9_64 rfl e63 (c_Mo_fail B e0 F a0 1 h12 _ e62) rfl rfl rfl ⟨by decide, by decide⟩ ⟨by decide, by decide⟩ (Nat.le_of_ble_eq_true rfl) rfl ?_
      exact r_ireturn C E dX9_run_22 (by decide) (by decide) hf
theorem c_Mo_run (B e0 F : Nat) (a0 : Nat) (x1 : Int32) (x2 : Int32) (h : hh_H) (rr : Int32 × hh_H) (hf : f_Mo_run F a0 x1 x2 h = some rr) : hh_Met yX9_run cX9_run 4 (some .int) rm_Mo_run mc_Mo_run ms_Mo_run B e0 [.ref (hh_ad B e0 a0), .int x1, .int x2] h (.returned (some (.int rr.1))) rr.2 :=
  hh_met (by decide) (Nat.le_of_ble_eq_true rfl) fun X C E => hh_pick [0, 1, 2] rfl (w_Mo_run C E F a0 x1 x2 h hf)
def mc_Mo_count : Nat := 0
def ms_Mo_count : Nat := 0
def rm_Mo_count : Room := { frames := 1, cells := 0, slots := 0, locals := 23 }
abbrev ok_Mo_count (X : hh_X) (B e0 : Nat) : Prop := hh_ok X B e0 cX9_count RX9 2 (some .int) "count" rm_Mo_count
set_option maxRecDepth 100000 in
set_option maxHeartbeats 4000000 in
theorem w_Mo_count {X : hh_X} {B e0 : Nat} {rr : Int32 × hh_H} (C : ok_Mo_count X B e0) (E : hh_End X B e0 (.returned (some (.int rr.1))) rr.2 mc_Mo_count ms_Mo_count) (F : Nat) (a0 : Nat) (x1 : Int32) (h : hh_H)
    (hf : f_Mo_count F a0 x1 h = some rr) : hh_W X 0 0 0 [(0, .ref (hh_ad B e0 a0)), (1, .int x1)] [] h := by
  unfold f_Mo_count at hf
  refine r_aload_n C dX9_count_0 rfl 0 rfl ?_
  refine r_iconst C dX9_count_1 (v := 0) (by decide) ?_
  obtain ⟨h1, e2, hf⟩ := hp_bind hf
  refine r_putI C dX9_count_2 fl_RX9_57 e2 ?_
  refine r_iload_n C dX9_count_5 rfl 1 rfl ?_
  by_cases c3 : x1 = 0
  · rw [if_pos c3] at hf
    refine r_tsIn C dX9_count_6 c3 (tgt := 60) (by decide) (by decide) rfl (by decide) ?_
    refine r_aload_n C dX9_count_60 rfl 0 rfl ?_
    obtain ⟨v4, e5, hf⟩ := hp_bind hf
    refine r_getI C dX9_count_61 fl_RX9_74 e5 ?_
    exact r_ireturn C E dX9_count_64 (by decide) (by decide) hf
  rw [if_neg c3] at hf
  by_cases c6 : x1 = 1
  · rw [if_pos c6] at hf
    refine r_tsIn C dX9_count_6 c6 (tgt := 65) (by decide) (by decide) rfl (by decide) ?_
    refine r_aload_n C dX9_count_65 rfl 0 rfl ?_
    obtain ⟨v7, e8, hf⟩ := hp_bind hf
    refine r_getI C dX9_count_66 fl_RX9_74 e8 ?_
    refine r_aload_n C dX9_count_69 rfl 0 rfl ?_
    obtain ⟨v9, e10, hf⟩ := hp_bind hf
    refine r_getJ C dX9_count_70 fl_RX9_85 e10 ?_
    obtain ⟨q11, h12, e13, hf⟩ := hp_cbe hf
    refine r_callS C dX9_count_73 cs_RX9_93 (c_Mo_bits B e0 F v9 h1 _ e13) rfl rfl rfl ⟨by decide, by decide⟩ ⟨by decide, by decide⟩ (Nat.le_of_ble_eq_true rfl) rfl ?_
    refine r_isub C dX9_count_76 ?_
    exact r_ireturn C E dX9_count_77 (by decide) (by decide) hf
  rw [if_neg c6] at hf
  by_cases c14 : x1 = 2
  · rw [if_pos c14] at hf
    refine r_tsIn C dX9_count_6 c14 (tgt := 78) (by decide) (by decide) rfl (by decide) ?_
    refine r_aload_n C dX9_count_78 rfl 0 rfl ?_
    obtain ⟨_, e18, hf⟩ := hp_bind hf
    obtain ⟨g19, e18⟩ := hp_is_of e18
    obtain ⟨q15, h16, e17, hf⟩ := hp_cbe hf
    refine r_callV C dX9_count_79 cs_RX9_77 rfl e18 (c_Mo_buffered B e0 F a0 h1 _ e17) rfl rfl rfl ⟨by decide, by decide⟩ ⟨by decide, by decide⟩ (Nat.le_of_ble_eq_true rfl) rfl ?_
    exact r_ireturn C E dX9_count_82 (by decide) (by decide) hf
  rw [if_neg c14] at hf
  by_cases c20 : x1 = 3
  · rw [if_pos c20] at hf
    refine r_tsIn C dX9_count_6 c20 (tgt := 83) (by decide) (by decide) rfl (by decide) ?_
    refine r_aload_n C dX9_count_83 rfl 0 rfl ?_
    obtain ⟨v21, e22, hf⟩ := hp_bind hf
    refine r_getI C dX9_count_84 fl_RX9_125 e22 ?_
    exact r_ireturn C E dX9_count_87 (by decide) (by decide) hf
  rw [if_neg c20] at hf
  by_cases c23 : x1 = 4
  · rw [if_pos c23] at hf
    refine r_tsIn C dX9_count_6 c23 (tgt := 88) (by decide) (by decide) rfl (by decide) ?_
    refine r_aload_n C dX9_count_88 rfl 0 rfl ?_
    obtain ⟨v24, e25, hf⟩ := hp_bind hf
    refine r_getI C dX9_count_89 fl_RX9_54 e25 ?_
    refine r_aload_n C dX9_count_92 rfl 0 rfl ?_
    obtain ⟨v26, e27, hf⟩ := hp_bind hf
    refine r_getJ C dX9_count_93 fl_RX9_118 e27 ?_
    obtain ⟨q28, h29, e30, hf⟩ := hp_cbe hf
    refine r_callS C dX9_count_96 cs_RX9_93 (c_Mo_bits B e0 F v26 h1 _ e30) rfl rfl rfl ⟨by decide, by decide⟩ ⟨by decide, by decide⟩ (Nat.le_of_ble_eq_true rfl) rfl ?_
    refine r_isub C dX9_count_99 ?_
    exact r_ireturn C E dX9_count_100 (by decide) (by decide) hf
  rw [if_neg c23] at hf
  by_cases c31 : x1 = 5
  · rw [if_pos c31] at hf
    refine r_tsIn C dX9_count_6 c31 (tgt := 101) (by decide) (by decide) rfl (by decide) ?_
    refine r_aload_n C dX9_count_101 rfl 0 rfl ?_
    obtain ⟨v32, e33, hf⟩ := hp_bind hf
    refine r_getI C dX9_count_102 fl_RX9_137 e33 ?_
    exact r_ireturn C E dX9_count_105 (by decide) (by decide) hf
  rw [if_neg c31] at hf
  by_cases c34 : x1 = 6
  · rw [if_pos c34] at hf
    refine r_tsIn C dX9_count_6 c34 (tgt := 106) (by decide) (by decide) rfl (by decide) ?_
    refine r_aload_n C dX9_count_106 rfl 0 rfl ?_
    obtain ⟨v35, e36, hf⟩ := hp_bind hf
    refine r_getI C dX9_count_107 fl_RX9_128 e36 ?_
    exact r_ireturn C E dX9_count_110 (by decide) (by decide) hf
  rw [if_neg c34] at hf
  by_cases c37 : x1 = 7
  · rw [if_pos c37] at hf
    refine r_tsIn C dX9_count_6 c37 (tgt := 111) (by decide) (by decide) rfl (by decide) ?_
    refine r_aload_n C dX9_count_111 rfl 0 rfl ?_
    obtain ⟨v38, e39, hf⟩ := hp_bind hf
    refine r_getI C dX9_count_112 fl_RX9_145 e39 ?_
    exact r_ireturn C E dX9_count_115 (by decide) (by decide) hf
  rw [if_neg c37] at hf
  by_cases c40 : x1 = 8
  · rw [if_pos c40] at hf
    refine r_tsIn C dX9_count_6 c40 (tgt := 116) (by decide) (by decide) rfl (by decide) ?_
    refine r_aload_n C dX9_count_116 rfl 0 rfl ?_
    obtain ⟨v41, e42, hf⟩ := hp_bind hf
    refine r_getI C dX9_count_117 fl_RX9_142 e42 ?_
    exact r_ireturn C E dX9_count_120 (by decide) (by decide) hf
  rw [if_neg c40] at hf
  by_cases c43 : x1 = 9
  · rw [if_pos c43] at hf
    refine r_tsIn C dX9_count_6 c43 (tgt := 121) (by decide) (by decide) rfl (by decide) ?_
    refine r_aload_n C dX9_count_121 rfl 0 rfl ?_
    obtain ⟨v44, e45, hf⟩ := hp_bind hf
    refine r_getI C dX9_count_122 fl_RX9_68 e45 ?_
    exact r_ireturn C E dX9_count_125 (by decide) (by decide) hf
  rw [if_neg c43] at hf
  refine r_tsOut C dX9_count_6 (tgt := 126) (by have qc3 := lv_neT c3 (a := 0) (by decide); have qc6 := lv_neT c6 (a := 1) (by decide); have qc14 := lv_neT c14 (a := 2) (by decide); have qc20 := lv_neT c20 (a := 3) (by decide); have qc23 := lv_neT c23 (a := 4) (by decide); have qc31 := lv_neT c31 (a := 5) (by decide); have qc34 := lv_neT c34 (a := 6) (by decide); have qc37 := lv_neT c37 (a := 7) (by decide); have qc40 := lv_neT c40 (a := 8) (by decide); have qc43 := lv_neT c43 (a := 9) (by decide); omega) (by decide) ?_
  refine r_iconst C dX9_count_126 (v := (-1)) (by decide) ?_
  exact r_ireturn C E dX9_count_127 (by decide) (by decide) hf
theorem c_Mo_count (B e0 F : Nat) (a0 : Nat) (x1 : Int32) (h : hh_H) (rr : Int32 × hh_H) (hf : f_Mo_count F a0 x1 h = some rr) : hh_Met yX9_count cX9_count 2 (some .int) rm_Mo_count mc_Mo_count ms_Mo_count B e0 [.ref (hh_ad B e0 a0), .int x1] h (.returned (some (.int rr.1))) rr.2 :=
  hh_met (by decide) (Nat.le_of_ble_eq_true rfl) fun X C E => hh_pick [0, 1] rfl (w_Mo_count C E F a0 x1 h hf)
def mc_Mo_init : Nat := 10
def ms_Mo_init : Nat := 9121
def rm_Mo_init : Room := { frames := 1, cells := 10, slots := 9121, locals := 22 }
abbrev ok_Mo_init (X : hh_X) (B e0 : Nat) : Prop := hh_ok X B e0 cX9_init RX9 4 none "<init>" rm_Mo_init
set_option maxRecDepth 100000 in
set_option maxHeartbeats 4000000 in
theorem w_Mo_init {X : hh_X} {B e0 : Nat} {rr : Unit × hh_H} (C : ok_Mo_init X B e0) (E : hh_End X B e0 (.returned none) rr.2 mc_Mo_init ms_Mo_init) (F : Nat) (a0 : Nat) (x1 : Int32) (x2 : Int32) (x3 : Int32) (h : hh_H)
    (hf : f_Mo_init F a0 x1 x2 x3 h = some rr) : hh_W X 0 0 0 [(0, .ref (hh_ad B e0 a0)), (1, .int x1), (2, .int x2), (3, .int x3)] [] h := by
  unfold f_Mo_init at hf
  refine r_aload_n C dX9_init_0 rfl 0 rfl ?_
  refine r_objInit C dX9_init_1 oi_RX9_1 oi_inst oi_code (by decide) (Nat.le_of_ble_eq_true rfl) ?_
  refine r_aload_n C dX9_init_4 rfl 0 rfl ?_
  refine r_bipush C dX9_init_5 (v := 20) (by decide) ?_
  obtain ⟨b1, h3, e2, hf⟩ := hp_cbe hf
  refine r_na_int (bd := 20) C dX9_init_7 (by decide) (by decide) (by decide) e2 ?_
  obtain ⟨h4, e5, hf⟩ := hp_bind hf
  refine r_putAF C dX9_init_9 fl_RX9_7 rfl (fun _ _ _ q => by cases q; rfl) (fun _ => ⟨rfl, rfl⟩) e5 ?_
  refine r_aload_n C dX9_init_12 rfl 0 rfl ?_
  refine r_sipush C dX9_init_13 (v := 800) (by decide) ?_
  obtain ⟨b6, h8, e7, hf⟩ := hp_cbe hf
  refine r_na_int (bd := 800) C dX9_init_16 (by decide) (by decide) (by decide) e7 ?_
  obtain ⟨h9, e10, hf⟩ := hp_bind hf
  refine r_putAF C dX9_init_18 fl_RX9_13 rfl (fun _ _ _ q => by cases q; rfl) (fun _ => ⟨rfl, rfl⟩) e10 ?_
  refine r_aload_n C dX9_init_21 rfl 0 rfl ?_
  refine r_bipush C dX9_init_22 (v := 40) (by decide) ?_
  obtain ⟨b11, h13, e12, hf⟩ := hp_cbe hf
  refine r_na_int (bd := 40) C dX9_init_24 (by decide) (by decide) (by decide) e12 ?_
  obtain ⟨h14, e15, hf⟩ := hp_bind hf
  refine r_putAF C dX9_init_26 fl_RX9_16 rfl (fun _ _ _ q => by cases q; rfl) (fun _ => ⟨rfl, rfl⟩) e15 ?_
  refine r_aload_n C dX9_init_29 rfl 0 rfl ?_
  refine r_sipush C dX9_init_30 (v := 4000) (by decide) ?_
  obtain ⟨b16, h18, e17, hf⟩ := hp_cbe hf
  refine r_na_int (bd := 4000) C dX9_init_33 (by decide) (by decide) (by decide) e17 ?_
  obtain ⟨h19, e20, hf⟩ := hp_bind hf
  refine r_putAF C dX9_init_35 fl_RX9_19 rfl (fun _ _ _ q => by cases q; rfl) (fun _ => ⟨rfl, rfl⟩) e20 ?_
  refine r_aload_n C dX9_init_38 rfl 0 rfl ?_
  refine r_bipush C dX9_init_39 (v := 60) (by decide) ?_
  obtain ⟨b21, h23, e22, hf⟩ := hp_cbe hf
  refine r_na_long (bd := 60) C dX9_init_41 (by decide) (by decide) (by decide) e22 ?_
  obtain ⟨h24, e25, hf⟩ := hp_bind hf
  refine r_putAF C dX9_init_43 fl_RX9_22 rfl (fun _ _ _ q => by cases q; rfl) (fun _ => ⟨rfl, rfl⟩) e25 ?_
  refine r_aload_n C dX9_init_46 rfl 0 rfl ?_
  refine r_bipush C dX9_init_47 (v := 60) (by decide) ?_
  obtain ⟨b26, h28, e27, hf⟩ := hp_cbe hf
  refine r_na_long (bd := 60) C dX9_init_49 (by decide) (by decide) (by decide) e27 ?_
  obtain ⟨h29, e30, hf⟩ := hp_bind hf
  refine r_putAF C dX9_init_51 fl_RX9_26 rfl (fun _ _ _ q => by cases q; rfl) (fun _ => ⟨rfl, rfl⟩) e30 ?_
  refine r_aload_n C dX9_init_54 rfl 0 rfl ?_
  refine r_bipush C dX9_init_55 (v := 60) (by decide) ?_
  obtain ⟨b31, h33, e32, hf⟩ := hp_cbe hf
  refine r_na_int (bd := 60) C dX9_init_57 (by decide) (by decide) (by decide) e32 ?_
  obtain ⟨h34, e35, hf⟩ := hp_bind hf
  refine r_putAF C dX9_init_59 fl_RX9_29 rfl (fun _ _ _ q => by cases q; rfl) (fun _ => ⟨rfl, rfl⟩) e35 ?_
  refine r_aload_n C dX9_init_62 rfl 0 rfl ?_
  refine r_bipush C dX9_init_63 (v := 40) (by decide) ?_
  obtain ⟨b36, h38, e37, hf⟩ := hp_cbe hf
  refine r_na_int (bd := 40) C dX9_init_65 (by decide) (by decide) (by decide) e37 ?_
  obtain ⟨h39, e40, hf⟩ := hp_bind hf
  refine r_putAF C dX9_init_67 fl_RX9_32 rfl (fun _ _ _ q => by cases q; rfl) (fun _ => ⟨rfl, rfl⟩) e40 ?_
  refine r_aload_n C dX9_init_70 rfl 0 rfl ?_
  refine r_bipush C dX9_init_71 (v := 40) (by decide) ?_
  obtain ⟨b41, h43, e42, hf⟩ := hp_cbe hf
  refine r_na_double (bd := 40) C dX9_init_73 (by decide) (by decide) (by decide) e42 ?_
  obtain ⟨h44, e45, hf⟩ := hp_bind hf
  refine r_putAF C dX9_init_75 fl_RX9_35 rfl (fun _ _ _ q => by cases q; rfl) (fun _ => ⟨rfl, rfl⟩) e45 ?_
  refine r_aload_n C dX9_init_78 rfl 0 rfl ?_
  refine r_sipush C dX9_init_79 (v := 4001) (by decide) ?_
  obtain ⟨b46, h48, e47, hf⟩ := hp_cbe hf
  refine r_na_byte (bd := 4001) C dX9_init_82 (by decide) (by decide) (by decide) e47 ?_
  obtain ⟨h49, e50, hf⟩ := hp_bind hf
  refine r_putAF C dX9_init_84 fl_RX9_39 rfl (fun _ _ _ q => by cases q; rfl) (fun _ => ⟨rfl, rfl⟩) e50 ?_
  refine r_aload_n C dX9_init_87 rfl 0 rfl ?_
  refine r_iload_n C dX9_init_88 rfl 1 rfl ?_
  refine r_bipush C dX9_init_89 (v := 20) (by decide) ?_
  refine r_bipush C dX9_init_91 (v := 48) (by decide) ?_
  obtain ⟨q51, h52, e53, hf⟩ := hp_cbe hf
  refine r_callS C dX9_init_93 cs_RX9_43 (c_Mo_clamp B e0 F x1 20 48 h49 _ e53) rfl rfl rfl ⟨by decide, by decide⟩ ⟨by decide, by decide⟩ (Nat.le_of_ble_eq_true rfl) rfl ?_
  obtain ⟨h54, e55, hf⟩ := hp_bind hf
  refine r_putIF C dX9_init_96 fl_RX9_47 rfl (fun _ _ _ q => by cases q; rfl) e55 ?_
  refine r_aload_n C dX9_init_99 rfl 0 rfl ?_
  refine r_iload_n C dX9_init_100 rfl 2 rfl ?_
  refine r_iconst C dX9_init_101 (v := 2) (by decide) ?_
  refine r_iconst C dX9_init_102 (v := 4) (by decide) ?_
  obtain ⟨q56, h57, e58, hf⟩ := hp_cbe hf
  refine r_callS C dX9_init_103 cs_RX9_43 (c_Mo_clamp B e0 F x2 2 4 h54 _ e58) rfl rfl rfl ⟨by decide, by decide⟩ ⟨by decide, by decide⟩ (Nat.le_of_ble_eq_true rfl) rfl ?_
  obtain ⟨h59, e60, hf⟩ := hp_bind hf
  refine r_putIF C dX9_init_106 fl_RX9_51 rfl (fun _ _ _ q => by cases q; rfl) e60 ?_
  refine r_aload_n C dX9_init_109 rfl 0 rfl ?_
  refine r_iload_n C dX9_init_110 rfl 3 rfl ?_
  refine r_bipush C dX9_init_111 (v := 8) (by decide) ?_
  refine r_bipush C dX9_init_113 (v := 60) (by decide) ?_
  obtain ⟨q61, h62, e63, hf⟩ := hp_cbe hf
  refine r_callS C dX9_init_115 cs_RX9_43 (c_Mo_clamp B e0 F x3 8 60 h59 _ e63) rfl rfl rfl ⟨by decide, by decide⟩ ⟨by decide, by decide⟩ (Nat.le_of_ble_eq_true rfl) rfl ?_
  obtain ⟨h64, e65, hf⟩ := hp_bind hf
  refine r_putIF C dX9_init_118 fl_RX9_54 rfl (fun _ _ _ q => by cases q; rfl) e65 ?_
  exact r_return C E dX9_init_121 (by decide) (by decide) hf
theorem c_Mo_init (B e0 F : Nat) (a0 : Nat) (x1 : Int32) (x2 : Int32) (x3 : Int32) (h : hh_H) (rr : Unit × hh_H) (hf : f_Mo_init F a0 x1 x2 x3 h = some rr) : hh_Met yX9_init cX9_init 4 none rm_Mo_init mc_Mo_init ms_Mo_init B e0 [.ref (hh_ad B e0 a0), .int x1, .int x2, .int x3] h (.returned none) rr.2 :=
  hh_met (by decide) (Nat.le_of_ble_eq_true rfl) fun X C E => hh_pick [0, 1, 2, 3] rfl (w_Mo_init C E F a0 x1 x2 x3 h hf)
def mc_Mo_flushing : Nat := 0
def ms_Mo_flushing : Nat := 0
def rm_Mo_flushing : Room := { frames := 5, cells := 0, slots := 0, locals := 133 }
abbrev ok_Mo_flushing (X : hh_X) (B e0 : Nat) : Prop := hh_ok X B e0 cX9_flushing RX9 5 (some .boolean) "flushing" rm_Mo_flushing
set_option maxRecDepth 100000 in
set_option maxHeartbeats 4000000 in
theorem w_Mo_flushing_149 {X : hh_X} {B e0 : Nat} {rr : Int32 × hh_H} (C : ok_Mo_flushing X B e0) (E : hh_End X B e0 (.returned (some (.int rr.1))) rr.2 mc_Mo_flushing ms_Mo_flushing) (F : Nat) (r149 : Nat → Int32 → hh_H → Option (Int32 × hh_H)) (H149 : ∀ (a0 : Nat) (x3 : Int32) (h : hh_H), r149 a0 x3 h = some rr → hh_W X 0 0 149 [(0, .ref (hh_ad B e0 a0)), (3, .int x3)] [] h) (a0 : Nat) (x3 : Int32) (h : hh_H)
    (hf : f_Mo_flushing_149 F r149 a0 x3 h = some rr) : hh_W X 0 0 149 [(0, .ref (hh_ad B e0 a0)), (3, .int x3)] [] h := by
  unfold f_Mo_flushing_149 at hf
  refine r_iload_n C dX9_flushing_149 rfl 1 rfl ?_
  refine r_bipush C dX9_flushing_150 (v := 64) (by decide) ?_
  refine r_icmp_ge C dX9_flushing_152 (tgt := 184) (by decide) (fun c1 => ?_) (fun c1 => ?_)
  · rw [if_pos c1] at hf
    refine r_iconst C dX9_flushing_184 (v := 1) (by decide) ?_
    exact r_ireturnz C E dX9_flushing_185 rfl (by decide) (by decide) hf
  · rw [if_neg c1] at hf
    refine r_aload_n C dX9_flushing_155 rfl 0 rfl ?_
    obtain ⟨_, e5, hf⟩ := hp_bind hf
    obtain ⟨g6, e5⟩ := hp_is_of e5
    obtain ⟨q2, h3, e4, hf⟩ := hp_cbe hf
    refine r_callV C dX9_flushing_156 cs_RX9_131 rfl e5 (c_Mo_full B e0 F a0 h _ e4) rfl rfl rfl ⟨by decide, by decide⟩ ⟨by decide, by decide⟩ (Nat.le_of_ble_eq_true rfl) rfl ?_
    refine r_istore (lv' := [(4, .int q2), (0, .ref (hh_ad B e0 a0)), (3, .int x3)]) C dX9_flushing_159 (by decide) rfl ?_
    refine r_iload C dX9_flushing_161 0 rfl ?_
    refine r_if_lt C dX9_flushing_163 (tgt := 184) (by decide) (fun c7 => ?_) (fun c7 => ?_)
    · rw [if_pos c7] at hf
      refine r_iconst C dX9_flushing_184 (v := 1) (by decide) ?_
      exact r_ireturnz C E dX9_flushing_185 rfl (by decide) (by decide) hf
    · rw [if_neg c7] at hf
      refine r_aload_n C dX9_flushing_166 rfl 1 rfl ?_
      refine r_iload C dX9_flushing_167 0 rfl ?_
      obtain ⟨_, e11, hf⟩ := hp_bind hf
      obtain ⟨g12, e11⟩ := hp_is_of e11
      obtain ⟨q8, h9, e10, hf⟩ := hp_cbe hf
      refine r_callV C dX9_flushing_169 cs_RX9_134 rfl e11 (c_Mo_merge B e0 F a0 q2 h3 _ e10) rfl rfl rfl ⟨by decide, by decide⟩ ⟨by decide, by decide⟩ (Nat.le_of_ble_eq_true rfl) rfl ?_
      refine r_if_ne C dX9_flushing_172 (tgt := 178) (by decide) (fun c13 => ?_) (fun c13 => ?_)
      · rw [if_neg c13] at hf
        refine r_iinc (lv' := [(3, .int (x3 + 1)), (4, .int q2), (0, .ref (hh_ad B e0 a0))]) C dX9_flushing_178 2 rfl rfl (by decide) rfl ?_
        refine r_goto C dX9_flushing_181 (tgt := 149) (by decide) ?_
        refine hh_pick [2, 0] rfl ?_
        exact H149 a0 (x3 + 1) h9 hf
      · rw [if_pos c13] at hf
        refine r_goto C dX9_flushing_175 (tgt := 184) (by decide) ?_
        refine r_iconst C dX9_flushing_184 (v := 1) (by decide) ?_
        exact r_ireturnz C E dX9_flushing_185 rfl (by decide) (by decide) hf
theorem wl_Mo_flushing_149 {X : hh_X} {B e0 : Nat} {rr : Int32 × hh_H} (C : ok_Mo_flushing X B e0) (E : hh_End X B e0 (.returned (some (.int rr.1))) rr.2 mc_Mo_flushing ms_Mo_flushing) (F : Nat) :
    ∀ (n : Nat) (a0 : Nat) (x3 : Int32) (h : hh_H), hp_it (fun _ _ _ => none) (f_Mo_flushing_149 F) n a0 x3 h = some rr → hh_W X 0 0 149 [(0, .ref (hh_ad B e0 a0)), (3, .int x3)] [] h := by
  intro n
  induction n with
  | zero => intro a0 x3 h hf; cases hf
  | succ n ih =>
    intro a0 x3 h hf
    exact w_Mo_flushing_149 C E F _ ih a0 x3 h hf
set_option maxRecDepth 100000 in
set_option maxHeartbeats 4000000 in
theorem w_Mo_flushing_139 {X : hh_X} {B e0 : Nat} {rr : Int32 × hh_H} (C : ok_Mo_flushing X B e0) (E : hh_End X B e0 (.returned (some (.int rr.1))) rr.2 mc_Mo_flushing ms_Mo_flushing) (F : Nat) (a0 : Nat) (h : hh_H)
    (hf : f_Mo_flushing_139 F a0 h = some rr) : hh_W X 0 0 139 [(0, .ref (hh_ad B e0 a0))] [] h := by
  unfold f_Mo_flushing_139 at hf
  refine r_aload_n C dX9_flushing_139 rfl 0 rfl ?_
  refine r_aload_n C dX9_flushing_140 rfl 0 rfl ?_
  obtain ⟨v14, e15, hf⟩ := hp_bind hf
  refine r_getI C dX9_flushing_141 fl_RX9_74 e15 ?_
  obtain ⟨h16, e17, hf⟩ := hp_bind hf
  refine r_putI C dX9_flushing_144 fl_RX9_71 e17 ?_
  refine r_iconst C dX9_flushing_147 (v := 0) (by decide) ?_
  refine r_istore_n (lv' := [(3, .int 0), (0, .ref (hh_ad B e0 a0))]) C dX9_flushing_148 rfl (by decide) rfl ?_
  refine hh_pick [1, 0] rfl ?_
  exact wl_Mo_flushing_149 C E F F a0 0 h16 hf
set_option maxRecDepth 100000 in
set_option maxHeartbeats 4000000 in
theorem w_Mo_flushing_56 {X : hh_X} {B e0 : Nat} {rr : Int32 × hh_H} (C : ok_Mo_flushing X B e0) (E : hh_End X B e0 (.returned (some (.int rr.1))) rr.2 mc_Mo_flushing ms_Mo_flushing) (F : Nat) (a0 : Nat) (z1 : Int64) (h : hh_H)
    (hf : f_Mo_flushing_56 F a0 z1 h = some rr) : hh_W X 0 0 56 [(0, .ref (hh_ad B e0 a0)), (1, .long z1)] [] h := by
  unfold f_Mo_flushing_56 at hf
  refine r_lload_n C dX9_flushing_56 rfl 1 rfl ?_
  refine r_lconst C dX9_flushing_57 (v := 0) (by decide) ?_
  refine r_lcmp C dX9_flushing_58 ?_
  refine r_if_eq C dX9_flushing_59 (tgt := 139) (by decide) (fun c18 => ?_) (fun c18 => ?_)
  · rw [if_pos c18] at hf
    refine hh_pick [0] rfl ?_
    exact w_Mo_flushing_139 C E F a0 h hf
  · rw [if_neg c18] at hf
    refine r_aload_n C dX9_flushing_62 rfl 0 rfl ?_
    refine r_lload_n C dX9_flushing_63 rfl 1 rfl ?_
    obtain ⟨_, e22, hf⟩ := hp_bind hf
    obtain ⟨g23, e22⟩ := hp_is_of e22
    obtain ⟨q19, h20, e21, hf⟩ := hp_cbe hf
    refine r_callV C dX9_flushing_64 cs_RX9_121 rfl e22 (c_Mo_room B e0 F a0 z1 h _ e21) rfl rfl rfl ⟨by decide, by decide⟩ ⟨by decide, by decide⟩ (Nat.le_of_ble_eq_true rfl) rfl ?_
    refine r_lstore_n (lv' := [(3, .long q19), (0, .ref (hh_ad B e0 a0)), (1, .long z1)]) C dX9_flushing_67 rfl (by decide) rfl ?_
    refine r_lload_n C dX9_flushing_68 rfl 0 rfl ?_
    refine r_lconst C dX9_flushing_69 (v := 0) (by decide) ?_
    refine r_lcmp C dX9_flushing_70 ?_
    refine r_if_ne C dX9_flushing_71 (tgt := 76) (by decide) (fun c24 => ?_) (fun c24 => ?_)
    · rw [if_neg c24] at hf
      refine r_aload_n C dX9_flushing_76 rfl 1 rfl ?_
      obtain ⟨v25, e26, hf⟩ := hp_bind hf
      refine r_getA C dX9_flushing_77 fl_RX9_22 e26 ?_
      refine r_aload_n C dX9_flushing_80 rfl 1 rfl ?_
      obtain ⟨v27, e28, hf⟩ := hp_bind hf
      refine r_getI C dX9_flushing_81 fl_RX9_125 e28 ?_
      refine r_lload_n C dX9_flushing_84 rfl 2 rfl ?_
      obtain ⟨h29, e30, hf⟩ := hp_bind hf
      refine r_sj C dX9_flushing_85 e30 ?_
      refine r_aload_n C dX9_flushing_86 rfl 1 rfl ?_
      obtain ⟨v31, e32, hf⟩ := hp_bind hf
      refine r_getA C dX9_flushing_87 fl_RX9_26 e32 ?_
      refine r_aload_n C dX9_flushing_90 rfl 1 rfl ?_
      obtain ⟨v33, e34, hf⟩ := hp_bind hf
      refine r_getI C dX9_flushing_91 fl_RX9_125 e34 ?_
      refine r_lload_n C dX9_flushing_94 rfl 0 rfl ?_
      obtain ⟨h35, e36, hf⟩ := hp_bind hf
      refine r_sj C dX9_flushing_95 e36 ?_
      refine r_aload_n C dX9_flushing_96 rfl 1 rfl ?_
      obtain ⟨v37, e38, hf⟩ := hp_bind hf
      refine r_getA C dX9_flushing_97 fl_RX9_29 e38 ?_
      refine r_aload_n C dX9_flushing_100 rfl 1 rfl ?_
      obtain ⟨v39, e40, hf⟩ := hp_bind hf
      refine r_getI C dX9_flushing_101 fl_RX9_125 e40 ?_
      refine r_iconst C dX9_flushing_104 (v := 0) (by decide) ?_
      obtain ⟨h41, e42, hf⟩ := hp_bind hf
      refine r_si C dX9_flushing_105 e42 ?_
      refine r_aload_n C dX9_flushing_106 rfl 1 rfl ?_
      refine r_dup C dX9_flushing_107 rfl ?_
      obtain ⟨v43, e44, hf⟩ := hp_bind hf
      refine r_getI C dX9_flushing_108 fl_RX9_125 e44 ?_
      refine r_iconst C dX9_flushing_111 (v := 1) (by decide) ?_
      refine r_iadd C dX9_flushing_112 ?_
      obtain ⟨h45, e46, hf⟩ := hp_bind hf
      refine r_putI C dX9_flushing_113 fl_RX9_125 e46 ?_
      refine r_aload_n C dX9_flushing_116 rfl 1 rfl ?_
      refine r_dup C dX9_flushing_117 rfl ?_
      obtain ⟨v47, e48, hf⟩ := hp_bind hf
      refine r_getJ C dX9_flushing_118 fl_RX9_118 e48 ?_
      refine r_lload_n C dX9_flushing_121 rfl 0 rfl ?_
      refine r_lor C dX9_flushing_122 ?_
      obtain ⟨h49, e50, hf⟩ := hp_bind hf
      refine r_putJ C dX9_flushing_123 fl_RX9_118 e50 ?_
      refine r_aload_n C dX9_flushing_126 rfl 1 rfl ?_
      refine r_dup C dX9_flushing_127 rfl ?_
      obtain ⟨v51, e52, hf⟩ := hp_bind hf
      refine r_getI C dX9_flushing_128 fl_RX9_128 e52 ?_
      refine r_lload_n C dX9_flushing_131 rfl 0 rfl ?_
      obtain ⟨q53, h54, e55, hf⟩ := hp_cbe hf
      refine r_callS C dX9_flushing_132 cs_RX9_93 (c_Mo_bits B e0 F q19 h49 _ e55) rfl rfl rfl ⟨by decide, by decide⟩ ⟨by decide, by decide⟩ (Nat.le_of_ble_eq_true rfl) rfl ?_
      refine r_iadd C dX9_flushing_135 ?_
      obtain ⟨h56, e57, hf⟩ := hp_bind hf
      refine r_putI C dX9_flushing_136 fl_RX9_128 e57 ?_
      refine hh_pick [1] rfl ?_
      exact w_Mo_flushing_139 C E F a0 h56 hf
    · rw [if_pos c24] at hf
      refine r_iconst C dX9_flushing_74 (v := 0) (by decide) ?_
      exact r_ireturnz C E dX9_flushing_75 rfl (by decide) (by decide) hf
set_option maxRecDepth 100000 in
set_option maxHeartbeats 4000000 in
theorem w_Mo_flushing_16 {X : hh_X} {B e0 : Nat} {rr : Int32 × hh_H} (C : ok_Mo_flushing X B e0) (E : hh_End X B e0 (.returned (some (.int rr.1))) rr.2 mc_Mo_flushing ms_Mo_flushing) (F : Nat) (r16 : Nat → Int64 → Int32 → hh_H → Option (Int32 × hh_H)) (H16 : ∀ (a0 : Nat) (z1 : Int64) (x3 : Int32) (h : hh_H), r16 a0 z1 x3 h = some rr → hh_W X 0 0 16 [(0, .ref (hh_ad B e0 a0)), (1, .long z1), (3, .int x3)] [] h) (a0 : Nat) (z1 : Int64) (x3 : Int32) (h : hh_H)
    (hf : f_Mo_flushing_16 F r16 a0 z1 x3 h = some rr) : hh_W X 0 0 16 [(0, .ref (hh_ad B e0 a0)), (1, .long z1), (3, .int x3)] [] h := by
  unfold f_Mo_flushing_16 at hf
  refine r_iload_n C dX9_flushing_16 rfl 2 rfl ?_
  refine r_aload_n C dX9_flushing_17 rfl 0 rfl ?_
  obtain ⟨v58, e59, hf⟩ := hp_bind hf
  refine r_getI C dX9_flushing_18 fl_RX9_74 e59 ?_
  refine r_icmp_ge C dX9_flushing_21 (tgt := 56) (by decide) (fun c60 => ?_) (fun c60 => ?_)
  · rw [if_pos c60] at hf
    refine hh_pick [0, 1] rfl ?_
    exact w_Mo_flushing_56 C E F a0 z1 h hf
  · rw [if_neg c60] at hf
    refine r_aload_n C dX9_flushing_24 rfl 0 rfl ?_
    obtain ⟨v61, e62, hf⟩ := hp_bind hf
    refine r_getJ C dX9_flushing_25 fl_RX9_85 e62 ?_
    refine r_iload_n C dX9_flushing_28 rfl 2 rfl ?_
    obtain ⟨q63, h64, e65, hf⟩ := hp_cbe hf
    refine r_callS C dX9_flushing_29 cs_RX9_89 (c_Mo_in B e0 F v61 x3 h _ e65) rfl rfl rfl ⟨by decide, by decide⟩ ⟨by decide, by decide⟩ (Nat.le_of_ble_eq_true rfl) rfl ?_
    refine r_if_ne C dX9_flushing_32 (tgt := 50) (by decide) (fun c66 => ?_) (fun c66 => ?_)
    · rw [if_neg c66] at hf
      refine r_iinc (lv' := [(3, .int (x3 + 1)), (0, .ref (hh_ad B e0 a0)), (1, .long z1)]) C dX9_flushing_50 2 rfl rfl (by decide) rfl ?_
      refine r_goto C dX9_flushing_53 (tgt := 16) (by decide) ?_
      refine hh_pick [1, 2, 0] rfl ?_
      exact H16 a0 z1 (x3 + 1) h64 hf
    · rw [if_pos c66] at hf
      refine r_aload_n C dX9_flushing_35 rfl 0 rfl ?_
      obtain ⟨v67, e68, hf⟩ := hp_bind hf
      refine r_getA C dX9_flushing_36 fl_RX9_16 e68 ?_
      refine r_iload_n C dX9_flushing_39 rfl 2 rfl ?_
      obtain ⟨v69, e70, hf⟩ := hp_bind hf
      refine r_ai C dX9_flushing_40 e70 ?_
      refine r_if_le C dX9_flushing_41 (tgt := 50) (by decide) (fun c71 => ?_) (fun c71 => ?_)
      · rw [if_pos c71] at hf
        refine r_iinc (lv' := [(3, .int (x3 + 1)), (0, .ref (hh_ad B e0 a0)), (1, .long z1)]) C dX9_flushing_50 2 rfl rfl (by decide) rfl ?_
        refine r_goto C dX9_flushing_53 (tgt := 16) (by decide) ?_
        refine hh_pick [1, 2, 0] rfl ?_
        exact H16 a0 z1 (x3 + 1) h64 hf
      · rw [if_neg c71] at hf
        refine r_lload_n C dX9_flushing_44 rfl 1 rfl ?_
        refine r_lconst C dX9_flushing_45 (v := 1) (by decide) ?_
        refine r_iload_n C dX9_flushing_46 rfl 2 rfl ?_
        refine r_lshl C dX9_flushing_47 ?_
        refine r_lor C dX9_flushing_48 ?_
        refine r_lstore_n (lv' := [(1, .long (z1 ||| (1 <<< (x3.toInt64 &&& 63)))), (0, .ref (hh_ad B e0 a0)), (3, .int x3)]) C dX9_flushing_49 rfl (by decide) rfl ?_
        refine r_iinc (lv' := [(3, .int (x3 + 1)), (1, .long (z1 ||| (1 <<< (x3.toInt64 &&& 63)))), (0, .ref (hh_ad B e0 a0))]) C dX9_flushing_50 2 rfl rfl (by decide) rfl ?_
        refine r_goto C dX9_flushing_53 (tgt := 16) (by decide) ?_
        refine hh_pick [2, 1, 0] rfl ?_
        exact H16 a0 (z1 ||| (1 <<< (x3.toInt64 &&& 63))) (x3 + 1) h64 hf
theorem wl_Mo_flushing_16 {X : hh_X} {B e0 : Nat} {rr : Int32 × hh_H} (C : ok_Mo_flushing X B e0) (E : hh_End X B e0 (.returned (some (.int rr.1))) rr.2 mc_Mo_flushing ms_Mo_flushing) (F : Nat) :
    ∀ (n : Nat) (a0 : Nat) (z1 : Int64) (x3 : Int32) (h : hh_H), hp_it (fun _ _ _ _ => none) (f_Mo_flushing_16 F) n a0 z1 x3 h = some rr → hh_W X 0 0 16 [(0, .ref (hh_ad B e0 a0)), (1, .long z1), (3, .int x3)] [] h := by
  intro n
  induction n with
  | zero => intro a0 z1 x3 h hf; cases hf
  | succ n ih =>
    intro a0 z1 x3 h hf
    exact w_Mo_flushing_16 C E F _ ih a0 z1 x3 h hf
set_option maxRecDepth 100000 in
set_option maxHeartbeats 4000000 in
theorem w_Mo_flushing {X : hh_X} {B e0 : Nat} {rr : Int32 × hh_H} (C : ok_Mo_flushing X B e0) (E : hh_End X B e0 (.returned (some (.int rr.1))) rr.2 mc_Mo_flushing ms_Mo_flushing) (F : Nat) (a0 : Nat) (h : hh_H)
    (hf : f_Mo_flushing F a0 h = some rr) : hh_W X 0 0 0 [(0, .ref (hh_ad B e0 a0))] [] h := by
  unfold f_Mo_flushing at hf
  refine r_aload_n C dX9_flushing_0 rfl 0 rfl ?_
  obtain ⟨_, e75, hf⟩ := hp_bind hf
  obtain ⟨g76, e75⟩ := hp_is_of e75
  obtain ⟨q72, h73, e74, hf⟩ := hp_cbe hf
  refine r_callV C dX9_flushing_1 cs_RX9_77 rfl e75 (c_Mo_buffered B e0 F a0 h _ e74) rfl rfl rfl ⟨by decide, by decide⟩ ⟨by decide, by decide⟩ (Nat.le_of_ble_eq_true rfl) rfl ?_
  refine r_if_ne C dX9_flushing_4 (tgt := 9) (by decide) (fun c77 => ?_) (fun c77 => ?_)
  · rw [if_neg c77] at hf
    refine r_lconst C dX9_flushing_9 (v := 0) (by decide) ?_
    refine r_lstore_n (lv' := [(1, .long 0), (0, .ref (hh_ad B e0 a0))]) C dX9_flushing_10 rfl (by decide) rfl ?_
    refine r_aload_n C dX9_flushing_11 rfl 1 rfl ?_
    obtain ⟨v78, e79, hf⟩ := hp_bind hf
    refine r_getI C dX9_flushing_12 fl_RX9_71 e79 ?_
    refine r_istore_n (lv' := [(3, .int v78), (1, .long 0), (0, .ref (hh_ad B e0 a0))]) C dX9_flushing_15 rfl (by decide) rfl ?_
    refine hh_pick [2, 1, 0] rfl ?_
    exact wl_Mo_flushing_16 C E F F a0 0 v78 h73 hf
  · rw [if_pos c77] at hf
    refine r_iconst C dX9_flushing_7 (v := 1) (by decide) ?_
    exact r_ireturnz C E dX9_flushing_8 rfl (by decide) (by decide) hf
theorem c_Mo_flushing (B e0 F : Nat) (a0 : Nat) (h : hh_H) (rr : Int32 × hh_H) (hf : f_Mo_flushing F a0 h = some rr) : hh_Met yX9_flushing cX9_flushing 5 (some .boolean) rm_Mo_flushing mc_Mo_flushing ms_Mo_flushing B e0 [.ref (hh_ad B e0 a0)] h (.returned (some (.int rr.1))) rr.2 :=
  hh_met (by decide) (Nat.le_of_ble_eq_true rfl) fun X C E => hh_pick [0] rfl (w_Mo_flushing C E F a0 h hf)
def mc_Mo_flush : Nat := 0
def ms_Mo_flush : Nat := 0
def rm_Mo_flush : Room := { frames := 6, cells := 0, slots := 0, locals := 157 }
abbrev ok_Mo_flush (X : hh_X) (B e0 : Nat) : Prop := hh_ok X B e0 cX9_flush RX9 1 (some .int) "flush" rm_Mo_flush
set_option maxRecDepth 100000 in
set_option maxHeartbeats 4000000 in
theorem w_Mo_flush {X : hh_X} {B e0 : Nat} {rr : Int32 × hh_H} (C : ok_Mo_flush X B e0) (E : hh_End X B e0 (.returned (some (.int rr.1))) rr.2 mc_Mo_flush ms_Mo_flush) (F : Nat) (a0 : Nat) (h : hh_H)
    (hf : f_Mo_flush F a0 h = some rr) : hh_W X 0 0 0 [(0, .ref (hh_ad B e0 a0))] [] h := by
  unfold f_Mo_flush at hf
  refine r_aload_n C dX9_flush_0 rfl 0 rfl ?_
  refine r_iconst C dX9_flush_1 (v := 0) (by decide) ?_
  obtain ⟨h1, e2, hf⟩ := hp_bind hf
  refine r_putI C dX9_flush_2 fl_RX9_57 e2 ?_
  refine r_aload_n C dX9_flush_5 rfl 0 rfl ?_
  obtain ⟨_, e6, hf⟩ := hp_bind hf
  obtain ⟨g7, e6⟩ := hp_is_of e6
  obtain ⟨q3, h4, e5, hf⟩ := hp_cbe hf
  refine r_callV C dX9_flush_6 cs_RX9_81 rfl e6 (c_Mo_flushing B e0 F a0 h1 _ e5) rfl rfl rfl ⟨by decide, by decide⟩ ⟨by decide, by decide⟩ (Nat.le_of_ble_eq_true rfl) rfl ?_
  refine r_if_ne C dX9_flush_9 (tgt := 18) (by decide) (fun c8 => ?_) (fun c8 => ?_)
  · rw [if_neg c8] at hf
    refine r_aload_n C dX9_flush_18 rfl 0 rfl ?_
    obtain ⟨v9, e10, hf⟩ := hp_bind hf
    refine r_getI C dX9_flush_19 fl_RX9_125 e10 ?_
    exact r_ireturn C E dX9_flush_22 (by decide) (by decide) hf
  · rw [if_pos c8] at hf
    refine r_aload_n C dX9_flush_12 rfl 0 rfl ?_
    refine r_iconst C dX9_flush_13 (v := 1) (by decide) ?_
    obtain ⟨_, e14, hf⟩ := hp_bind hf
    obtain ⟨g15, e14⟩ := hp_is_of e14
    obtain ⟨q11, h12, e13, hf⟩ := hp_cbe hf
    refine r_callV C dX9_flush_14 cs_RX9_64 rfl e14 (c_Mo_fail B e0 F a0 1 h4 _ e13) rfl rfl rfl ⟨by decide, by decide⟩ ⟨by decide, by decide⟩ (Nat.le_of_ble_eq_true rfl) rfl ?_
    exact r_ireturn C E dX9_flush_17 (by decide) (by decide) hf
theorem c_Mo_flush (B e0 F : Nat) (a0 : Nat) (h : hh_H) (rr : Int32 × hh_H) (hf : f_Mo_flush F a0 h = some rr) : hh_Met yX9_flush cX9_flush 1 (some .int) rm_Mo_flush mc_Mo_flush ms_Mo_flush B e0 [.ref (hh_ad B e0 a0)] h (.returned (some (.int rr.1))) rr.2 :=
  hh_met (by decide) (Nat.le_of_ble_eq_true rfl) fun X C E => hh_pick [0] rfl (w_Mo_flush C E F a0 h hf)
def mc_Mo_finish : Nat := 0
def ms_Mo_finish : Nat := 0
def rm_Mo_finish : Room := { frames := 6, cells := 0, slots := 0, locals := 157 }
abbrev ok_Mo_finish (X : hh_X) (B e0 : Nat) : Prop := hh_ok X B e0 cX9_finish RX9 1 (some .int) "finish" rm_Mo_finish
set_option maxRecDepth 100000 in
set_option maxHeartbeats 4000000 in
theorem w_Mo_finish {X : hh_X} {B e0 : Nat} {rr : Int32 × hh_H} (C : ok_Mo_finish X B e0) (E : hh_End X B e0 (.returned (some (.int rr.1))) rr.2 mc_Mo_finish ms_Mo_finish) (F : Nat) (a0 : Nat) (h : hh_H)
    (hf : f_Mo_finish F a0 h = some rr) : hh_W X 0 0 0 [(0, .ref (hh_ad B e0 a0))] [] h := by
  unfold f_Mo_finish at hf
  refine r_aload_n C dX9_finish_0 rfl 0 rfl ?_
  refine r_iconst C dX9_finish_1 (v := 0) (by decide) ?_
  obtain ⟨h1, e2, hf⟩ := hp_bind hf
  refine r_putI C dX9_finish_2 fl_RX9_57 e2 ?_
  refine r_aload_n C dX9_finish_5 rfl 0 rfl ?_
  obtain ⟨_, e6, hf⟩ := hp_bind hf
  obtain ⟨g7, e6⟩ := hp_is_of e6
  obtain ⟨q3, h4, e5, hf⟩ := hp_cbe hf
  refine r_callV C dX9_finish_6 cs_RX9_81 rfl e6 (c_Mo_flushing B e0 F a0 h1 _ e5) rfl rfl rfl ⟨by decide, by decide⟩ ⟨by decide, by decide⟩ (Nat.le_of_ble_eq_true rfl) rfl ?_
  refine r_if_ne C dX9_finish_9 (tgt := 18) (by decide) (fun c8 => ?_) (fun c8 => ?_)
  · rw [if_neg c8] at hf
    refine r_aload_n C dX9_finish_18 rfl 0 rfl ?_
    obtain ⟨v9, e10, hf⟩ := hp_bind hf
    refine r_getI C dX9_finish_19 fl_RX9_125 e10 ?_
    refine r_if_le C dX9_finish_22 (tgt := 39) (by decide) (fun c11 => ?_) (fun c11 => ?_)
    · rw [if_pos c11] at hf
      refine r_aload_n C dX9_finish_39 rfl 0 rfl ?_
      obtain ⟨v12, e13, hf⟩ := hp_bind hf
      refine r_getI C dX9_finish_40 fl_RX9_125 e13 ?_
      exact r_ireturn C E dX9_finish_43 (by decide) (by decide) hf
    · rw [if_neg c11] at hf
      refine r_aload_n C dX9_finish_25 rfl 0 rfl ?_
      refine r_iconst C dX9_finish_26 (v := (-1)) (by decide) ?_
      obtain ⟨_, e17, hf⟩ := hp_bind hf
      obtain ⟨g18, e17⟩ := hp_is_of e17
      obtain ⟨q14, h15, e16, hf⟩ := hp_cbe hf
      refine r_callV C dX9_finish_27 cs_RX9_134 rfl e17 (c_Mo_merge B e0 F a0 (-1) h4 _ e16) rfl rfl rfl ⟨by decide, by decide⟩ ⟨by decide, by decide⟩ (Nat.le_of_ble_eq_true rfl) rfl ?_
      refine r_if_ne C dX9_finish_30 (tgt := 39) (by decide) (fun c19 => ?_) (fun c19 => ?_)
      · rw [if_neg c19] at hf
        refine r_aload_n C dX9_finish_39 rfl 0 rfl ?_
        obtain ⟨v20, e21, hf⟩ := hp_bind hf
        refine r_getI C dX9_finish_40 fl_RX9_125 e21 ?_
        exact r_ireturn C E dX9_finish_43 (by decide) (by decide) hf
      · rw [if_pos c19] at hf
        refine r_aload_n C dX9_finish_33 rfl 0 rfl ?_
        refine r_iconst C dX9_finish_34 (v := 1) (by decide) ?_
        obtain ⟨_, e25, hf⟩ := hp_bind hf
        obtain ⟨g26, e25⟩ := hp_is_of e25
        obtain ⟨q22, h23, e24, hf⟩ := hp_cbe hf
        refine r_callV C dX9_finish_35 cs_RX9_64 rfl e25 (c_Mo_fail B e0 F a0 1 h15 _ e24) rfl rfl rfl ⟨by decide, by decide⟩ ⟨by decide, by decide⟩ (Nat.le_of_ble_eq_true rfl) rfl ?_
        exact r_ireturn C E dX9_finish_38 (by decide) (by decide) hf
  · rw [if_pos c8] at hf
    refine r_aload_n C dX9_finish_12 rfl 0 rfl ?_
    refine r_iconst C dX9_finish_13 (v := 1) (by decide) ?_
    obtain ⟨_, e30, hf⟩ := hp_bind hf
    obtain ⟨g31, e30⟩ := hp_is_of e30
    obtain ⟨q27, h28, e29, hf⟩ := hp_cbe hf
    refine r_callV C dX9_finish_14 cs_RX9_64 rfl e30 (c_Mo_fail B e0 F a0 1 h4 _ e29) rfl rfl rfl ⟨by decide, by decide⟩ ⟨by decide, by decide⟩ (Nat.le_of_ble_eq_true rfl) rfl ?_
    exact r_ireturn C E dX9_finish_17 (by decide) (by decide) hf
theorem c_Mo_finish (B e0 F : Nat) (a0 : Nat) (h : hh_H) (rr : Int32 × hh_H) (hf : f_Mo_finish F a0 h = some rr) : hh_Met yX9_finish cX9_finish 1 (some .int) rm_Mo_finish mc_Mo_finish ms_Mo_finish B e0 [.ref (hh_ad B e0 a0)] h (.returned (some (.int rr.1))) rr.2 :=
  hh_met (by decide) (Nat.le_of_ble_eq_true rfl) fun X C E => hh_pick [0] rfl (w_Mo_finish C E F a0 h hf)
def mc_Mo_close : Nat := 0
def ms_Mo_close : Nat := 0
def rm_Mo_close : Room := { frames := 6, cells := 0, slots := 0, locals := 157 }
abbrev ok_Mo_close (X : hh_X) (B e0 : Nat) : Prop := hh_ok X B e0 cX9_close RX9 2 (some .int) "close" rm_Mo_close
set_option maxRecDepth 100000 in
set_option maxHeartbeats 4000000 in
theorem w_Mo_close_108 {X : hh_X} {B e0 : Nat} {rr : Int32 × hh_H} (C : ok_Mo_close X B e0) (E : hh_End X B e0 (.returned (some (.int rr.1))) rr.2 mc_Mo_close ms_Mo_close) (F : Nat) (a0 : Nat) (h : hh_H)
    (hf : f_Mo_close_108 F a0 h = some rr) : hh_W X 0 0 108 [(0, .ref (hh_ad B e0 a0))] [] h := by
  unfold f_Mo_close_108 at hf
  refine r_aload_n C dX9_close_108 rfl 0 rfl ?_
  obtain ⟨v1, e2, hf⟩ := hp_bind hf
  refine r_getA C dX9_close_109 fl_RX9_16 e2 ?_
  refine r_aload_n C dX9_close_112 rfl 0 rfl ?_
  obtain ⟨v3, e4, hf⟩ := hp_bind hf
  refine r_getI C dX9_close_113 fl_RX9_74 e4 ?_
  refine r_aload_n C dX9_close_116 rfl 0 rfl ?_
  obtain ⟨v5, e6, hf⟩ := hp_bind hf
  refine r_getI C dX9_close_117 fl_RX9_68 e6 ?_
  obtain ⟨h7, e8, hf⟩ := hp_bind hf
  refine r_si C dX9_close_120 e8 ?_
  refine r_aload_n C dX9_close_121 rfl 0 rfl ?_
  refine r_iconst C dX9_close_122 (v := 0) (by decide) ?_
  obtain ⟨h9, e10, hf⟩ := hp_bind hf
  refine r_putI C dX9_close_123 fl_RX9_68 e10 ?_
  refine r_aload_n C dX9_close_126 rfl 0 rfl ?_
  refine r_dup C dX9_close_127 rfl ?_
  obtain ⟨v11, e12, hf⟩ := hp_bind hf
  refine r_getI C dX9_close_128 fl_RX9_74 e12 ?_
  refine r_iconst C dX9_close_131 (v := 1) (by decide) ?_
  refine r_iadd C dX9_close_132 ?_
  obtain ⟨h13, e14, hf⟩ := hp_bind hf
  refine r_putI C dX9_close_133 fl_RX9_74 e14 ?_
  refine r_aload_n C dX9_close_136 rfl 0 rfl ?_
  obtain ⟨v15, e16, hf⟩ := hp_bind hf
  refine r_getI C dX9_close_137 fl_RX9_74 e16 ?_
  refine r_iconst C dX9_close_140 (v := 1) (by decide) ?_
  refine r_isub C dX9_close_141 ?_
  exact r_ireturn C E dX9_close_142 (by decide) (by decide) hf
set_option maxRecDepth 100000 in
set_option maxHeartbeats 4000000 in
theorem w_Mo_close_51 {X : hh_X} {B e0 : Nat} {rr : Int32 × hh_H} (C : ok_Mo_close X B e0) (E : hh_End X B e0 (.returned (some (.int rr.1))) rr.2 mc_Mo_close ms_Mo_close) (F : Nat) (r51 : Nat → Int32 → hh_H → Option (Int32 × hh_H)) (H51 : ∀ (a0 : Nat) (x1 : Int32) (h : hh_H), r51 a0 x1 h = some rr → hh_W X 0 0 51 [(0, .ref (hh_ad B e0 a0)), (1, .int x1)] [] h) (a0 : Nat) (x1 : Int32) (h : hh_H)
    (hf : f_Mo_close_51 F r51 a0 x1 h = some rr) : hh_W X 0 0 51 [(0, .ref (hh_ad B e0 a0)), (1, .int x1)] [] h := by
  unfold f_Mo_close_51 at hf
  refine r_iload_n C dX9_close_51 rfl 1 rfl ?_
  refine r_aload_n C dX9_close_52 rfl 0 rfl ?_
  obtain ⟨v17, e18, hf⟩ := hp_bind hf
  refine r_getI C dX9_close_53 fl_RX9_68 e18 ?_
  refine r_icmp_ge C dX9_close_56 (tgt := 108) (by decide) (fun c19 => ?_) (fun c19 => ?_)
  · rw [if_pos c19] at hf
    refine hh_pick [0] rfl ?_
    exact w_Mo_close_108 C E F a0 h hf
  · rw [if_neg c19] at hf
    refine r_aload_n C dX9_close_59 rfl 0 rfl ?_
    obtain ⟨v20, e21, hf⟩ := hp_bind hf
    refine r_getA C dX9_close_60 fl_RX9_13 e21 ?_
    refine r_bipush C dX9_close_63 (v := 20) (by decide) ?_
    refine r_aload_n C dX9_close_65 rfl 0 rfl ?_
    obtain ⟨v22, e23, hf⟩ := hp_bind hf
    refine r_getI C dX9_close_66 fl_RX9_74 e23 ?_
    refine r_imul C dX9_close_69 ?_
    refine r_iload_n C dX9_close_70 rfl 1 rfl ?_
    refine r_iadd C dX9_close_71 ?_
    refine r_aload_n C dX9_close_72 rfl 0 rfl ?_
    obtain ⟨v24, e25, hf⟩ := hp_bind hf
    refine r_getA C dX9_close_73 fl_RX9_7 e25 ?_
    refine r_iload_n C dX9_close_76 rfl 1 rfl ?_
    obtain ⟨v26, e27, hf⟩ := hp_bind hf
    refine r_ai C dX9_close_77 e27 ?_
    obtain ⟨h28, e29, hf⟩ := hp_bind hf
    refine r_si C dX9_close_78 e29 ?_
    refine r_aload_n C dX9_close_79 rfl 0 rfl ?_
    obtain ⟨v30, e31, hf⟩ := hp_bind hf
    refine r_getA C dX9_close_80 fl_RX9_19 e31 ?_
    refine r_bipush C dX9_close_83 (v := 100) (by decide) ?_
    refine r_aload_n C dX9_close_85 rfl 0 rfl ?_
    obtain ⟨v32, e33, hf⟩ := hp_bind hf
    refine r_getI C dX9_close_86 fl_RX9_74 e33 ?_
    refine r_imul C dX9_close_89 ?_
    refine r_aload_n C dX9_close_90 rfl 0 rfl ?_
    obtain ⟨v34, e35, hf⟩ := hp_bind hf
    refine r_getA C dX9_close_91 fl_RX9_7 e35 ?_
    refine r_iload_n C dX9_close_94 rfl 1 rfl ?_
    obtain ⟨v36, e37, hf⟩ := hp_bind hf
    refine r_ai C dX9_close_95 e37 ?_
    refine r_iadd C dX9_close_96 ?_
    refine r_dup2 C dX9_close_97 rfl rfl ?_
    obtain ⟨v38, e39, hf⟩ := hp_bind hf
    refine r_ai C dX9_close_98 e39 ?_
    refine r_iconst C dX9_close_99 (v := 1) (by decide) ?_
    refine r_iadd C dX9_close_100 ?_
    obtain ⟨h40, e41, hf⟩ := hp_bind hf
    refine r_si C dX9_close_101 e41 ?_
    refine r_iinc (lv' := [(1, .int (x1 + 1)), (0, .ref (hh_ad B e0 a0))]) C dX9_close_102 1 rfl rfl (by decide) rfl ?_
    refine r_goto C dX9_close_105 (tgt := 51) (by decide) ?_
    refine hh_pick [1, 0] rfl ?_
    exact H51 a0 (x1 + 1) h40 hf
theorem wl_Mo_close_51 {X : hh_X} {B e0 : Nat} {rr : Int32 × hh_H} (C : ok_Mo_close X B e0) (E : hh_End X B e0 (.returned (some (.int rr.1))) rr.2 mc_Mo_close ms_Mo_close) (F : Nat) :
    ∀ (n : Nat) (a0 : Nat) (x1 : Int32) (h : hh_H), hp_it (fun _ _ _ => none) (f_Mo_close_51 F) n a0 x1 h = some rr → hh_W X 0 0 51 [(0, .ref (hh_ad B e0 a0)), (1, .int x1)] [] h := by
  intro n
  induction n with
  | zero => intro a0 x1 h hf; cases hf
  | succ n ih =>
    intro a0 x1 h hf
    exact w_Mo_close_51 C E F _ ih a0 x1 h hf
set_option maxRecDepth 100000 in
set_option maxHeartbeats 4000000 in
theorem w_Mo_close_49 {X : hh_X} {B e0 : Nat} {rr : Int32 × hh_H} (C : ok_Mo_close X B e0) (E : hh_End X B e0 (.returned (some (.int rr.1))) rr.2 mc_Mo_close ms_Mo_close) (F : Nat) (a0 : Nat) (h : hh_H)
    (hf : f_Mo_close_49 F a0 h = some rr) : hh_W X 0 0 49 [(0, .ref (hh_ad B e0 a0))] [] h := by
  unfold f_Mo_close_49 at hf
  refine r_iconst C dX9_close_49 (v := 0) (by decide) ?_
  refine r_istore_n (lv' := [(1, .int 0), (0, .ref (hh_ad B e0 a0))]) C dX9_close_50 rfl (by decide) rfl ?_
  refine hh_pick [1, 0] rfl ?_
  exact wl_Mo_close_51 C E F F a0 0 h hf
set_option maxRecDepth 100000 in
set_option maxHeartbeats 4000000 in
theorem w_Mo_close {X : hh_X} {B e0 : Nat} {rr : Int32 × hh_H} (C : ok_Mo_close X B e0) (E : hh_End X B e0 (.returned (some (.int rr.1))) rr.2 mc_Mo_close ms_Mo_close) (F : Nat) (a0 : Nat) (h : hh_H)
    (hf : f_Mo_close F a0 h = some rr) : hh_W X 0 0 0 [(0, .ref (hh_ad B e0 a0))] [] h := by
  unfold f_Mo_close at hf
  refine r_aload_n C dX9_close_0 rfl 0 rfl ?_
  refine r_iconst C dX9_close_1 (v := 0) (by decide) ?_
  obtain ⟨h42, e43, hf⟩ := hp_bind hf
  refine r_putI C dX9_close_2 fl_RX9_57 e43 ?_
  refine r_aload_n C dX9_close_5 rfl 0 rfl ?_
  obtain ⟨v44, e45, hf⟩ := hp_bind hf
  refine r_getI C dX9_close_6 fl_RX9_74 e45 ?_
  refine r_bipush C dX9_close_9 (v := 40) (by decide) ?_
  refine r_icmp_ne C dX9_close_11 (tgt := 20) (by decide) (fun c46 => ?_) (fun c46 => ?_)
  · rw [if_neg c46] at hf
    refine r_aload_n C dX9_close_20 rfl 0 rfl ?_
    obtain ⟨_, e50, hf⟩ := hp_bind hf
    obtain ⟨g51, e50⟩ := hp_is_of e50
    obtain ⟨q47, h48, e49, hf⟩ := hp_cbe hf
    refine r_callV C dX9_close_21 cs_RX9_77 rfl e50 (c_Mo_buffered B e0 F a0 h42 _ e49) rfl rfl rfl ⟨by decide, by decide⟩ ⟨by decide, by decide⟩ (Nat.le_of_ble_eq_true rfl) rfl ?_
    refine r_aload_n C dX9_close_24 rfl 0 rfl ?_
    obtain ⟨v52, e53, hf⟩ := hp_bind hf
    refine r_getI C dX9_close_25 fl_RX9_68 e53 ?_
    refine r_iadd C dX9_close_28 ?_
    refine r_aload_n C dX9_close_29 rfl 0 rfl ?_
    obtain ⟨v54, e55, hf⟩ := hp_bind hf
    refine r_getI C dX9_close_30 fl_RX9_47 e55 ?_
    refine r_icmp_le C dX9_close_33 (tgt := 49) (by decide) (fun c56 => ?_) (fun c56 => ?_)
    · rw [if_pos c56] at hf
      refine hh_pick [0] rfl ?_
      exact w_Mo_close_49 C E F a0 h48 hf
    · rw [if_neg c56] at hf
      refine r_aload_n C dX9_close_36 rfl 0 rfl ?_
      obtain ⟨_, e60, hf⟩ := hp_bind hf
      obtain ⟨g61, e60⟩ := hp_is_of e60
      obtain ⟨q57, h58, e59, hf⟩ := hp_cbe hf
      refine r_callV C dX9_close_37 cs_RX9_81 rfl e60 (c_Mo_flushing B e0 F a0 h48 _ e59) rfl rfl rfl ⟨by decide, by decide⟩ ⟨by decide, by decide⟩ (Nat.le_of_ble_eq_true rfl) rfl ?_
      refine r_if_ne C dX9_close_40 (tgt := 49) (by decide) (fun c62 => ?_) (fun c62 => ?_)
      · rw [if_neg c62] at hf
        refine hh_pick [0] rfl ?_
        exact w_Mo_close_49 C E F a0 h58 hf
      · rw [if_pos c62] at hf
        refine r_aload_n C dX9_close_43 rfl 0 rfl ?_
        refine r_iconst C dX9_close_44 (v := 2) (by decide) ?_
        obtain ⟨_, e66, hf⟩ := hp_bind hf
        obtain ⟨g67, e66⟩ := hp_is_of e66
        obtain ⟨q63, h64, e65, hf⟩ := hp_cbe hf
        refine r_callV C dX9_close_45 cs_RX9_64 rfl e66 (c_Mo_fail B e0 F a0 2 h58 _ e65) rfl rfl rfl ⟨by decide, by decide⟩ ⟨by decide, by decide⟩ (Nat.le_of_ble_eq_true rfl) rfl ?_
        exact r_ireturn C E dX9_close_48 (by decide) (by decide) hf
  · rw [if_pos c46] at hf
    refine r_aload_n C dX9_close_14 rfl 0 rfl ?_
    refine r_iconst C dX9_close_15 (v := 1) (by decide) ?_
    obtain ⟨_, e71, hf⟩ := hp_bind hf
    obtain ⟨g72, e71⟩ := hp_is_of e71
    obtain ⟨q68, h69, e70, hf⟩ := hp_cbe hf
    refine r_callV C dX9_close_16 cs_RX9_64 rfl e71 (c_Mo_fail B e0 F a0 1 h42 _ e70) rfl rfl rfl ⟨by decide, by decide⟩ ⟨by decide, by decide⟩ (Nat.le_of_ble_eq_true rfl) rfl ?_
    exact r_ireturn C E dX9_close_19 (by decide) (by decide) hf
theorem c_Mo_close (B e0 F : Nat) (a0 : Nat) (h : hh_H) (rr : Int32 × hh_H) (hf : f_Mo_close F a0 h = some rr) : hh_Met yX9_close cX9_close 2 (some .int) rm_Mo_close mc_Mo_close ms_Mo_close B e0 [.ref (hh_ad B e0 a0)] h (.returned (some (.int rr.1))) rr.2 :=
  hh_met (by decide) (Nat.le_of_ble_eq_true rfl) fun X C E => hh_pick [0] rfl (w_Mo_close C E F a0 h hf)
