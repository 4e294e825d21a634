def f_IB_word (F : Nat) (a0 : Nat) (x1 : Int32) (h : hh_H) : Option ((Int32 ⊕ Nat) × hh_H) :=
  hp_cb (f_IB_isWord F x1 h) fun q1 h2 =>
  if q1 = 0 then
    some (.inr 11, h2 ++ [.inr (11, [])])
  else
    (hp_gi h2 a0 8 2).bind fun v5 =>
    if v5 < 20 then
      (hp_ga h2 a0 8 1).bind fun v8 =>
      (hp_gi h2 a0 8 2).bind fun v10 =>
      (hp_si h2 v8 v10 x1).bind fun h12 =>
      (hp_gi h12 a0 8 2).bind fun v14 =>
      (hp_pi h12 a0 8 2 (v14 + 1)).bind fun h16 =>
      (hp_gi h16 a0 8 2).bind fun v18 =>
      some (.inl (v18 - 1), h16)
    else
      some (.inr 12, h2 ++ [.inr (12, [])])
def f_IB_close_100 (F : Nat) (a0 : Nat) (x1 : Int32) (h : hh_H) : Option ((Int32 ⊕ Nat) × hh_H) :=
  (hp_pi h a0 8 2 0).bind fun h1 =>
  some (.inl x1, h1)
def f_IB_close_68 (F : Nat) (r68 : Nat → Int32 → Int32 → hh_H → Option ((Int32 ⊕ Nat) × hh_H)) (a0 : Nat) (x1 : Int32) (x2 : Int32) (h : hh_H) : Option ((Int32 ⊕ Nat) × hh_H) :=
  (hp_gi h a0 8 2).bind fun v3 =>
  if v3 ≤ x2 then
    f_IB_close_100 F a0 x1 h
  else
    (hp_ga h a0 8 4).bind fun v6 =>
    (hp_ga h a0 8 1).bind fun v8 =>
    (hp_ai h v8 x2).bind fun v10 =>
    hp_cb (f_Postings_keyOf F v10 x1 x2 h) fun q12 h13 =>
    (hp_is h13 v6 5).bind fun _ =>
    hp_cb (f_Postings_insert F v6 q12 h13) fun q15 h16 =>
    r68 a0 x1 (x2 + 1) h16
def l_IB_close_68 (F : Nat) : Nat → Int32 → Int32 → hh_H → Option ((Int32 ⊕ Nat) × hh_H) := hp_it (fun _ _ _ _ => none) (f_IB_close_68 F) F
def f_IB_close_58 (F : Nat) (a0 : Nat) (h : hh_H) : Option ((Int32 ⊕ Nat) × hh_H) :=
  (hp_ga h a0 8 3).bind fun v20 =>
  (hp_is h v20 3).bind fun _ =>
  hp_cb (f_Documents_addNext F v20 h) fun q22 h23 =>
  l_IB_close_68 F a0 q22 0 h23
def f_IB_close (F : Nat) (a0 : Nat) (h : hh_H) : Option ((Int32 ⊕ Nat) × hh_H) :=
  (hp_ga h a0 8 3).bind fun v27 =>
  (hp_is h v27 3).bind fun _ =>
  hp_cb (f_Documents_size F v27 h) fun q29 h30 =>
  if q29 < 40 then
    (hp_ga h30 a0 8 4).bind fun v35 =>
    (hp_is h30 v35 5).bind fun _ =>
    hp_cb (f_Postings_size F v35 h30) fun q37 h38 =>
    (hp_gi h38 a0 8 2).bind fun v42 =>
    (hp_gi h38 a0 8 0).bind fun v44 =>
    if (q37 + v42) ≤ v44 then
      f_IB_close_58 F a0 h38
    else
      (hp_is h38 a0 8).bind fun _ =>
      hp_cb (f_IB_flushBuffer F a0 h38) fun q47 h48 =>
      if q47 = 0 then
        some (.inr 13, h48 ++ [.inr (13, [])])
      else
        f_IB_close_58 F a0 h48
  else
    some (.inr 12, h30 ++ [.inr (12, [])])
def f_IB_drop (F : Nat) (a0 : Nat) (x1 : Int32) (h : hh_H) : Option ((Int32 ⊕ Nat) × hh_H) :=
  (hp_ga h a0 8 3).bind fun v1 =>
  (hp_is h v1 3).bind fun _ =>
  hp_cb (f_Documents_isLive F v1 x1 h) fun q3 h4 =>
  if q3 = 0 then
    some (.inr 14, h4 ++ [.inr (14, [])])
  else
    (hp_ga h4 a0 8 3).bind fun v9 =>
    (hp_is h4 v9 3).bind fun _ =>
    hp_cb (f_Documents_leaveOut F v9 x1 h4) fun q11 h12 =>
    (hp_ga h12 a0 8 3).bind fun v16 =>
    (hp_is h12 v16 3).bind fun _ =>
    hp_cb (f_Documents_live F v16 h12) fun q18 h19 =>
    some (.inl q18, h19)
def f_IB_flush (F : Nat) (a0 : Nat) (h : hh_H) : Option ((Int32 ⊕ Nat) × hh_H) :=
  (hp_is h a0 8).bind fun _ =>
  hp_cb (f_IB_flushBuffer F a0 h) fun q1 h2 =>
  if q1 = 0 then
    some (.inr 13, h2 ++ [.inr (13, [])])
  else
    (hp_ga h2 a0 8 5).bind fun v7 =>
    (hp_is h2 v7 7).bind fun _ =>
    hp_cb (f_RunRow_size F v7 h2) fun q9 h10 =>
    some (.inl q9, h10)
def f_IB_finish (F : Nat) (a0 : Nat) (h : hh_H) : Option ((Int32 ⊕ Nat) × hh_H) :=
  (hp_is h a0 8).bind fun _ =>
  hp_cb (f_IB_flushBuffer F a0 h) fun q1 h2 =>
  if q1 = 0 then
    some (.inr 13, h2 ++ [.inr (13, [])])
  else
    (hp_ga h2 a0 8 5).bind fun v7 =>
    (hp_is h2 v7 7).bind fun _ =>
    hp_cb (f_RunRow_mergeAll F v7 h2) fun q9 h10 =>
    if q9 = 0 then
      some (.inr 13, h10 ++ [.inr (13, [])])
    else
      (hp_ga h10 a0 8 5).bind fun v15 =>
      (hp_is h10 v15 7).bind fun _ =>
      hp_cb (f_RunRow_size F v15 h10) fun q17 h18 =>
      some (.inl q17, h18)
def f_IB_find_50 (F : Nat) (r50 : Nat → Int32 → Int32 → hh_H → Option ((Int32 ⊕ Nat) × hh_H)) (a0 : Nat) (x3 : Int32) (x4 : Int32) (h : hh_H) : Option ((Int32 ⊕ Nat) × hh_H) :=
  (hp_ga h a0 8 3).bind fun v1 =>
  (hp_is h v1 3).bind fun _ =>
  hp_cb (f_Documents_size F v1 h) fun q3 h4 =>
  if q3 ≤ x4 then
    (hp_ga h4 a0 8 8).bind fun v9 =>
    (hp_is h4 v9 0).bind fun _ =>
    hp_cb (f_Answer_size F v9 h4) fun q11 h12 =>
    some (.inl q11, h12)
  else
    (hp_is h4 a0 8).bind fun _ =>
    hp_cb (f_IB_fits F a0 x4 x3 h4) fun q16 h17 =>
    if q16 = 0 then
      r50 a0 x3 (x4 + 1) h17
    else
      (hp_ga h17 a0 8 8).bind fun v22 =>
      (hp_is h17 v22 0).bind fun _ =>
      hp_cb (f_Answer_put F v22 x4 FP.dconst0 h17) fun q24 h25 =>
      r50 a0 x3 (x4 + 1) h25
def l_IB_find_50 (F : Nat) : Nat → Int32 → Int32 → hh_H → Option ((Int32 ⊕ Nat) × hh_H) := hp_it (fun _ _ _ _ => none) (f_IB_find_50 F) F
def f_IB_find (F : Nat) (a0 : Nat) (x1 : Int32) (x2 : Int32) (x3 : Int32) (h : hh_H) : Option ((Int32 ⊕ Nat) × hh_H) :=
  hp_cb (f_IB_isWord F x1 h) fun q29 h30 =>
  if q29 = 0 then
    some (.inr 11, h30 ++ [.inr (11, [])])
  else
    hp_cb (f_IB_isWord F x2 h30) fun q33 h34 =>
    if q33 = 0 then
      some (.inr 11, h34 ++ [.inr (11, [])])
    else
      if x3 < 0 then
        some (.inr 11, h34 ++ [.inr (11, [])])
      else
        if x3 ≤ 3 then
          (hp_is h34 a0 8).bind fun _ =>
          hp_cb (f_IB_lookUp F a0 x1 x2 h34) fun q39 h40 =>
          (hp_ga h40 a0 8 8).bind fun v44 =>
          (hp_is h40 v44 0).bind fun _ =>
          hp_cb (f_Answer_begin F v44 0 h40) fun q46 h47 =>
          l_IB_find_50 F a0 x3 0 h47
        else
          some (.inr 11, h34 ++ [.inr (11, [])])
def f_IB_rank_58 (F : Nat) (r58 : Nat → Int32 → Int32 → Int32 → hh_H → Option ((Int32 ⊕ Nat) × hh_H)) (a0 : Nat) (x3 : Int32) (x4 : Int32) (x5 : Int32) (h : hh_H) : Option ((Int32 ⊕ Nat) × hh_H) :=
  (hp_ga h a0 8 3).bind fun v1 =>
  (hp_is h v1 3).bind fun _ =>
  hp_cb (f_Documents_size F v1 h) fun q3 h4 =>
  if q3 ≤ x5 then
    (hp_ga h4 a0 8 8).bind fun v9 =>
    (hp_is h4 v9 0).bind fun _ =>
    hp_cb (f_Answer_size F v9 h4) fun q11 h12 =>
    some (.inl q11, h12)
  else
    (hp_is h4 a0 8).bind fun _ =>
    hp_cb (f_IB_fits F a0 x5 1 h4) fun q16 h17 =>
    if q16 = 0 then
      r58 a0 x3 x4 (x5 + 1) h17
    else
      (hp_ga h17 a0 8 8).bind fun v22 =>
      (hp_ga h17 a0 8 6).bind fun v24 =>
      (hp_is h17 v24 4).bind fun _ =>
      hp_cb (f_Places_share F v24 x5 x3 h17) fun q26 h27 =>
      (hp_ga h27 a0 8 7).bind fun v31 =>
      (hp_is h27 v31 4).bind fun _ =>
      hp_cb (f_Places_share F v31 x5 x4 h27) fun q33 h34 =>
      (hp_nn (FP.dadd q26 q33)).bind fun y38 =>
      (hp_is h34 v22 0).bind fun _ =>
      hp_cb (f_Answer_put F v22 x5 y38 h34) fun q40 h41 =>
      r58 a0 x3 x4 (x5 + 1) h41
def l_IB_rank_58 (F : Nat) : Nat → Int32 → Int32 → Int32 → hh_H → Option ((Int32 ⊕ Nat) × hh_H) := hp_it (fun _ _ _ _ _ => none) (f_IB_rank_58 F) F
def f_IB_rank (F : Nat) (a0 : Nat) (x1 : Int32) (x2 : Int32) (h : hh_H) : Option ((Int32 ⊕ Nat) × hh_H) :=
  hp_cb (f_IB_isWord F x1 h) fun q45 h46 =>
  if q45 = 0 then
    some (.inr 11, h46 ++ [.inr (11, [])])
  else
    hp_cb (f_IB_isWord F x2 h46) fun q49 h50 =>
    if q49 = 0 then
      some (.inr 11, h50 ++ [.inr (11, [])])
    else
      (hp_is h50 a0 8).bind fun _ =>
      hp_cb (f_IB_lookUp F a0 x1 x2 h50) fun q53 h54 =>
      (hp_ga h54 a0 8 6).bind fun v58 =>
      (hp_is h54 v58 4).bind fun _ =>
      hp_cb (f_Places_frequency F v58 h54) fun q60 h61 =>
      (hp_ga h61 a0 8 7).bind fun v65 =>
      (hp_is h61 v65 4).bind fun _ =>
      hp_cb (f_Places_frequency F v65 h61) fun q67 h68 =>
      (hp_ga h68 a0 8 8).bind fun v72 =>
      (hp_is h68 v72 0).bind fun _ =>
      hp_cb (f_Answer_begin F v72 1 h68) fun q74 h75 =>
      l_IB_rank_58 F a0 q60 q67 0 h75
def f_IB_result (F : Nat) (a0 : Nat) (x1 : Int32) (h : hh_H) : Option ((Int32 ⊕ Nat) × hh_H) :=
  if x1 < 0 then
    some (.inr 14, h ++ [.inr (14, [])])
  else
    (hp_ga h a0 8 8).bind fun v2 =>
    (hp_is h v2 0).bind fun _ =>
    hp_cb (f_Answer_size F v2 h) fun q4 h5 =>
    if x1 < q4 then
      (hp_ga h5 a0 8 8).bind fun v10 =>
      (hp_is h5 v10 0).bind fun _ =>
      hp_cb (f_Answer_documentAt F v10 x1 h5) fun q12 h13 =>
      some (.inl q12, h13)
    else
      some (.inr 14, h5 ++ [.inr (14, [])])
def f_IB_score (F : Nat) (a0 : Nat) (x1 : Int32) (h : hh_H) : Option ((UInt64 ⊕ Nat) × hh_H) :=
  if x1 < 0 then
    some (.inr 14, h ++ [.inr (14, [])])
  else
    (hp_ga h a0 8 8).bind fun v2 =>
    (hp_is h v2 0).bind fun _ =>
    hp_cb (f_Answer_size F v2 h) fun q4 h5 =>
    if x1 < q4 then
      (hp_ga h5 a0 8 8).bind fun v10 =>
      (hp_is h5 v10 0).bind fun _ =>
      hp_cb (f_Answer_isRanked F v10 h5) fun q12 h13 =>
      if q12 = 0 then
        some (.inr 13, h13 ++ [.inr (13, [])])
      else
        (hp_ga h13 a0 8 8).bind fun v18 =>
        (hp_is h13 v18 0).bind fun _ =>
        hp_cb (f_Answer_scoreAt F v18 x1 h13) fun q20 h21 =>
        some (.inl q20, h21)
    else
      some (.inr 14, h5 ++ [.inr (14, [])])
def f_IB_byteOf (F : Nat) (a0 : Nat) (x1 : Int32) (x2 : Int32) (h : hh_H) : Option ((Int32 ⊕ Nat) × hh_H) :=
  (hp_ga h a0 8 5).bind fun v1 =>
  (hp_is h v1 7).bind fun _ =>
  hp_cb (f_RunRow_hasByte F v1 x1 x2 h) fun q3 h4 =>
  if q3 = 0 then
    some (.inr 15, h4 ++ [.inr (15, [])])
  else
    (hp_ga h4 a0 8 5).bind fun v9 =>
    (hp_is h4 v9 7).bind fun _ =>
    hp_cb (f_RunRow_byteAt F v9 x1 x2 h4) fun q11 h12 =>
    some (.inl q11, h12)
def f_IB_run (F : Nat) (a0 : Nat) (x1 : Int32) (x2 : Int32) (h : hh_H) : Option ((Int32 ⊕ Nat) × hh_H) :=
  if x1 < 0 then
    some (.inr 14, h ++ [.inr (14, [])])
  else
    (hp_ga h a0 8 5).bind fun v2 =>
    (hp_is h v2 7).bind fun _ =>
    hp_cb (f_RunRow_size F v2 h) fun q4 h5 =>
    if x1 < q4 then
      if x2 = 0 then
        (hp_ga h5 a0 8 5).bind fun v11 =>
        (hp_is h5 v11 7).bind fun _ =>
        hp_cb (f_RunRow_levelOf F v11 x1 h5) fun q13 h14 =>
        some (.inl q13, h14)
      else
      if x2 = 1 then
        (hp_ga h5 a0 8 5).bind fun v19 =>
        (hp_is h5 v19 7).bind fun _ =>
        hp_cb (f_RunRow_blocksOf F v19 x1 h5) fun q21 h22 =>
        some (.inl q21, h22)
      else
      if x2 = 2 then
        (hp_ga h5 a0 8 5).bind fun v27 =>
        (hp_is h5 v27 7).bind fun _ =>
        hp_cb (f_RunRow_firstBlockOf F v27 x1 h5) fun q29 h30 =>
        some (.inl q29, h30)
      else
      if x2 = 3 then
        (hp_ga h5 a0 8 5).bind fun v35 =>
        (hp_is h5 v35 7).bind fun _ =>
        hp_cb (f_RunRow_bytesOf F v35 x1 h5) fun q37 h38 =>
        some (.inl q37, h38)
      else
        some (.inr 11, h5 ++ [.inr (11, [])])
    else
      some (.inr 14, h5 ++ [.inr (14, [])])
theorem cw_X8_isWord : Cond.code yX8_isWord cX8_isWord 1 (some .boolean) ∈ hh_T := hh_at 343 (by decide +kernel) (by decide +kernel)
theorem cs_RX8_69 : hh_CS RX8 69 yX8_isWord cX8_isWord 1 (some .boolean) 1 [.static yX8_isWord] := ⟨cw_X8_isWord, hh_at 341 (by decide +kernel) (by decide +kernel), hh_at 35 (by decide +kernel) (by decide +kernel), hh_all1 (hh_at 342 (by decide +kernel) (by decide +kernel)), by decide +kernel⟩
theorem oa_RX8_84 : (∀ w ∈ hh_oa RX8 84 "java/lang/IllegalStateException" 7 hh_b7, w ∈ hh_T ∨ w ∈ hh_T2 ∨ w ∈ hh_T3) ∧ hh_six hh_b7 7 := ⟨by decide +kernel, by decide +kernel, by decide +kernel, by decide +kernel, by decide +kernel⟩
theorem tn_RX8_80 : Cond.classLink RX8 80 "java/lang/IllegalStateException" ∈ hh_T := hh_at 414 (by decide +kernel) (by decide +kernel)
theorem ti_E1 : Cond.instantiable "java/lang/IllegalStateException" 6 ∈ hh_T := hh_at 415 (by decide +kernel) (by decide +kernel)
theorem tz_E1 : Cond.initialized "java/lang/IllegalStateException" ∈ hh_T := hh_at 52 (by decide +kernel) (by decide +kernel)
theorem oa_RX8_77 : (∀ w ∈ hh_oa RX8 77 "java/lang/IllegalArgumentException" 7 hh_b7, w ∈ hh_T ∨ w ∈ hh_T2 ∨ w ∈ hh_T3) ∧ hh_six hh_b7 7 := ⟨by decide +kernel, by decide +kernel, by decide +kernel, by decide +kernel, by decide +kernel⟩
theorem tn_RX8_73 : Cond.classLink RX8 73 "java/lang/IllegalArgumentException" ∈ hh_T := hh_at 344 (by decide +kernel) (by decide +kernel)
theorem ti_E0 : Cond.instantiable "java/lang/IllegalArgumentException" 6 ∈ hh_T := hh_at 345 (by decide +kernel) (by decide +kernel)
theorem tz_E0 : Cond.initialized "java/lang/IllegalArgumentException" ∈ hh_T := hh_at 51 (by decide +kernel) (by decide +kernel)
theorem cs_RX8_104 : hh_CS RX8 104 yX5_keyOf cX5_keyOf 3 (some .int) 3 [.static yX5_keyOf] := ⟨cw_X5_keyOf, hh_at 963 (by decide +kernel) (by decide +kernel), hh_at 38 (by decide +kernel) (by decide +kernel), hh_all1 (hh_at 917 (by decide +kernel) (by decide +kernel)), by decide +kernel⟩
theorem cs_RX8_107 : hh_CS RX8 107 yX5_insert cX5_insert 3 none 1 [.instanceMethod yX5_insert, .selects yX5_insert.cls yX5_insert yX5_insert] := ⟨cw_X5_insert, hh_at 964 (by decide +kernel) (by decide +kernel), hh_at 38 (by decide +kernel) (by decide +kernel), hh_all2 (hh_at 920 (by decide +kernel) (by decide +kernel)) (hh_at 921 (by decide +kernel) (by decide +kernel)), by decide +kernel⟩
theorem cw_X3_addNext : Cond.code yX3_addNext cX3_addNext 1 (some .int) ∈ hh_T := hh_at 962 (by decide +kernel) (by decide +kernel)
theorem cs_RX8_101 : hh_CS RX8 101 yX3_addNext cX3_addNext 1 (some .int) 0 [.instanceMethod yX3_addNext, .selects yX3_addNext.cls yX3_addNext yX3_addNext] := ⟨cw_X3_addNext, hh_at 959 (by decide +kernel) (by decide +kernel), hh_at 37 (by decide +kernel) (by decide +kernel), hh_all2 (hh_at 960 (by decide +kernel) (by decide +kernel)) (hh_at 961 (by decide +kernel) (by decide +kernel)), by decide +kernel⟩
theorem cw_X8_flushBuffer : Cond.code yX8_flushBuffer cX8_flushBuffer 1 (some .boolean) ∈ hh_T := hh_at 442 (by decide +kernel) (by decide +kernel)
theorem cs_RX8_92 : hh_CS RX8 92 yX8_flushBuffer cX8_flushBuffer 1 (some .boolean) 0 [.instanceMethod yX8_flushBuffer, .selects yX8_flushBuffer.cls yX8_flushBuffer yX8_flushBuffer] := ⟨cw_X8_flushBuffer, hh_at 439 (by decide +kernel) (by decide +kernel), hh_at 35 (by decide +kernel) (by decide +kernel), hh_all2 (hh_at 441 (by decide +kernel) (by decide +kernel)) (hh_at 1 (by decide +kernel) (by decide +kernel)), by decide +kernel⟩
theorem oa_RX8_100 : (∀ w ∈ hh_oa RX8 100 "java/lang/UnsupportedOperationException" 7 hh_b7, w ∈ hh_T ∨ w ∈ hh_T2 ∨ w ∈ hh_T3) ∧ hh_six hh_b7 7 := ⟨by decide +kernel, by decide +kernel, by decide +kernel, by decide +kernel, by decide +kernel⟩
theorem tn_RX8_96 : Cond.classLink RX8 96 "java/lang/UnsupportedOperationException" ∈ hh_T := hh_at 943 (by decide +kernel) (by decide +kernel)
theorem ti_E2 : Cond.instantiable "java/lang/UnsupportedOperationException" 6 ∈ hh_T := hh_at 944 (by decide +kernel) (by decide +kernel)
theorem tz_E2 : Cond.initialized "java/lang/UnsupportedOperationException" ∈ hh_T := hh_at 66 (by decide +kernel) (by decide +kernel)
theorem cs_RX8_110 : hh_CS RX8 110 yX3_isLive cX3_isLive 2 (some .boolean) 1 [.instanceMethod yX3_isLive, .selects yX3_isLive.cls yX3_isLive yX3_isLive] := ⟨cw_X3_isLive, hh_at 973 (by decide +kernel) (by decide +kernel), hh_at 37 (by decide +kernel) (by decide +kernel), hh_all2 (hh_at 467 (by decide +kernel) (by decide +kernel)) (hh_at 468 (by decide +kernel) (by decide +kernel)), by decide +kernel⟩
theorem cw_X3_leaveOut : Cond.code yX3_leaveOut cX3_leaveOut 2 none ∈ hh_T := hh_at 993 (by decide +kernel) (by decide +kernel)
theorem cs_RX8_118 : hh_CS RX8 118 yX3_leaveOut cX3_leaveOut 2 none 1 [.instanceMethod yX3_leaveOut, .selects yX3_leaveOut.cls yX3_leaveOut yX3_leaveOut] := ⟨cw_X3_leaveOut, hh_at 990 (by decide +kernel) (by decide +kernel), hh_at 37 (by decide +kernel) (by decide +kernel), hh_all2 (hh_at 991 (by decide +kernel) (by decide +kernel)) (hh_at 992 (by decide +kernel) (by decide +kernel)), by decide +kernel⟩
theorem oa_RX8_117 : (∀ w ∈ hh_oa RX8 117 "java/util/NoSuchElementException" 13 hh_b13, w ∈ hh_T ∨ w ∈ hh_T2 ∨ w ∈ hh_T3) ∧ hh_six hh_b13 13 := ⟨by decide +kernel, by decide +kernel, by decide +kernel, by decide +kernel, by decide +kernel⟩
theorem tn_RX8_113 : Cond.classLink RX8 113 "java/util/NoSuchElementException" ∈ hh_T := hh_at 974 (by decide +kernel) (by decide +kernel)
theorem ti_E3 : Cond.instantiable "java/util/NoSuchElementException" 6 ∈ hh_T := hh_at 975 (by decide +kernel) (by decide +kernel)
theorem tz_E3 : Cond.initialized "java/util/NoSuchElementException" ∈ hh_T := hh_at 67 (by decide +kernel) (by decide +kernel)
theorem cw_X7_mergeAll : Cond.code yX7_mergeAll cX7_mergeAll 3 (some .boolean) ∈ hh_T := hh_at 1012 (by decide +kernel) (by decide +kernel)
theorem cs_RX8_125 : hh_CS RX8 125 yX7_mergeAll cX7_mergeAll 3 (some .boolean) 0 [.instanceMethod yX7_mergeAll, .selects yX7_mergeAll.cls yX7_mergeAll yX7_mergeAll] := ⟨cw_X7_mergeAll, hh_at 1009 (by decide +kernel) (by decide +kernel), hh_at 40 (by decide +kernel) (by decide +kernel), hh_all2 (hh_at 1010 (by decide +kernel) (by decide +kernel)) (hh_at 1011 (by decide +kernel) (by decide +kernel)), by decide +kernel⟩
theorem cw_X0_size : Cond.code yX0_size cX0_size 1 (some .int) ∈ hh_T := hh_at 1072 (by decide +kernel) (by decide +kernel)
theorem cs_RX8_148 : hh_CS RX8 148 yX0_size cX0_size 1 (some .int) 0 [.instanceMethod yX0_size, .selects yX0_size.cls yX0_size yX0_size] := ⟨cw_X0_size, hh_at 1069 (by decide +kernel) (by decide +kernel), hh_at 46 (by decide +kernel) (by decide +kernel), hh_all2 (hh_at 1070 (by decide +kernel) (by decide +kernel)) (hh_at 1071 (by decide +kernel) (by decide +kernel)), by decide +kernel⟩
theorem cw_X8_fits : Cond.code yX8_fits cX8_fits 5 (some .boolean) ∈ hh_T := hh_at 1060 (by decide +kernel) (by decide +kernel)
theorem cs_RX8_140 : hh_CS RX8 140 yX8_fits cX8_fits 5 (some .boolean) 2 [.instanceMethod yX8_fits, .selects yX8_fits.cls yX8_fits yX8_fits] := ⟨cw_X8_fits, hh_at 1057 (by decide +kernel) (by decide +kernel), hh_at 35 (by decide +kernel) (by decide +kernel), hh_all2 (hh_at 1059 (by decide +kernel) (by decide +kernel)) (hh_at 19 (by decide +kernel) (by decide +kernel)), by decide +kernel⟩
theorem cw_X0_put : Cond.code yX0_put cX0_put 5 none ∈ hh_T := hh_at 1068 (by decide +kernel) (by decide +kernel)
theorem cs_RX8_144 : hh_CS RX8 144 yX0_put cX0_put 5 none 2 [.instanceMethod yX0_put, .selects yX0_put.cls yX0_put yX0_put] := ⟨cw_X0_put, hh_at 1065 (by decide +kernel) (by decide +kernel), hh_at 46 (by decide +kernel) (by decide +kernel), hh_all2 (hh_at 1066 (by decide +kernel) (by decide +kernel)) (hh_at 1067 (by decide +kernel) (by decide +kernel)), by decide +kernel⟩
theorem cw_X8_lookUp : Cond.code yX8_lookUp cX8_lookUp 3 none ∈ hh_T := hh_at 1030 (by decide +kernel) (by decide +kernel)
theorem cs_RX8_132 : hh_CS RX8 132 yX8_lookUp cX8_lookUp 3 none 2 [.instanceMethod yX8_lookUp, .selects yX8_lookUp.cls yX8_lookUp yX8_lookUp] := ⟨cw_X8_lookUp, hh_at 1027 (by decide +kernel) (by decide +kernel), hh_at 35 (by decide +kernel) (by decide +kernel), hh_all2 (hh_at 1029 (by decide +kernel) (by decide +kernel)) (hh_at 18 (by decide +kernel) (by decide +kernel)), by decide +kernel⟩
theorem cw_X0_begin : Cond.code yX0_begin cX0_begin 2 none ∈ hh_T := hh_at 1056 (by decide +kernel) (by decide +kernel)
theorem cs_RX8_136 : hh_CS RX8 136 yX0_begin cX0_begin 2 none 1 [.instanceMethod yX0_begin, .selects yX0_begin.cls yX0_begin yX0_begin] := ⟨cw_X0_begin, hh_at 1053 (by decide +kernel) (by decide +kernel), hh_at 46 (by decide +kernel) (by decide +kernel), hh_all2 (hh_at 1054 (by decide +kernel) (by decide +kernel)) (hh_at 1055 (by decide +kernel) (by decide +kernel)), by decide +kernel⟩
theorem cw_X4_share : Cond.code yX4_share cX4_share 4 (some .double) ∈ hh_T := hh_at 1087 (by decide +kernel) (by decide +kernel)
theorem cs_RX8_152 : hh_CS RX8 152 yX4_share cX4_share 4 (some .double) 2 [.instanceMethod yX4_share, .selects yX4_share.cls yX4_share yX4_share] := ⟨cw_X4_share, hh_at 1084 (by decide +kernel) (by decide +kernel), hh_at 45 (by decide +kernel) (by decide +kernel), hh_all2 (hh_at 1085 (by decide +kernel) (by decide +kernel)) (hh_at 1086 (by decide +kernel) (by decide +kernel)), by decide +kernel⟩
theorem cw_X4_frequency : Cond.code yX4_frequency cX4_frequency 6 (some .int) ∈ hh_T := hh_at 1083 (by decide +kernel) (by decide +kernel)
theorem cs_RX8_149 : hh_CS RX8 149 yX4_frequency cX4_frequency 6 (some .int) 0 [.instanceMethod yX4_frequency, .selects yX4_frequency.cls yX4_frequency yX4_frequency] := ⟨cw_X4_frequency, hh_at 1080 (by decide +kernel) (by decide +kernel), hh_at 45 (by decide +kernel) (by decide +kernel), hh_all2 (hh_at 1081 (by decide +kernel) (by decide +kernel)) (hh_at 1082 (by decide +kernel) (by decide +kernel)), by decide +kernel⟩
theorem cw_X0_documentAt : Cond.code yX0_documentAt cX0_documentAt 2 (some .int) ∈ hh_T := hh_at 1106 (by decide +kernel) (by decide +kernel)
theorem cs_RX8_158 : hh_CS RX8 158 yX0_documentAt cX0_documentAt 2 (some .int) 1 [.instanceMethod yX0_documentAt, .selects yX0_documentAt.cls yX0_documentAt yX0_documentAt] := ⟨cw_X0_documentAt, hh_at 1103 (by decide +kernel) (by decide +kernel), hh_at 46 (by decide +kernel) (by decide +kernel), hh_all2 (hh_at 1104 (by decide +kernel) (by decide +kernel)) (hh_at 1105 (by decide +kernel) (by decide +kernel)), by decide +kernel⟩
theorem cw_X0_isRanked : Cond.code yX0_isRanked cX0_isRanked 1 (some .boolean) ∈ hh_T := hh_at 1117 (by decide +kernel) (by decide +kernel)
theorem cs_RX8_162 : hh_CS RX8 162 yX0_isRanked cX0_isRanked 1 (some .boolean) 0 [.instanceMethod yX0_isRanked, .selects yX0_isRanked.cls yX0_isRanked yX0_isRanked] := ⟨cw_X0_isRanked, hh_at 1114 (by decide +kernel) (by decide +kernel), hh_at 46 (by decide +kernel) (by decide +kernel), hh_all2 (hh_at 1115 (by decide +kernel) (by decide +kernel)) (hh_at 1116 (by decide +kernel) (by decide +kernel)), by decide +kernel⟩
theorem cw_X0_scoreAt : Cond.code yX0_scoreAt cX0_scoreAt 2 (some .double) ∈ hh_T := hh_at 1122 (by decide +kernel) (by decide +kernel)
theorem cs_RX8_167 : hh_CS RX8 167 yX0_scoreAt cX0_scoreAt 2 (some .double) 1 [.instanceMethod yX0_scoreAt, .selects yX0_scoreAt.cls yX0_scoreAt yX0_scoreAt] := ⟨cw_X0_scoreAt, hh_at 1119 (by decide +kernel) (by decide +kernel), hh_at 46 (by decide +kernel) (by decide +kernel), hh_all2 (hh_at 1120 (by decide +kernel) (by decide +kernel)) (hh_at 1121 (by decide +kernel) (by decide +kernel)), by decide +kernel⟩
theorem cw_X7_hasByte : Cond.code yX7_hasByte cX7_hasByte 3 (some .boolean) ∈ hh_T := hh_at 1134 (by decide +kernel) (by decide +kernel)
theorem cs_RX8_171 : hh_CS RX8 171 yX7_hasByte cX7_hasByte 3 (some .boolean) 2 [.instanceMethod yX7_hasByte, .selects yX7_hasByte.cls yX7_hasByte yX7_hasByte] := ⟨cw_X7_hasByte, hh_at 1131 (by decide +kernel) (by decide +kernel), hh_at 40 (by decide +kernel) (by decide +kernel), hh_all2 (hh_at 1132 (by decide +kernel) (by decide +kernel)) (hh_at 1133 (by decide +kernel) (by decide +kernel)), by decide +kernel⟩
theorem cw_X7_byteAt : Cond.code yX7_byteAt cX7_byteAt 3 (some .int) ∈ hh_T := hh_at 1145 (by decide +kernel) (by decide +kernel)
theorem cs_RX8_179 : hh_CS RX8 179 yX7_byteAt cX7_byteAt 3 (some .int) 2 [.instanceMethod yX7_byteAt, .selects yX7_byteAt.cls yX7_byteAt yX7_byteAt] := ⟨cw_X7_byteAt, hh_at 1142 (by decide +kernel) (by decide +kernel), hh_at 40 (by decide +kernel) (by decide +kernel), hh_all2 (hh_at 1143 (by decide +kernel) (by decide +kernel)) (hh_at 1144 (by decide +kernel) (by decide +kernel)), by decide +kernel⟩
theorem oa_RX8_178 : (∀ w ∈ hh_oa RX8 178 "java/lang/IndexOutOfBoundsException" 7 hh_b7, w ∈ hh_T ∨ w ∈ hh_T2 ∨ w ∈ hh_T3) ∧ hh_six hh_b7 7 := ⟨by decide +kernel, by decide +kernel, by decide +kernel, by decide +kernel, by decide +kernel⟩
theorem tn_RX8_174 : Cond.classLink RX8 174 "java/lang/IndexOutOfBoundsException" ∈ hh_T := hh_at 1139 (by decide +kernel) (by decide +kernel)
theorem ti_E4 : Cond.instantiable "java/lang/IndexOutOfBoundsException" 6 ∈ hh_T := hh_at 557 (by decide +kernel) (by decide +kernel)
theorem tz_E4 : Cond.initialized "java/lang/IndexOutOfBoundsException" ∈ hh_T := hh_at 54 (by decide +kernel) (by decide +kernel)
theorem cw_X7_levelOf : Cond.code yX7_levelOf cX7_levelOf 2 (some .int) ∈ hh_T := hh_at 1162 (by decide +kernel) (by decide +kernel)
theorem cs_RX8_185 : hh_CS RX8 185 yX7_levelOf cX7_levelOf 2 (some .int) 1 [.instanceMethod yX7_levelOf, .selects yX7_levelOf.cls yX7_levelOf yX7_levelOf] := ⟨cw_X7_levelOf, hh_at 1159 (by decide +kernel) (by decide +kernel), hh_at 40 (by decide +kernel) (by decide +kernel), hh_all2 (hh_at 1160 (by decide +kernel) (by decide +kernel)) (hh_at 1161 (by decide +kernel) (by decide +kernel)), by decide +kernel⟩
theorem cs_RX8_188 : hh_CS RX8 188 yX7_blocksOf cX7_blocksOf 2 (some .int) 1 [.instanceMethod yX7_blocksOf, .selects yX7_blocksOf.cls yX7_blocksOf yX7_blocksOf] := ⟨cw_X7_blocksOf, hh_at 1167 (by decide +kernel) (by decide +kernel), hh_at 40 (by decide +kernel) (by decide +kernel), hh_all2 (hh_at 1168 (by decide +kernel) (by decide +kernel)) (hh_at 1169 (by decide +kernel) (by decide +kernel)), by decide +kernel⟩
theorem cw_X7_firstBlockOf : Cond.code yX7_firstBlockOf cX7_firstBlockOf 2 (some .int) ∈ hh_T := hh_at 1174 (by decide +kernel) (by decide +kernel)
theorem cs_RX8_191 : hh_CS RX8 191 yX7_firstBlockOf cX7_firstBlockOf 2 (some .int) 1 [.instanceMethod yX7_firstBlockOf, .selects yX7_firstBlockOf.cls yX7_firstBlockOf yX7_firstBlockOf] := ⟨cw_X7_firstBlockOf, hh_at 1171 (by decide +kernel) (by decide +kernel), hh_at 40 (by decide +kernel) (by decide +kernel), hh_all2 (hh_at 1172 (by decide +kernel) (by decide +kernel)) (hh_at 1173 (by decide +kernel) (by decide +kernel)), by decide +kernel⟩
theorem cw_X7_bytesOf : Cond.code yX7_bytesOf cX7_bytesOf 2 (some .int) ∈ hh_T := hh_at 1179 (by decide +kernel) (by decide +kernel)
theorem cs_RX8_194 : hh_CS RX8 194 yX7_bytesOf cX7_bytesOf 2 (some .int) 1 [.instanceMethod yX7_bytesOf, .selects yX7_bytesOf.cls yX7_bytesOf yX7_bytesOf] := ⟨cw_X7_bytesOf, hh_at 1176 (by decide +kernel) (by decide +kernel), hh_at 40 (by decide +kernel) (by decide +kernel), hh_all2 (hh_at 1177 (by decide +kernel) (by decide +kernel)) (hh_at 1178 (by decide +kernel) (by decide +kernel)), by decide +kernel⟩
def mc_IB_word : Nat := 1
def ms_IB_word : Nat := 6
def rm_IB_word : Room := { frames := 6, cells := 1, slots := 6, locals := 100 }
abbrev ok_IB_word (X : hh_X) (B e0 : Nat) : Prop := hh_ok X B e0 cX8_word RX8 2 (some .int) "word" rm_IB_word
set_option maxRecDepth 100000 in
set_option maxHeartbeats 4000000 in
theorem w_IB_word {X : hh_X} {B e0 : Nat} {rr : (Int32 ⊕ Nat) × hh_H} (C : ok_IB_word X B e0) (E : hh_EndT X B e0 (fun x => .int x) rr mc_IB_word ms_IB_word) (F : Nat) (a0 : Nat) (x1 : Int32) (h : hh_H)
    (hf : f_IB_word F a0 x1 h = some rr) : hh_W X 0 0 0 [(0, .ref (hh_ad B e0 a0)), (1, .int x1)] [] h := by
  unfold f_IB_word at hf
  refine r_iload_n C dX8_word_0 rfl 1 rfl ?_
  obtain ⟨q1, h2, e3, hf⟩ := hp_cbe hf
  refine r_callS C dX8_word_1 cs_RX8_69 (c_IB_isWord B e0 F x1 h _ e3) rfl rfl rfl ⟨by decide, by decide⟩ ⟨by decide, by decide⟩ (Nat.le_of_ble_eq_true rfl) rfl ?_
  refine r_if_ne C dX8_word_4 (tgt := 17) (by decide) (fun c4 => ?_) (fun c4 => ?_)
  · rw [if_neg c4] at hf
    refine r_aload_n C dX8_word_17 rfl 0 rfl ?_
    obtain ⟨v5, e6, hf⟩ := hp_bind hf
    refine r_getI C dX8_word_18 fl_RX8_21 e6 ?_
    refine r_bipush C dX8_word_21 (v := 20) (by decide) ?_
    refine r_icmp_lt C dX8_word_23 (tgt := 36) (by decide) (fun c7 => ?_) (fun c7 => ?_)
    · rw [if_pos c7] at hf
      refine r_aload_n C dX8_word_36 rfl 0 rfl ?_
      obtain ⟨v8, e9, hf⟩ := hp_bind hf
      refine r_getA C dX8_word_37 fl_RX8_17 e9 ?_
      refine r_aload_n C dX8_word_40 rfl 0 rfl ?_
      obtain ⟨v10, e11, hf⟩ := hp_bind hf
      refine r_getI C dX8_word_41 fl_RX8_21 e11 ?_
      refine r_iload_n C dX8_word_44 rfl 1 rfl ?_
      obtain ⟨h12, e13, hf⟩ := hp_bind hf
      refine r_si C dX8_word_45 e13 ?_
      refine r_aload_n C dX8_word_46 rfl 0 rfl ?_
      refine r_dup C dX8_word_47 rfl ?_
      obtain ⟨v14, e15, hf⟩ := hp_bind hf
      refine r_getI C dX8_word_48 fl_RX8_21 e15 ?_
      refine r_iconst C dX8_word_51 (v := 1) (by decide) ?_
      refine r_iadd C dX8_word_52 ?_
      obtain ⟨h16, e17, hf⟩ := hp_bind hf
      refine r_putI C dX8_word_53 fl_RX8_21 e17 ?_
      refine r_aload_n C dX8_word_56 rfl 0 rfl ?_
      obtain ⟨v18, e19, hf⟩ := hp_bind hf
      refine r_getI C dX8_word_57 fl_RX8_21 e19 ?_
      refine r_iconst C dX8_word_60 (v := 1) (by decide) ?_
      refine r_isub C dX8_word_61 ?_
      exact r_ireturnT C E dX8_word_62 (by decide) (by decide) hf
    · rw [if_neg c7] at hf
      exact r_throw C E dX8_word_26 dX8_word_29 dX8_word_30 dX8_word_32 dX8_word_35 rfl tn_RX8_80 ti_E1 tz_E1 (tx := "the open document is full") (by decide +kernel) (by decide +kernel) oa_RX8_84 (by decide) (Nat.le_of_ble_eq_true rfl) (by decide) (by decide) (by decide) (by decide) hf
  · rw [if_pos c4] at hf
    exact r_throw C E dX8_word_7 dX8_word_10 dX8_word_11 dX8_word_13 dX8_word_16 rfl tn_RX8_73 ti_E0 tz_E0 (tx := "no such word") (by decide +kernel) (by decide +kernel) oa_RX8_77 (by decide) (Nat.le_of_ble_eq_true rfl) (by decide) (by decide) (by decide) (by decide) hf
theorem c_IB_word (B e0 F : Nat) (a0 : Nat) (x1 : Int32) (h : hh_H) (rr : (Int32 ⊕ Nat) × hh_H) (hf : f_IB_word F a0 x1 h = some rr) : hh_MetT yX8_word cX8_word 2 (some .int) rm_IB_word mc_IB_word ms_IB_word B e0 [.ref (hh_ad B e0 a0), .int x1] h (fun x => .int x) rr :=
  hh_metT (by decide) (Nat.le_of_ble_eq_true rfl) fun X C E => hh_pick [0, 1] rfl (w_IB_word C E F a0 x1 h hf)
def mc_IB_close : Nat := 187
def ms_IB_close : Nat := 8872
def rm_IB_close : Room := { frames := 10, cells := 187, slots := 8872, locals := 248 }
abbrev ok_IB_close (X : hh_X) (B e0 : Nat) : Prop := hh_ok X B e0 cX8_close RX8 3 (some .int) "close" rm_IB_close
set_option maxRecDepth 100000 in
set_option maxHeartbeats 4000000 in
theorem w_IB_close_100 {X : hh_X} {B e0 : Nat} {rr : (Int32 ⊕ Nat) × hh_H} (C : ok_IB_close X B e0) (E : hh_EndT X B e0 (fun x => .int x) rr mc_IB_close ms_IB_close) (F : Nat) (a0 : Nat) (x1 : Int32) (h : hh_H)
    (hf : f_IB_close_100 F a0 x1 h = some rr) : hh_W X 186 8866 100 [(0, .ref (hh_ad B e0 a0)), (1, .int x1)] [] h := by
  unfold f_IB_close_100 at hf
  refine r_aload_n C dX8_close_100 rfl 0 rfl ?_
  refine r_iconst C dX8_close_101 (v := 0) (by decide) ?_
  obtain ⟨h1, e2, hf⟩ := hp_bind hf
  refine r_putI C dX8_close_102 fl_RX8_21 e2 ?_
  refine r_iload_n C dX8_close_105 rfl 1 rfl ?_
  exact r_ireturnT C E dX8_close_106 (by decide) (by decide) hf
set_option maxRecDepth 100000 in
set_option maxHeartbeats 4000000 in
theorem w_IB_close_68 {X : hh_X} {B e0 : Nat} {rr : (Int32 ⊕ Nat) × hh_H} (C : ok_IB_close X B e0) (E : hh_EndT X B e0 (fun x => .int x) rr mc_IB_close ms_IB_close) (F : Nat) (r68 : Nat → Int32 → Int32 → hh_H → Option ((Int32 ⊕ Nat) × hh_H)) (H68 : ∀ (a0 : Nat) (x1 : Int32) (x2 : Int32) (h : hh_H), r68 a0 x1 x2 h = some rr → hh_W X 186 8866 68 [(0, .ref (hh_ad B e0 a0)), (1, .int x1), (2, .int x2)] [] h) (a0 : Nat) (x1 : Int32) (x2 : Int32) (h : hh_H)
    (hf : f_IB_close_68 F r68 a0 x1 x2 h = some rr) : hh_W X 186 8866 68 [(0, .ref (hh_ad B e0 a0)), (1, .int x1), (2, .int x2)] [] h := by
  unfold f_IB_close_68 at hf
  refine r_iload_n C dX8_close_68 rfl 2 rfl ?_
  refine r_aload_n C dX8_close_69 rfl 0 rfl ?_
  obtain ⟨v3, e4, hf⟩ := hp_bind hf
  refine r_getI C dX8_close_70 fl_RX8_21 e4 ?_
  refine r_icmp_ge C dX8_close_73 (tgt := 100) (by decide) (fun c5 => ?_) (fun c5 => ?_)
  · rw [if_pos c5] at hf
    refine hh_pick [0, 1] rfl ?_
    exact w_IB_close_100 C E F a0 x1 h hf
  · rw [if_neg c5] at hf
    refine r_aload_n C dX8_close_76 rfl 0 rfl ?_
    obtain ⟨v6, e7, hf⟩ := hp_bind hf
    refine r_getA C dX8_close_77 fl_RX8_36 e7 ?_
    refine r_aload_n C dX8_close_80 rfl 0 rfl ?_
    obtain ⟨v8, e9, hf⟩ := hp_bind hf
    refine r_getA C dX8_close_81 fl_RX8_17 e9 ?_
    refine r_iload_n C dX8_close_84 rfl 2 rfl ?_
    obtain ⟨v10, e11, hf⟩ := hp_bind hf
    refine r_ai C dX8_close_85 e11 ?_
    refine r_iload_n C dX8_close_86 rfl 1 rfl ?_
    refine r_iload_n C dX8_close_87 rfl 2 rfl ?_
    obtain ⟨q12, h13, e14, hf⟩ := hp_cbe hf
    refine r_callS C dX8_close_88 cs_RX8_104 (c_Postings_keyOf B e0 F v10 x1 x2 h _ e14) rfl rfl rfl ⟨by decide, by decide⟩ ⟨by decide, by decide⟩ (Nat.le_of_ble_eq_true rfl) rfl ?_
    obtain ⟨_, e18, hf⟩ := hp_bind hf
    obtain ⟨g19, e18⟩ := hp_is_of e18
    obtain ⟨q15, h16, e17, hf⟩ := hp_cbe hf
    refine r_callV C dX8_close_91 cs_RX8_107 rfl e18 (c_Postings_insert B e0 F v6 q12 h13 _ e17) rfl rfl rfl ⟨by decide, by decide⟩ ⟨by decide, by decide⟩ (Nat.le_of_ble_eq_true rfl) rfl ?_
    refine r_iinc (lv' := [(2, .int (x2 + 1)), (0, .ref (hh_ad B e0 a0)), (1, .int x1)]) C dX8_close_94 2 rfl rfl (by decide) rfl ?_
    refine r_goto C dX8_close_97 (tgt := 68) (by decide) ?_
    refine hh_pick [1, 2, 0] rfl ?_
    exact H68 a0 x1 (x2 + 1) h16 hf
theorem wl_IB_close_68 {X : hh_X} {B e0 : Nat} {rr : (Int32 ⊕ Nat) × hh_H} (C : ok_IB_close X B e0) (E : hh_EndT X B e0 (fun x => .int x) rr mc_IB_close ms_IB_close) (F : Nat) :
    ∀ (n : Nat) (a0 : Nat) (x1 : Int32) (x2 : Int32) (h : hh_H), hp_it (fun _ _ _ _ => none) (f_IB_close_68 F) n a0 x1 x2 h = some rr → hh_W X 186 8866 68 [(0, .ref (hh_ad B e0 a0)), (1, .int x1), (2, .int x2)] [] h := by
  intro n
  induction n with
  | zero => intro a0 x1 x2 h hf; cases hf
  | succ n ih =>
    intro a0 x1 x2 h hf
    exact w_IB_close_68 C E F _ ih a0 x1 x2 h hf
set_option maxRecDepth 100000 in
set_option maxHeartbeats 4000000 in
theorem w_IB_close_58 {X : hh_X} {B e0 : Nat} {rr : (Int32 ⊕ Nat) × hh_H} (C : ok_IB_close X B e0) (E : hh_EndT X B e0 (fun x => .int x) rr mc_IB_close ms_IB_close) (F : Nat) (a0 : Nat) (h : hh_H)
    (hf : f_IB_close_58 F a0 h = some rr) : hh_W X 186 8866 58 [(0, .ref (hh_ad B e0 a0))] [] h := by
  unfold f_IB_close_58 at hf
  refine r_aload_n C dX8_close_58 rfl 0 rfl ?_
  obtain ⟨v20, e21, hf⟩ := hp_bind hf
  refine r_getA C dX8_close_59 fl_RX8_27 e21 ?_
  obtain ⟨_, e25, hf⟩ := hp_bind hf
  obtain ⟨g26, e25⟩ := hp_is_of e25
  obtain ⟨q22, h23, e24, hf⟩ := hp_cbe hf
  refine r_callV C dX8_close_62 cs_RX8_101 rfl e25 (c_Documents_addNext B e0 F v20 h _ e24) rfl rfl rfl ⟨by decide, by decide⟩ ⟨by decide, by decide⟩ (Nat.le_of_ble_eq_true rfl) rfl ?_
  refine r_istore_n (lv' := [(1, .int q22), (0, .ref (hh_ad B e0 a0))]) C dX8_close_65 rfl (by decide) rfl ?_
  refine r_iconst C dX8_close_66 (v := 0) (by decide) ?_
  refine r_istore_n (lv' := [(2, .int 0), (1, .int q22), (0, .ref (hh_ad B e0 a0))]) C dX8_close_67 rfl (by decide) rfl ?_
  refine hh_pick [2, 1, 0] rfl ?_
  exact wl_IB_close_68 C E F F a0 q22 0 h23 hf
set_option maxRecDepth 100000 in
set_option maxHeartbeats 4000000 in
theorem w_IB_close {X : hh_X} {B e0 : Nat} {rr : (Int32 ⊕ Nat) × hh_H} (C : ok_IB_close X B e0) (E : hh_EndT X B e0 (fun x => .int x) rr mc_IB_close ms_IB_close) (F : Nat) (a0 : Nat) (h : hh_H)
    (hf : f_IB_close F a0 h = some rr) : hh_W X 0 0 0 [(0, .ref (hh_ad B e0 a0))] [] h := by
  unfold f_IB_close at hf
  refine r_aload_n C dX8_close_0 rfl 0 rfl ?_
  obtain ⟨v27, e28, hf⟩ := hp_bind hf
  refine r_getA C dX8_close_1 fl_RX8_27 e28 ?_
  obtain ⟨_, e32, hf⟩ := hp_bind hf
  obtain ⟨g33, e32⟩ := hp_is_of e32
  obtain ⟨q29, h30, e31, hf⟩ := hp_cbe hf
  refine r_callV C dX8_close_4 cs_RX8_85 rfl e32 (c_Documents_size B e0 F v27 h _ e31) rfl rfl rfl ⟨by decide, by decide⟩ ⟨by decide, by decide⟩ (Nat.le_of_ble_eq_true rfl) rfl ?_
  refine r_bipush C dX8_close_7 (v := 40) (by decide) ?_
  refine r_icmp_lt C dX8_close_9 (tgt := 22) (by decide) (fun c34 => ?_) (fun c34 => ?_)
  · rw [if_pos c34] at hf
    refine r_aload_n C dX8_close_22 rfl 0 rfl ?_
    obtain ⟨v35, e36, hf⟩ := hp_bind hf
    refine r_getA C dX8_close_23 fl_RX8_36 e36 ?_
    obtain ⟨_, e40, hf⟩ := hp_bind hf
    obtain ⟨g41, e40⟩ := hp_is_of e40
    obtain ⟨q37, h38, e39, hf⟩ := hp_cbe hf
    refine r_callV C dX8_close_26 cs_RX8_91 rfl e40 (c_Postings_size B e0 F v35 h30 _ e39) rfl rfl rfl ⟨by decide, by decide⟩ ⟨by decide, by decide⟩ (Nat.le_of_ble_eq_true rfl) rfl ?_
    refine r_aload_n C dX8_close_29 rfl 0 rfl ?_
    obtain ⟨v42, e43, hf⟩ := hp_bind hf
    refine r_getI C dX8_close_30 fl_RX8_21 e43 ?_
    refine r_iadd C dX8_close_33 ?_
    refine r_aload_n C dX8_close_34 rfl 0 rfl ?_
    obtain ⟨v44, e45, hf⟩ := hp_bind hf
    refine r_getI C dX8_close_35 fl_RX8_13 e45 ?_
    refine r_icmp_le C dX8_close_38 (tgt := 58) (by decide) (fun c46 => ?_) (fun c46 => ?_)
    · rw [if_pos c46] at hf
      refine hh_pick [0] rfl ?_
      refine hh_widen (cn' := 186) (sn' := 8866) (by decide) (by decide) ?_
      exact w_IB_close_58 C E F a0 h38 hf
    · rw [if_neg c46] at hf
      refine r_aload_n C dX8_close_41 rfl 0 rfl ?_
      obtain ⟨_, e50, hf⟩ := hp_bind hf
      obtain ⟨g51, e50⟩ := hp_is_of e50
      obtain ⟨q47, h48, e49, hf⟩ := hp_cbe hf
      refine r_callV C dX8_close_42 cs_RX8_92 rfl e50 (c_IB_flushBuffer B e0 F a0 h38 _ e49) rfl rfl rfl ⟨by decide, by decide⟩ ⟨by decide, by decide⟩ (Nat.le_of_ble_eq_true rfl) rfl ?_
      refine r_if_ne C dX8_close_45 (tgt := 58) (by decide) (fun c52 => ?_) (fun c52 => ?_)
      · rw [if_neg c52] at hf
        refine hh_pick [0] rfl ?_
        exact w_IB_close_58 C E F a0 h48 hf
      · rw [if_pos c52] at hf
        exact r_throw C E dX8_close_48 dX8_close_51 dX8_close_52 dX8_close_54 dX8_close_57 rfl tn_RX8_96 ti_E2 tz_E2 (tx := "no room for the buffer") (by decide +kernel) (by decide +kernel) oa_RX8_100 (by decide) (Nat.le_of_ble_eq_true rfl) (by decide) (by decide) (by decide) (by decide) hf
  · rw [if_neg c34] at hf
    exact r_throw C E dX8_close_12 dX8_close_15 dX8_close_16 dX8_close_18 dX8_close_21 rfl tn_RX8_80 ti_E1 tz_E1 (tx := "there are 40 documents") (by decide +kernel) (by decide +kernel) oa_RX8_84 (by decide) (Nat.le_of_ble_eq_true rfl) (by decide) (by decide) (by decide) (by decide) hf
theorem c_IB_close (B e0 F : Nat) (a0 : Nat) (h : hh_H) (rr : (Int32 ⊕ Nat) × hh_H) (hf : f_IB_close F a0 h = some rr) : hh_MetT yX8_close cX8_close 3 (some .int) rm_IB_close mc_IB_close ms_IB_close B e0 [.ref (hh_ad B e0 a0)] h (fun x => .int x) rr :=
  hh_metT (by decide) (Nat.le_of_ble_eq_true rfl) fun X C E => hh_pick [0] rfl (w_IB_close C E F a0 h hf)
def mc_IB_drop : Nat := 1
def ms_IB_drop : Nat := 6
def rm_IB_drop : Room := { frames := 6, cells := 1, slots := 6, locals := 100 }
abbrev ok_IB_drop (X : hh_X) (B e0 : Nat) : Prop := hh_ok X B e0 cX8_drop RX8 2 (some .int) "drop" rm_IB_drop
set_option maxRecDepth 100000 in
set_option maxHeartbeats 4000000 in
theorem w_IB_drop {X : hh_X} {B e0 : Nat} {rr : (Int32 ⊕ Nat) × hh_H} (C : ok_IB_drop X B e0) (E : hh_EndT X B e0 (fun x => .int x) rr mc_IB_drop ms_IB_drop) (F : Nat) (a0 : Nat) (x1 : Int32) (h : hh_H)
    (hf : f_IB_drop F a0 x1 h = some rr) : hh_W X 0 0 0 [(0, .ref (hh_ad B e0 a0)), (1, .int x1)] [] h := by
  unfold f_IB_drop at hf
  refine r_aload_n C dX8_drop_0 rfl 0 rfl ?_
  obtain ⟨v1, e2, hf⟩ := hp_bind hf
  refine r_getA C dX8_drop_1 fl_RX8_27 e2 ?_
  refine r_iload_n C dX8_drop_4 rfl 1 rfl ?_
  obtain ⟨_, e6, hf⟩ := hp_bind hf
  obtain ⟨g7, e6⟩ := hp_is_of e6
  obtain ⟨q3, h4, e5, hf⟩ := hp_cbe hf
  refine r_callV C dX8_drop_5 cs_RX8_110 rfl e6 (c_Documents_isLive B e0 F v1 x1 h _ e5) rfl rfl rfl ⟨by decide, by decide⟩ ⟨by decide, by decide⟩ (Nat.le_of_ble_eq_true rfl) rfl ?_
  refine r_if_ne C dX8_drop_8 (tgt := 21) (by decide) (fun c8 => ?_) (fun c8 => ?_)
  · rw [if_neg c8] at hf
    refine r_aload_n C dX8_drop_21 rfl 0 rfl ?_
    obtain ⟨v9, e10, hf⟩ := hp_bind hf
    refine r_getA C dX8_drop_22 fl_RX8_27 e10 ?_
    refine r_iload_n C dX8_drop_25 rfl 1 rfl ?_
    obtain ⟨_, e14, hf⟩ := hp_bind hf
    obtain ⟨g15, e14⟩ := hp_is_of e14
    obtain ⟨q11, h12, e13, hf⟩ := hp_cbe hf
    refine r_callV C dX8_drop_26 cs_RX8_118 rfl e14 (c_Documents_leaveOut B e0 F v9 x1 h4 _ e13) rfl rfl rfl ⟨by decide, by decide⟩ ⟨by decide, by decide⟩ (Nat.le_of_ble_eq_true rfl) rfl ?_
    refine r_aload_n C dX8_drop_29 rfl 0 rfl ?_
    obtain ⟨v16, e17, hf⟩ := hp_bind hf
    refine r_getA C dX8_drop_30 fl_RX8_27 e17 ?_
    obtain ⟨_, e21, hf⟩ := hp_bind hf
    obtain ⟨g22, e21⟩ := hp_is_of e21
    obtain ⟨q18, h19, e20, hf⟩ := hp_cbe hf
    refine r_callV C dX8_drop_33 cs_RX8_121 rfl e21 (c_Documents_live B e0 F v16 h12 _ e20) rfl rfl rfl ⟨by decide, by decide⟩ ⟨by decide, by decide⟩ (Nat.le_of_ble_eq_true rfl) rfl ?_
    exact r_ireturnT C E dX8_drop_36 (by decide) (by decide) hf
  · rw [if_pos c8] at hf
    exact r_throw C E dX8_drop_11 dX8_drop_14 dX8_drop_15 dX8_drop_17 dX8_drop_20 rfl tn_RX8_113 ti_E3 tz_E3 (tx := "no such document, or it is dropped") (by decide +kernel) (by decide +kernel) oa_RX8_117 (by decide) (Nat.le_of_ble_eq_true rfl) (by decide) (by decide) (by decide) (by decide) hf
theorem c_IB_drop (B e0 F : Nat) (a0 : Nat) (x1 : Int32) (h : hh_H) (rr : (Int32 ⊕ Nat) × hh_H) (hf : f_IB_drop F a0 x1 h = some rr) : hh_MetT yX8_drop cX8_drop 2 (some .int) rm_IB_drop mc_IB_drop ms_IB_drop B e0 [.ref (hh_ad B e0 a0), .int x1] h (fun x => .int x) rr :=
  hh_metT (by decide) (Nat.le_of_ble_eq_true rfl) fun X C E => hh_pick [0, 1] rfl (w_IB_drop C E F a0 x1 h hf)
def mc_IB_flush : Nat := 187
def ms_IB_flush : Nat := 8872
def rm_IB_flush : Room := { frames := 10, cells := 187, slots := 8872, locals := 248 }
abbrev ok_IB_flush (X : hh_X) (B e0 : Nat) : Prop := hh_ok X B e0 cX8_flush RX8 1 (some .int) "flush" rm_IB_flush
set_option maxRecDepth 100000 in
set_option maxHeartbeats 4000000 in
theorem w_IB_flush {X : hh_X} {B e0 : Nat} {rr : (Int32 ⊕ Nat) × hh_H} (C : ok_IB_flush X B e0) (E : hh_EndT X B e0 (fun x => .int x) rr mc_IB_flush ms_IB_flush) (F : Nat) (a0 : Nat) (h : hh_H)
    (hf : f_IB_flush F a0 h = some rr) : hh_W X 0 0 0 [(0, .ref (hh_ad B e0 a0))] [] h := by
  unfold f_IB_flush at hf
  refine r_aload_n C dX8_flush_0 rfl 0 rfl ?_
  obtain ⟨_, e4, hf⟩ := hp_bind hf
  obtain ⟨g5, e4⟩ := hp_is_of e4
  obtain ⟨q1, h2, e3, hf⟩ := hp_cbe hf
  refine r_callV C dX8_flush_1 cs_RX8_92 rfl e4 (c_IB_flushBuffer B e0 F a0 h _ e3) rfl rfl rfl ⟨by decide, by decide⟩ ⟨by decide, by decide⟩ (Nat.le_of_ble_eq_true rfl) rfl ?_
  refine r_if_ne C dX8_flush_4 (tgt := 17) (by decide) (fun c6 => ?_) (fun c6 => ?_)
  · rw [if_neg c6] at hf
    refine r_aload_n C dX8_flush_17 rfl 0 rfl ?_
    obtain ⟨v7, e8, hf⟩ := hp_bind hf
    refine r_getA C dX8_flush_18 fl_RX8_48 e8 ?_
    obtain ⟨_, e12, hf⟩ := hp_bind hf
    obtain ⟨g13, e12⟩ := hp_is_of e12
    obtain ⟨q9, h10, e11, hf⟩ := hp_cbe hf
    refine r_callV C dX8_flush_21 cs_RX8_124 rfl e12 (c_RunRow_size B e0 F v7 h2 _ e11) rfl rfl rfl ⟨by decide, by decide⟩ ⟨by decide, by decide⟩ (Nat.le_of_ble_eq_true rfl) rfl ?_
    exact r_ireturnT C E dX8_flush_24 (by decide) (by decide) hf
  · rw [if_pos c6] at hf
    exact r_throw C E dX8_flush_7 dX8_flush_10 dX8_flush_11 dX8_flush_13 dX8_flush_16 rfl tn_RX8_96 ti_E2 tz_E2 (tx := "no room for the buffer") (by decide +kernel) (by decide +kernel) oa_RX8_100 (by decide) (Nat.le_of_ble_eq_true rfl) (by decide) (by decide) (by decide) (by decide) hf
theorem c_IB_flush (B e0 F : Nat) (a0 : Nat) (h : hh_H) (rr : (Int32 ⊕ Nat) × hh_H) (hf : f_IB_flush F a0 h = some rr) : hh_MetT yX8_flush cX8_flush 1 (some .int) rm_IB_flush mc_IB_flush ms_IB_flush B e0 [.ref (hh_ad B e0 a0)] h (fun x => .int x) rr :=
  hh_metT (by decide) (Nat.le_of_ble_eq_true rfl) fun X C E => hh_pick [0] rfl (w_IB_flush C E F a0 h hf)
def mc_IB_finish : Nat := 190
def ms_IB_finish : Nat := 9015
def rm_IB_finish : Room := { frames := 10, cells := 190, slots := 9015, locals := 248 }
abbrev ok_IB_finish (X : hh_X) (B e0 : Nat) : Prop := hh_ok X B e0 cX8_finish RX8 1 (some .int) "finish" rm_IB_finish
set_option maxRecDepth 100000 in
set_option maxHeartbeats 4000000 in
theorem w_IB_finish {X : hh_X} {B e0 : Nat} {rr : (Int32 ⊕ Nat) × hh_H} (C : ok_IB_finish X B e0) (E : hh_EndT X B e0 (fun x => .int x) rr mc_IB_finish ms_IB_finish) (F : Nat) (a0 : Nat) (h : hh_H)
    (hf : f_IB_finish F a0 h = some rr) : hh_W X 0 0 0 [(0, .ref (hh_ad B e0 a0))] [] h := by
  unfold f_IB_finish at hf
  refine r_aload_n C dX8_finish_0 rfl 0 rfl ?_
  obtain ⟨_, e4, hf⟩ := hp_bind hf
  obtain ⟨g5, e4⟩ := hp_is_of e4
  obtain ⟨q1, h2, e3, hf⟩ := hp_cbe hf
  refine r_callV C dX8_finish_1 cs_RX8_92 rfl e4 (c_IB_flushBuffer B e0 F a0 h _ e3) rfl rfl rfl ⟨by decide, by decide⟩ ⟨by decide, by decide⟩ (Nat.le_of_ble_eq_true rfl) rfl ?_
  refine r_if_ne C dX8_finish_4 (tgt := 17) (by decide) (fun c6 => ?_) (fun c6 => ?_)
  · rw [if_neg c6] at hf
    refine r_aload_n C dX8_finish_17 rfl 0 rfl ?_
    obtain ⟨v7, e8, hf⟩ := hp_bind hf
    refine r_getA C dX8_finish_18 fl_RX8_48 e8 ?_
    obtain ⟨_, e12, hf⟩ := hp_bind hf
    obtain ⟨g13, e12⟩ := hp_is_of e12
    obtain ⟨q9, h10, e11, hf⟩ := hp_cbe hf
    refine r_callV C dX8_finish_21 cs_RX8_125 rfl e12 (c_RunRow_mergeAll B e0 F v7 h2 _ e11) rfl rfl rfl ⟨by decide, by decide⟩ ⟨by decide, by decide⟩ (Nat.le_of_ble_eq_true rfl) rfl ?_
    refine r_if_ne C dX8_finish_24 (tgt := 37) (by decide) (fun c14 => ?_) (fun c14 => ?_)
    · rw [if_neg c14] at hf
      refine r_aload_n C dX8_finish_37 rfl 0 rfl ?_
      obtain ⟨v15, e16, hf⟩ := hp_bind hf
      refine r_getA C dX8_finish_38 fl_RX8_48 e16 ?_
      obtain ⟨_, e20, hf⟩ := hp_bind hf
      obtain ⟨g21, e20⟩ := hp_is_of e20
      obtain ⟨q17, h18, e19, hf⟩ := hp_cbe hf
      refine r_callV C dX8_finish_41 cs_RX8_124 rfl e20 (c_RunRow_size B e0 F v15 h10 _ e19) rfl rfl rfl ⟨by decide, by decide⟩ ⟨by decide, by decide⟩ (Nat.le_of_ble_eq_true rfl) rfl ?_
      exact r_ireturnT C E dX8_finish_44 (by decide) (by decide) hf
    · rw [if_pos c14] at hf
      exact r_throw C E dX8_finish_27 dX8_finish_30 dX8_finish_31 dX8_finish_33 dX8_finish_36 rfl tn_RX8_96 ti_E2 tz_E2 (tx := "no room for the merge") (by decide +kernel) (by decide +kernel) oa_RX8_100 (by decide) (Nat.le_of_ble_eq_true rfl) (by decide) (by decide) (by decide) (by decide) hf
  · rw [if_pos c6] at hf
    exact r_throw C E dX8_finish_7 dX8_finish_10 dX8_finish_11 dX8_finish_13 dX8_finish_16 rfl tn_RX8_96 ti_E2 tz_E2 (tx := "no room for the buffer") (by decide +kernel) (by decide +kernel) oa_RX8_100 (by decide) (Nat.le_of_ble_eq_true rfl) (by decide) (by decide) (by decide) (by decide) hf
theorem c_IB_finish (B e0 F : Nat) (a0 : Nat) (h : hh_H) (rr : (Int32 ⊕ Nat) × hh_H) (hf : f_IB_finish F a0 h = some rr) : hh_MetT yX8_finish cX8_finish 1 (some .int) rm_IB_finish mc_IB_finish ms_IB_finish B e0 [.ref (hh_ad B e0 a0)] h (fun x => .int x) rr :=
  hh_metT (by decide) (Nat.le_of_ble_eq_true rfl) fun X C E => hh_pick [0] rfl (w_IB_finish C E F a0 h hf)
def mc_IB_find : Nat := 1
def ms_IB_find : Nat := 6
def rm_IB_find : Room := { frames := 6, cells := 1, slots := 6, locals := 118 }
abbrev ok_IB_find (X : hh_X) (B e0 : Nat) : Prop := hh_ok X B e0 cX8_find RX8 5 (some .int) "find" rm_IB_find
set_option maxRecDepth 100000 in
set_option maxHeartbeats 4000000 in
theorem w_IB_find_50 {X : hh_X} {B e0 : Nat} {rr : (Int32 ⊕ Nat) × hh_H} (C : ok_IB_find X B e0) (E : hh_EndT X B e0 (fun x => .int x) rr mc_IB_find ms_IB_find) (F : Nat) (r50 : Nat → Int32 → Int32 → hh_H → Option ((Int32 ⊕ Nat) × hh_H)) (H50 : ∀ (a0 : Nat) (x3 : Int32) (x4 : Int32) (h : hh_H), r50 a0 x3 x4 h = some rr → hh_W X 0 0 50 [(0, .ref (hh_ad B e0 a0)), (3, .int x3), (4, .int x4)] [] h) (a0 : Nat) (x3 : Int32) (x4 : Int32) (h : hh_H)
    (hf : f_IB_find_50 F r50 a0 x3 x4 h = some rr) : hh_W X 0 0 50 [(0, .ref (hh_ad B e0 a0)), (3, .int x3), (4, .int x4)] [] h := by
  unfold f_IB_find_50 at hf
  refine r_iload C dX8_find_50 2 rfl ?_
  refine r_aload_n C dX8_find_52 rfl 0 rfl ?_
  obtain ⟨v1, e2, hf⟩ := hp_bind hf
  refine r_getA C dX8_find_53 fl_RX8_27 e2 ?_
  obtain ⟨_, e6, hf⟩ := hp_bind hf
  obtain ⟨g7, e6⟩ := hp_is_of e6
  obtain ⟨q3, h4, e5, hf⟩ := hp_cbe hf
  refine r_callV C dX8_find_56 cs_RX8_85 rfl e6 (c_Documents_size B e0 F v1 h _ e5) rfl rfl rfl ⟨by decide, by decide⟩ ⟨by decide, by decide⟩ (Nat.le_of_ble_eq_true rfl) rfl ?_
  refine r_icmp_ge C dX8_find_59 (tgt := 88) (by decide) (fun c8 => ?_) (fun c8 => ?_)
  · rw [if_pos c8] at hf
    refine r_aload_n C dX8_find_88 rfl 0 rfl ?_
    obtain ⟨v9, e10, hf⟩ := hp_bind hf
    refine r_getA C dX8_find_89 fl_RX8_65 e10 ?_
    obtain ⟨_, e14, hf⟩ := hp_bind hf
    obtain ⟨g15, e14⟩ := hp_is_of e14
    obtain ⟨q11, h12, e13, hf⟩ := hp_cbe hf
    refine r_callV C dX8_find_92 cs_RX8_148 rfl e14 (c_Answer_size B e0 F v9 h4 _ e13) rfl rfl rfl ⟨by decide, by decide⟩ ⟨by decide, by decide⟩ (Nat.le_of_ble_eq_true rfl) rfl ?_
    exact r_ireturnT C E dX8_find_95 (by decide) (by decide) hf
  · rw [if_neg c8] at hf
    refine r_aload_n C dX8_find_62 rfl 0 rfl ?_
    refine r_iload C dX8_find_63 2 rfl ?_
    refine r_iload_n C dX8_find_65 rfl 1 rfl ?_
    obtain ⟨_, e19, hf⟩ := hp_bind hf
    obtain ⟨g20, e19⟩ := hp_is_of e19
    obtain ⟨q16, h17, e18, hf⟩ := hp_cbe hf
    refine r_callV C dX8_find_66 cs_RX8_140 rfl e19 (c_IB_fits B e0 F a0 x4 x3 h4 _ e18) rfl rfl rfl ⟨by decide, by decide⟩ ⟨by decide, by decide⟩ (Nat.le_of_ble_eq_true rfl) rfl ?_
    refine r_if_eq C dX8_find_69 (tgt := 82) (by decide) (fun c21 => ?_) (fun c21 => ?_)
    · rw [if_pos c21] at hf
      refine r_iinc (lv' := [(4, .int (x4 + 1)), (0, .ref (hh_ad B e0 a0)), (3, .int x3)]) C dX8_find_82 2 rfl rfl (by decide) rfl ?_
      refine r_goto C dX8_find_85 (tgt := 50) (by decide) ?_
      refine hh_pick [1, 2, 0] rfl ?_
      exact H50 a0 x3 (x4 + 1) h17 hf
    · rw [if_neg c21] at hf
      refine r_aload_n C dX8_find_72 rfl 0 rfl ?_
      obtain ⟨v22, e23, hf⟩ := hp_bind hf
      refine r_getA C dX8_find_73 fl_RX8_65 e23 ?_
      refine r_iload C dX8_find_76 2 rfl ?_
      refine r_dconst0 C dX8_find_78 ?_
      obtain ⟨_, e27, hf⟩ := hp_bind hf
      obtain ⟨g28, e27⟩ := hp_is_of e27
      obtain ⟨q24, h25, e26, hf⟩ := hp_cbe hf
      refine r_callV C dX8_find_79 cs_RX8_144 rfl e27 (c_Answer_put B e0 F v22 x4 FP.dconst0 h17 _ e26) rfl rfl rfl ⟨by decide, by decide⟩ ⟨by decide, by decide⟩ (Nat.le_of_ble_eq_true rfl) rfl ?_
      refine r_iinc (lv' := [(4, .int (x4 + 1)), (0, .ref (hh_ad B e0 a0)), (3, .int x3)]) C dX8_find_82 2 rfl rfl (by decide) rfl ?_
      refine r_goto C dX8_find_85 (tgt := 50) (by decide) ?_
      refine hh_pick [1, 2, 0] rfl ?_
      exact H50 a0 x3 (x4 + 1) h25 hf
theorem wl_IB_find_50 {X : hh_X} {B e0 : Nat} {rr : (Int32 ⊕ Nat) × hh_H} (C : ok_IB_find X B e0) (E : hh_EndT X B e0 (fun x => .int x) rr mc_IB_find ms_IB_find) (F : Nat) :
    ∀ (n : Nat) (a0 : Nat) (x3 : Int32) (x4 : Int32) (h : hh_H), hp_it (fun _ _ _ _ => none) (f_IB_find_50 F) n a0 x3 x4 h = some rr → hh_W X 0 0 50 [(0, .ref (hh_ad B e0 a0)), (3, .int x3), (4, .int x4)] [] h := by
  intro n
  induction n with
  | zero => intro a0 x3 x4 h hf; cases hf
  | succ n ih =>
    intro a0 x3 x4 h hf
    exact w_IB_find_50 C E F _ ih a0 x3 x4 h hf
set_option maxRecDepth 100000 in
set_option maxHeartbeats 4000000 in
theorem w_IB_find {X : hh_X} {B e0 : Nat} {rr : (Int32 ⊕ Nat) × hh_H} (C : ok_IB_find X B e0) (E : hh_EndT X B e0 (fun x => .int x) rr mc_IB_find ms_IB_find) (F : Nat) (a0 : Nat) (x1 : Int32) (x2 : Int32) (x3 : Int32) (h : hh_H)
    (hf : f_IB_find F a0 x1 x2 x3 h = some rr) : hh_W X 0 0 0 [(0, .ref (hh_ad B e0 a0)), (1, .int x1), (2, .int x2), (3, .int x3)] [] h := by
  unfold f_IB_find at hf
  refine r_iload_n C dX8_find_0 rfl 1 rfl ?_
  obtain ⟨q29, h30, e31, hf⟩ := hp_cbe hf
  refine r_callS C dX8_find_1 cs_RX8_69 (c_IB_isWord B e0 F x1 h _ e31) rfl rfl rfl ⟨by decide, by decide⟩ ⟨by decide, by decide⟩ (Nat.le_of_ble_eq_true rfl) rfl ?_
  refine r_if_eq C dX8_find_4 (tgt := 23) (by decide) (fun c32 => ?_) (fun c32 => ?_)
  · rw [if_pos c32] at hf
    exact r_throw C E dX8_find_23 dX8_find_26 dX8_find_27 dX8_find_29 dX8_find_32 rfl tn_RX8_73 ti_E0 tz_E0 (tx := "no such word or how") (by decide +kernel) (by decide +kernel) oa_RX8_77 (by decide) (Nat.le_of_ble_eq_true rfl) (by decide) (by decide) (by decide) (by decide) hf
  · rw [if_neg c32] at hf
    refine r_iload_n C dX8_find_7 rfl 2 rfl ?_
    obtain ⟨q33, h34, e35, hf⟩ := hp_cbe hf
    refine r_callS C dX8_find_8 cs_RX8_69 (c_IB_isWord B e0 F x2 h30 _ e35) rfl rfl rfl ⟨by decide, by decide⟩ ⟨by decide, by decide⟩ (Nat.le_of_ble_eq_true rfl) rfl ?_
    refine r_if_eq C dX8_find_11 (tgt := 23) (by decide) (fun c36 => ?_) (fun c36 => ?_)
    · rw [if_pos c36] at hf
      exact r_throw C E dX8_find_23 dX8_find_26 dX8_find_27 dX8_find_29 dX8_find_32 rfl tn_RX8_73 ti_E0 tz_E0 (tx := "no such word or how") (by decide +kernel) (by decide +kernel) oa_RX8_77 (by decide) (Nat.le_of_ble_eq_true rfl) (by decide) (by decide) (by decide) (by decide) hf
    · rw [if_neg c36] at hf
      refine r_iload_n C dX8_find_14 rfl 3 rfl ?_
      refine r_if_lt C dX8_find_15 (tgt := 23) (by decide) (fun c37 => ?_) (fun c37 => ?_)
      · rw [if_pos c37] at hf
        exact r_throw C E dX8_find_23 dX8_find_26 dX8_find_27 dX8_find_29 dX8_find_32 rfl tn_RX8_73 ti_E0 tz_E0 (tx := "no such word or how") (by decide +kernel) (by decide +kernel) oa_RX8_77 (by decide) (Nat.le_of_ble_eq_true rfl) (by decide) (by decide) (by decide) (by decide) hf
      · rw [if_neg c37] at hf
        refine r_iload_n C dX8_find_18 rfl 3 rfl ?_
        refine r_iconst C dX8_find_19 (v := 3) (by decide) ?_
        refine r_icmp_le C dX8_find_20 (tgt := 33) (by decide) (fun c38 => ?_) (fun c38 => ?_)
        · rw [if_pos c38] at hf
          refine r_aload_n C dX8_find_33 rfl 0 rfl ?_
          refine r_iload_n C dX8_find_34 rfl 1 rfl ?_
          refine r_iload_n C dX8_find_35 rfl 2 rfl ?_
          obtain ⟨_, e42, hf⟩ := hp_bind hf
          obtain ⟨g43, e42⟩ := hp_is_of e42
          obtain ⟨q39, h40, e41, hf⟩ := hp_cbe hf
          refine r_callV C dX8_find_36 cs_RX8_132 rfl e42 (c_IB_lookUp B e0 F a0 x1 x2 h34 _ e41) rfl rfl rfl ⟨by decide, by decide⟩ ⟨by decide, by decide⟩ (Nat.le_of_ble_eq_true rfl) rfl ?_
          refine r_aload_n C dX8_find_39 rfl 0 rfl ?_
          obtain ⟨v44, e45, hf⟩ := hp_bind hf
          refine r_getA C dX8_find_40 fl_RX8_65 e45 ?_
          refine r_iconst C dX8_find_43 (v := 0) (by decide) ?_
          obtain ⟨_, e49, hf⟩ := hp_bind hf
          obtain ⟨g50, e49⟩ := hp_is_of e49
          obtain ⟨q46, h47, e48, hf⟩ := hp_cbe hf
          refine r_callV C dX8_find_44 cs_RX8_136 rfl e49 (c_Answer_begin B e0 F v44 0 h40 _ e48) rfl rfl rfl ⟨by decide, by decide⟩ ⟨by decide, by decide⟩ (Nat.le_of_ble_eq_true rfl) rfl ?_
          refine r_iconst C dX8_find_47 (v := 0) (by decide) ?_
          refine r_istore (lv' := [(4, .int 0), (0, .ref (hh_ad B e0 a0)), (1, .int x1), (2, .int x2), (3, .int x3)]) C dX8_find_48 (by decide) rfl ?_
          refine hh_pick [1, 4, 0] rfl ?_
          exact wl_IB_find_50 C E F F a0 x3 0 h47 hf
        · rw [if_neg c38] at hf
          exact r_throw C E dX8_find_23 dX8_find_26 dX8_find_27 dX8_find_29 dX8_find_32 rfl tn_RX8_73 ti_E0 tz_E0 (tx := "no such word or how") (by decide +kernel) (by decide +kernel) oa_RX8_77 (by decide) (Nat.le_of_ble_eq_true rfl) (by decide) (by decide) (by decide) (by decide) hf
theorem c_IB_find (B e0 F : Nat) (a0 : Nat) (x1 : Int32) (x2 : Int32) (x3 : Int32) (h : hh_H) (rr : (Int32 ⊕ Nat) × hh_H) (hf : f_IB_find F a0 x1 x2 x3 h = some rr) : hh_MetT yX8_find cX8_find 5 (some .int) rm_IB_find mc_IB_find ms_IB_find B e0 [.ref (hh_ad B e0 a0), .int x1, .int x2, .int x3] h (fun x => .int x) rr :=
  hh_metT (by decide) (Nat.le_of_ble_eq_true rfl) fun X C E => hh_pick [0, 1, 2, 3] rfl (w_IB_find C E F a0 x1 x2 x3 h hf)
def mc_IB_rank : Nat := 1
def ms_IB_rank : Nat := 6
def rm_IB_rank : Room := { frames := 6, cells := 1, slots := 6, locals := 118 }
abbrev ok_IB_rank (X : hh_X) (B e0 : Nat) : Prop := hh_ok X B e0 cX8_rank RX8 6 (some .int) "rank" rm_IB_rank
set_option maxRecDepth 100000 in
set_option maxHeartbeats 4000000 in
theorem w_IB_rank_58 {X : hh_X} {B e0 : Nat} {rr : (Int32 ⊕ Nat) × hh_H} (C : ok_IB_rank X B e0) (E : hh_EndT X B e0 (fun x => .int x) rr mc_IB_rank ms_IB_rank) (F : Nat) (r58 : Nat → Int32 → Int32 → Int32 → hh_H → Option ((Int32 ⊕ Nat) × hh_H)) (H58 : ∀ (a0 : Nat) (x3 : Int32) (x4 : Int32) (x5 : Int32) (h : hh_H), r58 a0 x3 x4 x5 h = some rr → hh_W X 0 0 58 [(0, .ref (hh_ad B e0 a0)), (3, .int x3), (4, .int x4), (5, .int x5)] [] h) (a0 : Nat) (x3 : Int32) (x4 : Int32) (x5 : Int32) (h : hh_H)
    (hf : f_IB_rank_58 F r58 a0 x3 x4 x5 h = some rr) : hh_W X 0 0 58 [(0, .ref (hh_ad B e0 a0)), (3, .int x3), (4, .int x4), (5, .int x5)] [] h := by
  unfold f_IB_rank_58 at hf
  refine r_iload C dX8_rank_58 3 rfl ?_
  refine r_aload_n C dX8_rank_60 rfl 0 rfl ?_
  obtain ⟨v1, e2, hf⟩ := hp_bind hf
  refine r_getA C dX8_rank_61 fl_RX8_27 e2 ?_
  obtain ⟨_, e6, hf⟩ := hp_bind hf
  obtain ⟨g7, e6⟩ := hp_is_of e6
  obtain ⟨q3, h4, e5, hf⟩ := hp_cbe hf
  refine r_callV C dX8_rank_64 cs_RX8_85 rfl e6 (c_Documents_size B e0 F v1 h _ e5) rfl rfl rfl ⟨by decide, by decide⟩ ⟨by decide, by decide⟩ (Nat.le_of_ble_eq_true rfl) rfl ?_
  refine r_icmp_ge C dX8_rank_67 (tgt := 117) (by decide) (fun c8 => ?_) (fun c8 => ?_)
  · rw [if_pos c8] at hf
    refine r_aload_n C dX8_rank_117 rfl 0 rfl ?_
    obtain ⟨v9, e10, hf⟩ := hp_bind hf
    refine r_getA C dX8_rank_118 fl_RX8_65 e10 ?_
    obtain ⟨_, e14, hf⟩ := hp_bind hf
    obtain ⟨g15, e14⟩ := hp_is_of e14
    obtain ⟨q11, h12, e13, hf⟩ := hp_cbe hf
    refine r_callV C dX8_rank_121 cs_RX8_148 rfl e14 (c_Answer_size B e0 F v9 h4 _ e13) rfl rfl rfl ⟨by decide, by decide⟩ ⟨by decide, by decide⟩ (Nat.le_of_ble_eq_true rfl) rfl ?_
    exact r_ireturnT C E dX8_rank_124 (by decide) (by decide) hf
  · rw [if_neg c8] at hf
    refine r_aload_n C dX8_rank_70 rfl 0 rfl ?_
    refine r_iload C dX8_rank_71 3 rfl ?_
    refine r_iconst C dX8_rank_73 (v := 1) (by decide) ?_
    obtain ⟨_, e19, hf⟩ := hp_bind hf
    obtain ⟨g20, e19⟩ := hp_is_of e19
    obtain ⟨q16, h17, e18, hf⟩ := hp_cbe hf
    refine r_callV C dX8_rank_74 cs_RX8_140 rfl e19 (c_IB_fits B e0 F a0 x5 1 h4 _ e18) rfl rfl rfl ⟨by decide, by decide⟩ ⟨by decide, by decide⟩ (Nat.le_of_ble_eq_true rfl) rfl ?_
    refine r_if_eq C dX8_rank_77 (tgt := 111) (by decide) (fun c21 => ?_) (fun c21 => ?_)
    · rw [if_pos c21] at hf
      refine r_iinc (lv' := [(5, .int (x5 + 1)), (0, .ref (hh_ad B e0 a0)), (3, .int x3), (4, .int x4)]) C dX8_rank_111 3 rfl rfl (by decide) rfl ?_
      refine r_goto C dX8_rank_114 (tgt := 58) (by decide) ?_
      refine hh_pick [1, 2, 3, 0] rfl ?_
      exact H58 a0 x3 x4 (x5 + 1) h17 hf
    · rw [if_neg c21] at hf
      refine r_aload_n C dX8_rank_80 rfl 0 rfl ?_
      obtain ⟨v22, e23, hf⟩ := hp_bind hf
      refine r_getA C dX8_rank_81 fl_RX8_65 e23 ?_
      refine r_iload C dX8_rank_84 3 rfl ?_
      refine r_aload_n C dX8_rank_86 rfl 0 rfl ?_
      obtain ⟨v24, e25, hf⟩ := hp_bind hf
      refine r_getA C dX8_rank_87 fl_RX8_55 e25 ?_
      refine r_iload C dX8_rank_90 3 rfl ?_
      refine r_iload_n C dX8_rank_92 rfl 1 rfl ?_
      obtain ⟨_, e29, hf⟩ := hp_bind hf
      obtain ⟨g30, e29⟩ := hp_is_of e29
      obtain ⟨q26, h27, e28, hf⟩ := hp_cbe hf
      refine r_callV C dX8_rank_93 cs_RX8_152 rfl e29 (c_Places_share B e0 F v24 x5 x3 h17 _ e28) rfl rfl rfl ⟨by decide, by decide⟩ ⟨by decide, by decide⟩ (Nat.le_of_ble_eq_true rfl) rfl ?_
      refine r_aload_n C dX8_rank_96 rfl 0 rfl ?_
      obtain ⟨v31, e32, hf⟩ := hp_bind hf
      refine r_getA C dX8_rank_97 fl_RX8_59 e32 ?_
      refine r_iload C dX8_rank_100 3 rfl ?_
      refine r_iload C dX8_rank_102 2 rfl ?_
      obtain ⟨_, e36, hf⟩ := hp_bind hf
      obtain ⟨g37, e36⟩ := hp_is_of e36
      obtain ⟨q33, h34, e35, hf⟩ := hp_cbe hf
      refine r_callV C dX8_rank_104 cs_RX8_152 rfl e36 (c_Places_share B e0 F v31 x5 x4 h27 _ e35) rfl rfl rfl ⟨by decide, by decide⟩ ⟨by decide, by decide⟩ (Nat.le_of_ble_eq_true rfl) rfl ?_
      obtain ⟨y38, e39, hf⟩ := hp_bind hf
      refine r_dadd C dX8_rank_107 e39 ?_
      obtain ⟨_, e43, hf⟩ := hp_bind hf
      obtain ⟨g44, e43⟩ := hp_is_of e43
      obtain ⟨q40, h41, e42, hf⟩ := hp_cbe hf
      refine r_callV C dX8_rank_108 cs_RX8_144 rfl e43 (c_Answer_put B e0 F v22 x5 y38 h34 _ e42) rfl rfl rfl ⟨by decide, by decide⟩ ⟨by decide, by decide⟩ (Nat.le_of_ble_eq_true rfl) rfl ?_
      refine r_iinc (lv' := [(5, .int (x5 + 1)), (0, .ref (hh_ad B e0 a0)), (3, .int x3), (4, .int x4)]) C dX8_rank_111 3 rfl rfl (by decide) rfl ?_
      refine r_goto C dX8_rank_114 (tgt := 58) (by decide) ?_
      refine hh_pick [1, 2, 3, 0] rfl ?_
      exact H58 a0 x3 x4 (x5 + 1) h41 hf
theorem wl_IB_rank_58 {X : hh_X} {B e0 : Nat} {rr : (Int32 ⊕ Nat) × hh_H} (C : ok_IB_rank X B e0) (E : hh_EndT X B e0 (fun x => .int x) rr mc_IB_rank ms_IB_rank) (F : Nat) :
    ∀ (n : Nat) (a0 : Nat) (x3 : Int32) (x4 : Int32) (x5 : Int32) (h : hh_H), hp_it (fun _ _ _ _ _ => none) (f_IB_rank_58 F) n a0 x3 x4 x5 h = some rr → hh_W X 0 0 58 [(0, .ref (hh_ad B e0 a0)), (3, .int x3), (4, .int x4), (5, .int x5)] [] h := by
  intro n
  induction n with
  | zero => intro a0 x3 x4 x5 h hf; cases hf
  | succ n ih =>
    intro a0 x3 x4 x5 h hf
    exact w_IB_rank_58 C E F _ ih a0 x3 x4 x5 h hf
set_option maxRecDepth 100000 in
set_option maxHeartbeats 4000000 in
theorem w_IB_rank {X : hh_X} {B e0 : Nat} {rr : (Int32 ⊕ Nat) × hh_H} (C : ok_IB_rank X B e0) (E : hh_EndT X B e0 (fun x => .int x) rr mc_IB_rank ms_IB_rank) (F : Nat) (a0 : Nat) (x1 : Int32) (x2 : Int32) (h : hh_H)
    (hf : f_IB_rank F a0 x1 x2 h = some rr) : hh_W X 0 0 0 [(0, .ref (hh_ad B e0 a0)), (1, .int x1), (2, .int x2)] [] h := by
  unfold f_IB_rank at hf
  refine r_iload_n C dX8_rank_0 rfl 1 rfl ?_
  obtain ⟨q45, h46, e47, hf⟩ := hp_cbe hf
  refine r_callS C dX8_rank_1 cs_RX8_69 (c_IB_isWord B e0 F x1 h _ e47) rfl rfl rfl ⟨by decide, by decide⟩ ⟨by decide, by decide⟩ (Nat.le_of_ble_eq_true rfl) rfl ?_
  refine r_if_eq C dX8_rank_4 (tgt := 14) (by decide) (fun c48 => ?_) (fun c48 => ?_)
  · rw [if_pos c48] at hf
    exact r_throw C E dX8_rank_14 dX8_rank_17 dX8_rank_18 dX8_rank_20 dX8_rank_23 rfl tn_RX8_73 ti_E0 tz_E0 (tx := "no such word") (by decide +kernel) (by decide +kernel) oa_RX8_77 (by decide) (Nat.le_of_ble_eq_true rfl) (by decide) (by decide) (by decide) (by decide) hf
  · rw [if_neg c48] at hf
    refine r_iload_n C dX8_rank_7 rfl 2 rfl ?_
    obtain ⟨q49, h50, e51, hf⟩ := hp_cbe hf
    refine r_callS C dX8_rank_8 cs_RX8_69 (c_IB_isWord B e0 F x2 h46 _ e51) rfl rfl rfl ⟨by decide, by decide⟩ ⟨by decide, by decide⟩ (Nat.le_of_ble_eq_true rfl) rfl ?_
    refine r_if_ne C dX8_rank_11 (tgt := 24) (by decide) (fun c52 => ?_) (fun c52 => ?_)
    · rw [if_neg c52] at hf
      refine r_aload_n C dX8_rank_24 rfl 0 rfl ?_
      refine r_iload_n C dX8_rank_25 rfl 1 rfl ?_
      refine r_iload_n C dX8_rank_26 rfl 2 rfl ?_
      obtain ⟨_, e56, hf⟩ := hp_bind hf
      obtain ⟨g57, e56⟩ := hp_is_of e56
      obtain ⟨q53, h54, e55, hf⟩ := hp_cbe hf
      refine r_callV C dX8_rank_27 cs_RX8_132 rfl e56 (c_IB_lookUp B e0 F a0 x1 x2 h50 _ e55) rfl rfl rfl ⟨by decide, by decide⟩ ⟨by decide, by decide⟩ (Nat.le_of_ble_eq_true rfl) rfl ?_
      refine r_aload_n C dX8_rank_30 rfl 0 rfl ?_
      obtain ⟨v58, e59, hf⟩ := hp_bind hf
      refine r_getA C dX8_rank_31 fl_RX8_55 e59 ?_
      obtain ⟨_, e63, hf⟩ := hp_bind hf
      obtain ⟨g64, e63⟩ := hp_is_of e63
      obtain ⟨q60, h61, e62, hf⟩ := hp_cbe hf
      refine r_callV C dX8_rank_34 cs_RX8_149 rfl e63 (c_Places_frequency B e0 F v58 h54 _ e62) rfl rfl rfl ⟨by decide, by decide⟩ ⟨by decide, by decide⟩ (Nat.le_of_ble_eq_true rfl) rfl ?_
      refine r_istore_n (lv' := [(3, .int q60), (0, .ref (hh_ad B e0 a0)), (1, .int x1), (2, .int x2)]) C dX8_rank_37 rfl (by decide) rfl ?_
      refine r_aload_n C dX8_rank_38 rfl 1 rfl ?_
      obtain ⟨v65, e66, hf⟩ := hp_bind hf
      refine r_getA C dX8_rank_39 fl_RX8_59 e66 ?_
      obtain ⟨_, e70, hf⟩ := hp_bind hf
      obtain ⟨g71, e70⟩ := hp_is_of e70
      obtain ⟨q67, h68, e69, hf⟩ := hp_cbe hf
      refine r_callV C dX8_rank_42 cs_RX8_149 rfl e70 (c_Places_frequency B e0 F v65 h61 _ e69) rfl rfl rfl ⟨by decide, by decide⟩ ⟨by decide, by decide⟩ (Nat.le_of_ble_eq_true rfl) rfl ?_
      refine r_istore (lv' := [(4, .int q67), (3, .int q60), (0, .ref (hh_ad B e0 a0)), (1, .int x1), (2, .int x2)]) C dX8_rank_45 (by decide) rfl ?_
      refine r_aload_n C dX8_rank_47 rfl 2 rfl ?_
      obtain ⟨v72, e73, hf⟩ := hp_bind hf
      refine r_getA C dX8_rank_48 fl_RX8_65 e73 ?_
      refine r_iconst C dX8_rank_51 (v := 1) (by decide) ?_
      obtain ⟨_, e77, hf⟩ := hp_bind hf
      obtain ⟨g78, e77⟩ := hp_is_of e77
      obtain ⟨q74, h75, e76, hf⟩ := hp_cbe hf
      refine r_callV C dX8_rank_52 cs_RX8_136 rfl e77 (c_Answer_begin B e0 F v72 1 h68 _ e76) rfl rfl rfl ⟨by decide, by decide⟩ ⟨by decide, by decide⟩ (Nat.le_of_ble_eq_true rfl) rfl ?_
      refine r_iconst C dX8_rank_55 (v := 0) (by decide) ?_
      refine r_istore (lv' := [(5, .int 0), (4, .int q67), (3, .int q60), (0, .ref (hh_ad B e0 a0)), (1, .int x1), (2, .int x2)]) C dX8_rank_56 (by decide) rfl ?_
      refine hh_pick [3, 2, 1, 0] rfl ?_
      exact wl_IB_rank_58 C E F F a0 q60 q67 0 h75 hf
    · rw [if_pos c52] at hf
      exact r_throw C E dX8_rank_14 dX8_rank_17 dX8_rank_18 dX8_rank_20 dX8_rank_23 rfl tn_RX8_73 ti_E0 tz_E0 (tx := "no such word") (by decide +kernel) (by decide +kernel) oa_RX8_77 (by decide) (Nat.le_of_ble_eq_true rfl) (by decide) (by decide) (by decide) (by decide) hf
theorem c_IB_rank (B e0 F : Nat) (a0 : Nat) (x1 : Int32) (x2 : Int32) (h : hh_H) (rr : (Int32 ⊕ Nat) × hh_H) (hf : f_IB_rank F a0 x1 x2 h = some rr) : hh_MetT yX8_rank cX8_rank 6 (some .int) rm_IB_rank mc_IB_rank ms_IB_rank B e0 [.ref (hh_ad B e0 a0), .int x1, .int x2] h (fun x => .int x) rr :=
  hh_metT (by decide) (Nat.le_of_ble_eq_true rfl) fun X C E => hh_pick [0, 1, 2] rfl (w_IB_rank C E F a0 x1 x2 h hf)
def mc_IB_result : Nat := 1
def ms_IB_result : Nat := 6
def rm_IB_result : Room := { frames := 6, cells := 1, slots := 6, locals := 100 }
abbrev ok_IB_result (X : hh_X) (B e0 : Nat) : Prop := hh_ok X B e0 cX8_result RX8 2 (some .int) "result" rm_IB_result
set_option maxRecDepth 100000 in
set_option maxHeartbeats 4000000 in
theorem w_IB_result {X : hh_X} {B e0 : Nat} {rr : (Int32 ⊕ Nat) × hh_H} (C : ok_IB_result X B e0) (E : hh_EndT X B e0 (fun x => .int x) rr mc_IB_result ms_IB_result) (F : Nat) (a0 : Nat) (x1 : Int32) (h : hh_H)
    (hf : f_IB_result F a0 x1 h = some rr) : hh_W X 0 0 0 [(0, .ref (hh_ad B e0 a0)), (1, .int x1)] [] h := by
  unfold f_IB_result at hf
  refine r_iload_n C dX8_result_0 rfl 1 rfl ?_
  refine r_if_lt C dX8_result_1 (tgt := 15) (by decide) (fun c1 => ?_) (fun c1 => ?_)
  · rw [if_pos c1] at hf
    exact r_throw C E dX8_result_15 dX8_result_18 dX8_result_19 dX8_result_21 dX8_result_24 rfl tn_RX8_113 ti_E3 tz_E3 (tx := "no such result") (by decide +kernel) (by decide +kernel) oa_RX8_117 (by decide) (Nat.le_of_ble_eq_true rfl) (by decide) (by decide) (by decide) (by decide) hf
  · rw [if_neg c1] at hf
    refine r_iload_n C dX8_result_4 rfl 1 rfl ?_
    refine r_aload_n C dX8_result_5 rfl 0 rfl ?_
    obtain ⟨v2, e3, hf⟩ := hp_bind hf
    refine r_getA C dX8_result_6 fl_RX8_65 e3 ?_
    obtain ⟨_, e7, hf⟩ := hp_bind hf
    obtain ⟨g8, e7⟩ := hp_is_of e7
    obtain ⟨q4, h5, e6, hf⟩ := hp_cbe hf
    refine r_callV C dX8_result_9 cs_RX8_148 rfl e7 (c_Answer_size B e0 F v2 h _ e6) rfl rfl rfl ⟨by decide, by decide⟩ ⟨by decide, by decide⟩ (Nat.le_of_ble_eq_true rfl) rfl ?_
    refine r_icmp_lt C dX8_result_12 (tgt := 25) (by decide) (fun c9 => ?_) (fun c9 => ?_)
    · rw [if_pos c9] at hf
      refine r_aload_n C dX8_result_25 rfl 0 rfl ?_
      obtain ⟨v10, e11, hf⟩ := hp_bind hf
      refine r_getA C dX8_result_26 fl_RX8_65 e11 ?_
      refine r_iload_n C dX8_result_29 rfl 1 rfl ?_
      obtain ⟨_, e15, hf⟩ := hp_bind hf
      obtain ⟨g16, e15⟩ := hp_is_of e15
      obtain ⟨q12, h13, e14, hf⟩ := hp_cbe hf
      refine r_callV C dX8_result_30 cs_RX8_158 rfl e15 (c_Answer_documentAt B e0 F v10 x1 h5 _ e14) rfl rfl rfl ⟨by decide, by decide⟩ ⟨by decide, by decide⟩ (Nat.le_of_ble_eq_true rfl) rfl ?_
      exact r_ireturnT C E dX8_result_33 (by decide) (by decide) hf
    · rw [if_neg c9] at hf
      exact r_throw C E dX8_result_15 dX8_result_18 dX8_result_19 dX8_result_21 dX8_result_24 rfl tn_RX8_113 ti_E3 tz_E3 (tx := "no such result") (by decide +kernel) (by decide +kernel) oa_RX8_117 (by decide) (Nat.le_of_ble_eq_true rfl) (by decide) (by decide) (by decide) (by decide) hf
theorem c_IB_result (B e0 F : Nat) (a0 : Nat) (x1 : Int32) (h : hh_H) (rr : (Int32 ⊕ Nat) × hh_H) (hf : f_IB_result F a0 x1 h = some rr) : hh_MetT yX8_result cX8_result 2 (some .int) rm_IB_result mc_IB_result ms_IB_result B e0 [.ref (hh_ad B e0 a0), .int x1] h (fun x => .int x) rr :=
  hh_metT (by decide) (Nat.le_of_ble_eq_true rfl) fun X C E => hh_pick [0, 1] rfl (w_IB_result C E F a0 x1 h hf)
def mc_IB_score : Nat := 1
def ms_IB_score : Nat := 6
def rm_IB_score : Room := { frames := 6, cells := 1, slots := 6, locals := 100 }
abbrev ok_IB_score (X : hh_X) (B e0 : Nat) : Prop := hh_ok X B e0 cX8_score RX8 2 (some .double) "score" rm_IB_score
set_option maxRecDepth 100000 in
set_option maxHeartbeats 4000000 in
theorem w_IB_score {X : hh_X} {B e0 : Nat} {rr : (UInt64 ⊕ Nat) × hh_H} (C : ok_IB_score X B e0) (E : hh_EndT X B e0 (fun x => .double x) rr mc_IB_score ms_IB_score) (F : Nat) (a0 : Nat) (x1 : Int32) (h : hh_H)
    (hf : f_IB_score F a0 x1 h = some rr) : hh_W X 0 0 0 [(0, .ref (hh_ad B e0 a0)), (1, .int x1)] [] h := by
  unfold f_IB_score at hf
  refine r_iload_n C dX8_score_0 rfl 1 rfl ?_
  refine r_if_lt C dX8_score_1 (tgt := 15) (by decide) (fun c1 => ?_) (fun c1 => ?_)
  · rw [if_pos c1] at hf
    exact r_throw C E dX8_score_15 dX8_score_18 dX8_score_19 dX8_score_21 dX8_score_24 rfl tn_RX8_113 ti_E3 tz_E3 (tx := "no such result") (by decide +kernel) (by decide +kernel) oa_RX8_117 (by decide) (Nat.le_of_ble_eq_true rfl) (by decide) (by decide) (by decide) (by decide) hf
  · rw [if_neg c1] at hf
    refine r_iload_n C dX8_score_4 rfl 1 rfl ?_
    refine r_aload_n C dX8_score_5 rfl 0 rfl ?_
    obtain ⟨v2, e3, hf⟩ := hp_bind hf
    refine r_getA C dX8_score_6 fl_RX8_65 e3 ?_
    obtain ⟨_, e7, hf⟩ := hp_bind hf
    obtain ⟨g8, e7⟩ := hp_is_of e7
    obtain ⟨q4, h5, e6, hf⟩ := hp_cbe hf
    refine r_callV C dX8_score_9 cs_RX8_148 rfl e7 (c_Answer_size B e0 F v2 h _ e6) rfl rfl rfl ⟨by decide, by decide⟩ ⟨by decide, by decide⟩ (Nat.le_of_ble_eq_true rfl) rfl ?_
    refine r_icmp_lt C dX8_score_12 (tgt := 25) (by decide) (fun c9 => ?_) (fun c9 => ?_)
    · rw [if_pos c9] at hf
      refine r_aload_n C dX8_score_25 rfl 0 rfl ?_
      obtain ⟨v10, e11, hf⟩ := hp_bind hf
      refine r_getA C dX8_score_26 fl_RX8_65 e11 ?_
      obtain ⟨_, e15, hf⟩ := hp_bind hf
      obtain ⟨g16, e15⟩ := hp_is_of e15
      obtain ⟨q12, h13, e14, hf⟩ := hp_cbe hf
      refine r_callV C dX8_score_29 cs_RX8_162 rfl e15 (c_Answer_isRanked B e0 F v10 h5 _ e14) rfl rfl rfl ⟨by decide, by decide⟩ ⟨by decide, by decide⟩ (Nat.le_of_ble_eq_true rfl) rfl ?_
      refine r_if_ne C dX8_score_32 (tgt := 45) (by decide) (fun c17 => ?_) (fun c17 => ?_)
      · rw [if_neg c17] at hf
        refine r_aload_n C dX8_score_45 rfl 0 rfl ?_
        obtain ⟨v18, e19, hf⟩ := hp_bind hf
        refine r_getA C dX8_score_46 fl_RX8_65 e19 ?_
        refine r_iload_n C dX8_score_49 rfl 1 rfl ?_
        obtain ⟨_, e23, hf⟩ := hp_bind hf
        obtain ⟨g24, e23⟩ := hp_is_of e23
        obtain ⟨q20, h21, e22, hf⟩ := hp_cbe hf
        refine r_callV C dX8_score_50 cs_RX8_167 rfl e23 (c_Answer_scoreAt B e0 F v18 x1 h13 _ e22) rfl rfl rfl ⟨by decide, by decide⟩ ⟨by decide, by decide⟩ (Nat.le_of_ble_eq_true rfl) rfl ?_
        exact r_dreturnT C E dX8_score_53 (by decide) (by decide) hf
      · rw [if_pos c17] at hf
        exact r_throw C E dX8_score_35 dX8_score_38 dX8_score_39 dX8_score_41 dX8_score_44 rfl tn_RX8_96 ti_E2 tz_E2 (tx := "the result is not ranked") (by decide +kernel) (by decide +kernel) oa_RX8_100 (by decide) (Nat.le_of_ble_eq_true rfl) (by decide) (by decide) (by decide) (by decide) hf
    · rw [if_neg c9] at hf
      exact r_throw C E dX8_score_15 dX8_score_18 dX8_score_19 dX8_score_21 dX8_score_24 rfl tn_RX8_113 ti_E3 tz_E3 (tx := "no such result") (by decide +kernel) (by decide +kernel) oa_RX8_117 (by decide) (Nat.le_of_ble_eq_true rfl) (by decide) (by decide) (by decide) (by decide) hf
theorem c_IB_score (B e0 F : Nat) (a0 : Nat) (x1 : Int32) (h : hh_H) (rr : (UInt64 ⊕ Nat) × hh_H) (hf : f_IB_score F a0 x1 h = some rr) : hh_MetT yX8_score cX8_score 2 (some .double) rm_IB_score mc_IB_score ms_IB_score B e0 [.ref (hh_ad B e0 a0), .int x1] h (fun x => .double x) rr :=
  hh_metT (by decide) (Nat.le_of_ble_eq_true rfl) fun X C E => hh_pick [0, 1] rfl (w_IB_score C E F a0 x1 h hf)
def mc_IB_byteOf : Nat := 1
def ms_IB_byteOf : Nat := 6
def rm_IB_byteOf : Room := { frames := 6, cells := 1, slots := 6, locals := 100 }
abbrev ok_IB_byteOf (X : hh_X) (B e0 : Nat) : Prop := hh_ok X B e0 cX8_byteOf RX8 3 (some .int) "byteOf" rm_IB_byteOf
set_option maxRecDepth 100000 in
set_option maxHeartbeats 4000000 in
theorem w_IB_byteOf {X : hh_X} {B e0 : Nat} {rr : (Int32 ⊕ Nat) × hh_H} (C : ok_IB_byteOf X B e0) (E : hh_EndT X B e0 (fun x => .int x) rr mc_IB_byteOf ms_IB_byteOf) (F : Nat) (a0 : Nat) (x1 : Int32) (x2 : Int32) (h : hh_H)
    (hf : f_IB_byteOf F a0 x1 x2 h = some rr) : hh_W X 0 0 0 [(0, .ref (hh_ad B e0 a0)), (1, .int x1), (2, .int x2)] [] h := by
  unfold f_IB_byteOf at hf
  refine r_aload_n C dX8_byteOf_0 rfl 0 rfl ?_
  obtain ⟨v1, e2, hf⟩ := hp_bind hf
  refine r_getA C dX8_byteOf_1 fl_RX8_48 e2 ?_
  refine r_iload_n C dX8_byteOf_4 rfl 1 rfl ?_
  refine r_iload_n C dX8_byteOf_5 rfl 2 rfl ?_
  obtain ⟨_, e6, hf⟩ := hp_bind hf
  obtain ⟨g7, e6⟩ := hp_is_of e6
  obtain ⟨q3, h4, e5, hf⟩ := hp_cbe hf
  refine r_callV C dX8_byteOf_6 cs_RX8_171 rfl e6 (c_RunRow_hasByte B e0 F v1 x1 x2 h _ e5) rfl rfl rfl ⟨by decide, by decide⟩ ⟨by decide, by decide⟩ (Nat.le_of_ble_eq_true rfl) rfl ?_
  refine r_if_ne C dX8_byteOf_9 (tgt := 22) (by decide) (fun c8 => ?_) (fun c8 => ?_)
  · rw [if_neg c8] at hf
    refine r_aload_n C dX8_byteOf_22 rfl 0 rfl ?_
    obtain ⟨v9, e10, hf⟩ := hp_bind hf
    refine r_getA C dX8_byteOf_23 fl_RX8_48 e10 ?_
    refine r_iload_n C dX8_byteOf_26 rfl 1 rfl ?_
    refine r_iload_n C dX8_byteOf_27 rfl 2 rfl ?_
    obtain ⟨_, e14, hf⟩ := hp_bind hf
    obtain ⟨g15, e14⟩ := hp_is_of e14
    obtain ⟨q11, h12, e13, hf⟩ := hp_cbe hf
    refine r_callV C dX8_byteOf_28 cs_RX8_179 rfl e14 (c_RunRow_byteAt B e0 F v9 x1 x2 h4 _ e13) rfl rfl rfl ⟨by decide, by decide⟩ ⟨by decide, by decide⟩ (Nat.le_of_ble_eq_true rfl) rfl ?_
    exact r_ireturnT C E dX8_byteOf_31 (by decide) (by decide) hf
  · rw [if_pos c8] at hf
    exact r_throw C E dX8_byteOf_12 dX8_byteOf_15 dX8_byteOf_16 dX8_byteOf_18 dX8_byteOf_21 rfl tn_RX8_174 ti_E4 tz_E4 (tx := "no such block or byte") (by decide +kernel) (by decide +kernel) oa_RX8_178 (by decide) (Nat.le_of_ble_eq_true rfl) (by decide) (by decide) (by decide) (by decide) hf
theorem c_IB_byteOf (B e0 F : Nat) (a0 : Nat) (x1 : Int32) (x2 : Int32) (h : hh_H) (rr : (Int32 ⊕ Nat) × hh_H) (hf : f_IB_byteOf F a0 x1 x2 h = some rr) : hh_MetT yX8_byteOf cX8_byteOf 3 (some .int) rm_IB_byteOf mc_IB_byteOf ms_IB_byteOf B e0 [.ref (hh_ad B e0 a0), .int x1, .int x2] h (fun x => .int x) rr :=
  hh_metT (by decide) (Nat.le_of_ble_eq_true rfl) fun X C E => hh_pick [0, 1, 2] rfl (w_IB_byteOf C E F a0 x1 x2 h hf)
def mc_IB_run : Nat := 1
def ms_IB_run : Nat := 6
def rm_IB_run : Room := { frames := 6, cells := 1, slots := 6, locals := 106 }
abbrev ok_IB_run (X : hh_X) (B e0 : Nat) : Prop := hh_ok X B e0 cX8_run RX8 3 (some .int) "run" rm_IB_run
set_option maxRecDepth 100000 in
set_option maxHeartbeats 4000000 in
theorem w_IB_run {X : hh_X} {B e0 : Nat} {rr : (Int32 ⊕ Nat) × hh_H} (C : ok_IB_run X B e0) (E : hh_EndT X B e0 (fun x => .int x) rr mc_IB_run ms_IB_run) (F : Nat) (a0 : Nat) (x1 : Int32) (x2 : Int32) (h : hh_H)
    (hf : f_IB_run F a0 x1 x2 h = some rr) : hh_W X 0 0 0 [(0, .ref (hh_ad B e0 a0)), (1, .int x1), (2, .int x2)] [] h := by
  unfold f_IB_run at hf
  refine r_iload_n C dX8_run_0 rfl 1 rfl ?_
  refine r_if_lt C dX8_run_1 (tgt := 15) (by decide) (fun c1 => ?_) (fun c1 => ?_)
  · rw [if_pos c1] at hf
    exact r_throw C E dX8_run_15 dX8_run_18 dX8_run_19 dX8_run_21 dX8_run_24 rfl tn_RX8_113 ti_E3 tz_E3 (tx := "no such run") (by decide +kernel) (by decide +kernel) oa_RX8_117 (by decide) (Nat.le_of_ble_eq_true rfl) (by decide) (by decide) (by decide) (by decide) hf
  · rw [if_neg c1] at hf
    refine r_iload_n C dX8_run_4 rfl 1 rfl ?_
    refine r_aload_n C dX8_run_5 rfl 0 rfl ?_
    obtain ⟨v2, e3, hf⟩ := hp_bind hf
    refine r_getA C dX8_run_6 fl_RX8_48 e3 ?_
    obtain ⟨_, e7, hf⟩ := hp_bind hf
    obtain ⟨g8, e7⟩ := hp_is_of e7
    obtain ⟨q4, h5, e6, hf⟩ := hp_cbe hf
    refine r_callV C dX8_run_9 cs_RX8_124 rfl e7 (c_RunRow_size B e0 F v2 h _ e6) rfl rfl rfl ⟨by decide, by decide⟩ ⟨by decide, by decide⟩ (Nat.le_of_ble_eq_true rfl) rfl ?_
    refine r_icmp_lt C dX8_run_12 (tgt := 25) (by decide) (fun c9 => ?_) (fun c9 => ?_)
    · rw [if_pos c9] at hf
      refine r_iload_n C dX8_run_25 rfl 2 rfl ?_
      by_cases c10 : x2 = 0
      · rw [if_pos c10] at hf
        refine r_tsIn C dX8_run_26 c10 (tgt := 56) (by decide) (by decide) rfl (by decide) ?_
        refine r_aload_n C dX8_run_56 rfl 0 rfl ?_
        obtain ⟨v11, e12, hf⟩ := hp_bind hf
        refine r_getA C dX8_run_57 fl_RX8_48 e12 ?_
        refine r_iload_n C dX8_run_60 rfl 1 rfl ?_
        obtain ⟨_, e16, hf⟩ := hp_bind hf
        obtain ⟨g17, e16⟩ := hp_is_of e16
        obtain ⟨q13, h14, e15, hf⟩ := hp_cbe hf
        refine r_callV C dX8_run_61 cs_RX8_185 rfl e16 (c_RunRow_levelOf B e0 F v11 x1 h5 _ e15) rfl rfl rfl ⟨by decide, by decide⟩ ⟨by decide, by decide⟩ (Nat.le_of_ble_eq_true rfl) rfl ?_
        exact r_ireturnT C E dX8_run_64 (by decide) (by decide) hf
      rw [if_neg c10] at hf
      by_cases c18 : x2 = 1
      · rw [if_pos c18] at hf
        refine r_tsIn C dX8_run_26 c18 (tgt := 65) (by decide) (by decide) rfl (by decide) ?_
        refine r_aload_n C dX8_run_65 rfl 0 rfl ?_
        obtain ⟨v19, e20, hf⟩ := hp_bind hf
        refine r_getA C dX8_run_66 fl_RX8_48 e20 ?_
        refine r_iload_n C dX8_run_69 rfl 1 rfl ?_
        obtain ⟨_, e24, hf⟩ := hp_bind hf
        obtain ⟨g25, e24⟩ := hp_is_of e24
        obtain ⟨q21, h22, e23, hf⟩ := hp_cbe hf
        refine r_callV C dX8_run_70 cs_RX8_188 rfl e24 (c_RunRow_blocksOf B e0 F v19 x1 h5 _ e23) rfl rfl rfl ⟨by decide, by decide⟩ ⟨by decide, by decide⟩ (Nat.le_of_ble_eq_true rfl) rfl ?_
        exact r_ireturnT C E dX8_run_73 (by decide) (by decide) hf
      rw [if_neg c18] at hf
      by_cases c26 : x2 = 2
      · rw [if_pos c26] at hf
        refine r_tsIn C dX8_run_26 c26 (tgt := 74) (by decide) (by decide) rfl (by decide) ?_
        refine r_aload_n C dX8_run_74 rfl 0 rfl ?_
        obtain ⟨v27, e28, hf⟩ := hp_bind hf
        refine r_getA C dX8_run_75 fl_RX8_48 e28 ?_
        refine r_iload_n C dX8_run_78 rfl 1 rfl ?_
        obtain ⟨_, e32, hf⟩ := hp_bind hf
        obtain ⟨g33, e32⟩ := hp_is_of e32
        obtain ⟨q29, h30, e31, hf⟩ := hp_cbe hf
        refine r_callV C dX8_run_79 cs_RX8_191 rfl e32 (c_RunRow_firstBlockOf B e0 F v27 x1 h5 _ e31) rfl rfl rfl ⟨by decide, by decide⟩ ⟨by decide, by decide⟩ (Nat.le_of_ble_eq_true rfl) rfl ?_
        exact r_ireturnT C E dX8_run_82 (by decide) (by decide) hf
      rw [if_neg c26] at hf
      by_cases c34 : x2 = 3
      · rw [if_pos c34] at hf
        refine r_tsIn C dX8_run_26 c34 (tgt := 83) (by decide) (by decide) rfl (by decide) ?_
        refine r_aload_n C dX8_run_83 rfl 0 rfl ?_
        obtain ⟨v35, e36, hf⟩ := hp_bind hf
        refine r_getA C dX8_run_84 fl_RX8_48 e36 ?_
        refine r_iload_n C dX8_run_87 rfl 1 rfl ?_
        obtain ⟨_, e40, hf⟩ := hp_bind hf
        obtain ⟨g41, e40⟩ := hp_is_of e40
        obtain ⟨q37, h38, e39, hf⟩ := hp_cbe hf
        refine r_callV C dX8_run_88 cs_RX8_194 rfl e40 (c_RunRow_bytesOf B e0 F v35 x1 h5 _ e39) rfl rfl rfl ⟨by decide, by decide⟩ ⟨by decide, by decide⟩ (Nat.le_of_ble_eq_true rfl) rfl ?_
        exact r_ireturnT C E dX8_run_91 (by decide) (by decide) hf
      rw [if_neg c34] at hf
      refine r_tsOut C dX8_run_26 (tgt := 92) (by have qc10 := lv_neT c10 (a := 0) (by decide); have qc18 := lv_neT c18 (a := 1) (by decide); have qc26 := lv_neT c26 (a := 2) (by decide); have qc34 := lv_neT c34 (a := 3) (by decide); omega) (by decide) ?_
      exact r_throw C E dX8_run_92 dX8_run_95 dX8_run_96 dX8_run_98 dX8_run_101 rfl tn_RX8_73 ti_E0 tz_E0 (tx := "no such what") (by decide +kernel) (by decide +kernel) oa_RX8_77 (by decide) (Nat.le_of_ble_eq_true rfl) (by decide) (by decide) (by decide) (by decide) hf
    · rw [if_neg c9] at hf
      exact r_throw C E dX8_run_15 dX8_run_18 dX8_run_19 dX8_run_21 dX8_run_24 rfl tn_RX8_113 ti_E3 tz_E3 (tx := "no such run") (by decide +kernel) (by decide +kernel) oa_RX8_117 (by decide) (Nat.le_of_ble_eq_true rfl) (by decide) (by decide) (by decide) (by decide) hf
theorem c_IB_run (B e0 F : Nat) (a0 : Nat) (x1 : Int32) (x2 : Int32) (h : hh_H) (rr : (Int32 ⊕ Nat) × hh_H) (hf : f_IB_run F a0 x1 x2 h = some rr) : hh_MetT yX8_run cX8_run 3 (some .int) rm_IB_run mc_IB_run ms_IB_run B e0 [.ref (hh_ad B e0 a0), .int x1, .int x2] h (fun x => .int x) rr :=
  hh_metT (by decide) (Nat.le_of_ble_eq_true rfl) fun X C E => hh_pick [0, 1, 2] rfl (w_IB_run C E F a0 x1 x2 h hf)
