def f_RunRow_init (F : Nat) (a0 : Nat) (a1 : Nat) (a2 : Nat) (x3 : Int32) (h : hh_H) : Option (Unit × hh_H) :=
  (hp_pa h a0 7 0 a1).bind fun h1 =>
  (hp_pa h1 a0 7 1 a2).bind fun h3 =>
  (hp_pi h3 a0 7 2 x3).bind fun h5 =>
  hp_cb (hp_new h5 10) fun b7 h9 =>
  hp_cb (f_ArrayList_init F b7 h9) fun q10 h11 =>
  (hp_pa h11 a0 7 3 b7).bind fun h13 =>
  hp_cb (hp_new h13 5) fun b15 h17 =>
  hp_cb (f_Postings_init F b15 800 h17) fun q18 h19 =>
  (hp_pa h19 a0 7 4 b15).bind fun h21 =>
  hp_cb (hp_new h21 5) fun b23 h25 =>
  hp_cb (f_Postings_init F b23 800 h25) fun q26 h27 =>
  (hp_pa h27 a0 7 5 b23).bind fun h29 =>
  hp_cb (hp_new h29 1) fun b31 h33 =>
  (hp_is h33 a2 2).bind fun _ =>
  hp_cb (f_Disk_size F a2 h33) fun q34 h35 =>
  hp_cb (f_Bytes_init F b31 q34 h35) fun q39 h40 =>
  (hp_pa h40 a0 7 6 b31).bind fun h42 =>
  (hp_pi h42 a0 7 7 0).bind fun h44 =>
  (hp_pi h44 a0 7 8 0).bind fun h46 =>
  (hp_pi h46 a0 7 9 0).bind fun h48 =>
  (hp_pi h48 a0 7 10 0).bind fun h50 =>
  some ((), h50)
def f_RunRow_size (F : Nat) (a0 : Nat) (h : hh_H) : Option (Int32 × hh_H) :=
  (hp_ga h a0 7 3).bind fun v1 =>
  (hp_is h v1 10).bind fun _ =>
  hp_cb (f_ArrayList_size F v1 h) fun q3 h4 =>
  some (q3, h4)
def f_RunRow_hasByte (F : Nat) (a0 : Nat) (x1 : Int32) (x2 : Int32) (h : hh_H) : Option (Int32 × hh_H) :=
  (hp_ga h a0 7 1).bind fun v1 =>
  (hp_is h v1 2).bind fun _ =>
  hp_cb (f_Disk_has F v1 x1 x2 h) fun q3 h4 =>
  (hp_zb q3).bind fun w8 =>
  some (q3, h4)
def f_RunRow_byteAt (F : Nat) (a0 : Nat) (x1 : Int32) (x2 : Int32) (h : hh_H) : Option (Int32 × hh_H) :=
  (hp_ga h a0 7 1).bind fun v1 =>
  (hp_is h v1 2).bind fun _ =>
  hp_cb (f_Disk_cellAt F v1 x1 x2 h) fun q3 h4 =>
  some (q3, h4)
def f_RunRow_freeBlocks (F : Nat) (a0 : Nat) (h : hh_H) : Option (Int32 × hh_H) :=
  (hp_ga h a0 7 1).bind fun v1 =>
  (hp_is h v1 2).bind fun _ =>
  hp_cb (f_Disk_free F v1 h) fun q3 h4 =>
  some (q3, h4)
def f_RunRow_blocksRead (F : Nat) (a0 : Nat) (h : hh_H) : Option (Int32 × hh_H) :=
  (hp_gi h a0 7 7).bind fun v1 =>
  some (v1, h)
def f_RunRow_blocksWritten (F : Nat) (a0 : Nat) (h : hh_H) : Option (Int32 × hh_H) :=
  (hp_gi h a0 7 8).bind fun v1 =>
  some (v1, h)
def f_RunRow_mergesDone (F : Nat) (a0 : Nat) (h : hh_H) : Option (Int32 × hh_H) :=
  (hp_gi h a0 7 9).bind fun v1 =>
  some (v1, h)
def f_RunRow_mergesWithoutRoom (F : Nat) (a0 : Nat) (h : hh_H) : Option (Int32 × hh_H) :=
  (hp_gi h a0 7 10).bind fun v1 =>
  some (v1, h)
def f_RunRow_has (F : Nat) (a0 : Nat) (x1 : Int32) (h : hh_H) : Option (Int32 × hh_H) :=
  if x1 < 0 then
    some (0, h)
  else
    (hp_ga h a0 7 3).bind fun v2 =>
    (hp_is h v2 10).bind fun _ =>
    hp_cb (f_ArrayList_size F v2 h) fun q4 h5 =>
    if q4 ≤ x1 then
      some (0, h5)
    else
      some (1, h5)
def f_RunRow_runsOf_4 (F : Nat) (r4 : Nat → Int32 → Int32 → Int32 → hh_H → Option (Int32 × hh_H)) (a0 : Nat) (x1 : Int32) (x2 : Int32) (x3 : Int32) (h : hh_H) : Option (Int32 × hh_H) :=
  (hp_ga h a0 7 3).bind fun v1 =>
  (hp_is h v1 10).bind fun _ =>
  hp_cb (f_ArrayList_size F v1 h) fun q3 h4 =>
  if q3 ≤ x3 then
    some (x2, h4)
  else
    (hp_ga h4 a0 7 3).bind fun v9 =>
    (hp_is h4 v9 10).bind fun _ =>
    hp_cb (f_ArrayList_get F v9 x3 h4) fun q11 h12 =>
    (hp_is h12 q11 6).bind fun _ =>
    (hp_gi h12 q11 6 0).bind fun v18 =>
    if v18 = x1 then
      r4 a0 x1 (x2 + 1) (x3 + 1) h12
    else
      r4 a0 x1 x2 (x3 + 1) h12
def l_RunRow_runsOf_4 (F : Nat) : Nat → Int32 → Int32 → Int32 → hh_H → Option (Int32 × hh_H) := hp_it (fun _ _ _ _ _ => none) (f_RunRow_runsOf_4 F) F
def f_RunRow_runsOf (F : Nat) (a0 : Nat) (x1 : Int32) (h : hh_H) : Option (Int32 × hh_H) :=
  l_RunRow_runsOf_4 F a0 x1 0 0 h
def f_RunRow_readPart (F : Nat) (a0 : Nat) (a1 : Nat) (h : hh_H) : Option (Unit × hh_H) :=
  (hp_ga h a0 7 1).bind fun v1 =>
  (hp_ga h a0 7 6).bind fun v3 =>
  (hp_is h v1 2).bind fun _ =>
  hp_cb (f_Disk_read F v1 a1 v3 h) fun q5 h6 =>
  (hp_ga h6 a0 7 6).bind fun v10 =>
  (hp_ga h6 a0 7 5).bind fun v12 =>
  (hp_is h6 v10 1).bind fun _ =>
  hp_cb (f_Bytes_decode F v10 v12 h6) fun q14 h15 =>
  (hp_gi h15 a0 7 7).bind fun v19 =>
  (hp_ga h15 a1 6 1).bind fun v21 =>
  (hp_len h15 v21).bind fun v23 =>
  (hp_pi h15 a0 7 7 (v19 + v23)).bind fun h25 =>
  some ((), h25)
def f_RunRow_fitsOnDisk (F : Nat) (a0 : Nat) (h : hh_H) : Option (Int32 × hh_H) :=
  (hp_ga h a0 7 4).bind fun v1 =>
  (hp_ga h a0 7 0).bind fun v3 =>
  (hp_is h v1 5).bind fun _ =>
  hp_cb (f_Postings_keepLive F v1 v3 h) fun q5 h6 =>
  (hp_ga h6 a0 7 6).bind fun v10 =>
  (hp_ga h6 a0 7 4).bind fun v12 =>
  (hp_is h6 v10 1).bind fun _ =>
  hp_cb (f_Bytes_encode F v10 v12 h6) fun q14 h15 =>
  (hp_ga h15 a0 7 1).bind fun v19 =>
  (hp_ga h15 a0 7 6).bind fun v21 =>
  (hp_is h15 v21 1).bind fun _ =>
  hp_cb (f_Bytes_size F v21 h15) fun q23 h24 =>
  (hp_is h24 v19 2).bind fun _ =>
  hp_cb (f_Disk_hasRoomFor F v19 q23 h24) fun q28 h29 =>
  (hp_zb q28).bind fun w33 =>
  some (q28, h29)
def f_RunRow_writeAt (F : Nat) (a0 : Nat) (x1 : Int32) (x2 : Int32) (h : hh_H) : Option (Unit × hh_H) :=
  (hp_ga h a0 7 6).bind fun v1 =>
  (hp_is h v1 1).bind fun _ =>
  hp_cb (f_Bytes_size F v1 h) fun q3 h4 =>
  if q3 ≤ 0 then
    some ((), h4)
  else
    if x1 < 0 then
      some ((), h4)
    else
      (hp_ga h4 a0 7 3).bind fun v10 =>
      (hp_is h4 v10 10).bind fun _ =>
      hp_cb (f_ArrayList_size F v10 h4) fun q12 h13 =>
      if q12 < x1 then
        some ((), h13)
      else
        (hp_ga h13 a0 7 1).bind fun v18 =>
        (hp_ga h13 a0 7 6).bind fun v20 =>
        (hp_is h13 v18 2).bind fun _ =>
        hp_cb (f_Disk_write F v18 v20 x2 h13) fun q22 h23 =>
        (hp_gi h23 a0 7 8).bind fun v27 =>
        (hp_ga h23 q22 6 1).bind fun v29 =>
        (hp_len h23 v29).bind fun v31 =>
        (hp_pi h23 a0 7 8 (v27 + v31)).bind fun h33 =>
        (hp_ga h33 a0 7 3).bind fun v35 =>
        (hp_is h33 v35 10).bind fun _ =>
        hp_cb (f_ArrayList_add F v35 x1 q22 h33) fun q37 h38 =>
        some ((), h38)
def f_RunRow_removeLevels_10 (F : Nat) (r10 : Nat → Int32 → Int32 → Int32 → hh_H → Option (Unit × hh_H)) (a0 : Nat) (x1 : Int32) (x2 : Int32) (x3 : Int32) (h : hh_H) : Option (Unit × hh_H) :=
  if x3 < 0 then
    some ((), h)
  else
    (hp_ga h a0 7 3).bind fun v2 =>
    (hp_is h v2 10).bind fun _ =>
    hp_cb (f_ArrayList_get F v2 x3 h) fun q4 h5 =>
    (hp_is h5 q4 6).bind fun _ =>
    (hp_is h5 q4 6).bind fun _ =>
    hp_cb (f_Run_isBetween F q4 x1 x2 h5) fun q11 h12 =>
    if q11 = 0 then
      r10 a0 x1 x2 (x3 + (-1)) h12
    else
      (hp_ga h12 a0 7 1).bind fun v17 =>
      (hp_is h12 v17 2).bind fun _ =>
      hp_cb (f_Disk_release F v17 q4 h12) fun q19 h20 =>
      (hp_ga h20 a0 7 3).bind fun v24 =>
      (hp_is h20 v24 10).bind fun _ =>
      hp_cb (f_ArrayList_remove F v24 x3 h20) fun q26 h27 =>
      r10 a0 x1 x2 (x3 + (-1)) h27
def l_RunRow_removeLevels_10 (F : Nat) : Nat → Int32 → Int32 → Int32 → hh_H → Option (Unit × hh_H) := hp_it (fun _ _ _ _ _ => none) (f_RunRow_removeLevels_10 F) F
def f_RunRow_removeLevels (F : Nat) (a0 : Nat) (x1 : Int32) (x2 : Int32) (h : hh_H) : Option (Unit × hh_H) :=
  (hp_ga h a0 7 3).bind fun v31 =>
  (hp_is h v31 10).bind fun _ =>
  hp_cb (f_ArrayList_size F v31 h) fun q33 h34 =>
  l_RunRow_removeLevels_10 F a0 x1 x2 (q33 - 1) h34
def f_RunRow_levelOf (F : Nat) (a0 : Nat) (x1 : Int32) (h : hh_H) : Option (Int32 × hh_H) :=
  (hp_is h a0 7).bind fun _ =>
  hp_cb (f_RunRow_has F a0 x1 h) fun q1 h2 =>
  if q1 = 0 then
    some (0, h2)
  else
    (hp_ga h2 a0 7 3).bind fun v7 =>
    (hp_is h2 v7 10).bind fun _ =>
    hp_cb (f_ArrayList_get F v7 x1 h2) fun q9 h10 =>
    (hp_is h10 q9 6).bind fun _ =>
    (hp_gi h10 q9 6 0).bind fun v16 =>
    some (v16, h10)
def f_RunRow_blocksOf (F : Nat) (a0 : Nat) (x1 : Int32) (h : hh_H) : Option (Int32 × hh_H) :=
  (hp_is h a0 7).bind fun _ =>
  hp_cb (f_RunRow_has F a0 x1 h) fun q1 h2 =>
  if q1 = 0 then
    some (0, h2)
  else
    (hp_ga h2 a0 7 3).bind fun v7 =>
    (hp_is h2 v7 10).bind fun _ =>
    hp_cb (f_ArrayList_get F v7 x1 h2) fun q9 h10 =>
    (hp_is h10 q9 6).bind fun _ =>
    (hp_ga h10 q9 6 1).bind fun v16 =>
    (hp_len h10 v16).bind fun v18 =>
    some (v18, h10)
def f_RunRow_firstBlockOf (F : Nat) (a0 : Nat) (x1 : Int32) (h : hh_H) : Option (Int32 × hh_H) :=
  (hp_is h a0 7).bind fun _ =>
  hp_cb (f_RunRow_blocksOf F a0 x1 h) fun q1 h2 =>
  if q1 ≤ 0 then
    some (0, h2)
  else
    (hp_ga h2 a0 7 3).bind fun v7 =>
    (hp_is h2 v7 10).bind fun _ =>
    hp_cb (f_ArrayList_get F v7 x1 h2) fun q9 h10 =>
    (hp_is h10 q9 6).bind fun _ =>
    (hp_ga h10 q9 6 1).bind fun v16 =>
    (hp_ai h10 v16 0).bind fun v18 =>
    some (v18, h10)
def f_RunRow_bytesOf (F : Nat) (a0 : Nat) (x1 : Int32) (h : hh_H) : Option (Int32 × hh_H) :=
  (hp_is h a0 7).bind fun _ =>
  hp_cb (f_RunRow_has F a0 x1 h) fun q1 h2 =>
  if q1 = 0 then
    some (0, h2)
  else
    (hp_ga h2 a0 7 3).bind fun v7 =>
    (hp_is h2 v7 10).bind fun _ =>
    hp_cb (f_ArrayList_get F v7 x1 h2) fun q9 h10 =>
    (hp_is h10 q9 6).bind fun _ =>
    (hp_gi h10 q9 6 2).bind fun v16 =>
    some (v16, h10)
def f_RunRow_append (F : Nat) (a0 : Nat) (a1 : Nat) (h : hh_H) : Option (Int32 × hh_H) :=
  (hp_ga h a0 7 4).bind fun v1 =>
  (hp_is h v1 5).bind fun _ =>
  hp_cb (f_Postings_clear F v1 h) fun q3 h4 =>
  (hp_ga h4 a0 7 4).bind fun v8 =>
  (hp_is h4 v8 5).bind fun _ =>
  hp_cb (f_Postings_mergeIn F v8 a1 h4) fun q10 h11 =>
  (hp_is h11 a0 7).bind fun _ =>
  hp_cb (f_RunRow_fitsOnDisk F a0 h11) fun q15 h16 =>
  if q15 = 0 then
    some (0, h16)
  else
    (hp_ga h16 a0 7 3).bind fun v21 =>
    (hp_is h16 v21 10).bind fun _ =>
    hp_cb (f_ArrayList_size F v21 h16) fun q23 h24 =>
    (hp_is h24 a0 7).bind fun _ =>
    hp_cb (f_RunRow_writeAt F a0 q23 0 h24) fun q28 h29 =>
    some (1, h29)
def f_RunRow_readAll_2 (F : Nat) (r2 : Nat → Nat → Nat → Int32 → hh_H → Option (Unit × hh_H)) (a0 : Nat) (a1 : Nat) (a2 : Nat) (x3 : Int32) (h : hh_H) : Option (Unit × hh_H) :=
  (hp_ga h a0 7 3).bind fun v1 =>
  (hp_is h v1 10).bind fun _ =>
  hp_cb (f_ArrayList_size F v1 h) fun q3 h4 =>
  if q3 ≤ x3 then
    some ((), h4)
  else
    (hp_ga h4 a0 7 3).bind fun v9 =>
    (hp_is h4 v9 10).bind fun _ =>
    hp_cb (f_ArrayList_get F v9 x3 h4) fun q11 h12 =>
    (hp_is h12 q11 6).bind fun _ =>
    (hp_is h12 a0 7).bind fun _ =>
    hp_cb (f_RunRow_readPart F a0 q11 h12) fun q18 h19 =>
    (hp_ga h19 a0 7 5).bind fun v23 =>
    (hp_ga h19 a0 7 0).bind fun v25 =>
    (hp_is h19 a1 4).bind fun _ =>
    hp_cb (f_Places_take F a1 v23 v25 h19) fun q27 h28 =>
    (hp_ga h28 a0 7 5).bind fun v32 =>
    (hp_ga h28 a0 7 0).bind fun v34 =>
    (hp_is h28 a2 4).bind fun _ =>
    hp_cb (f_Places_take F a2 v32 v34 h28) fun q36 h37 =>
    r2 a0 a1 a2 (x3 + 1) h37
def l_RunRow_readAll_2 (F : Nat) : Nat → Nat → Nat → Int32 → hh_H → Option (Unit × hh_H) := hp_it (fun _ _ _ _ _ => none) (f_RunRow_readAll_2 F) F
def f_RunRow_readAll (F : Nat) (a0 : Nat) (a1 : Nat) (a2 : Nat) (h : hh_H) : Option (Unit × hh_H) :=
  l_RunRow_readAll_2 F a0 a1 a2 0 h
def f_RunRow_leastFullLevel_39 (F : Nat) (r4 : Nat → Int32 → Int32 → hh_H → Option (Int32 × hh_H)) (a0 : Nat) (x1 : Int32) (x2 : Int32) (x3 : Int32) (h : hh_H) : Option (Int32 × hh_H) :=
  (hp_is h a0 7).bind fun _ =>
  hp_cb (f_RunRow_runsOf F a0 x3 h) fun q1 h2 =>
  (hp_gi h2 a0 7 2).bind fun v6 =>
  if q1 < v6 then
    r4 a0 x1 (x2 + 1) h2
  else
    r4 a0 x3 (x2 + 1) h2
def f_RunRow_leastFullLevel_4 (F : Nat) (r4 : Nat → Int32 → Int32 → hh_H → Option (Int32 × hh_H)) (a0 : Nat) (x1 : Int32) (x2 : Int32) (h : hh_H) : Option (Int32 × hh_H) :=
  (hp_ga h a0 7 3).bind fun v9 =>
  (hp_is h v9 10).bind fun _ =>
  hp_cb (f_ArrayList_size F v9 h) fun q11 h12 =>
  if q11 ≤ x2 then
    some (x1, h12)
  else
    (hp_ga h12 a0 7 3).bind fun v17 =>
    (hp_is h12 v17 10).bind fun _ =>
    hp_cb (f_ArrayList_get F v17 x2 h12) fun q19 h20 =>
    (hp_is h20 q19 6).bind fun _ =>
    (hp_gi h20 q19 6 0).bind fun v26 =>
    if x1 < 0 then
      f_RunRow_leastFullLevel_39 F r4 a0 x1 x2 v26 h20
    else
      if x1 ≤ v26 then
        r4 a0 x1 (x2 + 1) h20
      else
        f_RunRow_leastFullLevel_39 F r4 a0 x1 x2 v26 h20
def l_RunRow_leastFullLevel_4 (F : Nat) : Nat → Int32 → Int32 → hh_H → Option (Int32 × hh_H) := hp_it (fun _ _ _ _ => none) (f_RunRow_leastFullLevel_4 F) F
def f_RunRow_leastFullLevel (F : Nat) (a0 : Nat) (h : hh_H) : Option (Int32 × hh_H) :=
  l_RunRow_leastFullLevel_4 F a0 (-1) 0 h
def f_RunRow_mergeLevels_84 (F : Nat) (a0 : Nat) (x1 : Int32) (x2 : Int32) (x3 : Int32) (h : hh_H) : Option (Int32 × hh_H) :=
  (hp_is h a0 7).bind fun _ =>
  hp_cb (f_RunRow_fitsOnDisk F a0 h) fun q1 h2 =>
  if q1 = 0 then
    (hp_gi h2 a0 7 10).bind fun v21 =>
    (hp_pi h2 a0 7 10 (v21 + 1)).bind fun h23 =>
    some (0, h23)
  else
    (hp_is h2 a0 7).bind fun _ =>
    hp_cb (f_RunRow_writeAt F a0 x3 (x2 + 1) h2) fun q7 h8 =>
    (hp_is h8 a0 7).bind fun _ =>
    hp_cb (f_RunRow_removeLevels F a0 x1 x2 h8) fun q12 h13 =>
    (hp_gi h13 a0 7 9).bind fun v17 =>
    (hp_pi h13 a0 7 9 (v17 + 1)).bind fun h19 =>
    some (1, h19)
def f_RunRow_mergeLevels_18 (F : Nat) (r18 : Nat → Int32 → Int32 → Int32 → Int32 → hh_H → Option (Int32 × hh_H)) (a0 : Nat) (x1 : Int32) (x2 : Int32) (x3 : Int32) (x4 : Int32) (h : hh_H) : Option (Int32 × hh_H) :=
  (hp_ga h a0 7 3).bind fun v25 =>
  (hp_is h v25 10).bind fun _ =>
  hp_cb (f_ArrayList_size F v25 h) fun q27 h28 =>
  if q27 ≤ x4 then
    f_RunRow_mergeLevels_84 F a0 x1 x2 x3 h28
  else
    (hp_ga h28 a0 7 3).bind fun v33 =>
    (hp_is h28 v33 10).bind fun _ =>
    hp_cb (f_ArrayList_get F v33 x4 h28) fun q35 h36 =>
    (hp_is h36 q35 6).bind fun _ =>
    (hp_is h36 q35 6).bind fun _ =>
    hp_cb (f_Run_isBetween F q35 x1 x2 h36) fun q42 h43 =>
    if q42 = 0 then
      r18 a0 x1 x2 x3 (x4 + 1) h43
    else
      (hp_is h43 a0 7).bind fun _ =>
      hp_cb (f_RunRow_readPart F a0 q35 h43) fun q48 h49 =>
      (hp_ga h49 a0 7 4).bind fun v53 =>
      (hp_ga h49 a0 7 5).bind fun v55 =>
      (hp_is h49 v53 5).bind fun _ =>
      hp_cb (f_Postings_mergeIn F v53 v55 h49) fun q57 h58 =>
      r18 a0 x1 x2 (if x4 < x3 then x4 else x3) (x4 + 1) h58
def l_RunRow_mergeLevels_18 (F : Nat) : Nat → Int32 → Int32 → Int32 → Int32 → hh_H → Option (Int32 × hh_H) := hp_it (fun _ _ _ _ _ _ => none) (f_RunRow_mergeLevels_18 F) F
def f_RunRow_mergeLevels (F : Nat) (a0 : Nat) (x1 : Int32) (x2 : Int32) (h : hh_H) : Option (Int32 × hh_H) :=
  (hp_ga h a0 7 4).bind fun v62 =>
  (hp_is h v62 5).bind fun _ =>
  hp_cb (f_Postings_clear F v62 h) fun q64 h65 =>
  (hp_ga h65 a0 7 3).bind fun v69 =>
  (hp_is h65 v69 10).bind fun _ =>
  hp_cb (f_ArrayList_size F v69 h65) fun q71 h72 =>
  l_RunRow_mergeLevels_18 F a0 x1 x2 q71 0 h72
def f_RunRow_mergeFullLevels_2 (F : Nat) (r2 : Nat → Int32 → hh_H → Option (Unit × hh_H)) (a0 : Nat) (x1 : Int32) (h : hh_H) : Option (Unit × hh_H) :=
  if 60 ≤ x1 then
    some ((), h)
  else
    (hp_is h a0 7).bind fun _ =>
    hp_cb (f_RunRow_leastFullLevel F a0 h) fun q2 h3 =>
    if q2 < 0 then
      some ((), h3)
    else
      (hp_is h3 a0 7).bind fun _ =>
      hp_cb (f_RunRow_mergeLevels F a0 q2 q2 h3) fun q8 h9 =>
      if q8 = 0 then
        some ((), h9)
      else
        r2 a0 (x1 + 1) h9
def l_RunRow_mergeFullLevels_2 (F : Nat) : Nat → Int32 → hh_H → Option (Unit × hh_H) := hp_it (fun _ _ _ => none) (f_RunRow_mergeFullLevels_2 F) 61
def f_RunRow_mergeFullLevels (F : Nat) (a0 : Nat) (h : hh_H) : Option (Unit × hh_H) :=
  l_RunRow_mergeFullLevels_2 F a0 0 h
def f_RunRow_mergeAll_52 (F : Nat) (a0 : Nat) (x1 : Int32) (h : hh_H) : Option (Int32 × hh_H) :=
  (hp_is h a0 7).bind fun _ =>
  hp_cb (f_RunRow_mergeLevels F a0 0 x1 h) fun q1 h2 =>
  (hp_zb q1).bind fun w6 =>
  some (q1, h2)
def f_RunRow_mergeAll_16 (F : Nat) (r16 : Nat → Int32 → Int32 → hh_H → Option (Int32 × hh_H)) (a0 : Nat) (x1 : Int32) (x2 : Int32) (h : hh_H) : Option (Int32 × hh_H) :=
  (hp_ga h a0 7 3).bind fun v8 =>
  (hp_is h v8 10).bind fun _ =>
  hp_cb (f_ArrayList_size F v8 h) fun q10 h11 =>
  if q10 ≤ x2 then
    f_RunRow_mergeAll_52 F a0 x1 h11
  else
    (hp_ga h11 a0 7 3).bind fun v16 =>
    (hp_is h11 v16 10).bind fun _ =>
    hp_cb (f_ArrayList_get F v16 x2 h11) fun q18 h19 =>
    (hp_is h19 q18 6).bind fun _ =>
    (hp_gi h19 q18 6 0).bind fun v25 =>
    r16 a0 (if x1 < v25 then v25 else x1) (x2 + 1) h19
def l_RunRow_mergeAll_16 (F : Nat) : Nat → Int32 → Int32 → hh_H → Option (Int32 × hh_H) := hp_it (fun _ _ _ _ => none) (f_RunRow_mergeAll_16 F) F
def f_RunRow_mergeAll (F : Nat) (a0 : Nat) (h : hh_H) : Option (Int32 × hh_H) :=
  (hp_ga h a0 7 3).bind fun v27 =>
  (hp_is h v27 10).bind fun _ =>
  hp_cb (f_ArrayList_isEmpty F v27 h) fun q29 h30 =>
  if q29 = 0 then
    l_RunRow_mergeAll_16 F a0 0 0 h30
  else
    some (1, h30)
theorem oi_RX7_3 : Cond.methodLink RX7 3 Lib.objectInit ∈ hh_T := hh_at 137 (by decide +kernel) (by decide +kernel)
theorem lay_X7 : ∀ w ∈ u_ws RX7 TX7 11, w ∈ hh_T := hh_sub (by decide +kernel) (by decide +kernel)
theorem tyok_X7 : ∀ k, k < 11 → parseFieldDescriptor (TX7 k).2.2.1 = some (tyX7 k) := by decide +kernel
theorem nmok_X7 : ∀ a, a < 11 → ∀ b, b < 11 → a ≠ b → (TX7 a).2.1 ≠ (TX7 b).2.1 := by decide +kernel
theorem fl_RX7_9 : hh_FL RX7 9 7 0 (.object "IndexBuilder$Documents") true := ⟨_, _, _, tyX7, "IndexBuilder$RunRow", rfl, by decide, lay_X7, ⟨hh_at 186 (by decide +kernel) (by decide +kernel), Or.inl rfl⟩, rfl, by decide +kernel, tyok_X7, nmok_X7⟩
theorem fl_RX7_15 : hh_FL RX7 15 7 1 (.object "IndexBuilder$Disk") true := ⟨_, _, _, tyX7, "IndexBuilder$RunRow", rfl, by decide, lay_X7, ⟨hh_at 187 (by decide +kernel) (by decide +kernel), Or.inl rfl⟩, rfl, by decide +kernel, tyok_X7, nmok_X7⟩
theorem fl_RX7_19 : hh_FL RX7 19 7 2 .int true := ⟨_, _, _, tyX7, "IndexBuilder$RunRow", rfl, by decide, lay_X7, ⟨hh_at 188 (by decide +kernel) (by decide +kernel), Or.inl rfl⟩, rfl, by decide +kernel, tyok_X7, nmok_X7⟩
theorem dfl_J0 : ∀ B e0 j, j < 3 → defaultValue (tyJ0 j) = vp_V ((hh_dfl 10).map (hh_v B e0)) j := fun B e0 j hj => by rcases (show j = 0 ∨ j = 1 ∨ j = 2 by omega) with rfl | rfl | rfl <;> rfl
theorem nw_RX7_23 : hh_NW RX7 23 10 3 := ⟨_, _, tyJ0, rfl, lay_J0, hh_at 138 (by decide +kernel) (by decide +kernel), hh_at 139 (by decide +kernel) (by decide +kernel), hh_at 43 (by decide +kernel) (by decide +kernel), tyok_J0, dfl_J0⟩
theorem cw_J0_init : Cond.code yJ0_init cJ0_init 1 none ∈ hh_T := hh_at 142 (by decide +kernel) (by decide +kernel)
theorem cs_RX7_25 : hh_CS RX7 25 yJ0_init cJ0_init 1 none 0 [.instanceMethod yJ0_init] := ⟨cw_J0_init, hh_at 140 (by decide +kernel) (by decide +kernel), hh_at 43 (by decide +kernel) (by decide +kernel), hh_all1 (hh_at 141 (by decide +kernel) (by decide +kernel)), by decide +kernel⟩
theorem fl_RX7_26 : hh_FL RX7 26 7 3 (.object "java/util/ArrayList") true := ⟨_, _, _, tyX7, "IndexBuilder$RunRow", rfl, by decide, lay_X7, ⟨hh_at 189 (by decide +kernel) (by decide +kernel), Or.inl rfl⟩, rfl, by decide +kernel, tyok_X7, nmok_X7⟩
theorem dfl_X5 : ∀ B e0 j, j < 2 → defaultValue (tyX5 j) = vp_V ((hh_dfl 5).map (hh_v B e0)) j := fun B e0 j hj => by rcases (show j = 0 ∨ j = 1 by omega) with rfl | rfl <;> rfl
theorem nw_RX7_30 : hh_NW RX7 30 5 2 := ⟨_, _, tyX5, rfl, lay_X5, hh_at 164 (by decide +kernel) (by decide +kernel), hh_at 104 (by decide +kernel) (by decide +kernel), hh_at 38 (by decide +kernel) (by decide +kernel), tyok_X5, dfl_X5⟩
theorem cw_X5_init : Cond.code yX5_init cX5_init 2 none ∈ hh_T := hh_at 107 (by decide +kernel) (by decide +kernel)
theorem cs_RX7_32 : hh_CS RX7 32 yX5_init cX5_init 2 none 1 [.instanceMethod yX5_init] := ⟨cw_X5_init, hh_at 165 (by decide +kernel) (by decide +kernel), hh_at 38 (by decide +kernel) (by decide +kernel), hh_all1 (hh_at 106 (by decide +kernel) (by decide +kernel)), by decide +kernel⟩
theorem fl_RX7_35 : hh_FL RX7 35 7 4 (.object "IndexBuilder$Postings") true := ⟨_, _, _, tyX7, "IndexBuilder$RunRow", rfl, by decide, lay_X7, ⟨hh_at 190 (by decide +kernel) (by decide +kernel), Or.inl rfl⟩, rfl, by decide +kernel, tyok_X7, nmok_X7⟩
theorem fl_RX7_39 : hh_FL RX7 39 7 5 (.object "IndexBuilder$Postings") true := ⟨_, _, _, tyX7, "IndexBuilder$RunRow", rfl, by decide, lay_X7, ⟨hh_at 191 (by decide +kernel) (by decide +kernel), Or.inl rfl⟩, rfl, by decide +kernel, tyok_X7, nmok_X7⟩
theorem dfl_X1 : ∀ B e0 j, j < 3 → defaultValue (tyX1 j) = vp_V ((hh_dfl 1).map (hh_v B e0)) j := fun B e0 j hj => by rcases (show j = 0 ∨ j = 1 ∨ j = 2 by omega) with rfl | rfl | rfl <;> rfl
theorem nw_RX7_42 : hh_NW RX7 42 1 3 := ⟨_, _, tyX1, rfl, lay_X1, hh_at 166 (by decide +kernel) (by decide +kernel), hh_at 167 (by decide +kernel) (by decide +kernel), hh_at 44 (by decide +kernel) (by decide +kernel), tyok_X1, dfl_X1⟩
theorem cw_X2_size : Cond.code yX2_size cX2_size 1 (some .int) ∈ hh_T := hh_at 171 (by decide +kernel) (by decide +kernel)
theorem cs_RX7_44 : hh_CS RX7 44 yX2_size cX2_size 1 (some .int) 0 [.instanceMethod yX2_size, .selects yX2_size.cls yX2_size yX2_size] := ⟨cw_X2_size, hh_at 168 (by decide +kernel) (by decide +kernel), hh_at 39 (by decide +kernel) (by decide +kernel), hh_all2 (hh_at 169 (by decide +kernel) (by decide +kernel)) (hh_at 170 (by decide +kernel) (by decide +kernel)), by decide +kernel⟩
theorem cw_X1_init : Cond.code yX1_init cX1_init 2 none ∈ hh_T := hh_at 174 (by decide +kernel) (by decide +kernel)
theorem cs_RX7_50 : hh_CS RX7 50 yX1_init cX1_init 2 none 1 [.instanceMethod yX1_init] := ⟨cw_X1_init, hh_at 172 (by decide +kernel) (by decide +kernel), hh_at 44 (by decide +kernel) (by decide +kernel), hh_all1 (hh_at 173 (by decide +kernel) (by decide +kernel)), by decide +kernel⟩
theorem fl_RX7_51 : hh_FL RX7 51 7 6 (.object "IndexBuilder$Bytes") true := ⟨_, _, _, tyX7, "IndexBuilder$RunRow", rfl, by decide, lay_X7, ⟨hh_at 192 (by decide +kernel) (by decide +kernel), Or.inl rfl⟩, rfl, by decide +kernel, tyok_X7, nmok_X7⟩
theorem fl_RX7_55 : hh_FL RX7 55 7 7 .int false := ⟨_, _, _, tyX7, "IndexBuilder$RunRow", rfl, by decide, lay_X7, ⟨hh_at 193 (by decide +kernel) (by decide +kernel), Or.inl rfl⟩, rfl, by decide +kernel, tyok_X7, nmok_X7⟩
theorem fl_RX7_58 : hh_FL RX7 58 7 8 .int false := ⟨_, _, _, tyX7, "IndexBuilder$RunRow", rfl, by decide, lay_X7, ⟨hh_at 194 (by decide +kernel) (by decide +kernel), Or.inl rfl⟩, rfl, by decide +kernel, tyok_X7, nmok_X7⟩
theorem fl_RX7_61 : hh_FL RX7 61 7 9 .int false := ⟨_, _, _, tyX7, "IndexBuilder$RunRow", rfl, by decide, lay_X7, ⟨hh_at 195 (by decide +kernel) (by decide +kernel), Or.inl rfl⟩, rfl, by decide +kernel, tyok_X7, nmok_X7⟩
theorem fl_RX7_64 : hh_FL RX7 64 7 10 .int false := ⟨_, _, _, tyX7, "IndexBuilder$RunRow", rfl, by decide, lay_X7, ⟨hh_at 196 (by decide +kernel) (by decide +kernel), Or.inl rfl⟩, rfl, by decide +kernel, tyok_X7, nmok_X7⟩
theorem cw_J0_size : Cond.code yJ0_size cJ0_size 1 (some .int) ∈ hh_T := hh_at 304 (by decide +kernel) (by decide +kernel)
theorem cs_RX7_67 : hh_CS RX7 67 yJ0_size cJ0_size 1 (some .int) 0 [.instanceMethod yJ0_size, .selects yJ0_size.cls yJ0_size yJ0_size] := ⟨cw_J0_size, hh_at 301 (by decide +kernel) (by decide +kernel), hh_at 43 (by decide +kernel) (by decide +kernel), hh_all2 (hh_at 302 (by decide +kernel) (by decide +kernel)) (hh_at 303 (by decide +kernel) (by decide +kernel)), by decide +kernel⟩
theorem cs_RX7_91 : hh_CS RX7 91 yX2_has cX2_has 3 (some .boolean) 2 [.instanceMethod yX2_has, .selects yX2_has.cls yX2_has yX2_has] := ⟨cw_X2_has, hh_at 1135 (by decide +kernel) (by decide +kernel), hh_at 39 (by decide +kernel) (by decide +kernel), hh_all2 (hh_at 1136 (by decide +kernel) (by decide +kernel)) (hh_at 1137 (by decide +kernel) (by decide +kernel)), by decide +kernel⟩
theorem cw_X2_cellAt : Cond.code yX2_cellAt cX2_cellAt 3 (some .int) ∈ hh_T := hh_at 1149 (by decide +kernel) (by decide +kernel)
theorem cs_RX7_94 : hh_CS RX7 94 yX2_cellAt cX2_cellAt 3 (some .int) 2 [.instanceMethod yX2_cellAt, .selects yX2_cellAt.cls yX2_cellAt yX2_cellAt] := ⟨cw_X2_cellAt, hh_at 1146 (by decide +kernel) (by decide +kernel), hh_at 39 (by decide +kernel) (by decide +kernel), hh_all2 (hh_at 1147 (by decide +kernel) (by decide +kernel)) (hh_at 1148 (by decide +kernel) (by decide +kernel)), by decide +kernel⟩
theorem cw_X2_free : Cond.code yX2_free cX2_free 1 (some .int) ∈ hh_T := hh_at 312 (by decide +kernel) (by decide +kernel)
theorem cs_RX7_98 : hh_CS RX7 98 yX2_free cX2_free 1 (some .int) 0 [.instanceMethod yX2_free, .selects yX2_free.cls yX2_free yX2_free] := ⟨cw_X2_free, hh_at 309 (by decide +kernel) (by decide +kernel), hh_at 39 (by decide +kernel) (by decide +kernel), hh_all2 (hh_at 310 (by decide +kernel) (by decide +kernel)) (hh_at 311 (by decide +kernel) (by decide +kernel)), by decide +kernel⟩
theorem cw_J0_get : Cond.code yJ0_get cJ0_get 2 (some (.object "java/lang/Object")) ∈ hh_T := hh_at 872 (by decide +kernel) (by decide +kernel)
theorem cs_RX7_72 : hh_CS RX7 72 yJ0_get cJ0_get 2 (some (.object "java/lang/Object")) 1 [.instanceMethod yJ0_get, .selects yJ0_get.cls yJ0_get yJ0_get] := ⟨cw_J0_get, hh_at 869 (by decide +kernel) (by decide +kernel), hh_at 43 (by decide +kernel) (by decide +kernel), hh_all2 (hh_at 870 (by decide +kernel) (by decide +kernel)) (hh_at 871 (by decide +kernel) (by decide +kernel)), by decide +kernel⟩
theorem ca_RX7_76 : hh_CA RX7 76 6 := ⟨_, _, _, rfl, hh_at 883 (by decide +kernel) (by decide +kernel)⟩
theorem fn_RX7_78 : hh_FN RX7 78 6 0 := ⟨_, _, _, "IndexBuilder", rfl, by decide, lay_X6, hh_at2 534 (by decide +kernel) (by decide +kernel)⟩
theorem cw_X2_read : Cond.code yX2_read cX2_read 5 none ∈ hh_T := hh_at 904 (by decide +kernel) (by decide +kernel)
theorem cs_RX7_152 : hh_CS RX7 152 yX2_read cX2_read 5 none 2 [.instanceMethod yX2_read, .selects yX2_read.cls yX2_read yX2_read] := ⟨cw_X2_read, hh_at 901 (by decide +kernel) (by decide +kernel), hh_at 39 (by decide +kernel) (by decide +kernel), hh_all2 (hh_at 902 (by decide +kernel) (by decide +kernel)) (hh_at 903 (by decide +kernel) (by decide +kernel)), by decide +kernel⟩
theorem cw_X1_decode : Cond.code yX1_decode cX1_decode 11 none ∈ hh_T := hh_at 910 (by decide +kernel) (by decide +kernel)
theorem cs_RX7_156 : hh_CS RX7 156 yX1_decode cX1_decode 11 none 1 [.instanceMethod yX1_decode, .selects yX1_decode.cls yX1_decode yX1_decode] := ⟨cw_X1_decode, hh_at 907 (by decide +kernel) (by decide +kernel), hh_at 44 (by decide +kernel) (by decide +kernel), hh_all2 (hh_at 908 (by decide +kernel) (by decide +kernel)) (hh_at 909 (by decide +kernel) (by decide +kernel)), by decide +kernel⟩
theorem fn_RX7_81 : hh_FN RX7 81 6 1 := ⟨_, _, _, "IndexBuilder", rfl, by decide, lay_X6, hh_at2 536 (by decide +kernel) (by decide +kernel)⟩
theorem cw_X5_keepLive : Cond.code yX5_keepLive cX5_keepLive 4 none ∈ hh_T := hh_at 462 (by decide +kernel) (by decide +kernel)
theorem cs_RX7_159 : hh_CS RX7 159 yX5_keepLive cX5_keepLive 4 none 1 [.instanceMethod yX5_keepLive, .selects yX5_keepLive.cls yX5_keepLive yX5_keepLive] := ⟨cw_X5_keepLive, hh_at 459 (by decide +kernel) (by decide +kernel), hh_at 38 (by decide +kernel) (by decide +kernel), hh_all2 (hh_at 460 (by decide +kernel) (by decide +kernel)) (hh_at 461 (by decide +kernel) (by decide +kernel)), by decide +kernel⟩
theorem cw_X1_encode : Cond.code yX1_encode cX1_encode 10 none ∈ hh_T := hh_at 473 (by decide +kernel) (by decide +kernel)
theorem cs_RX7_163 : hh_CS RX7 163 yX1_encode cX1_encode 10 none 1 [.instanceMethod yX1_encode, .selects yX1_encode.cls yX1_encode yX1_encode] := ⟨cw_X1_encode, hh_at 470 (by decide +kernel) (by decide +kernel), hh_at 44 (by decide +kernel) (by decide +kernel), hh_all2 (hh_at 471 (by decide +kernel) (by decide +kernel)) (hh_at 472 (by decide +kernel) (by decide +kernel)), by decide +kernel⟩
theorem cs_RX7_166 : hh_CS RX7 166 yX1_size cX1_size 1 (some .int) 0 [.instanceMethod yX1_size, .selects yX1_size.cls yX1_size yX1_size] := ⟨cw_X1_size, hh_at 498 (by decide +kernel) (by decide +kernel), hh_at 44 (by decide +kernel) (by decide +kernel), hh_all2 (hh_at 499 (by decide +kernel) (by decide +kernel)) (hh_at 500 (by decide +kernel) (by decide +kernel)), by decide +kernel⟩
theorem cw_X2_hasRoomFor : Cond.code yX2_hasRoomFor cX2_hasRoomFor 2 (some .boolean) ∈ hh_T := hh_at 505 (by decide +kernel) (by decide +kernel)
theorem cs_RX7_167 : hh_CS RX7 167 yX2_hasRoomFor cX2_hasRoomFor 2 (some .boolean) 1 [.instanceMethod yX2_hasRoomFor, .selects yX2_hasRoomFor.cls yX2_hasRoomFor yX2_hasRoomFor] := ⟨cw_X2_hasRoomFor, hh_at 502 (by decide +kernel) (by decide +kernel), hh_at 39 (by decide +kernel) (by decide +kernel), hh_all2 (hh_at 503 (by decide +kernel) (by decide +kernel)) (hh_at 504 (by decide +kernel) (by decide +kernel)), by decide +kernel⟩
theorem cw_X2_write : Cond.code yX2_write cX2_write 7 (some (.object "IndexBuilder$Run")) ∈ hh_T := hh_at 516 (by decide +kernel) (by decide +kernel)
theorem cs_RX7_170 : hh_CS RX7 170 yX2_write cX2_write 7 (some (.object "IndexBuilder$Run")) 2 [.instanceMethod yX2_write, .selects yX2_write.cls yX2_write yX2_write] := ⟨cw_X2_write, hh_at 513 (by decide +kernel) (by decide +kernel), hh_at 39 (by decide +kernel) (by decide +kernel), hh_all2 (hh_at 514 (by decide +kernel) (by decide +kernel)) (hh_at 515 (by decide +kernel) (by decide +kernel)), by decide +kernel⟩
theorem cw_J0_add : Cond.code yJ0_add cJ0_add 5 none ∈ hh_T := hh_at 551 (by decide +kernel) (by decide +kernel)
theorem cs_RX7_174 : hh_CS RX7 174 yJ0_add cJ0_add 5 none 2 [.instanceMethod yJ0_add, .selects yJ0_add.cls yJ0_add yJ0_add] := ⟨cw_J0_add, hh_at 548 (by decide +kernel) (by decide +kernel), hh_at 43 (by decide +kernel) (by decide +kernel), hh_all2 (hh_at 549 (by decide +kernel) (by decide +kernel)) (hh_at 550 (by decide +kernel) (by decide +kernel)), by decide +kernel⟩
theorem cw_X6_isBetween : Cond.code yX6_isBetween cX6_isBetween 3 (some .boolean) ∈ hh_T := hh_at 895 (by decide +kernel) (by decide +kernel)
theorem cs_RX7_143 : hh_CS RX7 143 yX6_isBetween cX6_isBetween 3 (some .boolean) 2 [.instanceMethod yX6_isBetween, .selects yX6_isBetween.cls yX6_isBetween yX6_isBetween] := ⟨cw_X6_isBetween, hh_at 892 (by decide +kernel) (by decide +kernel), hh_at 53 (by decide +kernel) (by decide +kernel), hh_all2 (hh_at 893 (by decide +kernel) (by decide +kernel)) (hh_at 894 (by decide +kernel) (by decide +kernel)), by decide +kernel⟩
theorem cw_X2_release : Cond.code yX2_release cX2_release 6 none ∈ hh_T := hh_at 930 (by decide +kernel) (by decide +kernel)
theorem cs_RX7_178 : hh_CS RX7 178 yX2_release cX2_release 6 none 1 [.instanceMethod yX2_release, .selects yX2_release.cls yX2_release yX2_release] := ⟨cw_X2_release, hh_at 927 (by decide +kernel) (by decide +kernel), hh_at 39 (by decide +kernel) (by decide +kernel), hh_all2 (hh_at 928 (by decide +kernel) (by decide +kernel)) (hh_at 929 (by decide +kernel) (by decide +kernel)), by decide +kernel⟩
theorem cw_J0_remove : Cond.code yJ0_remove cJ0_remove 4 (some (.object "java/lang/Object")) ∈ hh_T := hh_at 938 (by decide +kernel) (by decide +kernel)
theorem cs_RX7_181 : hh_CS RX7 181 yJ0_remove cJ0_remove 4 (some (.object "java/lang/Object")) 1 [.instanceMethod yJ0_remove, .selects yJ0_remove.cls yJ0_remove yJ0_remove] := ⟨cw_J0_remove, hh_at 935 (by decide +kernel) (by decide +kernel), hh_at 43 (by decide +kernel) (by decide +kernel), hh_all2 (hh_at 936 (by decide +kernel) (by decide +kernel)) (hh_at 937 (by decide +kernel) (by decide +kernel)), by decide +kernel⟩
theorem cw_X7_has : Cond.code yX7_has cX7_has 2 (some .boolean) ∈ hh_T := hh_at 1166 (by decide +kernel) (by decide +kernel)
theorem cs_RX7_68 : hh_CS RX7 68 yX7_has cX7_has 2 (some .boolean) 1 [.instanceMethod yX7_has, .selects yX7_has.cls yX7_has yX7_has] := ⟨cw_X7_has, hh_at 1163 (by decide +kernel) (by decide +kernel), hh_at 40 (by decide +kernel) (by decide +kernel), hh_all2 (hh_at 1165 (by decide +kernel) (by decide +kernel)) (hh_at 20 (by decide +kernel) (by decide +kernel)), by decide +kernel⟩
theorem cw_X7_blocksOf : Cond.code yX7_blocksOf cX7_blocksOf 2 (some .int) ∈ hh_T := hh_at 1170 (by decide +kernel) (by decide +kernel)
theorem cs_RX7_85 : hh_CS RX7 85 yX7_blocksOf cX7_blocksOf 2 (some .int) 1 [.instanceMethod yX7_blocksOf, .selects yX7_blocksOf.cls yX7_blocksOf yX7_blocksOf] := ⟨cw_X7_blocksOf, hh_at 1175 (by decide +kernel) (by decide +kernel), hh_at 40 (by decide +kernel) (by decide +kernel), hh_all2 (hh_at 1168 (by decide +kernel) (by decide +kernel)) (hh_at 1169 (by decide +kernel) (by decide +kernel)), by decide +kernel⟩
theorem fn_RX7_89 : hh_FN RX7 89 6 2 := ⟨_, _, _, "IndexBuilder", rfl, by decide, lay_X6, hh_at2 539 (by decide +kernel) (by decide +kernel)⟩
theorem cs_RX7_101 : hh_CS RX7 101 yX5_clear cX5_clear 1 none 0 [.instanceMethod yX5_clear, .selects yX5_clear.cls yX5_clear yX5_clear] := ⟨cw_X5_clear, hh_at 447 (by decide +kernel) (by decide +kernel), hh_at 38 (by decide +kernel) (by decide +kernel), hh_all2 (hh_at 448 (by decide +kernel) (by decide +kernel)) (hh_at 449 (by decide +kernel) (by decide +kernel)), by decide +kernel⟩
theorem cw_X5_mergeIn : Cond.code yX5_mergeIn cX5_mergeIn 6 none ∈ hh_T := hh_at 454 (by decide +kernel) (by decide +kernel)
theorem cs_RX7_104 : hh_CS RX7 104 yX5_mergeIn cX5_mergeIn 6 none 1 [.instanceMethod yX5_mergeIn, .selects yX5_mergeIn.cls yX5_mergeIn yX5_mergeIn] := ⟨cw_X5_mergeIn, hh_at 451 (by decide +kernel) (by decide +kernel), hh_at 38 (by decide +kernel) (by decide +kernel), hh_all2 (hh_at 452 (by decide +kernel) (by decide +kernel)) (hh_at 453 (by decide +kernel) (by decide +kernel)), by decide +kernel⟩
theorem cw_X7_fitsOnDisk : Cond.code yX7_fitsOnDisk cX7_fitsOnDisk 1 (some .boolean) ∈ hh_T := hh_at 458 (by decide +kernel) (by decide +kernel)
theorem cs_RX7_108 : hh_CS RX7 108 yX7_fitsOnDisk cX7_fitsOnDisk 1 (some .boolean) 0 [.instanceMethod yX7_fitsOnDisk, .selects yX7_fitsOnDisk.cls yX7_fitsOnDisk yX7_fitsOnDisk] := ⟨cw_X7_fitsOnDisk, hh_at 455 (by decide +kernel) (by decide +kernel), hh_at 40 (by decide +kernel) (by decide +kernel), hh_all2 (hh_at 457 (by decide +kernel) (by decide +kernel)) (hh_at 2 (by decide +kernel) (by decide +kernel)), by decide +kernel⟩
theorem cw_X7_writeAt : Cond.code yX7_writeAt cX7_writeAt 4 none ∈ hh_T := hh_at 512 (by decide +kernel) (by decide +kernel)
theorem cs_RX7_112 : hh_CS RX7 112 yX7_writeAt cX7_writeAt 4 none 2 [.instanceMethod yX7_writeAt, .selects yX7_writeAt.cls yX7_writeAt yX7_writeAt] := ⟨cw_X7_writeAt, hh_at 509 (by decide +kernel) (by decide +kernel), hh_at 40 (by decide +kernel) (by decide +kernel), hh_all2 (hh_at 511 (by decide +kernel) (by decide +kernel)) (hh_at 4 (by decide +kernel) (by decide +kernel)), by decide +kernel⟩
theorem cw_X7_readPart : Cond.code yX7_readPart cX7_readPart 2 none ∈ hh_T := hh_at 900 (by decide +kernel) (by decide +kernel)
theorem cs_RX7_130 : hh_CS RX7 130 yX7_readPart cX7_readPart 2 none 1 [.instanceMethod yX7_readPart, .selects yX7_readPart.cls yX7_readPart yX7_readPart] := ⟨cw_X7_readPart, hh_at 897 (by decide +kernel) (by decide +kernel), hh_at 40 (by decide +kernel) (by decide +kernel), hh_all2 (hh_at 899 (by decide +kernel) (by decide +kernel)) (hh_at 13 (by decide +kernel) (by decide +kernel)), by decide +kernel⟩
theorem cw_X4_take : Cond.code yX4_take cX4_take 6 none ∈ hh_T := hh_at 1045 (by decide +kernel) (by decide +kernel)
theorem cs_RX7_134 : hh_CS RX7 134 yX4_take cX4_take 6 none 2 [.instanceMethod yX4_take, .selects yX4_take.cls yX4_take yX4_take] := ⟨cw_X4_take, hh_at 1042 (by decide +kernel) (by decide +kernel), hh_at 45 (by decide +kernel) (by decide +kernel), hh_all2 (hh_at 1043 (by decide +kernel) (by decide +kernel)) (hh_at 1044 (by decide +kernel) (by decide +kernel)), by decide +kernel⟩
theorem cw_X7_runsOf : Cond.code yX7_runsOf cX7_runsOf 4 (some .int) ∈ hh_T := hh_at 887 (by decide +kernel) (by decide +kernel)
theorem cs_RX7_140 : hh_CS RX7 140 yX7_runsOf cX7_runsOf 4 (some .int) 1 [.instanceMethod yX7_runsOf, .selects yX7_runsOf.cls yX7_runsOf yX7_runsOf] := ⟨cw_X7_runsOf, hh_at 884 (by decide +kernel) (by decide +kernel), hh_at 40 (by decide +kernel) (by decide +kernel), hh_all2 (hh_at 886 (by decide +kernel) (by decide +kernel)) (hh_at 11 (by decide +kernel) (by decide +kernel)), by decide +kernel⟩
theorem cw_X7_removeLevels : Cond.code yX7_removeLevels cX7_removeLevels 5 none ∈ hh_T := hh_at 926 (by decide +kernel) (by decide +kernel)
theorem cs_RX7_149 : hh_CS RX7 149 yX7_removeLevels cX7_removeLevels 5 none 2 [.instanceMethod yX7_removeLevels, .selects yX7_removeLevels.cls yX7_removeLevels yX7_removeLevels] := ⟨cw_X7_removeLevels, hh_at 923 (by decide +kernel) (by decide +kernel), hh_at 40 (by decide +kernel) (by decide +kernel), hh_all2 (hh_at 925 (by decide +kernel) (by decide +kernel)) (hh_at 15 (by decide +kernel) (by decide +kernel)), by decide +kernel⟩
theorem mm_RX7_146 : Cond.methodLink RX7 146 Lib.Math.min.name ∈ hh_T := hh_at 896 (by decide +kernel) (by decide +kernel)
theorem cw_X7_leastFullLevel : Cond.code yX7_leastFullLevel cX7_leastFullLevel 4 (some .int) ∈ hh_T := hh_at 868 (by decide +kernel) (by decide +kernel)
theorem cs_RX7_116 : hh_CS RX7 116 yX7_leastFullLevel cX7_leastFullLevel 4 (some .int) 0 [.instanceMethod yX7_leastFullLevel, .selects yX7_leastFullLevel.cls yX7_leastFullLevel yX7_leastFullLevel] := ⟨cw_X7_leastFullLevel, hh_at 865 (by decide +kernel) (by decide +kernel), hh_at 40 (by decide +kernel) (by decide +kernel), hh_all2 (hh_at 867 (by decide +kernel) (by decide +kernel)) (hh_at 10 (by decide +kernel) (by decide +kernel)), by decide +kernel⟩
theorem cw_X7_mergeLevels : Cond.code yX7_mergeLevels cX7_mergeLevels 6 (some .boolean) ∈ hh_T := hh_at 891 (by decide +kernel) (by decide +kernel)
theorem cs_RX7_119 : hh_CS RX7 119 yX7_mergeLevels cX7_mergeLevels 6 (some .boolean) 2 [.instanceMethod yX7_mergeLevels, .selects yX7_mergeLevels.cls yX7_mergeLevels yX7_mergeLevels] := ⟨cw_X7_mergeLevels, hh_at 888 (by decide +kernel) (by decide +kernel), hh_at 40 (by decide +kernel) (by decide +kernel), hh_all2 (hh_at 890 (by decide +kernel) (by decide +kernel)) (hh_at 12 (by decide +kernel) (by decide +kernel)), by decide +kernel⟩
theorem mm_RX7_125 : Cond.methodLink RX7 125 Lib.Math.max.name ∈ hh_T := hh_at 1017 (by decide +kernel) (by decide +kernel)
theorem cw_J0_isEmpty : Cond.code yJ0_isEmpty cJ0_isEmpty 1 (some .boolean) ∈ hh_T := hh_at 1016 (by decide +kernel) (by decide +kernel)
theorem cs_RX7_122 : hh_CS RX7 122 yJ0_isEmpty cJ0_isEmpty 1 (some .boolean) 0 [.instanceMethod yJ0_isEmpty, .selects yJ0_isEmpty.cls yJ0_isEmpty yJ0_isEmpty] := ⟨cw_J0_isEmpty, hh_at 1013 (by decide +kernel) (by decide +kernel), hh_at 43 (by decide +kernel) (by decide +kernel), hh_all2 (hh_at 1014 (by decide +kernel) (by decide +kernel)) (hh_at 1015 (by decide +kernel) (by decide +kernel)), by decide +kernel⟩
def mc_RunRow_init : Nat := 7
def ms_RunRow_init : Nat := 2570
def rm_RunRow_init : Room := { frames := 4, cells := 7, slots := 2570, locals := 80 }
abbrev ok_RunRow_init (X : hh_X) (B e0 : Nat) : Prop := hh_ok X B e0 cX7_init RX7 4 none "<init>" rm_RunRow_init
set_option maxRecDepth 100000 in
set_option maxHeartbeats 4000000 in
theorem w_RunRow_init {X : hh_X} {B e0 : Nat} {rr : Unit × hh_H} (C : ok_RunRow_init X B e0) (E : hh_End X B e0 (.returned none) rr.2 mc_RunRow_init ms_RunRow_init) (F : Nat) (a0 : Nat) (a1 : Nat) (a2 : Nat) (x3 : Int32) (h : hh_H)
    (hf : f_RunRow_init F a0 a1 a2 x3 h = some rr) : hh_W X 0 0 0 [(0, .ref (hh_ad B e0 a0)), (1, .ref (hh_ad B e0 a1)), (2, .ref (hh_ad B e0 a2)), (3, .int x3)] [] h := by
  unfold f_RunRow_init at hf
  refine r_aload_n C dX7_init_0 rfl 0 rfl ?_
  refine r_objInit C dX7_init_1 oi_RX7_3 oi_inst oi_code (by decide) (Nat.le_of_ble_eq_true rfl) ?_
  refine r_aload_n C dX7_init_4 rfl 0 rfl ?_
  refine r_aload_n C dX7_init_5 rfl 1 rfl ?_
  obtain ⟨h1, e2, hf⟩ := hp_bind hf
  refine r_putAF C dX7_init_6 fl_RX7_9 rfl (fun _ _ _ q => by cases q; rfl) (fun _ => ⟨rfl, rfl⟩) e2 ?_
  refine r_aload_n C dX7_init_9 rfl 0 rfl ?_
  refine r_aload_n C dX7_init_10 rfl 2 rfl ?_
  obtain ⟨h3, e4, hf⟩ := hp_bind hf
  refine r_putAF C dX7_init_11 fl_RX7_15 rfl (fun _ _ _ q => by cases q; rfl) (fun _ => ⟨rfl, rfl⟩) e4 ?_
  refine r_aload_n C dX7_init_14 rfl 0 rfl ?_
  refine r_iload_n C dX7_init_15 rfl 3 rfl ?_
  obtain ⟨h5, e6, hf⟩ := hp_bind hf
  refine r_putIF C dX7_init_16 fl_RX7_19 rfl (fun _ _ _ q => by cases q; rfl) e6 ?_
  refine r_aload_n C dX7_init_19 rfl 0 rfl ?_
  obtain ⟨b7, h9, e8, hf⟩ := hp_cbe hf
  refine r_new C dX7_init_20 nw_RX7_23 (by decide) (by decide) e8 ?_
  refine r_dup C dX7_init_23 rfl ?_
  obtain ⟨q10, h11, e12, hf⟩ := hp_cbe hf
  refine r_callI C dX7_init_24 cs_RX7_25 rfl (c_ArrayList_init B e0 F b7 h9 _ e12) rfl rfl rfl ⟨by decide, by decide⟩ ⟨by decide, by decide⟩ (Nat.le_of_ble_eq_true rfl) rfl ?_
  obtain ⟨h13, e14, hf⟩ := hp_bind hf
  refine r_putAF C dX7_init_27 fl_RX7_26 rfl (fun _ _ _ q => by cases q; rfl) (fun _ => ⟨rfl, rfl⟩) e14 ?_
  refine r_aload_n C dX7_init_30 rfl 0 rfl ?_
  obtain ⟨b15, h17, e16, hf⟩ := hp_cbe hf
  refine r_new C dX7_init_31 nw_RX7_30 (by decide) (by decide) e16 ?_
  refine r_dup C dX7_init_34 rfl ?_
  refine r_sipush C dX7_init_35 (v := 800) (by decide) ?_
  obtain ⟨q18, h19, e20, hf⟩ := hp_cbe hf
  refine r_callI C dX7_init_38 cs_RX7_32 rfl (c_Postings_init B e0 F b15 800 h17 _ e20) rfl rfl rfl ⟨by decide, by decide⟩ ⟨by decide, by decide⟩ (Nat.le_of_ble_eq_true rfl) rfl ?_
  obtain ⟨h21, e22, hf⟩ := hp_bind hf
  refine r_putAF C dX7_init_41 fl_RX7_35 rfl (fun _ _ _ q => by cases q; rfl) (fun _ => ⟨rfl, rfl⟩) e22 ?_
  refine r_aload_n C dX7_init_44 rfl 0 rfl ?_
  obtain ⟨b23, h25, e24, hf⟩ := hp_cbe hf
  refine r_new C dX7_init_45 nw_RX7_30 (by decide) (by decide) e24 ?_
  refine r_dup C dX7_init_48 rfl ?_
  refine r_sipush C dX7_init_49 (v := 800) (by decide) ?_
  obtain ⟨q26, h27, e28, hf⟩ := hp_cbe hf
  refine r_callI C dX7_init_52 cs_RX7_32 rfl (c_Postings_init B e0 F b23 800 h25 _ e28) rfl rfl rfl ⟨by decide, by decide⟩ ⟨by decide, by decide⟩ (Nat.le_of_ble_eq_true rfl) rfl ?_
  obtain ⟨h29, e30, hf⟩ := hp_bind hf
  refine r_putAF C dX7_init_55 fl_RX7_39 rfl (fun _ _ _ q => by cases q; rfl) (fun _ => ⟨rfl, rfl⟩) e30 ?_
  refine r_aload_n C dX7_init_58 rfl 0 rfl ?_
  obtain ⟨b31, h33, e32, hf⟩ := hp_cbe hf
  refine r_new C dX7_init_59 nw_RX7_42 (by decide) (by decide) e32 ?_
  refine r_dup C dX7_init_62 rfl ?_
  refine r_aload_n C dX7_init_63 rfl 2 rfl ?_
  obtain ⟨_, e37, hf⟩ := hp_bind hf
  obtain ⟨g38, e37⟩ := hp_is_of e37
  obtain ⟨q34, h35, e36, hf⟩ := hp_cbe hf
  refine r_callV C dX7_init_64 cs_RX7_44 rfl e37 (c_Disk_size B e0 F a2 h33 _ e36) rfl rfl rfl ⟨by decide, by decide⟩ ⟨by decide, by decide⟩ (Nat.le_of_ble_eq_true rfl) rfl ?_
  obtain ⟨q39, h40, e41, hf⟩ := hp_cbe hf
  refine r_callI C dX7_init_67 cs_RX7_50 rfl (c_Bytes_init B e0 F b31 q34 h35 _ e41) rfl rfl rfl ⟨by decide, by decide⟩ ⟨by decide, by decide⟩ (Nat.le_of_ble_eq_true rfl) rfl ?_
  obtain ⟨h42, e43, hf⟩ := hp_bind hf
  refine r_putAF C dX7_init_70 fl_RX7_51 rfl (fun _ _ _ q => by cases q; rfl) (fun _ => ⟨rfl, rfl⟩) e43 ?_
  refine r_aload_n C dX7_init_73 rfl 0 rfl ?_
  refine r_iconst C dX7_init_74 (v := 0) (by decide) ?_
  obtain ⟨h44, e45, hf⟩ := hp_bind hf
  refine r_putI C dX7_init_75 fl_RX7_55 e45 ?_
  refine r_aload_n C dX7_init_78 rfl 0 rfl ?_
  refine r_iconst C dX7_init_79 (v := 0) (by decide) ?_
  obtain ⟨h46, e47, hf⟩ := hp_bind hf
  refine r_putI C dX7_init_80 fl_RX7_58 e47 ?_
  refine r_aload_n C dX7_init_83 rfl 0 rfl ?_
  refine r_iconst C dX7_init_84 (v := 0) (by decide) ?_
  obtain ⟨h48, e49, hf⟩ := hp_bind hf
  refine r_putI C dX7_init_85 fl_RX7_61 e49 ?_
  refine r_aload_n C dX7_init_88 rfl 0 rfl ?_
  refine r_iconst C dX7_init_89 (v := 0) (by decide) ?_
  obtain ⟨h50, e51, hf⟩ := hp_bind hf
  refine r_putI C dX7_init_90 fl_RX7_64 e51 ?_
  exact r_return C E dX7_init_93 (by decide) (by decide) hf
theorem c_RunRow_init (B e0 F : Nat) (a0 : Nat) (a1 : Nat) (a2 : Nat) (x3 : Int32) (h : hh_H) (rr : Unit × hh_H) (hf : f_RunRow_init F a0 a1 a2 x3 h = some rr) : hh_Met yX7_init cX7_init 4 none rm_RunRow_init mc_RunRow_init ms_RunRow_init B e0 [.ref (hh_ad B e0 a0), .ref (hh_ad B e0 a1), .ref (hh_ad B e0 a2), .int x3] h (.returned none) rr.2 :=
  hh_met (by decide) (Nat.le_of_ble_eq_true rfl) fun X C E => hh_pick [0, 1, 2, 3] rfl (w_RunRow_init C E F a0 a1 a2 x3 h hf)
def mc_RunRow_size : Nat := 0
def ms_RunRow_size : Nat := 0
def rm_RunRow_size : Room := { frames := 1, cells := 0, slots := 0, locals := 20 }
abbrev ok_RunRow_size (X : hh_X) (B e0 : Nat) : Prop := hh_ok X B e0 cX7_size RX7 1 (some .int) "size" rm_RunRow_size
set_option maxRecDepth 100000 in
set_option maxHeartbeats 4000000 in
theorem w_RunRow_size {X : hh_X} {B e0 : Nat} {rr : Int32 × hh_H} (C : ok_RunRow_size X B e0) (E : hh_End X B e0 (.returned (some (.int rr.1))) rr.2 mc_RunRow_size ms_RunRow_size) (F : Nat) (a0 : Nat) (h : hh_H)
    (hf : f_RunRow_size F a0 h = some rr) : hh_W X 0 0 0 [(0, .ref (hh_ad B e0 a0))] [] h := by
  unfold f_RunRow_size at hf
  refine r_aload_n C dX7_size_0 rfl 0 rfl ?_
  obtain ⟨v1, e2, hf⟩ := hp_bind hf
  refine r_getA C dX7_size_1 fl_RX7_26 e2 ?_
  obtain ⟨_, e6, hf⟩ := hp_bind hf
  obtain ⟨g7, e6⟩ := hp_is_of e6
  obtain ⟨q3, h4, e5, hf⟩ := hp_cbe hf
  refine r_callV C dX7_size_4 cs_RX7_67 rfl e6 (c_ArrayList_size B e0 F v1 h _ e5) rfl rfl rfl ⟨by decide, by decide⟩ ⟨by decide, by decide⟩ (Nat.le_of_ble_eq_true rfl) rfl ?_
  exact r_ireturn C E dX7_size_7 (by decide) (by decide) hf
theorem c_RunRow_size (B e0 F : Nat) (a0 : Nat) (h : hh_H) (rr : Int32 × hh_H) (hf : f_RunRow_size F a0 h = some rr) : hh_Met yX7_size cX7_size 1 (some .int) rm_RunRow_size mc_RunRow_size ms_RunRow_size B e0 [.ref (hh_ad B e0 a0)] h (.returned (some (.int rr.1))) rr.2 :=
  hh_met (by decide) (Nat.le_of_ble_eq_true rfl) fun X C E => hh_pick [0] rfl (w_RunRow_size C E F a0 h hf)
def mc_RunRow_hasByte : Nat := 0
def ms_RunRow_hasByte : Nat := 0
def rm_RunRow_hasByte : Room := { frames := 1, cells := 0, slots := 0, locals := 22 }
abbrev ok_RunRow_hasByte (X : hh_X) (B e0 : Nat) : Prop := hh_ok X B e0 cX7_hasByte RX7 3 (some .boolean) "hasByte" rm_RunRow_hasByte
set_option maxRecDepth 100000 in
set_option maxHeartbeats 4000000 in
theorem w_RunRow_hasByte {X : hh_X} {B e0 : Nat} {rr : Int32 × hh_H} (C : ok_RunRow_hasByte X B e0) (E : hh_End X B e0 (.returned (some (.int rr.1))) rr.2 mc_RunRow_hasByte ms_RunRow_hasByte) (F : Nat) (a0 : Nat) (x1 : Int32) (x2 : Int32) (h : hh_H)
    (hf : f_RunRow_hasByte F a0 x1 x2 h = some rr) : hh_W X 0 0 0 [(0, .ref (hh_ad B e0 a0)), (1, .int x1), (2, .int x2)] [] h := by
  unfold f_RunRow_hasByte at hf
  refine r_aload_n C dX7_hasByte_0 rfl 0 rfl ?_
  obtain ⟨v1, e2, hf⟩ := hp_bind hf
  refine r_getA C dX7_hasByte_1 fl_RX7_15 e2 ?_
  refine r_iload_n C dX7_hasByte_4 rfl 1 rfl ?_
  refine r_iload_n C dX7_hasByte_5 rfl 2 rfl ?_
  obtain ⟨_, e6, hf⟩ := hp_bind hf
  obtain ⟨g7, e6⟩ := hp_is_of e6
  obtain ⟨q3, h4, e5, hf⟩ := hp_cbe hf
  refine r_callV C dX7_hasByte_6 cs_RX7_91 rfl e6 (c_Disk_has B e0 F v1 x1 x2 h _ e5) rfl rfl rfl ⟨by decide, by decide⟩ ⟨by decide, by decide⟩ (Nat.le_of_ble_eq_true rfl) rfl ?_
  obtain ⟨w8, e9, hf⟩ := hp_bind hf
  obtain ⟨rfl, e9⟩ := hp_zb_of e9
  exact r_ireturnz C E dX7_hasByte_9 e9 (by decide) (by decide) hf
theorem c_RunRow_hasByte (B e0 F : Nat) (a0 : Nat) (x1 : Int32) (x2 : Int32) (h : hh_H) (rr : Int32 × hh_H) (hf : f_RunRow_hasByte F a0 x1 x2 h = some rr) : hh_Met yX7_hasByte cX7_hasByte 3 (some .boolean) rm_RunRow_hasByte mc_RunRow_hasByte ms_RunRow_hasByte B e0 [.ref (hh_ad B e0 a0), .int x1, .int x2] h (.returned (some (.int rr.1))) rr.2 :=
  hh_met (by decide) (Nat.le_of_ble_eq_true rfl) fun X C E => hh_pick [0, 1, 2] rfl (w_RunRow_hasByte C E F a0 x1 x2 h hf)
def mc_RunRow_byteAt : Nat := 0
def ms_RunRow_byteAt : Nat := 0
def rm_RunRow_byteAt : Room := { frames := 2, cells := 0, slots := 0, locals := 44 }
abbrev ok_RunRow_byteAt (X : hh_X) (B e0 : Nat) : Prop := hh_ok X B e0 cX7_byteAt RX7 3 (some .int) "byteAt" rm_RunRow_byteAt
set_option maxRecDepth 100000 in
set_option maxHeartbeats 4000000 in
theorem w_RunRow_byteAt {X : hh_X} {B e0 : Nat} {rr : Int32 × hh_H} (C : ok_RunRow_byteAt X B e0) (E : hh_End X B e0 (.returned (some (.int rr.1))) rr.2 mc_RunRow_byteAt ms_RunRow_byteAt) (F : Nat) (a0 : Nat) (x1 : Int32) (x2 : Int32) (h : hh_H)
    (hf : f_RunRow_byteAt F a0 x1 x2 h = some rr) : hh_W X 0 0 0 [(0, .ref (hh_ad B e0 a0)), (1, .int x1), (2, .int x2)] [] h := by
  unfold f_RunRow_byteAt at hf
  refine r_aload_n C dX7_byteAt_0 rfl 0 rfl ?_
  obtain ⟨v1, e2, hf⟩ := hp_bind hf
  refine r_getA C dX7_byteAt_1 fl_RX7_15 e2 ?_
  refine r_iload_n C dX7_byteAt_4 rfl 1 rfl ?_
  refine r_iload_n C dX7_byteAt_5 rfl 2 rfl ?_
  obtain ⟨_, e6, hf⟩ := hp_bind hf
  obtain ⟨g7, e6⟩ := hp_is_of e6
  obtain ⟨q3, h4, e5, hf⟩ := hp_cbe hf
  refine r_callV C dX7_byteAt_6 cs_RX7_94 rfl e6 (c_Disk_cellAt B e0 F v1 x1 x2 h _ e5) rfl rfl rfl ⟨by decide, by decide⟩ ⟨by decide, by decide⟩ (Nat.le_of_ble_eq_true rfl) rfl ?_
  exact r_ireturn C E dX7_byteAt_9 (by decide) (by decide) hf
theorem c_RunRow_byteAt (B e0 F : Nat) (a0 : Nat) (x1 : Int32) (x2 : Int32) (h : hh_H) (rr : Int32 × hh_H) (hf : f_RunRow_byteAt F a0 x1 x2 h = some rr) : hh_Met yX7_byteAt cX7_byteAt 3 (some .int) rm_RunRow_byteAt mc_RunRow_byteAt ms_RunRow_byteAt B e0 [.ref (hh_ad B e0 a0), .int x1, .int x2] h (.returned (some (.int rr.1))) rr.2 :=
  hh_met (by decide) (Nat.le_of_ble_eq_true rfl) fun X C E => hh_pick [0, 1, 2] rfl (w_RunRow_byteAt C E F a0 x1 x2 h hf)
def mc_RunRow_freeBlocks : Nat := 0
def ms_RunRow_freeBlocks : Nat := 0
def rm_RunRow_freeBlocks : Room := { frames := 1, cells := 0, slots := 0, locals := 20 }
abbrev ok_RunRow_freeBlocks (X : hh_X) (B e0 : Nat) : Prop := hh_ok X B e0 cX7_freeBlocks RX7 1 (some .int) "freeBlocks" rm_RunRow_freeBlocks
set_option maxRecDepth 100000 in
set_option maxHeartbeats 4000000 in
theorem w_RunRow_freeBlocks {X : hh_X} {B e0 : Nat} {rr : Int32 × hh_H} (C : ok_RunRow_freeBlocks X B e0) (E : hh_End X B e0 (.returned (some (.int rr.1))) rr.2 mc_RunRow_freeBlocks ms_RunRow_freeBlocks) (F : Nat) (a0 : Nat) (h : hh_H)
    (hf : f_RunRow_freeBlocks F a0 h = some rr) : hh_W X 0 0 0 [(0, .ref (hh_ad B e0 a0))] [] h := by
  unfold f_RunRow_freeBlocks at hf
  refine r_aload_n C dX7_freeBlocks_0 rfl 0 rfl ?_
  obtain ⟨v1, e2, hf⟩ := hp_bind hf
  refine r_getA C dX7_freeBlocks_1 fl_RX7_15 e2 ?_
  obtain ⟨_, e6, hf⟩ := hp_bind hf
  obtain ⟨g7, e6⟩ := hp_is_of e6
  obtain ⟨q3, h4, e5, hf⟩ := hp_cbe hf
  refine r_callV C dX7_freeBlocks_4 cs_RX7_98 rfl e6 (c_Disk_free B e0 F v1 h _ e5) rfl rfl rfl ⟨by decide, by decide⟩ ⟨by decide, by decide⟩ (Nat.le_of_ble_eq_true rfl) rfl ?_
  exact r_ireturn C E dX7_freeBlocks_7 (by decide) (by decide) hf
theorem c_RunRow_freeBlocks (B e0 F : Nat) (a0 : Nat) (h : hh_H) (rr : Int32 × hh_H) (hf : f_RunRow_freeBlocks F a0 h = some rr) : hh_Met yX7_freeBlocks cX7_freeBlocks 1 (some .int) rm_RunRow_freeBlocks mc_RunRow_freeBlocks ms_RunRow_freeBlocks B e0 [.ref (hh_ad B e0 a0)] h (.returned (some (.int rr.1))) rr.2 :=
  hh_met (by decide) (Nat.le_of_ble_eq_true rfl) fun X C E => hh_pick [0] rfl (w_RunRow_freeBlocks C E F a0 h hf)
def mc_RunRow_blocksRead : Nat := 0
def ms_RunRow_blocksRead : Nat := 0
def rm_RunRow_blocksRead : Room := { frames := 0, cells := 0, slots := 0, locals := 0 }
abbrev ok_RunRow_blocksRead (X : hh_X) (B e0 : Nat) : Prop := hh_ok X B e0 cX7_blocksRead RX7 1 (some .int) "blocksRead" rm_RunRow_blocksRead
set_option maxRecDepth 100000 in
set_option maxHeartbeats 4000000 in
theorem w_RunRow_blocksRead {X : hh_X} {B e0 : Nat} {rr : Int32 × hh_H} (C : ok_RunRow_blocksRead X B e0) (E : hh_End X B e0 (.returned (some (.int rr.1))) rr.2 mc_RunRow_blocksRead ms_RunRow_blocksRead) (F : Nat) (a0 : Nat) (h : hh_H)
    (hf : f_RunRow_blocksRead F a0 h = some rr) : hh_W X 0 0 0 [(0, .ref (hh_ad B e0 a0))] [] h := by
  unfold f_RunRow_blocksRead at hf
  refine r_aload_n C dX7_blocksRead_0 rfl 0 rfl ?_
  obtain ⟨v1, e2, hf⟩ := hp_bind hf
  refine r_getI C dX7_blocksRead_1 fl_RX7_55 e2 ?_
  exact r_ireturn C E dX7_blocksRead_4 (by decide) (by decide) hf
theorem c_RunRow_blocksRead (B e0 F : Nat) (a0 : Nat) (h : hh_H) (rr : Int32 × hh_H) (hf : f_RunRow_blocksRead F a0 h = some rr) : hh_Met yX7_blocksRead cX7_blocksRead 1 (some .int) rm_RunRow_blocksRead mc_RunRow_blocksRead ms_RunRow_blocksRead B e0 [.ref (hh_ad B e0 a0)] h (.returned (some (.int rr.1))) rr.2 :=
  hh_met (by decide) (Nat.le_of_ble_eq_true rfl) fun X C E => hh_pick [0] rfl (w_RunRow_blocksRead C E F a0 h hf)
def mc_RunRow_blocksWritten : Nat := 0
def ms_RunRow_blocksWritten : Nat := 0
def rm_RunRow_blocksWritten : Room := { frames := 0, cells := 0, slots := 0, locals := 0 }
abbrev ok_RunRow_blocksWritten (X : hh_X) (B e0 : Nat) : Prop := hh_ok X B e0 cX7_blocksWritten RX7 1 (some .int) "blocksWritten" rm_RunRow_blocksWritten
set_option maxRecDepth 100000 in
set_option maxHeartbeats 4000000 in
theorem w_RunRow_blocksWritten {X : hh_X} {B e0 : Nat} {rr : Int32 × hh_H} (C : ok_RunRow_blocksWritten X B e0) (E : hh_End X B e0 (.returned (some (.int rr.1))) rr.2 mc_RunRow_blocksWritten ms_RunRow_blocksWritten) (F : Nat) (a0 : Nat) (h : hh_H)
    (hf : f_RunRow_blocksWritten F a0 h = some rr) : hh_W X 0 0 0 [(0, .ref (hh_ad B e0 a0))] [] h := by
  unfold f_RunRow_blocksWritten at hf
  refine r_aload_n C dX7_blocksWritten_0 rfl 0 rfl ?_
  obtain ⟨v1, e2, hf⟩ := hp_bind hf
  refine r_getI C dX7_blocksWritten_1 fl_RX7_58 e2 ?_
  exact r_ireturn C E dX7_blocksWritten_4 (by decide) (by decide) hf
theorem c_RunRow_blocksWritten (B e0 F : Nat) (a0 : Nat) (h : hh_H) (rr : Int32 × hh_H) (hf : f_RunRow_blocksWritten F a0 h = some rr) : hh_Met yX7_blocksWritten cX7_blocksWritten 1 (some .int) rm_RunRow_blocksWritten mc_RunRow_blocksWritten ms_RunRow_blocksWritten B e0 [.ref (hh_ad B e0 a0)] h (.returned (some (.int rr.1))) rr.2 :=
  hh_met (by decide) (Nat.le_of_ble_eq_true rfl) fun X C E => hh_pick [0] rfl (w_RunRow_blocksWritten C E F a0 h hf)
def mc_RunRow_mergesDone : Nat := 0
def ms_RunRow_mergesDone : Nat := 0
def rm_RunRow_mergesDone : Room := { frames := 0, cells := 0, slots := 0, locals := 0 }
abbrev ok_RunRow_mergesDone (X : hh_X) (B e0 : Nat) : Prop := hh_ok X B e0 cX7_mergesDone RX7 1 (some .int) "mergesDone" rm_RunRow_mergesDone
set_option maxRecDepth 100000 in
set_option maxHeartbeats 4000000 in
theorem w_RunRow_mergesDone {X : hh_X} {B e0 : Nat} {rr : Int32 × hh_H} (C : ok_RunRow_mergesDone X B e0) (E : hh_End X B e0 (.returned (some (.int rr.1))) rr.2 mc_RunRow_mergesDone ms_RunRow_mergesDone) (F : Nat) (a0 : Nat) (h : hh_H)
    (hf : f_RunRow_mergesDone F a0 h = some rr) : hh_W X 0 0 0 [(0, .ref (hh_ad B e0 a0))] [] h := by
  unfold f_RunRow_mergesDone at hf
  refine r_aload_n C dX7_mergesDone_0 rfl 0 rfl ?_
  obtain ⟨v1, e2, hf⟩ := hp_bind hf
  refine r_getI C dX7_mergesDone_1 fl_RX7_61 e2 ?_
  exact r_ireturn C E dX7_mergesDone_4 (by decide) (by decide) hf
theorem c_RunRow_mergesDone (B e0 F : Nat) (a0 : Nat) (h : hh_H) (rr : Int32 × hh_H) (hf : f_RunRow_mergesDone F a0 h = some rr) : hh_Met yX7_mergesDone cX7_mergesDone 1 (some .int) rm_RunRow_mergesDone mc_RunRow_mergesDone ms_RunRow_mergesDone B e0 [.ref (hh_ad B e0 a0)] h (.returned (some (.int rr.1))) rr.2 :=
  hh_met (by decide) (Nat.le_of_ble_eq_true rfl) fun X C E => hh_pick [0] rfl (w_RunRow_mergesDone C E F a0 h hf)
def mc_RunRow_mergesWithoutRoom : Nat := 0
def ms_RunRow_mergesWithoutRoom : Nat := 0
def rm_RunRow_mergesWithoutRoom : Room := { frames := 0, cells := 0, slots := 0, locals := 0 }
abbrev ok_RunRow_mergesWithoutRoom (X : hh_X) (B e0 : Nat) : Prop := hh_ok X B e0 cX7_mergesWithoutRoom RX7 1 (some .int) "mergesWithoutRoom" rm_RunRow_mergesWithoutRoom
set_option maxRecDepth 100000 in
set_option maxHeartbeats 4000000 in
theorem w_RunRow_mergesWithoutRoom {X : hh_X} {B e0 : Nat} {rr : Int32 × hh_H} (C : ok_RunRow_mergesWithoutRoom X B e0) (E : hh_End X B e0 (.returned (some (.int rr.1))) rr.2 mc_RunRow_mergesWithoutRoom ms_RunRow_mergesWithoutRoom) (F : Nat) (a0 : Nat) (h : hh_H)
    (hf : f_RunRow_mergesWithoutRoom F a0 h = some rr) : hh_W X 0 0 0 [(0, .ref (hh_ad B e0 a0))] [] h := by
  unfold f_RunRow_mergesWithoutRoom at hf
  refine r_aload_n C dX7_mergesWithoutRoom_0 rfl 0 rfl ?_
  obtain ⟨v1, e2, hf⟩ := hp_bind hf
  refine r_getI C dX7_mergesWithoutRoom_1 fl_RX7_64 e2 ?_
  exact r_ireturn C E dX7_mergesWithoutRoom_4 (by decide) (by decide) hf
theorem c_RunRow_mergesWithoutRoom (B e0 F : Nat) (a0 : Nat) (h : hh_H) (rr : Int32 × hh_H) (hf : f_RunRow_mergesWithoutRoom F a0 h = some rr) : hh_Met yX7_mergesWithoutRoom cX7_mergesWithoutRoom 1 (some .int) rm_RunRow_mergesWithoutRoom mc_RunRow_mergesWithoutRoom ms_RunRow_mergesWithoutRoom B e0 [.ref (hh_ad B e0 a0)] h (.returned (some (.int rr.1))) rr.2 :=
  hh_met (by decide) (Nat.le_of_ble_eq_true rfl) fun X C E => hh_pick [0] rfl (w_RunRow_mergesWithoutRoom C E F a0 h hf)
def mc_RunRow_has : Nat := 0
def ms_RunRow_has : Nat := 0
def rm_RunRow_has : Room := { frames := 1, cells := 0, slots := 0, locals := 20 }
abbrev ok_RunRow_has (X : hh_X) (B e0 : Nat) : Prop := hh_ok X B e0 cX7_has RX7 2 (some .boolean) "has" rm_RunRow_has
set_option maxRecDepth 100000 in
set_option maxHeartbeats 4000000 in
theorem w_RunRow_has {X : hh_X} {B e0 : Nat} {rr : Int32 × hh_H} (C : ok_RunRow_has X B e0) (E : hh_End X B e0 (.returned (some (.int rr.1))) rr.2 mc_RunRow_has ms_RunRow_has) (F : Nat) (a0 : Nat) (x1 : Int32) (h : hh_H)
    (hf : f_RunRow_has F a0 x1 h = some rr) : hh_W X 0 0 0 [(0, .ref (hh_ad B e0 a0)), (1, .int x1)] [] h := by
  unfold f_RunRow_has at hf
  refine r_iload_n C dX7_has_0 rfl 1 rfl ?_
  refine r_if_lt C dX7_has_1 (tgt := 19) (by decide) (fun c1 => ?_) (fun c1 => ?_)
  · rw [if_pos c1] at hf
    refine r_iconst C dX7_has_19 (v := 0) (by decide) ?_
    exact r_ireturnz C E dX7_has_20 rfl (by decide) (by decide) hf
  · rw [if_neg c1] at hf
    refine r_iload_n C dX7_has_4 rfl 1 rfl ?_
    refine r_aload_n C dX7_has_5 rfl 0 rfl ?_
    obtain ⟨v2, e3, hf⟩ := hp_bind hf
    refine r_getA C dX7_has_6 fl_RX7_26 e3 ?_
    obtain ⟨_, e7, hf⟩ := hp_bind hf
    obtain ⟨g8, e7⟩ := hp_is_of e7
    obtain ⟨q4, h5, e6, hf⟩ := hp_cbe hf
    refine r_callV C dX7_has_9 cs_RX7_67 rfl e7 (c_ArrayList_size B e0 F v2 h _ e6) rfl rfl rfl ⟨by decide, by decide⟩ ⟨by decide, by decide⟩ (Nat.le_of_ble_eq_true rfl) rfl ?_
    refine r_icmp_ge C dX7_has_12 (tgt := 19) (by decide) (fun c9 => ?_) (fun c9 => ?_)
    · rw [if_pos c9] at hf
      refine r_iconst C dX7_has_19 (v := 0) (by decide) ?_
      exact r_ireturnz C E dX7_has_20 rfl (by decide) (by decide) hf
    · rw [if_neg c9] at hf
      refine r_iconst C dX7_has_15 (v := 1) (by decide) ?_
      refine r_goto C dX7_has_16 (tgt := 20) (by decide) ?_
      exact r_ireturnz C E dX7_has_20 rfl (by decide) (by decide) hf
theorem c_RunRow_has (B e0 F : Nat) (a0 : Nat) (x1 : Int32) (h : hh_H) (rr : Int32 × hh_H) (hf : f_RunRow_has F a0 x1 h = some rr) : hh_Met yX7_has cX7_has 2 (some .boolean) rm_RunRow_has mc_RunRow_has ms_RunRow_has B e0 [.ref (hh_ad B e0 a0), .int x1] h (.returned (some (.int rr.1))) rr.2 :=
  hh_met (by decide) (Nat.le_of_ble_eq_true rfl) fun X C E => hh_pick [0, 1] rfl (w_RunRow_has C E F a0 x1 h hf)
def mc_RunRow_runsOf : Nat := 0
def ms_RunRow_runsOf : Nat := 0
def rm_RunRow_runsOf : Room := { frames := 3, cells := 0, slots := 0, locals := 64 }
abbrev ok_RunRow_runsOf (X : hh_X) (B e0 : Nat) : Prop := hh_ok X B e0 cX7_runsOf RX7 4 (some .int) "runsOf" rm_RunRow_runsOf
set_option maxRecDepth 100000 in
set_option maxHeartbeats 4000000 in
theorem w_RunRow_runsOf_4 {X : hh_X} {B e0 : Nat} {rr : Int32 × hh_H} (C : ok_RunRow_runsOf X B e0) (E : hh_End X B e0 (.returned (some (.int rr.1))) rr.2 mc_RunRow_runsOf ms_RunRow_runsOf) (F : Nat) (r4 : Nat → Int32 → Int32 → Int32 → hh_H → Option (Int32 × hh_H)) (H4 : ∀ (a0 : Nat) (x1 : Int32) (x2 : Int32) (x3 : Int32) (h : hh_H), r4 a0 x1 x2 x3 h = some rr → hh_W X 0 0 4 [(0, .ref (hh_ad B e0 a0)), (1, .int x1), (2, .int x2), (3, .int x3)] [] h) (a0 : Nat) (x1 : Int32) (x2 : Int32) (x3 : Int32) (h : hh_H)
    (hf : f_RunRow_runsOf_4 F r4 a0 x1 x2 x3 h = some rr) : hh_W X 0 0 4 [(0, .ref (hh_ad B e0 a0)), (1, .int x1), (2, .int x2), (3, .int x3)] [] h := by
  unfold f_RunRow_runsOf_4 at hf
  refine r_iload_n C dX7_runsOf_4 rfl 3 rfl ?_
  refine r_aload_n C dX7_runsOf_5 rfl 0 rfl ?_
  obtain ⟨v1, e2, hf⟩ := hp_bind hf
  refine r_getA C dX7_runsOf_6 fl_RX7_26 e2 ?_
  obtain ⟨_, e6, hf⟩ := hp_bind hf
  obtain ⟨g7, e6⟩ := hp_is_of e6
  obtain ⟨q3, h4, e5, hf⟩ := hp_cbe hf
  refine r_callV C dX7_runsOf_9 cs_RX7_67 rfl e6 (c_ArrayList_size B e0 F v1 h _ e5) rfl rfl rfl ⟨by decide, by decide⟩ ⟨by decide, by decide⟩ (Nat.le_of_ble_eq_true rfl) rfl ?_
  refine r_icmp_ge C dX7_runsOf_12 (tgt := 42) (by decide) (fun c8 => ?_) (fun c8 => ?_)
  · rw [if_pos c8] at hf
    refine r_iload_n C dX7_runsOf_42 rfl 2 rfl ?_
    exact r_ireturn C E dX7_runsOf_43 (by decide) (by decide) hf
  · rw [if_neg c8] at hf
    refine r_aload_n C dX7_runsOf_15 rfl 0 rfl ?_
    obtain ⟨v9, e10, hf⟩ := hp_bind hf
    refine r_getA C dX7_runsOf_16 fl_RX7_26 e10 ?_
    refine r_iload_n C dX7_runsOf_19 rfl 3 rfl ?_
    obtain ⟨_, e14, hf⟩ := hp_bind hf
    obtain ⟨g15, e14⟩ := hp_is_of e14
    obtain ⟨q11, h12, e13, hf⟩ := hp_cbe hf
    refine r_callV C dX7_runsOf_20 cs_RX7_72 rfl e14 (c_ArrayList_get B e0 F v9 x3 h4 _ e13) rfl rfl rfl ⟨by decide, by decide⟩ ⟨by decide, by decide⟩ (Nat.le_of_ble_eq_true rfl) rfl ?_
    obtain ⟨_, e16, hf⟩ := hp_bind hf
    obtain ⟨g17, e16⟩ := hp_is_of e16
    refine r_cast C dX7_runsOf_23 ca_RX7_76 e16 ?_
    obtain ⟨v18, e19, hf⟩ := hp_bind hf
    refine r_getIN C dX7_runsOf_26 fn_RX7_78 e19 ?_
    refine r_iload_n C dX7_runsOf_29 rfl 1 rfl ?_
    refine r_icmp_ne C dX7_runsOf_30 (tgt := 36) (by decide) (fun c20 => ?_) (fun c20 => ?_)
    · rw [if_neg c20] at hf
      refine r_iinc (lv' := [(3, .int (x3 + 1)), (0, .ref (hh_ad B e0 a0)), (1, .int x1), (2, .int x2)]) C dX7_runsOf_36 3 rfl rfl (by decide) rfl ?_
      refine r_goto C dX7_runsOf_39 (tgt := 4) (by decide) ?_
      refine hh_pick [1, 2, 3, 0] rfl ?_
      exact H4 a0 x1 x2 (x3 + 1) h12 hf
    · rw [if_pos c20] at hf
      refine r_iinc (lv' := [(2, .int (x2 + 1)), (0, .ref (hh_ad B e0 a0)), (1, .int x1), (3, .int x3)]) C dX7_runsOf_33 2 rfl rfl (by decide) rfl ?_
      refine r_iinc (lv' := [(3, .int (x3 + 1)), (2, .int (x2 + 1)), (0, .ref (hh_ad B e0 a0)), (1, .int x1)]) C dX7_runsOf_36 3 rfl rfl (by decide) rfl ?_
      refine r_goto C dX7_runsOf_39 (tgt := 4) (by decide) ?_
      refine hh_pick [2, 3, 1, 0] rfl ?_
      exact H4 a0 x1 (x2 + 1) (x3 + 1) h12 hf
theorem wl_RunRow_runsOf_4 {X : hh_X} {B e0 : Nat} {rr : Int32 × hh_H} (C : ok_RunRow_runsOf X B e0) (E : hh_End X B e0 (.returned (some (.int rr.1))) rr.2 mc_RunRow_runsOf ms_RunRow_runsOf) (F : Nat) :
    ∀ (n : Nat) (a0 : Nat) (x1 : Int32) (x2 : Int32) (x3 : Int32) (h : hh_H), hp_it (fun _ _ _ _ _ => none) (f_RunRow_runsOf_4 F) n a0 x1 x2 x3 h = some rr → hh_W X 0 0 4 [(0, .ref (hh_ad B e0 a0)), (1, .int x1), (2, .int x2), (3, .int x3)] [] h := by
  intro n
  induction n with
  | zero => intro a0 x1 x2 x3 h hf; cases hf
  | succ n ih =>
    intro a0 x1 x2 x3 h hf
    exact w_RunRow_runsOf_4 C E F _ ih a0 x1 x2 x3 h hf
set_option maxRecDepth 100000 in
set_option maxHeartbeats 4000000 in
theorem w_RunRow_runsOf {X : hh_X} {B e0 : Nat} {rr : Int32 × hh_H} (C : ok_RunRow_runsOf X B e0) (E : hh_End X B e0 (.returned (some (.int rr.1))) rr.2 mc_RunRow_runsOf ms_RunRow_runsOf) (F : Nat) (a0 : Nat) (x1 : Int32) (h : hh_H)
    (hf : f_RunRow_runsOf F a0 x1 h = some rr) : hh_W X 0 0 0 [(0, .ref (hh_ad B e0 a0)), (1, .int x1)] [] h := by
  unfold f_RunRow_runsOf at hf
  refine r_iconst C dX7_runsOf_0 (v := 0) (by decide) ?_
  refine r_istore_n (lv' := [(2, .int 0), (0, .ref (hh_ad B e0 a0)), (1, .int x1)]) C dX7_runsOf_1 rfl (by decide) rfl ?_
  refine r_iconst C dX7_runsOf_2 (v := 0) (by decide) ?_
  refine r_istore_n (lv' := [(3, .int 0), (2, .int 0), (0, .ref (hh_ad B e0 a0)), (1, .int x1)]) C dX7_runsOf_3 rfl (by decide) rfl ?_
  refine hh_pick [2, 3, 1, 0] rfl ?_
  exact wl_RunRow_runsOf_4 C E F F a0 x1 0 0 h hf
theorem c_RunRow_runsOf (B e0 F : Nat) (a0 : Nat) (x1 : Int32) (h : hh_H) (rr : Int32 × hh_H) (hf : f_RunRow_runsOf F a0 x1 h = some rr) : hh_Met yX7_runsOf cX7_runsOf 4 (some .int) rm_RunRow_runsOf mc_RunRow_runsOf ms_RunRow_runsOf B e0 [.ref (hh_ad B e0 a0), .int x1] h (.returned (some (.int rr.1))) rr.2 :=
  hh_met (by decide) (Nat.le_of_ble_eq_true rfl) fun X C E => hh_pick [0, 1] rfl (w_RunRow_runsOf C E F a0 x1 h hf)
def mc_RunRow_readPart : Nat := 0
def ms_RunRow_readPart : Nat := 0
def rm_RunRow_readPart : Room := { frames := 2, cells := 0, slots := 0, locals := 52 }
abbrev ok_RunRow_readPart (X : hh_X) (B e0 : Nat) : Prop := hh_ok X B e0 cX7_readPart RX7 2 none "readPart" rm_RunRow_readPart
set_option maxRecDepth 100000 in
set_option maxHeartbeats 4000000 in
theorem w_RunRow_readPart {X : hh_X} {B e0 : Nat} {rr : Unit × hh_H} (C : ok_RunRow_readPart X B e0) (E : hh_End X B e0 (.returned none) rr.2 mc_RunRow_readPart ms_RunRow_readPart) (F : Nat) (a0 : Nat) (a1 : Nat) (h : hh_H)
    (hf : f_RunRow_readPart F a0 a1 h = some rr) : hh_W X 0 0 0 [(0, .ref (hh_ad B e0 a0)), (1, .ref (hh_ad B e0 a1))] [] h := by
  unfold f_RunRow_readPart at hf
  refine r_aload_n C dX7_readPart_0 rfl 0 rfl ?_
  obtain ⟨v1, e2, hf⟩ := hp_bind hf
  refine r_getA C dX7_readPart_1 fl_RX7_15 e2 ?_
  refine r_aload_n C dX7_readPart_4 rfl 1 rfl ?_
  refine r_aload_n C dX7_readPart_5 rfl 0 rfl ?_
  obtain ⟨v3, e4, hf⟩ := hp_bind hf
  refine r_getA C dX7_readPart_6 fl_RX7_51 e4 ?_
  obtain ⟨_, e8, hf⟩ := hp_bind hf
  obtain ⟨g9, e8⟩ := hp_is_of e8
  obtain ⟨q5, h6, e7, hf⟩ := hp_cbe hf
  refine r_callV C dX7_readPart_9 cs_RX7_152 rfl e8 (c_Disk_read B e0 F v1 a1 v3 h _ e7) rfl rfl rfl ⟨by decide, by decide⟩ ⟨by decide, by decide⟩ (Nat.le_of_ble_eq_true rfl) rfl ?_
  refine r_aload_n C dX7_readPart_12 rfl 0 rfl ?_
  obtain ⟨v10, e11, hf⟩ := hp_bind hf
  refine r_getA C dX7_readPart_13 fl_RX7_51 e11 ?_
  refine r_aload_n C dX7_readPart_16 rfl 0 rfl ?_
  obtain ⟨v12, e13, hf⟩ := hp_bind hf
  refine r_getA C dX7_readPart_17 fl_RX7_39 e13 ?_
  obtain ⟨_, e17, hf⟩ := hp_bind hf
  obtain ⟨g18, e17⟩ := hp_is_of e17
  obtain ⟨q14, h15, e16, hf⟩ := hp_cbe hf
  refine r_callV C dX7_readPart_20 cs_RX7_156 rfl e17 (c_Bytes_decode B e0 F v10 v12 h6 _ e16) rfl rfl rfl ⟨by decide, by decide⟩ ⟨by decide, by decide⟩ (Nat.le_of_ble_eq_true rfl) rfl ?_
  refine r_aload_n C dX7_readPart_23 rfl 0 rfl ?_
  refine r_dup C dX7_readPart_24 rfl ?_
  obtain ⟨v19, e20, hf⟩ := hp_bind hf
  refine r_getI C dX7_readPart_25 fl_RX7_55 e20 ?_
  refine r_aload_n C dX7_readPart_28 rfl 1 rfl ?_
  obtain ⟨v21, e22, hf⟩ := hp_bind hf
  refine r_getAN C dX7_readPart_29 fn_RX7_81 e22 ?_
  obtain ⟨v23, e24, hf⟩ := hp_bind hf
  refine r_alen C dX7_readPart_32 e24 ?_
  refine r_iadd C dX7_readPart_33 ?_
  obtain ⟨h25, e26, hf⟩ := hp_bind hf
  refine r_putI C dX7_readPart_34 fl_RX7_55 e26 ?_
  exact r_return C E dX7_readPart_37 (by decide) (by decide) hf
theorem c_RunRow_readPart (B e0 F : Nat) (a0 : Nat) (a1 : Nat) (h : hh_H) (rr : Unit × hh_H) (hf : f_RunRow_readPart F a0 a1 h = some rr) : hh_Met yX7_readPart cX7_readPart 2 none rm_RunRow_readPart mc_RunRow_readPart ms_RunRow_readPart B e0 [.ref (hh_ad B e0 a0), .ref (hh_ad B e0 a1)] h (.returned none) rr.2 :=
  hh_met (by decide) (Nat.le_of_ble_eq_true rfl) fun X C E => hh_pick [0, 1] rfl (w_RunRow_readPart C E F a0 a1 h hf)
def mc_RunRow_fitsOnDisk : Nat := 0
def ms_RunRow_fitsOnDisk : Nat := 0
def rm_RunRow_fitsOnDisk : Room := { frames := 2, cells := 0, slots := 0, locals := 50 }
abbrev ok_RunRow_fitsOnDisk (X : hh_X) (B e0 : Nat) : Prop := hh_ok X B e0 cX7_fitsOnDisk RX7 1 (some .boolean) "fitsOnDisk" rm_RunRow_fitsOnDisk
set_option maxRecDepth 100000 in
set_option maxHeartbeats 4000000 in
theorem w_RunRow_fitsOnDisk {X : hh_X} {B e0 : Nat} {rr : Int32 × hh_H} (C : ok_RunRow_fitsOnDisk X B e0) (E : hh_End X B e0 (.returned (some (.int rr.1))) rr.2 mc_RunRow_fitsOnDisk ms_RunRow_fitsOnDisk) (F : Nat) (a0 : Nat) (h : hh_H)
    (hf : f_RunRow_fitsOnDisk F a0 h = some rr) : hh_W X 0 0 0 [(0, .ref (hh_ad B e0 a0))] [] h := by
  unfold f_RunRow_fitsOnDisk at hf
  refine r_aload_n C dX7_fitsOnDisk_0 rfl 0 rfl ?_
  obtain ⟨v1, e2, hf⟩ := hp_bind hf
  refine r_getA C dX7_fitsOnDisk_1 fl_RX7_35 e2 ?_
  refine r_aload_n C dX7_fitsOnDisk_4 rfl 0 rfl ?_
  obtain ⟨v3, e4, hf⟩ := hp_bind hf
  refine r_getA C dX7_fitsOnDisk_5 fl_RX7_9 e4 ?_
  obtain ⟨_, e8, hf⟩ := hp_bind hf
  obtain ⟨g9, e8⟩ := hp_is_of e8
  obtain ⟨q5, h6, e7, hf⟩ := hp_cbe hf
  refine r_callV C dX7_fitsOnDisk_8 cs_RX7_159 rfl e8 (c_Postings_keepLive B e0 F v1 v3 h _ e7) rfl rfl rfl ⟨by decide, by decide⟩ ⟨by decide, by decide⟩ (Nat.le_of_ble_eq_true rfl) rfl ?_
  refine r_aload_n C dX7_fitsOnDisk_11 rfl 0 rfl ?_
  obtain ⟨v10, e11, hf⟩ := hp_bind hf
  refine r_getA C dX7_fitsOnDisk_12 fl_RX7_51 e11 ?_
  refine r_aload_n C dX7_fitsOnDisk_15 rfl 0 rfl ?_
  obtain ⟨v12, e13, hf⟩ := hp_bind hf
  refine r_getA C dX7_fitsOnDisk_16 fl_RX7_35 e13 ?_
  obtain ⟨_, e17, hf⟩ := hp_bind hf
  obtain ⟨g18, e17⟩ := hp_is_of e17
  obtain ⟨q14, h15, e16, hf⟩ := hp_cbe hf
  refine r_callV C dX7_fitsOnDisk_19 cs_RX7_163 rfl e17 (c_Bytes_encode B e0 F v10 v12 h6 _ e16) rfl rfl rfl ⟨by decide, by decide⟩ ⟨by decide, by decide⟩ (Nat.le_of_ble_eq_true rfl) rfl ?_
  refine r_aload_n C dX7_fitsOnDisk_22 rfl 0 rfl ?_
  obtain ⟨v19, e20, hf⟩ := hp_bind hf
  refine r_getA C dX7_fitsOnDisk_23 fl_RX7_15 e20 ?_
  refine r_aload_n C dX7_fitsOnDisk_26 rfl 0 rfl ?_
  obtain ⟨v21, e22, hf⟩ := hp_bind hf
  refine r_getA C dX7_fitsOnDisk_27 fl_RX7_51 e22 ?_
  obtain ⟨_, e26, hf⟩ := hp_bind hf
  obtain ⟨g27, e26⟩ := hp_is_of e26
  obtain ⟨q23, h24, e25, hf⟩ := hp_cbe hf
  refine r_callV C dX7_fitsOnDisk_30 cs_RX7_166 rfl e26 (c_Bytes_size B e0 F v21 h15 _ e25) rfl rfl rfl ⟨by decide, by decide⟩ ⟨by decide, by decide⟩ (Nat.le_of_ble_eq_true rfl) rfl ?_
  obtain ⟨_, e31, hf⟩ := hp_bind hf
  obtain ⟨g32, e31⟩ := hp_is_of e31
  obtain ⟨q28, h29, e30, hf⟩ := hp_cbe hf
  refine r_callV C dX7_fitsOnDisk_33 cs_RX7_167 rfl e31 (c_Disk_hasRoomFor B e0 F v19 q23 h24 _ e30) rfl rfl rfl ⟨by decide, by decide⟩ ⟨by decide, by decide⟩ (Nat.le_of_ble_eq_true rfl) rfl ?_
  obtain ⟨w33, e34, hf⟩ := hp_bind hf
  obtain ⟨rfl, e34⟩ := hp_zb_of e34
  exact r_ireturnz C E dX7_fitsOnDisk_36 e34 (by decide) (by decide) hf
theorem c_RunRow_fitsOnDisk (B e0 F : Nat) (a0 : Nat) (h : hh_H) (rr : Int32 × hh_H) (hf : f_RunRow_fitsOnDisk F a0 h = some rr) : hh_Met yX7_fitsOnDisk cX7_fitsOnDisk 1 (some .boolean) rm_RunRow_fitsOnDisk mc_RunRow_fitsOnDisk ms_RunRow_fitsOnDisk B e0 [.ref (hh_ad B e0 a0)] h (.returned (some (.int rr.1))) rr.2 :=
  hh_met (by decide) (Nat.le_of_ble_eq_true rfl) fun X C E => hh_pick [0] rfl (w_RunRow_fitsOnDisk C E F a0 h hf)
def mc_RunRow_writeAt : Nat := 3
def ms_RunRow_writeAt : Nat := 143
def rm_RunRow_writeAt : Room := { frames := 6, cells := 3, slots := 143, locals := 158 }
abbrev ok_RunRow_writeAt (X : hh_X) (B e0 : Nat) : Prop := hh_ok X B e0 cX7_writeAt RX7 4 none "writeAt" rm_RunRow_writeAt
set_option maxRecDepth 100000 in
set_option maxHeartbeats 4000000 in
theorem w_RunRow_writeAt {X : hh_X} {B e0 : Nat} {rr : Unit × hh_H} (C : ok_RunRow_writeAt X B e0) (E : hh_End X B e0 (.returned none) rr.2 mc_RunRow_writeAt ms_RunRow_writeAt) (F : Nat) (a0 : Nat) (x1 : Int32) (x2 : Int32) (h : hh_H)
    (hf : f_RunRow_writeAt F a0 x1 x2 h = some rr) : hh_W X 0 0 0 [(0, .ref (hh_ad B e0 a0)), (1, .int x1), (2, .int x2)] [] h := by
  unfold f_RunRow_writeAt at hf
  refine r_aload_n C dX7_writeAt_0 rfl 0 rfl ?_
  obtain ⟨v1, e2, hf⟩ := hp_bind hf
  refine r_getA C dX7_writeAt_1 fl_RX7_51 e2 ?_
  obtain ⟨_, e6, hf⟩ := hp_bind hf
  obtain ⟨g7, e6⟩ := hp_is_of e6
  obtain ⟨q3, h4, e5, hf⟩ := hp_cbe hf
  refine r_callV C dX7_writeAt_4 cs_RX7_166 rfl e6 (c_Bytes_size B e0 F v1 h _ e5) rfl rfl rfl ⟨by decide, by decide⟩ ⟨by decide, by decide⟩ (Nat.le_of_ble_eq_true rfl) rfl ?_
  refine r_if_le C dX7_writeAt_7 (tgt := 61) (by decide) (fun c8 => ?_) (fun c8 => ?_)
  · rw [if_pos c8] at hf
    exact r_return C E dX7_writeAt_61 (by decide) (by decide) hf
  · rw [if_neg c8] at hf
    refine r_iload_n C dX7_writeAt_10 rfl 1 rfl ?_
    refine r_if_lt C dX7_writeAt_11 (tgt := 61) (by decide) (fun c9 => ?_) (fun c9 => ?_)
    · rw [if_pos c9] at hf
      exact r_return C E dX7_writeAt_61 (by decide) (by decide) hf
    · rw [if_neg c9] at hf
      refine r_iload_n C dX7_writeAt_14 rfl 1 rfl ?_
      refine r_aload_n C dX7_writeAt_15 rfl 0 rfl ?_
      obtain ⟨v10, e11, hf⟩ := hp_bind hf
      refine r_getA C dX7_writeAt_16 fl_RX7_26 e11 ?_
      obtain ⟨_, e15, hf⟩ := hp_bind hf
      obtain ⟨g16, e15⟩ := hp_is_of e15
      obtain ⟨q12, h13, e14, hf⟩ := hp_cbe hf
      refine r_callV C dX7_writeAt_19 cs_RX7_67 rfl e15 (c_ArrayList_size B e0 F v10 h4 _ e14) rfl rfl rfl ⟨by decide, by decide⟩ ⟨by decide, by decide⟩ (Nat.le_of_ble_eq_true rfl) rfl ?_
      refine r_icmp_gt C dX7_writeAt_22 (tgt := 61) (by decide) (fun c17 => ?_) (fun c17 => ?_)
      · rw [if_pos c17] at hf
        exact r_return C E dX7_writeAt_61 (by decide) (by decide) hf
      · rw [if_neg c17] at hf
        refine r_aload_n C dX7_writeAt_25 rfl 0 rfl ?_
        obtain ⟨v18, e19, hf⟩ := hp_bind hf
        refine r_getA C dX7_writeAt_26 fl_RX7_15 e19 ?_
        refine r_aload_n C dX7_writeAt_29 rfl 0 rfl ?_
        obtain ⟨v20, e21, hf⟩ := hp_bind hf
        refine r_getA C dX7_writeAt_30 fl_RX7_51 e21 ?_
        refine r_iload_n C dX7_writeAt_33 rfl 2 rfl ?_
        obtain ⟨_, e25, hf⟩ := hp_bind hf
        obtain ⟨g26, e25⟩ := hp_is_of e25
        obtain ⟨q22, h23, e24, hf⟩ := hp_cbe hf
        refine r_callV C dX7_writeAt_34 cs_RX7_170 rfl e25 (c_Disk_write B e0 F v18 v20 x2 h13 _ e24) rfl rfl rfl ⟨by decide, by decide⟩ ⟨by decide, by decide⟩ (Nat.le_of_ble_eq_true rfl) rfl ?_
        refine r_astore_n (lv' := [(3, .ref (hh_ad B e0 q22)), (0, .ref (hh_ad B e0 a0)), (1, .int x1), (2, .int x2)]) C dX7_writeAt_37 rfl (by decide) rfl ?_
        refine r_aload_n C dX7_writeAt_38 rfl 1 rfl ?_
        refine r_dup C dX7_writeAt_39 rfl ?_
        obtain ⟨v27, e28, hf⟩ := hp_bind hf
        refine r_getI C dX7_writeAt_40 fl_RX7_58 e28 ?_
        refine r_aload_n C dX7_writeAt_43 rfl 0 rfl ?_
        obtain ⟨v29, e30, hf⟩ := hp_bind hf
        refine r_getAN C dX7_writeAt_44 fn_RX7_81 e30 ?_
        obtain ⟨v31, e32, hf⟩ := hp_bind hf
        refine r_alen C dX7_writeAt_47 e32 ?_
        refine r_iadd C dX7_writeAt_48 ?_
        obtain ⟨h33, e34, hf⟩ := hp_bind hf
        refine r_putI C dX7_writeAt_49 fl_RX7_58 e34 ?_
        refine r_aload_n C dX7_writeAt_52 rfl 1 rfl ?_
        obtain ⟨v35, e36, hf⟩ := hp_bind hf
        refine r_getA C dX7_writeAt_53 fl_RX7_26 e36 ?_
        refine r_iload_n C dX7_writeAt_56 rfl 2 rfl ?_
        refine r_aload_n C dX7_writeAt_57 rfl 0 rfl ?_
        obtain ⟨_, e40, hf⟩ := hp_bind hf
        obtain ⟨g41, e40⟩ := hp_is_of e40
        obtain ⟨q37, h38, e39, hf⟩ := hp_cbe hf
        refine r_callV C dX7_writeAt_58 cs_RX7_174 rfl e40 (c_ArrayList_add B e0 F v35 x1 q22 h33 _ e39) rfl rfl rfl ⟨by decide, by decide⟩ ⟨by decide, by decide⟩ (Nat.le_of_ble_eq_true rfl) rfl ?_
        exact r_return C E dX7_writeAt_61 (by decide) (by decide) hf
theorem c_RunRow_writeAt (B e0 F : Nat) (a0 : Nat) (x1 : Int32) (x2 : Int32) (h : hh_H) (rr : Unit × hh_H) (hf : f_RunRow_writeAt F a0 x1 x2 h = some rr) : hh_Met yX7_writeAt cX7_writeAt 4 none rm_RunRow_writeAt mc_RunRow_writeAt ms_RunRow_writeAt B e0 [.ref (hh_ad B e0 a0), .int x1, .int x2] h (.returned none) rr.2 :=
  hh_met (by decide) (Nat.le_of_ble_eq_true rfl) fun X C E => hh_pick [0, 1, 2] rfl (w_RunRow_writeAt C E F a0 x1 x2 h hf)
def mc_RunRow_removeLevels : Nat := 0
def ms_RunRow_removeLevels : Nat := 0
def rm_RunRow_removeLevels : Room := { frames := 3, cells := 0, slots := 0, locals := 76 }
abbrev ok_RunRow_removeLevels (X : hh_X) (B e0 : Nat) : Prop := hh_ok X B e0 cX7_removeLevels RX7 5 none "removeLevels" rm_RunRow_removeLevels
set_option maxRecDepth 100000 in
set_option maxHeartbeats 4000000 in
theorem w_RunRow_removeLevels_10 {X : hh_X} {B e0 : Nat} {rr : Unit × hh_H} (C : ok_RunRow_removeLevels X B e0) (E : hh_End X B e0 (.returned none) rr.2 mc_RunRow_removeLevels ms_RunRow_removeLevels) (F : Nat) (r10 : Nat → Int32 → Int32 → Int32 → hh_H → Option (Unit × hh_H)) (H10 : ∀ (a0 : Nat) (x1 : Int32) (x2 : Int32) (x3 : Int32) (h : hh_H), r10 a0 x1 x2 x3 h = some rr → hh_W X 0 0 10 [(0, .ref (hh_ad B e0 a0)), (1, .int x1), (2, .int x2), (3, .int x3)] [] h) (a0 : Nat) (x1 : Int32) (x2 : Int32) (x3 : Int32) (h : hh_H)
    (hf : f_RunRow_removeLevels_10 F r10 a0 x1 x2 x3 h = some rr) : hh_W X 0 0 10 [(0, .ref (hh_ad B e0 a0)), (1, .int x1), (2, .int x2), (3, .int x3)] [] h := by
  unfold f_RunRow_removeLevels_10 at hf
  refine r_iload_n C dX7_removeLevels_10 rfl 3 rfl ?_
  refine r_if_lt C dX7_removeLevels_11 (tgt := 61) (by decide) (fun c1 => ?_) (fun c1 => ?_)
  · rw [if_pos c1] at hf
    exact r_return C E dX7_removeLevels_61 (by decide) (by decide) hf
  · rw [if_neg c1] at hf
    refine r_aload_n C dX7_removeLevels_14 rfl 0 rfl ?_
    obtain ⟨v2, e3, hf⟩ := hp_bind hf
    refine r_getA C dX7_removeLevels_15 fl_RX7_26 e3 ?_
    refine r_iload_n C dX7_removeLevels_18 rfl 3 rfl ?_
    obtain ⟨_, e7, hf⟩ := hp_bind hf
    obtain ⟨g8, e7⟩ := hp_is_of e7
    obtain ⟨q4, h5, e6, hf⟩ := hp_cbe hf
    refine r_callV C dX7_removeLevels_19 cs_RX7_72 rfl e7 (c_ArrayList_get B e0 F v2 x3 h _ e6) rfl rfl rfl ⟨by decide, by decide⟩ ⟨by decide, by decide⟩ (Nat.le_of_ble_eq_true rfl) rfl ?_
    obtain ⟨_, e9, hf⟩ := hp_bind hf
    obtain ⟨g10, e9⟩ := hp_is_of e9
    refine r_cast C dX7_removeLevels_22 ca_RX7_76 e9 ?_
    refine r_astore (lv' := [(4, .ref (hh_ad B e0 q4)), (0, .ref (hh_ad B e0 a0)), (1, .int x1), (2, .int x2), (3, .int x3)]) C dX7_removeLevels_25 (by decide) rfl ?_
    refine r_aload C dX7_removeLevels_27 0 rfl ?_
    refine r_iload_n C dX7_removeLevels_29 rfl 2 rfl ?_
    refine r_iload_n C dX7_removeLevels_30 rfl 3 rfl ?_
    obtain ⟨_, e14, hf⟩ := hp_bind hf
    obtain ⟨g15, e14⟩ := hp_is_of e14
    obtain ⟨q11, h12, e13, hf⟩ := hp_cbe hf
    refine r_callV C dX7_removeLevels_31 cs_RX7_143 rfl e14 (c_Run_isBetween B e0 F q4 x1 x2 h5 _ e13) rfl rfl rfl ⟨by decide, by decide⟩ ⟨by decide, by decide⟩ (Nat.le_of_ble_eq_true rfl) rfl ?_
    refine r_if_eq C dX7_removeLevels_34 (tgt := 55) (by decide) (fun c16 => ?_) (fun c16 => ?_)
    · rw [if_pos c16] at hf
      refine r_iinc (lv' := [(3, .int (x3 + (-1))), (4, .ref (hh_ad B e0 q4)), (0, .ref (hh_ad B e0 a0)), (1, .int x1), (2, .int x2)]) C dX7_removeLevels_55 4 rfl rfl (by decide) rfl ?_
      refine r_goto C dX7_removeLevels_58 (tgt := 10) (by decide) ?_
      refine hh_pick [2, 3, 4, 0] rfl ?_
      exact H10 a0 x1 x2 (x3 + (-1)) h12 hf
    · rw [if_neg c16] at hf
      refine r_aload_n C dX7_removeLevels_37 rfl 1 rfl ?_
      obtain ⟨v17, e18, hf⟩ := hp_bind hf
      refine r_getA C dX7_removeLevels_38 fl_RX7_15 e18 ?_
      refine r_aload C dX7_removeLevels_41 0 rfl ?_
      obtain ⟨_, e22, hf⟩ := hp_bind hf
      obtain ⟨g23, e22⟩ := hp_is_of e22
      obtain ⟨q19, h20, e21, hf⟩ := hp_cbe hf
      refine r_callV C dX7_removeLevels_43 cs_RX7_178 rfl e22 (c_Disk_release B e0 F v17 q4 h12 _ e21) rfl rfl rfl ⟨by decide, by decide⟩ ⟨by decide, by decide⟩ (Nat.le_of_ble_eq_true rfl) rfl ?_
      refine r_aload_n C dX7_removeLevels_46 rfl 1 rfl ?_
      obtain ⟨v24, e25, hf⟩ := hp_bind hf
      refine r_getA C dX7_removeLevels_47 fl_RX7_26 e25 ?_
      refine r_iload_n C dX7_removeLevels_50 rfl 4 rfl ?_
      obtain ⟨_, e29, hf⟩ := hp_bind hf
      obtain ⟨g30, e29⟩ := hp_is_of e29
      obtain ⟨q26, h27, e28, hf⟩ := hp_cbe hf
      refine r_callV C dX7_removeLevels_51 cs_RX7_181 rfl e29 (c_ArrayList_remove B e0 F v24 x3 h20 _ e28) rfl rfl rfl ⟨by decide, by decide⟩ ⟨by decide, by decide⟩ (Nat.le_of_ble_eq_true rfl) rfl ?_
      refine r_pop C dX7_removeLevels_54 rfl ?_
      refine r_iinc (lv' := [(3, .int (x3 + (-1))), (4, .ref (hh_ad B e0 q4)), (0, .ref (hh_ad B e0 a0)), (1, .int x1), (2, .int x2)]) C dX7_removeLevels_55 4 rfl rfl (by decide) rfl ?_
      refine r_goto C dX7_removeLevels_58 (tgt := 10) (by decide) ?_
      refine hh_pick [2, 3, 4, 0] rfl ?_
      exact H10 a0 x1 x2 (x3 + (-1)) h27 hf
theorem wl_RunRow_removeLevels_10 {X : hh_X} {B e0 : Nat} {rr : Unit × hh_H} (C : ok_RunRow_removeLevels X B e0) (E : hh_End X B e0 (.returned none) rr.2 mc_RunRow_removeLevels ms_RunRow_removeLevels) (F : Nat) :
    ∀ (n : Nat) (a0 : Nat) (x1 : Int32) (x2 : Int32) (x3 : Int32) (h : hh_H), hp_it (fun _ _ _ _ _ => none) (f_RunRow_removeLevels_10 F) n a0 x1 x2 x3 h = some rr → hh_W X 0 0 10 [(0, .ref (hh_ad B e0 a0)), (1, .int x1), (2, .int x2), (3, .int x3)] [] h := by
  intro n
  induction n with
  | zero => intro a0 x1 x2 x3 h hf; cases hf
  | succ n ih =>
    intro a0 x1 x2 x3 h hf
    exact w_RunRow_removeLevels_10 C E F _ ih a0 x1 x2 x3 h hf
set_option maxRecDepth 100000 in
set_option maxHeartbeats 4000000 in
theorem w_RunRow_removeLevels {X : hh_X} {B e0 : Nat} {rr : Unit × hh_H} (C : ok_RunRow_removeLevels X B e0) (E : hh_End X B e0 (.returned none) rr.2 mc_RunRow_removeLevels ms_RunRow_removeLevels) (F : Nat) (a0 : Nat) (x1 : Int32) (x2 : Int32) (h : hh_H)
    (hf : f_RunRow_removeLevels F a0 x1 x2 h = some rr) : hh_W X 0 0 0 [(0, .ref (hh_ad B e0 a0)), (1, .int x1), (2, .int x2)] [] h := by
  unfold f_RunRow_removeLevels at hf
  refine r_aload_n C dX7_removeLevels_0 rfl 0 rfl ?_
  obtain ⟨v31, e32, hf⟩ := hp_bind hf
  refine r_getA C dX7_removeLevels_1 fl_RX7_26 e32 ?_
  obtain ⟨_, e36, hf⟩ := hp_bind hf
  obtain ⟨g37, e36⟩ := hp_is_of e36
  obtain ⟨q33, h34, e35, hf⟩ := hp_cbe hf
  refine r_callV C dX7_removeLevels_4 cs_RX7_67 rfl e36 (c_ArrayList_size B e0 F v31 h _ e35) rfl rfl rfl ⟨by decide, by decide⟩ ⟨by decide, by decide⟩ (Nat.le_of_ble_eq_true rfl) rfl ?_
  refine r_iconst C dX7_removeLevels_7 (v := 1) (by decide) ?_
  refine r_isub C dX7_removeLevels_8 ?_
  refine r_istore_n (lv' := [(3, .int (q33 - 1)), (0, .ref (hh_ad B e0 a0)), (1, .int x1), (2, .int x2)]) C dX7_removeLevels_9 rfl (by decide) rfl ?_
  refine hh_pick [1, 2, 3, 0] rfl ?_
  exact wl_RunRow_removeLevels_10 C E F F a0 x1 x2 (q33 - 1) h34 hf
theorem c_RunRow_removeLevels (B e0 F : Nat) (a0 : Nat) (x1 : Int32) (x2 : Int32) (h : hh_H) (rr : Unit × hh_H) (hf : f_RunRow_removeLevels F a0 x1 x2 h = some rr) : hh_Met yX7_removeLevels cX7_removeLevels 5 none rm_RunRow_removeLevels mc_RunRow_removeLevels ms_RunRow_removeLevels B e0 [.ref (hh_ad B e0 a0), .int x1, .int x2] h (.returned none) rr.2 :=
  hh_met (by decide) (Nat.le_of_ble_eq_true rfl) fun X C E => hh_pick [0, 1, 2] rfl (w_RunRow_removeLevels C E F a0 x1 x2 h hf)
def mc_RunRow_levelOf : Nat := 0
def ms_RunRow_levelOf : Nat := 0
def rm_RunRow_levelOf : Room := { frames := 3, cells := 0, slots := 0, locals := 64 }
abbrev ok_RunRow_levelOf (X : hh_X) (B e0 : Nat) : Prop := hh_ok X B e0 cX7_levelOf RX7 2 (some .int) "levelOf" rm_RunRow_levelOf
set_option maxRecDepth 100000 in
set_option maxHeartbeats 4000000 in
theorem w_RunRow_levelOf {X : hh_X} {B e0 : Nat} {rr : Int32 × hh_H} (C : ok_RunRow_levelOf X B e0) (E : hh_End X B e0 (.returned (some (.int rr.1))) rr.2 mc_RunRow_levelOf ms_RunRow_levelOf) (F : Nat) (a0 : Nat) (x1 : Int32) (h : hh_H)
    (hf : f_RunRow_levelOf F a0 x1 h = some rr) : hh_W X 0 0 0 [(0, .ref (hh_ad B e0 a0)), (1, .int x1)] [] h := by
  unfold f_RunRow_levelOf at hf
  refine r_aload_n C dX7_levelOf_0 rfl 0 rfl ?_
  refine r_iload_n C dX7_levelOf_1 rfl 1 rfl ?_
  obtain ⟨_, e4, hf⟩ := hp_bind hf
  obtain ⟨g5, e4⟩ := hp_is_of e4
  obtain ⟨q1, h2, e3, hf⟩ := hp_cbe hf
  refine r_callV C dX7_levelOf_2 cs_RX7_68 rfl e4 (c_RunRow_has B e0 F a0 x1 h _ e3) rfl rfl rfl ⟨by decide, by decide⟩ ⟨by decide, by decide⟩ (Nat.le_of_ble_eq_true rfl) rfl ?_
  refine r_if_eq C dX7_levelOf_5 (tgt := 25) (by decide) (fun c6 => ?_) (fun c6 => ?_)
  · rw [if_pos c6] at hf
    refine r_iconst C dX7_levelOf_25 (v := 0) (by decide) ?_
    exact r_ireturn C E dX7_levelOf_26 (by decide) (by decide) hf
  · rw [if_neg c6] at hf
    refine r_aload_n C dX7_levelOf_8 rfl 0 rfl ?_
    obtain ⟨v7, e8, hf⟩ := hp_bind hf
    refine r_getA C dX7_levelOf_9 fl_RX7_26 e8 ?_
    refine r_iload_n C dX7_levelOf_12 rfl 1 rfl ?_
    obtain ⟨_, e12, hf⟩ := hp_bind hf
    obtain ⟨g13, e12⟩ := hp_is_of e12
    obtain ⟨q9, h10, e11, hf⟩ := hp_cbe hf
    refine r_callV C dX7_levelOf_13 cs_RX7_72 rfl e12 (c_ArrayList_get B e0 F v7 x1 h2 _ e11) rfl rfl rfl ⟨by decide, by decide⟩ ⟨by decide, by decide⟩ (Nat.le_of_ble_eq_true rfl) rfl ?_
    obtain ⟨_, e14, hf⟩ := hp_bind hf
    obtain ⟨g15, e14⟩ := hp_is_of e14
    refine r_cast C dX7_levelOf_16 ca_RX7_76 e14 ?_
    obtain ⟨v16, e17, hf⟩ := hp_bind hf
    refine r_getIN C dX7_levelOf_19 fn_RX7_78 e17 ?_
    refine r_goto C dX7_levelOf_22 (tgt := 26) (by decide) ?_
    exact r_ireturn C E dX7_levelOf_26 (by decide) (by decide) hf
theorem c_RunRow_levelOf (B e0 F : Nat) (a0 : Nat) (x1 : Int32) (h : hh_H) (rr : Int32 × hh_H) (hf : f_RunRow_levelOf F a0 x1 h = some rr) : hh_Met yX7_levelOf cX7_levelOf 2 (some .int) rm_RunRow_levelOf mc_RunRow_levelOf ms_RunRow_levelOf B e0 [.ref (hh_ad B e0 a0), .int x1] h (.returned (some (.int rr.1))) rr.2 :=
  hh_met (by decide) (Nat.le_of_ble_eq_true rfl) fun X C E => hh_pick [0, 1] rfl (w_RunRow_levelOf C E F a0 x1 h hf)
def mc_RunRow_blocksOf : Nat := 0
def ms_RunRow_blocksOf : Nat := 0
def rm_RunRow_blocksOf : Room := { frames := 3, cells := 0, slots := 0, locals := 64 }
abbrev ok_RunRow_blocksOf (X : hh_X) (B e0 : Nat) : Prop := hh_ok X B e0 cX7_blocksOf RX7 2 (some .int) "blocksOf" rm_RunRow_blocksOf
set_option maxRecDepth 100000 in
set_option maxHeartbeats 4000000 in
theorem w_RunRow_blocksOf {X : hh_X} {B e0 : Nat} {rr : Int32 × hh_H} (C : ok_RunRow_blocksOf X B e0) (E : hh_End X B e0 (.returned (some (.int rr.1))) rr.2 mc_RunRow_blocksOf ms_RunRow_blocksOf) (F : Nat) (a0 : Nat) (x1 : Int32) (h : hh_H)
    (hf : f_RunRow_blocksOf F a0 x1 h = some rr) : hh_W X 0 0 0 [(0, .ref (hh_ad B e0 a0)), (1, .int x1)] [] h := by
  unfold f_RunRow_blocksOf at hf
  refine r_aload_n C dX7_blocksOf_0 rfl 0 rfl ?_
  refine r_iload_n C dX7_blocksOf_1 rfl 1 rfl ?_
  obtain ⟨_, e4, hf⟩ := hp_bind hf
  obtain ⟨g5, e4⟩ := hp_is_of e4
  obtain ⟨q1, h2, e3, hf⟩ := hp_cbe hf
  refine r_callV C dX7_blocksOf_2 cs_RX7_68 rfl e4 (c_RunRow_has B e0 F a0 x1 h _ e3) rfl rfl rfl ⟨by decide, by decide⟩ ⟨by decide, by decide⟩ (Nat.le_of_ble_eq_true rfl) rfl ?_
  refine r_if_eq C dX7_blocksOf_5 (tgt := 26) (by decide) (fun c6 => ?_) (fun c6 => ?_)
  · rw [if_pos c6] at hf
    refine r_iconst C dX7_blocksOf_26 (v := 0) (by decide) ?_
    exact r_ireturn C E dX7_blocksOf_27 (by decide) (by decide) hf
  · rw [if_neg c6] at hf
    refine r_aload_n C dX7_blocksOf_8 rfl 0 rfl ?_
    obtain ⟨v7, e8, hf⟩ := hp_bind hf
    refine r_getA C dX7_blocksOf_9 fl_RX7_26 e8 ?_
    refine r_iload_n C dX7_blocksOf_12 rfl 1 rfl ?_
    obtain ⟨_, e12, hf⟩ := hp_bind hf
    obtain ⟨g13, e12⟩ := hp_is_of e12
    obtain ⟨q9, h10, e11, hf⟩ := hp_cbe hf
    refine r_callV C dX7_blocksOf_13 cs_RX7_72 rfl e12 (c_ArrayList_get B e0 F v7 x1 h2 _ e11) rfl rfl rfl ⟨by decide, by decide⟩ ⟨by decide, by decide⟩ (Nat.le_of_ble_eq_true rfl) rfl ?_
    obtain ⟨_, e14, hf⟩ := hp_bind hf
    obtain ⟨g15, e14⟩ := hp_is_of e14
    refine r_cast C dX7_blocksOf_16 ca_RX7_76 e14 ?_
    obtain ⟨v16, e17, hf⟩ := hp_bind hf
    refine r_getAN C dX7_blocksOf_19 fn_RX7_81 e17 ?_
    obtain ⟨v18, e19, hf⟩ := hp_bind hf
    refine r_alen C dX7_blocksOf_22 e19 ?_
    refine r_goto C dX7_blocksOf_23 (tgt := 27) (by decide) ?_
    exact r_ireturn C E dX7_blocksOf_27 (by decide) (by decide) hf
theorem c_RunRow_blocksOf (B e0 F : Nat) (a0 : Nat) (x1 : Int32) (h : hh_H) (rr : Int32 × hh_H) (hf : f_RunRow_blocksOf F a0 x1 h = some rr) : hh_Met yX7_blocksOf cX7_blocksOf 2 (some .int) rm_RunRow_blocksOf mc_RunRow_blocksOf ms_RunRow_blocksOf B e0 [.ref (hh_ad B e0 a0), .int x1] h (.returned (some (.int rr.1))) rr.2 :=
  hh_met (by decide) (Nat.le_of_ble_eq_true rfl) fun X C E => hh_pick [0, 1] rfl (w_RunRow_blocksOf C E F a0 x1 h hf)
def mc_RunRow_firstBlockOf : Nat := 0
def ms_RunRow_firstBlockOf : Nat := 0
def rm_RunRow_firstBlockOf : Room := { frames := 4, cells := 0, slots := 0, locals := 85 }
abbrev ok_RunRow_firstBlockOf (X : hh_X) (B e0 : Nat) : Prop := hh_ok X B e0 cX7_firstBlockOf RX7 2 (some .int) "firstBlockOf" rm_RunRow_firstBlockOf
set_option maxRecDepth 100000 in
set_option maxHeartbeats 4000000 in
theorem w_RunRow_firstBlockOf {X : hh_X} {B e0 : Nat} {rr : Int32 × hh_H} (C : ok_RunRow_firstBlockOf X B e0) (E : hh_End X B e0 (.returned (some (.int rr.1))) rr.2 mc_RunRow_firstBlockOf ms_RunRow_firstBlockOf) (F : Nat) (a0 : Nat) (x1 : Int32) (h : hh_H)
    (hf : f_RunRow_firstBlockOf F a0 x1 h = some rr) : hh_W X 0 0 0 [(0, .ref (hh_ad B e0 a0)), (1, .int x1)] [] h := by
  unfold f_RunRow_firstBlockOf at hf
  refine r_aload_n C dX7_firstBlockOf_0 rfl 0 rfl ?_
  refine r_iload_n C dX7_firstBlockOf_1 rfl 1 rfl ?_
  obtain ⟨_, e4, hf⟩ := hp_bind hf
  obtain ⟨g5, e4⟩ := hp_is_of e4
  obtain ⟨q1, h2, e3, hf⟩ := hp_cbe hf
  refine r_callV C dX7_firstBlockOf_2 cs_RX7_85 rfl e4 (c_RunRow_blocksOf B e0 F a0 x1 h _ e3) rfl rfl rfl ⟨by decide, by decide⟩ ⟨by decide, by decide⟩ (Nat.le_of_ble_eq_true rfl) rfl ?_
  refine r_if_le C dX7_firstBlockOf_5 (tgt := 27) (by decide) (fun c6 => ?_) (fun c6 => ?_)
  · rw [if_pos c6] at hf
    refine r_iconst C dX7_firstBlockOf_27 (v := 0) (by decide) ?_
    exact r_ireturn C E dX7_firstBlockOf_28 (by decide) (by decide) hf
  · rw [if_neg c6] at hf
    refine r_aload_n C dX7_firstBlockOf_8 rfl 0 rfl ?_
    obtain ⟨v7, e8, hf⟩ := hp_bind hf
    refine r_getA C dX7_firstBlockOf_9 fl_RX7_26 e8 ?_
    refine r_iload_n C dX7_firstBlockOf_12 rfl 1 rfl ?_
    obtain ⟨_, e12, hf⟩ := hp_bind hf
    obtain ⟨g13, e12⟩ := hp_is_of e12
    obtain ⟨q9, h10, e11, hf⟩ := hp_cbe hf
    refine r_callV C dX7_firstBlockOf_13 cs_RX7_72 rfl e12 (c_ArrayList_get B e0 F v7 x1 h2 _ e11) rfl rfl rfl ⟨by decide, by decide⟩ ⟨by decide, by decide⟩ (Nat.le_of_ble_eq_true rfl) rfl ?_
    obtain ⟨_, e14, hf⟩ := hp_bind hf
    obtain ⟨g15, e14⟩ := hp_is_of e14
    refine r_cast C dX7_firstBlockOf_16 ca_RX7_76 e14 ?_
    obtain ⟨v16, e17, hf⟩ := hp_bind hf
    refine r_getAN C dX7_firstBlockOf_19 fn_RX7_81 e17 ?_
    refine r_iconst C dX7_firstBlockOf_22 (v := 0) (by decide) ?_
    obtain ⟨v18, e19, hf⟩ := hp_bind hf
    refine r_ai C dX7_firstBlockOf_23 e19 ?_
    refine r_goto C dX7_firstBlockOf_24 (tgt := 28) (by decide) ?_
    exact r_ireturn C E dX7_firstBlockOf_28 (by decide) (by decide) hf
theorem c_RunRow_firstBlockOf (B e0 F : Nat) (a0 : Nat) (x1 : Int32) (h : hh_H) (rr : Int32 × hh_H) (hf : f_RunRow_firstBlockOf F a0 x1 h = some rr) : hh_Met yX7_firstBlockOf cX7_firstBlockOf 2 (some .int) rm_RunRow_firstBlockOf mc_RunRow_firstBlockOf ms_RunRow_firstBlockOf B e0 [.ref (hh_ad B e0 a0), .int x1] h (.returned (some (.int rr.1))) rr.2 :=
  hh_met (by decide) (Nat.le_of_ble_eq_true rfl) fun X C E => hh_pick [0, 1] rfl (w_RunRow_firstBlockOf C E F a0 x1 h hf)
def mc_RunRow_bytesOf : Nat := 0
def ms_RunRow_bytesOf : Nat := 0
def rm_RunRow_bytesOf : Room := { frames := 3, cells := 0, slots := 0, locals := 64 }
abbrev ok_RunRow_bytesOf (X : hh_X) (B e0 : Nat) : Prop := hh_ok X B e0 cX7_bytesOf RX7 2 (some .int) "bytesOf" rm_RunRow_bytesOf
set_option maxRecDepth 100000 in
set_option maxHeartbeats 4000000 in
theorem w_RunRow_bytesOf {X : hh_X} {B e0 : Nat} {rr : Int32 × hh_H} (C : ok_RunRow_bytesOf X B e0) (E : hh_End X B e0 (.returned (some (.int rr.1))) rr.2 mc_RunRow_bytesOf ms_RunRow_bytesOf) (F : Nat) (a0 : Nat) (x1 : Int32) (h : hh_H)
    (hf : f_RunRow_bytesOf F a0 x1 h = some rr) : hh_W X 0 0 0 [(0, .ref (hh_ad B e0 a0)), (1, .int x1)] [] h := by
  unfold f_RunRow_bytesOf at hf
  refine r_aload_n C dX7_bytesOf_0 rfl 0 rfl ?_
  refine r_iload_n C dX7_bytesOf_1 rfl 1 rfl ?_
  obtain ⟨_, e4, hf⟩ := hp_bind hf
  obtain ⟨g5, e4⟩ := hp_is_of e4
  obtain ⟨q1, h2, e3, hf⟩ := hp_cbe hf
  refine r_callV C dX7_bytesOf_2 cs_RX7_68 rfl e4 (c_RunRow_has B e0 F a0 x1 h _ e3) rfl rfl rfl ⟨by decide, by decide⟩ ⟨by decide, by decide⟩ (Nat.le_of_ble_eq_true rfl) rfl ?_
  refine r_if_eq C dX7_bytesOf_5 (tgt := 25) (by decide) (fun c6 => ?_) (fun c6 => ?_)
  · rw [if_pos c6] at hf
    refine r_iconst C dX7_bytesOf_25 (v := 0) (by decide) ?_
    exact r_ireturn C E dX7_bytesOf_26 (by decide) (by decide) hf
  · rw [if_neg c6] at hf
    refine r_aload_n C dX7_bytesOf_8 rfl 0 rfl ?_
    obtain ⟨v7, e8, hf⟩ := hp_bind hf
    refine r_getA C dX7_bytesOf_9 fl_RX7_26 e8 ?_
    refine r_iload_n C dX7_bytesOf_12 rfl 1 rfl ?_
    obtain ⟨_, e12, hf⟩ := hp_bind hf
    obtain ⟨g13, e12⟩ := hp_is_of e12
    obtain ⟨q9, h10, e11, hf⟩ := hp_cbe hf
    refine r_callV C dX7_bytesOf_13 cs_RX7_72 rfl e12 (c_ArrayList_get B e0 F v7 x1 h2 _ e11) rfl rfl rfl ⟨by decide, by decide⟩ ⟨by decide, by decide⟩ (Nat.le_of_ble_eq_true rfl) rfl ?_
    obtain ⟨_, e14, hf⟩ := hp_bind hf
    obtain ⟨g15, e14⟩ := hp_is_of e14
    refine r_cast C dX7_bytesOf_16 ca_RX7_76 e14 ?_
    obtain ⟨v16, e17, hf⟩ := hp_bind hf
    refine r_getIN C dX7_bytesOf_19 fn_RX7_89 e17 ?_
    refine r_goto C dX7_bytesOf_22 (tgt := 26) (by decide) ?_
    exact r_ireturn C E dX7_bytesOf_26 (by decide) (by decide) hf
theorem c_RunRow_bytesOf (B e0 F : Nat) (a0 : Nat) (x1 : Int32) (h : hh_H) (rr : Int32 × hh_H) (hf : f_RunRow_bytesOf F a0 x1 h = some rr) : hh_Met yX7_bytesOf cX7_bytesOf 2 (some .int) rm_RunRow_bytesOf mc_RunRow_bytesOf ms_RunRow_bytesOf B e0 [.ref (hh_ad B e0 a0), .int x1] h (.returned (some (.int rr.1))) rr.2 :=
  hh_met (by decide) (Nat.le_of_ble_eq_true rfl) fun X C E => hh_pick [0, 1] rfl (w_RunRow_bytesOf C E F a0 x1 h hf)
def mc_RunRow_append : Nat := 3
def ms_RunRow_append : Nat := 143
def rm_RunRow_append : Room := { frames := 7, cells := 3, slots := 143, locals := 181 }
abbrev ok_RunRow_append (X : hh_X) (B e0 : Nat) : Prop := hh_ok X B e0 cX7_append RX7 2 (some .boolean) "append" rm_RunRow_append
set_option maxRecDepth 100000 in
set_option maxHeartbeats 4000000 in
theorem w_RunRow_append {X : hh_X} {B e0 : Nat} {rr : Int32 × hh_H} (C : ok_RunRow_append X B e0) (E : hh_End X B e0 (.returned (some (.int rr.1))) rr.2 mc_RunRow_append ms_RunRow_append) (F : Nat) (a0 : Nat) (a1 : Nat) (h : hh_H)
    (hf : f_RunRow_append F a0 a1 h = some rr) : hh_W X 0 0 0 [(0, .ref (hh_ad B e0 a0)), (1, .ref (hh_ad B e0 a1))] [] h := by
  unfold f_RunRow_append at hf
  refine r_aload_n C dX7_append_0 rfl 0 rfl ?_
  obtain ⟨v1, e2, hf⟩ := hp_bind hf
  refine r_getA C dX7_append_1 fl_RX7_35 e2 ?_
  obtain ⟨_, e6, hf⟩ := hp_bind hf
  obtain ⟨g7, e6⟩ := hp_is_of e6
  obtain ⟨q3, h4, e5, hf⟩ := hp_cbe hf
  refine r_callV C dX7_append_4 cs_RX7_101 rfl e6 (c_Postings_clear B e0 F v1 h _ e5) rfl rfl rfl ⟨by decide, by decide⟩ ⟨by decide, by decide⟩ (Nat.le_of_ble_eq_true rfl) rfl ?_
  refine r_aload_n C dX7_append_7 rfl 0 rfl ?_
  obtain ⟨v8, e9, hf⟩ := hp_bind hf
  refine r_getA C dX7_append_8 fl_RX7_35 e9 ?_
  refine r_aload_n C dX7_append_11 rfl 1 rfl ?_
  obtain ⟨_, e13, hf⟩ := hp_bind hf
  obtain ⟨g14, e13⟩ := hp_is_of e13
  obtain ⟨q10, h11, e12, hf⟩ := hp_cbe hf
  refine r_callV C dX7_append_12 cs_RX7_104 rfl e13 (c_Postings_mergeIn B e0 F v8 a1 h4 _ e12) rfl rfl rfl ⟨by decide, by decide⟩ ⟨by decide, by decide⟩ (Nat.le_of_ble_eq_true rfl) rfl ?_
  refine r_aload_n C dX7_append_15 rfl 0 rfl ?_
  obtain ⟨_, e18, hf⟩ := hp_bind hf
  obtain ⟨g19, e18⟩ := hp_is_of e18
  obtain ⟨q15, h16, e17, hf⟩ := hp_cbe hf
  refine r_callV C dX7_append_16 cs_RX7_108 rfl e18 (c_RunRow_fitsOnDisk B e0 F a0 h11 _ e17) rfl rfl rfl ⟨by decide, by decide⟩ ⟨by decide, by decide⟩ (Nat.le_of_ble_eq_true rfl) rfl ?_
  refine r_if_ne C dX7_append_19 (tgt := 24) (by decide) (fun c20 => ?_) (fun c20 => ?_)
  · rw [if_neg c20] at hf
    refine r_aload_n C dX7_append_24 rfl 0 rfl ?_
    refine r_aload_n C dX7_append_25 rfl 0 rfl ?_
    obtain ⟨v21, e22, hf⟩ := hp_bind hf
    refine r_getA C dX7_append_26 fl_RX7_26 e22 ?_
    obtain ⟨_, e26, hf⟩ := hp_bind hf
    obtain ⟨g27, e26⟩ := hp_is_of e26
    obtain ⟨q23, h24, e25, hf⟩ := hp_cbe hf
    refine r_callV C dX7_append_29 cs_RX7_67 rfl e26 (c_ArrayList_size B e0 F v21 h16 _ e25) rfl rfl rfl ⟨by decide, by decide⟩ ⟨by decide, by decide⟩ (Nat.le_of_ble_eq_true rfl) rfl ?_
    refine r_iconst C dX7_append_32 (v := 0) (by decide) ?_
    obtain ⟨_, e31, hf⟩ := hp_bind hf
    obtain ⟨g32, e31⟩ := hp_is_of e31
    obtain ⟨q28, h29, e30, hf⟩ := hp_cbe hf
    refine r_callV C dX7_append_33 cs_RX7_112 rfl e31 (c_RunRow_writeAt B e0 F a0 q23 0 h24 _ e30) rfl rfl rfl ⟨by decide, by decide⟩ ⟨by decide, by decide⟩ (Nat.le_of_ble_eq_true rfl) rfl ?_
    refine r_iconst C dX7_append_36 (v := 1) (by decide) ?_
    exact r_ireturnz C E dX7_append_37 rfl (by decide) (by decide) hf
  · rw [if_pos c20] at hf
    refine r_iconst C dX7_append_22 (v := 0) (by decide) ?_
    exact r_ireturnz C E dX7_append_23 rfl (by decide) (by decide) hf
theorem c_RunRow_append (B e0 F : Nat) (a0 : Nat) (a1 : Nat) (h : hh_H) (rr : Int32 × hh_H) (hf : f_RunRow_append F a0 a1 h = some rr) : hh_Met yX7_append cX7_append 2 (some .boolean) rm_RunRow_append mc_RunRow_append ms_RunRow_append B e0 [.ref (hh_ad B e0 a0), .ref (hh_ad B e0 a1)] h (.returned (some (.int rr.1))) rr.2 :=
  hh_met (by decide) (Nat.le_of_ble_eq_true rfl) fun X C E => hh_pick [0, 1] rfl (w_RunRow_append C E F a0 a1 h hf)
def mc_RunRow_readAll : Nat := 0
def ms_RunRow_readAll : Nat := 0
def rm_RunRow_readAll : Room := { frames := 3, cells := 0, slots := 0, locals := 73 }
abbrev ok_RunRow_readAll (X : hh_X) (B e0 : Nat) : Prop := hh_ok X B e0 cX7_readAll RX7 4 none "readAll" rm_RunRow_readAll
set_option maxRecDepth 100000 in
set_option maxHeartbeats 4000000 in
theorem w_RunRow_readAll_2 {X : hh_X} {B e0 : Nat} {rr : Unit × hh_H} (C : ok_RunRow_readAll X B e0) (E : hh_End X B e0 (.returned none) rr.2 mc_RunRow_readAll ms_RunRow_readAll) (F : Nat) (r2 : Nat → Nat → Nat → Int32 → hh_H → Option (Unit × hh_H)) (H2 : ∀ (a0 : Nat) (a1 : Nat) (a2 : Nat) (x3 : Int32) (h : hh_H), r2 a0 a1 a2 x3 h = some rr → hh_W X 0 0 2 [(0, .ref (hh_ad B e0 a0)), (1, .ref (hh_ad B e0 a1)), (2, .ref (hh_ad B e0 a2)), (3, .int x3)] [] h) (a0 : Nat) (a1 : Nat) (a2 : Nat) (x3 : Int32) (h : hh_H)
    (hf : f_RunRow_readAll_2 F r2 a0 a1 a2 x3 h = some rr) : hh_W X 0 0 2 [(0, .ref (hh_ad B e0 a0)), (1, .ref (hh_ad B e0 a1)), (2, .ref (hh_ad B e0 a2)), (3, .int x3)] [] h := by
  unfold f_RunRow_readAll_2 at hf
  refine r_iload_n C dX7_readAll_2 rfl 3 rfl ?_
  refine r_aload_n C dX7_readAll_3 rfl 0 rfl ?_
  obtain ⟨v1, e2, hf⟩ := hp_bind hf
  refine r_getA C dX7_readAll_4 fl_RX7_26 e2 ?_
  obtain ⟨_, e6, hf⟩ := hp_bind hf
  obtain ⟨g7, e6⟩ := hp_is_of e6
  obtain ⟨q3, h4, e5, hf⟩ := hp_cbe hf
  refine r_callV C dX7_readAll_7 cs_RX7_67 rfl e6 (c_ArrayList_size B e0 F v1 h _ e5) rfl rfl rfl ⟨by decide, by decide⟩ ⟨by decide, by decide⟩ (Nat.le_of_ble_eq_true rfl) rfl ?_
  refine r_icmp_ge C dX7_readAll_10 (tgt := 58) (by decide) (fun c8 => ?_) (fun c8 => ?_)
  · rw [if_pos c8] at hf
    exact r_return C E dX7_readAll_58 (by decide) (by decide) hf
  · rw [if_neg c8] at hf
    refine r_aload_n C dX7_readAll_13 rfl 0 rfl ?_
    refine r_aload_n C dX7_readAll_14 rfl 0 rfl ?_
    obtain ⟨v9, e10, hf⟩ := hp_bind hf
    refine r_getA C dX7_readAll_15 fl_RX7_26 e10 ?_
    refine r_iload_n C dX7_readAll_18 rfl 3 rfl ?_
    obtain ⟨_, e14, hf⟩ := hp_bind hf
    obtain ⟨g15, e14⟩ := hp_is_of e14
    obtain ⟨q11, h12, e13, hf⟩ := hp_cbe hf
    refine r_callV C dX7_readAll_19 cs_RX7_72 rfl e14 (c_ArrayList_get B e0 F v9 x3 h4 _ e13) rfl rfl rfl ⟨by decide, by decide⟩ ⟨by decide, by decide⟩ (Nat.le_of_ble_eq_true rfl) rfl ?_
    obtain ⟨_, e16, hf⟩ := hp_bind hf
    obtain ⟨g17, e16⟩ := hp_is_of e16
    refine r_cast C dX7_readAll_22 ca_RX7_76 e16 ?_
    obtain ⟨_, e21, hf⟩ := hp_bind hf
    obtain ⟨g22, e21⟩ := hp_is_of e21
    obtain ⟨q18, h19, e20, hf⟩ := hp_cbe hf
    refine r_callV C dX7_readAll_25 cs_RX7_130 rfl e21 (c_RunRow_readPart B e0 F a0 q11 h12 _ e20) rfl rfl rfl ⟨by decide, by decide⟩ ⟨by decide, by decide⟩ (Nat.le_of_ble_eq_true rfl) rfl ?_
    refine r_aload_n C dX7_readAll_28 rfl 1 rfl ?_
    refine r_aload_n C dX7_readAll_29 rfl 0 rfl ?_
    obtain ⟨v23, e24, hf⟩ := hp_bind hf
    refine r_getA C dX7_readAll_30 fl_RX7_39 e24 ?_
    refine r_aload_n C dX7_readAll_33 rfl 0 rfl ?_
    obtain ⟨v25, e26, hf⟩ := hp_bind hf
    refine r_getA C dX7_readAll_34 fl_RX7_9 e26 ?_
    obtain ⟨_, e30, hf⟩ := hp_bind hf
    obtain ⟨g31, e30⟩ := hp_is_of e30
    obtain ⟨q27, h28, e29, hf⟩ := hp_cbe hf
    refine r_callV C dX7_readAll_37 cs_RX7_134 rfl e30 (c_Places_take B e0 F a1 v23 v25 h19 _ e29) rfl rfl rfl ⟨by decide, by decide⟩ ⟨by decide, by decide⟩ (Nat.le_of_ble_eq_true rfl) rfl ?_
    refine r_aload_n C dX7_readAll_40 rfl 2 rfl ?_
    refine r_aload_n C dX7_readAll_41 rfl 0 rfl ?_
    obtain ⟨v32, e33, hf⟩ := hp_bind hf
    refine r_getA C dX7_readAll_42 fl_RX7_39 e33 ?_
    refine r_aload_n C dX7_readAll_45 rfl 0 rfl ?_
    obtain ⟨v34, e35, hf⟩ := hp_bind hf
    refine r_getA C dX7_readAll_46 fl_RX7_9 e35 ?_
    obtain ⟨_, e39, hf⟩ := hp_bind hf
    obtain ⟨g40, e39⟩ := hp_is_of e39
    obtain ⟨q36, h37, e38, hf⟩ := hp_cbe hf
    refine r_callV C dX7_readAll_49 cs_RX7_134 rfl e39 (c_Places_take B e0 F a2 v32 v34 h28 _ e38) rfl rfl rfl ⟨by decide, by decide⟩ ⟨by decide, by decide⟩ (Nat.le_of_ble_eq_true rfl) rfl ?_
    refine r_iinc (lv' := [(3, .int (x3 + 1)), (0, .ref (hh_ad B e0 a0)), (1, .ref (hh_ad B e0 a1)), (2, .ref (hh_ad B e0 a2))]) C dX7_readAll_52 3 rfl rfl (by decide) rfl ?_
    refine r_goto C dX7_readAll_55 (tgt := 2) (by decide) ?_
    refine hh_pick [1, 2, 3, 0] rfl ?_
    exact H2 a0 a1 a2 (x3 + 1) h37 hf
theorem wl_RunRow_readAll_2 {X : hh_X} {B e0 : Nat} {rr : Unit × hh_H} (C : ok_RunRow_readAll X B e0) (E : hh_End X B e0 (.returned none) rr.2 mc_RunRow_readAll ms_RunRow_readAll) (F : Nat) :
    ∀ (n : Nat) (a0 : Nat) (a1 : Nat) (a2 : Nat) (x3 : Int32) (h : hh_H), hp_it (fun _ _ _ _ _ => none) (f_RunRow_readAll_2 F) n a0 a1 a2 x3 h = some rr → hh_W X 0 0 2 [(0, .ref (hh_ad B e0 a0)), (1, .ref (hh_ad B e0 a1)), (2, .ref (hh_ad B e0 a2)), (3, .int x3)] [] h := by
  intro n
  induction n with
  | zero => intro a0 a1 a2 x3 h hf; cases hf
  | succ n ih =>
    intro a0 a1 a2 x3 h hf
    exact w_RunRow_readAll_2 C E F _ ih a0 a1 a2 x3 h hf
set_option maxRecDepth 100000 in
set_option maxHeartbeats 4000000 in
theorem w_RunRow_readAll {X : hh_X} {B e0 : Nat} {rr : Unit × hh_H} (C : ok_RunRow_readAll X B e0) (E : hh_End X B e0 (.returned none) rr.2 mc_RunRow_readAll ms_RunRow_readAll) (F : Nat) (a0 : Nat) (a1 : Nat) (a2 : Nat) (h : hh_H)
    (hf : f_RunRow_readAll F a0 a1 a2 h = some rr) : hh_W X 0 0 0 [(0, .ref (hh_ad B e0 a0)), (1, .ref (hh_ad B e0 a1)), (2, .ref (hh_ad B e0 a2))] [] h := by
  unfold f_RunRow_readAll at hf
  refine r_iconst C dX7_readAll_0 (v := 0) (by decide) ?_
  refine r_istore_n (lv' := [(3, .int 0), (0, .ref (hh_ad B e0 a0)), (1, .ref (hh_ad B e0 a1)), (2, .ref (hh_ad B e0 a2))]) C dX7_readAll_1 rfl (by decide) rfl ?_
  refine hh_pick [1, 2, 3, 0] rfl ?_
  exact wl_RunRow_readAll_2 C E F F a0 a1 a2 0 h hf
theorem c_RunRow_readAll (B e0 F : Nat) (a0 : Nat) (a1 : Nat) (a2 : Nat) (h : hh_H) (rr : Unit × hh_H) (hf : f_RunRow_readAll F a0 a1 a2 h = some rr) : hh_Met yX7_readAll cX7_readAll 4 none rm_RunRow_readAll mc_RunRow_readAll ms_RunRow_readAll B e0 [.ref (hh_ad B e0 a0), .ref (hh_ad B e0 a1), .ref (hh_ad B e0 a2)] h (.returned none) rr.2 :=
  hh_met (by decide) (Nat.le_of_ble_eq_true rfl) fun X C E => hh_pick [0, 1, 2] rfl (w_RunRow_readAll C E F a0 a1 a2 h hf)
def mc_RunRow_leastFullLevel : Nat := 0
def ms_RunRow_leastFullLevel : Nat := 0
def rm_RunRow_leastFullLevel : Room := { frames := 4, cells := 0, slots := 0, locals := 87 }
abbrev ok_RunRow_leastFullLevel (X : hh_X) (B e0 : Nat) : Prop := hh_ok X B e0 cX7_leastFullLevel RX7 4 (some .int) "leastFullLevel" rm_RunRow_leastFullLevel
set_option maxRecDepth 100000 in
set_option maxHeartbeats 4000000 in
theorem w_RunRow_leastFullLevel_39 {X : hh_X} {B e0 : Nat} {rr : Int32 × hh_H} (C : ok_RunRow_leastFullLevel X B e0) (E : hh_End X B e0 (.returned (some (.int rr.1))) rr.2 mc_RunRow_leastFullLevel ms_RunRow_leastFullLevel) (F : Nat) (r4 : Nat → Int32 → Int32 → hh_H → Option (Int32 × hh_H)) (H4 : ∀ (a0 : Nat) (x1 : Int32) (x2 : Int32) (h : hh_H), r4 a0 x1 x2 h = some rr → hh_W X 0 0 4 [(0, .ref (hh_ad B e0 a0)), (1, .int x1), (2, .int x2)] [] h) (a0 : Nat) (x1 : Int32) (x2 : Int32) (x3 : Int32) (h : hh_H)
    (hf : f_RunRow_leastFullLevel_39 F r4 a0 x1 x2 x3 h = some rr) : hh_W X 0 0 39 [(0, .ref (hh_ad B e0 a0)), (1, .int x1), (2, .int x2), (3, .int x3)] [] h := by
  unfold f_RunRow_leastFullLevel_39 at hf
  refine r_aload_n C dX7_leastFullLevel_39 rfl 0 rfl ?_
  refine r_iload_n C dX7_leastFullLevel_40 rfl 3 rfl ?_
  obtain ⟨_, e4, hf⟩ := hp_bind hf
  obtain ⟨g5, e4⟩ := hp_is_of e4
  obtain ⟨q1, h2, e3, hf⟩ := hp_cbe hf
  refine r_callV C dX7_leastFullLevel_41 cs_RX7_140 rfl e4 (c_RunRow_runsOf B e0 F a0 x3 h _ e3) rfl rfl rfl ⟨by decide, by decide⟩ ⟨by decide, by decide⟩ (Nat.le_of_ble_eq_true rfl) rfl ?_
  refine r_aload_n C dX7_leastFullLevel_44 rfl 0 rfl ?_
  obtain ⟨v6, e7, hf⟩ := hp_bind hf
  refine r_getI C dX7_leastFullLevel_45 fl_RX7_19 e7 ?_
  refine r_icmp_lt C dX7_leastFullLevel_48 (tgt := 53) (by decide) (fun c8 => ?_) (fun c8 => ?_)
  · rw [if_pos c8] at hf
    refine r_iinc (lv' := [(2, .int (x2 + 1)), (0, .ref (hh_ad B e0 a0)), (1, .int x1), (3, .int x3)]) C dX7_leastFullLevel_53 2 rfl rfl (by decide) rfl ?_
    refine r_goto C dX7_leastFullLevel_56 (tgt := 4) (by decide) ?_
    refine hh_pick [1, 2, 0] rfl ?_
    exact H4 a0 x1 (x2 + 1) h2 hf
  · rw [if_neg c8] at hf
    refine r_iload_n C dX7_leastFullLevel_51 rfl 3 rfl ?_
    refine r_istore_n (lv' := [(1, .int x3), (0, .ref (hh_ad B e0 a0)), (2, .int x2), (3, .int x3)]) C dX7_leastFullLevel_52 rfl (by decide) rfl ?_
    refine r_iinc (lv' := [(2, .int (x2 + 1)), (1, .int x3), (0, .ref (hh_ad B e0 a0)), (3, .int x3)]) C dX7_leastFullLevel_53 2 rfl rfl (by decide) rfl ?_
    refine r_goto C dX7_leastFullLevel_56 (tgt := 4) (by decide) ?_
    refine hh_pick [2, 1, 0] rfl ?_
    exact H4 a0 x3 (x2 + 1) h2 hf
set_option maxRecDepth 100000 in
set_option maxHeartbeats 4000000 in
theorem w_RunRow_leastFullLevel_4 {X : hh_X} {B e0 : Nat} {rr : Int32 × hh_H} (C : ok_RunRow_leastFullLevel X B e0) (E : hh_End X B e0 (.returned (some (.int rr.1))) rr.2 mc_RunRow_leastFullLevel ms_RunRow_leastFullLevel) (F : Nat) (r4 : Nat → Int32 → Int32 → hh_H → Option (Int32 × hh_H)) (H4 : ∀ (a0 : Nat) (x1 : Int32) (x2 : Int32) (h : hh_H), r4 a0 x1 x2 h = some rr → hh_W X 0 0 4 [(0, .ref (hh_ad B e0 a0)), (1, .int x1), (2, .int x2)] [] h) (a0 : Nat) (x1 : Int32) (x2 : Int32) (h : hh_H)
    (hf : f_RunRow_leastFullLevel_4 F r4 a0 x1 x2 h = some rr) : hh_W X 0 0 4 [(0, .ref (hh_ad B e0 a0)), (1, .int x1), (2, .int x2)] [] h := by
  unfold f_RunRow_leastFullLevel_4 at hf
  refine r_iload_n C dX7_leastFullLevel_4 rfl 2 rfl ?_
  refine r_aload_n C dX7_leastFullLevel_5 rfl 0 rfl ?_
  obtain ⟨v9, e10, hf⟩ := hp_bind hf
  refine r_getA C dX7_leastFullLevel_6 fl_RX7_26 e10 ?_
  obtain ⟨_, e14, hf⟩ := hp_bind hf
  obtain ⟨g15, e14⟩ := hp_is_of e14
  obtain ⟨q11, h12, e13, hf⟩ := hp_cbe hf
  refine r_callV C dX7_leastFullLevel_9 cs_RX7_67 rfl e14 (c_ArrayList_size B e0 F v9 h _ e13) rfl rfl rfl ⟨by decide, by decide⟩ ⟨by decide, by decide⟩ (Nat.le_of_ble_eq_true rfl) rfl ?_
  refine r_icmp_ge C dX7_leastFullLevel_12 (tgt := 59) (by decide) (fun c16 => ?_) (fun c16 => ?_)
  · rw [if_pos c16] at hf
    refine r_iload_n C dX7_leastFullLevel_59 rfl 1 rfl ?_
    exact r_ireturn C E dX7_leastFullLevel_60 (by decide) (by decide) hf
  · rw [if_neg c16] at hf
    refine r_aload_n C dX7_leastFullLevel_15 rfl 0 rfl ?_
    obtain ⟨v17, e18, hf⟩ := hp_bind hf
    refine r_getA C dX7_leastFullLevel_16 fl_RX7_26 e18 ?_
    refine r_iload_n C dX7_leastFullLevel_19 rfl 2 rfl ?_
    obtain ⟨_, e22, hf⟩ := hp_bind hf
    obtain ⟨g23, e22⟩ := hp_is_of e22
    obtain ⟨q19, h20, e21, hf⟩ := hp_cbe hf
    refine r_callV C dX7_leastFullLevel_20 cs_RX7_72 rfl e22 (c_ArrayList_get B e0 F v17 x2 h12 _ e21) rfl rfl rfl ⟨by decide, by decide⟩ ⟨by decide, by decide⟩ (Nat.le_of_ble_eq_true rfl) rfl ?_
    obtain ⟨_, e24, hf⟩ := hp_bind hf
    obtain ⟨g25, e24⟩ := hp_is_of e24
    refine r_cast C dX7_leastFullLevel_23 ca_RX7_76 e24 ?_
    obtain ⟨v26, e27, hf⟩ := hp_bind hf
    refine r_getIN C dX7_leastFullLevel_26 fn_RX7_78 e27 ?_
    refine r_istore_n (lv' := [(3, .int v26), (0, .ref (hh_ad B e0 a0)), (1, .int x1), (2, .int x2)]) C dX7_leastFullLevel_29 rfl (by decide) rfl ?_
    refine r_iload_n C dX7_leastFullLevel_30 rfl 2 rfl ?_
    refine r_if_lt C dX7_leastFullLevel_31 (tgt := 39) (by decide) (fun c28 => ?_) (fun c28 => ?_)
    · rw [if_pos c28] at hf
      refine hh_pick [1, 2, 3, 0] rfl ?_
      exact w_RunRow_leastFullLevel_39 C E F r4 H4 a0 x1 x2 v26 h20 hf
    · rw [if_neg c28] at hf
      refine r_iload_n C dX7_leastFullLevel_34 rfl 0 rfl ?_
      refine r_iload_n C dX7_leastFullLevel_35 rfl 2 rfl ?_
      refine r_icmp_ge C dX7_leastFullLevel_36 (tgt := 53) (by decide) (fun c29 => ?_) (fun c29 => ?_)
      · rw [if_pos c29] at hf
        refine r_iinc (lv' := [(2, .int (x2 + 1)), (3, .int v26), (0, .ref (hh_ad B e0 a0)), (1, .int x1)]) C dX7_leastFullLevel_53 3 rfl rfl (by decide) rfl ?_
        refine r_goto C dX7_leastFullLevel_56 (tgt := 4) (by decide) ?_
        refine hh_pick [2, 3, 0] rfl ?_
        exact H4 a0 x1 (x2 + 1) h20 hf
      · rw [if_neg c29] at hf
        refine hh_pick [1, 2, 3, 0] rfl ?_
        exact w_RunRow_leastFullLevel_39 C E F r4 H4 a0 x1 x2 v26 h20 hf
theorem wl_RunRow_leastFullLevel_4 {X : hh_X} {B e0 : Nat} {rr : Int32 × hh_H} (C : ok_RunRow_leastFullLevel X B e0) (E : hh_End X B e0 (.returned (some (.int rr.1))) rr.2 mc_RunRow_leastFullLevel ms_RunRow_leastFullLevel) (F : Nat) :
    ∀ (n : Nat) (a0 : Nat) (x1 : Int32) (x2 : Int32) (h : hh_H), hp_it (fun _ _ _ _ => none) (f_RunRow_leastFullLevel_4 F) n a0 x1 x2 h = some rr → hh_W X 0 0 4 [(0, .ref (hh_ad B e0 a0)), (1, .int x1), (2, .int x2)] [] h := by
  intro n
  induction n with
  | zero => intro a0 x1 x2 h hf; cases hf
  | succ n ih =>
    intro a0 x1 x2 h hf
    exact w_RunRow_leastFullLevel_4 C E F _ ih a0 x1 x2 h hf
set_option maxRecDepth 100000 in
set_option maxHeartbeats 4000000 in
theorem w_RunRow_leastFullLevel {X : hh_X} {B e0 : Nat} {rr : Int32 × hh_H} (C : ok_RunRow_leastFullLevel X B e0) (E : hh_End X B e0 (.returned (some (.int rr.1))) rr.2 mc_RunRow_leastFullLevel ms_RunRow_leastFullLevel) (F : Nat) (a0 : Nat) (h : hh_H)
    (hf : f_RunRow_leastFullLevel F a0 h = some rr) : hh_W X 0 0 0 [(0, .ref (hh_ad B e0 a0))] [] h := by
  unfold f_RunRow_leastFullLevel at hf
  refine r_iconst C dX7_leastFullLevel_0 (v := (-1)) (by decide) ?_
  refine r_istore_n (lv' := [(1, .int (-1)), (0, .ref (hh_ad B e0 a0))]) C dX7_leastFullLevel_1 rfl (by decide) rfl ?_
  refine r_iconst C dX7_leastFullLevel_2 (v := 0) (by decide) ?_
  refine r_istore_n (lv' := [(2, .int 0), (1, .int (-1)), (0, .ref (hh_ad B e0 a0))]) C dX7_leastFullLevel_3 rfl (by decide) rfl ?_
  refine hh_pick [2, 1, 0] rfl ?_
  exact wl_RunRow_leastFullLevel_4 C E F F a0 (-1) 0 h hf
theorem c_RunRow_leastFullLevel (B e0 F : Nat) (a0 : Nat) (h : hh_H) (rr : Int32 × hh_H) (hf : f_RunRow_leastFullLevel F a0 h = some rr) : hh_Met yX7_leastFullLevel cX7_leastFullLevel 4 (some .int) rm_RunRow_leastFullLevel mc_RunRow_leastFullLevel ms_RunRow_leastFullLevel B e0 [.ref (hh_ad B e0 a0)] h (.returned (some (.int rr.1))) rr.2 :=
  hh_met (by decide) (Nat.le_of_ble_eq_true rfl) fun X C E => hh_pick [0] rfl (w_RunRow_leastFullLevel C E F a0 h hf)
def mc_RunRow_mergeLevels : Nat := 3
def ms_RunRow_mergeLevels : Nat := 143
def rm_RunRow_mergeLevels : Room := { frames := 7, cells := 3, slots := 143, locals := 181 }
abbrev ok_RunRow_mergeLevels (X : hh_X) (B e0 : Nat) : Prop := hh_ok X B e0 cX7_mergeLevels RX7 6 (some .boolean) "mergeLevels" rm_RunRow_mergeLevels
set_option maxRecDepth 100000 in
set_option maxHeartbeats 4000000 in
theorem w_RunRow_mergeLevels_84 {X : hh_X} {B e0 : Nat} {rr : Int32 × hh_H} (C : ok_RunRow_mergeLevels X B e0) (E : hh_End X B e0 (.returned (some (.int rr.1))) rr.2 mc_RunRow_mergeLevels ms_RunRow_mergeLevels) (F : Nat) (a0 : Nat) (x1 : Int32) (x2 : Int32) (x3 : Int32) (h : hh_H)
    (hf : f_RunRow_mergeLevels_84 F a0 x1 x2 x3 h = some rr) : hh_W X 0 0 84 [(0, .ref (hh_ad B e0 a0)), (1, .int x1), (2, .int x2), (3, .int x3)] [] h := by
  unfold f_RunRow_mergeLevels_84 at hf
  refine r_aload_n C dX7_mergeLevels_84 rfl 0 rfl ?_
  obtain ⟨_, e4, hf⟩ := hp_bind hf
  obtain ⟨g5, e4⟩ := hp_is_of e4
  obtain ⟨q1, h2, e3, hf⟩ := hp_cbe hf
  refine r_callV C dX7_mergeLevels_85 cs_RX7_108 rfl e4 (c_RunRow_fitsOnDisk B e0 F a0 h _ e3) rfl rfl rfl ⟨by decide, by decide⟩ ⟨by decide, by decide⟩ (Nat.le_of_ble_eq_true rfl) rfl ?_
  refine r_if_ne C dX7_mergeLevels_88 (tgt := 103) (by decide) (fun c6 => ?_) (fun c6 => ?_)
  · rw [if_neg c6] at hf
    refine r_aload_n C dX7_mergeLevels_103 rfl 0 rfl ?_
    refine r_iload_n C dX7_mergeLevels_104 rfl 3 rfl ?_
    refine r_iload_n C dX7_mergeLevels_105 rfl 2 rfl ?_
    refine r_iconst C dX7_mergeLevels_106 (v := 1) (by decide) ?_
    refine r_iadd C dX7_mergeLevels_107 ?_
    obtain ⟨_, e10, hf⟩ := hp_bind hf
    obtain ⟨g11, e10⟩ := hp_is_of e10
    obtain ⟨q7, h8, e9, hf⟩ := hp_cbe hf
    refine r_callV C dX7_mergeLevels_108 cs_RX7_112 rfl e10 (c_RunRow_writeAt B e0 F a0 x3 (x2 + 1) h2 _ e9) rfl rfl rfl ⟨by decide, by decide⟩ ⟨by decide, by decide⟩ (Nat.le_of_ble_eq_true rfl) rfl ?_
    refine r_aload_n C dX7_mergeLevels_111 rfl 0 rfl ?_
    refine r_iload_n C dX7_mergeLevels_112 rfl 1 rfl ?_
    refine r_iload_n C dX7_mergeLevels_113 rfl 2 rfl ?_
    obtain ⟨_, e15, hf⟩ := hp_bind hf
    obtain ⟨g16, e15⟩ := hp_is_of e15
    obtain ⟨q12, h13, e14, hf⟩ := hp_cbe hf
    refine r_callV C dX7_mergeLevels_114 cs_RX7_149 rfl e15 (c_RunRow_removeLevels B e0 F a0 x1 x2 h8 _ e14) rfl rfl rfl ⟨by decide, by decide⟩ ⟨by decide, by decide⟩ (Nat.le_of_ble_eq_true rfl) rfl ?_
    refine r_aload_n C dX7_mergeLevels_117 rfl 0 rfl ?_
    refine r_dup C dX7_mergeLevels_118 rfl ?_
    obtain ⟨v17, e18, hf⟩ := hp_bind hf
    refine r_getI C dX7_mergeLevels_119 fl_RX7_61 e18 ?_
    refine r_iconst C dX7_mergeLevels_122 (v := 1) (by decide) ?_
    refine r_iadd C dX7_mergeLevels_123 ?_
    obtain ⟨h19, e20, hf⟩ := hp_bind hf
    refine r_putI C dX7_mergeLevels_124 fl_RX7_61 e20 ?_
    refine r_iconst C dX7_mergeLevels_127 (v := 1) (by decide) ?_
    exact r_ireturnz C E dX7_mergeLevels_128 rfl (by decide) (by decide) hf
  · rw [if_pos c6] at hf
    refine r_aload_n C dX7_mergeLevels_91 rfl 0 rfl ?_
    refine r_dup C dX7_mergeLevels_92 rfl ?_
    obtain ⟨v21, e22, hf⟩ := hp_bind hf
    refine r_getI C dX7_mergeLevels_93 fl_RX7_64 e22 ?_
    refine r_iconst C dX7_mergeLevels_96 (v := 1) (by decide) ?_
    refine r_iadd C dX7_mergeLevels_97 ?_
    obtain ⟨h23, e24, hf⟩ := hp_bind hf
    refine r_putI C dX7_mergeLevels_98 fl_RX7_64 e24 ?_
    refine r_iconst C dX7_mergeLevels_101 (v := 0) (by decide) ?_
    exact r_ireturnz C E dX7_mergeLevels_102 rfl (by decide) (by decide) hf
set_option maxRecDepth 100000 in
set_option maxHeartbeats 4000000 in
theorem w_RunRow_mergeLevels_18 {X : hh_X} {B e0 : Nat} {rr : Int32 × hh_H} (C : ok_RunRow_mergeLevels X B e0) (E : hh_End X B e0 (.returned (some (.int rr.1))) rr.2 mc_RunRow_mergeLevels ms_RunRow_mergeLevels) (F : Nat) (r18 : Nat → Int32 → Int32 → Int32 → Int32 → hh_H → Option (Int32 × hh_H)) (H18 : ∀ (a0 : Nat) (x1 : Int32) (x2 : Int32) (x3 : Int32) (x4 : Int32) (h : hh_H), r18 a0 x1 x2 x3 x4 h = some rr → hh_W X 0 0 18 [(0, .ref (hh_ad B e0 a0)), (1, .int x1), (2, .int x2), (3, .int x3), (4, .int x4)] [] h) (a0 : Nat) (x1 : Int32) (x2 : Int32) (x3 : Int32) (x4 : Int32) (h : hh_H)
    (hf : f_RunRow_mergeLevels_18 F r18 a0 x1 x2 x3 x4 h = some rr) : hh_W X 0 0 18 [(0, .ref (hh_ad B e0 a0)), (1, .int x1), (2, .int x2), (3, .int x3), (4, .int x4)] [] h := by
  unfold f_RunRow_mergeLevels_18 at hf
  refine r_iload C dX7_mergeLevels_18 4 rfl ?_
  refine r_aload_n C dX7_mergeLevels_20 rfl 0 rfl ?_
  obtain ⟨v25, e26, hf⟩ := hp_bind hf
  refine r_getA C dX7_mergeLevels_21 fl_RX7_26 e26 ?_
  obtain ⟨_, e30, hf⟩ := hp_bind hf
  obtain ⟨g31, e30⟩ := hp_is_of e30
  obtain ⟨q27, h28, e29, hf⟩ := hp_cbe hf
  refine r_callV C dX7_mergeLevels_24 cs_RX7_67 rfl e30 (c_ArrayList_size B e0 F v25 h _ e29) rfl rfl rfl ⟨by decide, by decide⟩ ⟨by decide, by decide⟩ (Nat.le_of_ble_eq_true rfl) rfl ?_
  refine r_icmp_ge C dX7_mergeLevels_27 (tgt := 84) (by decide) (fun c32 => ?_) (fun c32 => ?_)
  · rw [if_pos c32] at hf
    refine hh_pick [0, 1, 2, 3] rfl ?_
    exact w_RunRow_mergeLevels_84 C E F a0 x1 x2 x3 h28 hf
  · rw [if_neg c32] at hf
    refine r_aload_n C dX7_mergeLevels_30 rfl 0 rfl ?_
    obtain ⟨v33, e34, hf⟩ := hp_bind hf
    refine r_getA C dX7_mergeLevels_31 fl_RX7_26 e34 ?_
    refine r_iload C dX7_mergeLevels_34 4 rfl ?_
    obtain ⟨_, e38, hf⟩ := hp_bind hf
    obtain ⟨g39, e38⟩ := hp_is_of e38
    obtain ⟨q35, h36, e37, hf⟩ := hp_cbe hf
    refine r_callV C dX7_mergeLevels_36 cs_RX7_72 rfl e38 (c_ArrayList_get B e0 F v33 x4 h28 _ e37) rfl rfl rfl ⟨by decide, by decide⟩ ⟨by decide, by decide⟩ (Nat.le_of_ble_eq_true rfl) rfl ?_
    obtain ⟨_, e40, hf⟩ := hp_bind hf
    obtain ⟨g41, e40⟩ := hp_is_of e40
    refine r_cast C dX7_mergeLevels_39 ca_RX7_76 e40 ?_
    refine r_astore (lv' := [(5, .ref (hh_ad B e0 q35)), (0, .ref (hh_ad B e0 a0)), (1, .int x1), (2, .int x2), (3, .int x3), (4, .int x4)]) C dX7_mergeLevels_42 (by decide) rfl ?_
    refine r_aload C dX7_mergeLevels_44 0 rfl ?_
    refine r_iload_n C dX7_mergeLevels_46 rfl 2 rfl ?_
    refine r_iload_n C dX7_mergeLevels_47 rfl 3 rfl ?_
    obtain ⟨_, e45, hf⟩ := hp_bind hf
    obtain ⟨g46, e45⟩ := hp_is_of e45
    obtain ⟨q42, h43, e44, hf⟩ := hp_cbe hf
    refine r_callV C dX7_mergeLevels_48 cs_RX7_143 rfl e45 (c_Run_isBetween B e0 F q35 x1 x2 h36 _ e44) rfl rfl rfl ⟨by decide, by decide⟩ ⟨by decide, by decide⟩ (Nat.le_of_ble_eq_true rfl) rfl ?_
    refine r_if_eq C dX7_mergeLevels_51 (tgt := 78) (by decide) (fun c47 => ?_) (fun c47 => ?_)
    · rw [if_pos c47] at hf
      refine r_iinc (lv' := [(4, .int (x4 + 1)), (5, .ref (hh_ad B e0 q35)), (0, .ref (hh_ad B e0 a0)), (1, .int x1), (2, .int x2), (3, .int x3)]) C dX7_mergeLevels_78 5 rfl rfl (by decide) rfl ?_
      refine r_goto C dX7_mergeLevels_81 (tgt := 18) (by decide) ?_
      refine hh_pick [2, 3, 4, 5, 0] rfl ?_
      exact H18 a0 x1 x2 x3 (x4 + 1) h43 hf
    · rw [if_neg c47] at hf
      refine r_iload_n C dX7_mergeLevels_54 rfl 4 rfl ?_
      refine r_iload C dX7_mergeLevels_55 5 rfl ?_
      refine r_mmin C dX7_mergeLevels_57 mm_RX7_146 (by decide) (Nat.le_of_ble_eq_true rfl) (by decide) (by decide) ?_
      refine r_istore_n (lv' := [(3, .int (if x4 < x3 then x4 else x3)), (5, .ref (hh_ad B e0 q35)), (0, .ref (hh_ad B e0 a0)), (1, .int x1), (2, .int x2), (4, .int x4)]) C dX7_mergeLevels_60 rfl (by decide) rfl ?_
      refine r_aload_n C dX7_mergeLevels_61 rfl 2 rfl ?_
      refine r_aload C dX7_mergeLevels_62 1 rfl ?_
      obtain ⟨_, e51, hf⟩ := hp_bind hf
      obtain ⟨g52, e51⟩ := hp_is_of e51
      obtain ⟨q48, h49, e50, hf⟩ := hp_cbe hf
      refine r_callV C dX7_mergeLevels_64 cs_RX7_130 rfl e51 (c_RunRow_readPart B e0 F a0 q35 h43 _ e50) rfl rfl rfl ⟨by decide, by decide⟩ ⟨by decide, by decide⟩ (Nat.le_of_ble_eq_true rfl) rfl ?_
      refine r_aload_n C dX7_mergeLevels_67 rfl 2 rfl ?_
      obtain ⟨v53, e54, hf⟩ := hp_bind hf
      refine r_getA C dX7_mergeLevels_68 fl_RX7_35 e54 ?_
      refine r_aload_n C dX7_mergeLevels_71 rfl 2 rfl ?_
      obtain ⟨v55, e56, hf⟩ := hp_bind hf
      refine r_getA C dX7_mergeLevels_72 fl_RX7_39 e56 ?_
      obtain ⟨_, e60, hf⟩ := hp_bind hf
      obtain ⟨g61, e60⟩ := hp_is_of e60
      obtain ⟨q57, h58, e59, hf⟩ := hp_cbe hf
      refine r_callV C dX7_mergeLevels_75 cs_RX7_104 rfl e60 (c_Postings_mergeIn B e0 F v53 v55 h49 _ e59) rfl rfl rfl ⟨by decide, by decide⟩ ⟨by decide, by decide⟩ (Nat.le_of_ble_eq_true rfl) rfl ?_
      refine r_iinc (lv' := [(4, .int (x4 + 1)), (3, .int (if x4 < x3 then x4 else x3)), (5, .ref (hh_ad B e0 q35)), (0, .ref (hh_ad B e0 a0)), (1, .int x1), (2, .int x2)]) C dX7_mergeLevels_78 5 rfl rfl (by decide) rfl ?_
      refine r_goto C dX7_mergeLevels_81 (tgt := 18) (by decide) ?_
      refine hh_pick [3, 4, 5, 1, 0] rfl ?_
      exact H18 a0 x1 x2 (if x4 < x3 then x4 else x3) (x4 + 1) h58 hf
theorem wl_RunRow_mergeLevels_18 {X : hh_X} {B e0 : Nat} {rr : Int32 × hh_H} (C : ok_RunRow_mergeLevels X B e0) (E : hh_End X B e0 (.returned (some (.int rr.1))) rr.2 mc_RunRow_mergeLevels ms_RunRow_mergeLevels) (F : Nat) :
    ∀ (n : Nat) (a0 : Nat) (x1 : Int32) (x2 : Int32) (x3 : Int32) (x4 : Int32) (h : hh_H), hp_it (fun _ _ _ _ _ _ => none) (f_RunRow_mergeLevels_18 F) n a0 x1 x2 x3 x4 h = some rr → hh_W X 0 0 18 [(0, .ref (hh_ad B e0 a0)), (1, .int x1), (2, .int x2), (3, .int x3), (4, .int x4)] [] h := by
  intro n
  induction n with
  | zero => intro a0 x1 x2 x3 x4 h hf; cases hf
  | succ n ih =>
    intro a0 x1 x2 x3 x4 h hf
    exact w_RunRow_mergeLevels_18 C E F _ ih a0 x1 x2 x3 x4 h hf
set_option maxRecDepth 100000 in
set_option maxHeartbeats 4000000 in
theorem w_RunRow_mergeLevels {X : hh_X} {B e0 : Nat} {rr : Int32 × hh_H} (C : ok_RunRow_mergeLevels X B e0) (E : hh_End X B e0 (.returned (some (.int rr.1))) rr.2 mc_RunRow_mergeLevels ms_RunRow_mergeLevels) (F : Nat) (a0 : Nat) (x1 : Int32) (x2 : Int32) (h : hh_H)
    (hf : f_RunRow_mergeLevels F a0 x1 x2 h = some rr) : hh_W X 0 0 0 [(0, .ref (hh_ad B e0 a0)), (1, .int x1), (2, .int x2)] [] h := by
  unfold f_RunRow_mergeLevels at hf
  refine r_aload_n C dX7_mergeLevels_0 rfl 0 rfl ?_
  obtain ⟨v62, e63, hf⟩ := hp_bind hf
  refine r_getA C dX7_mergeLevels_1 fl_RX7_35 e63 ?_
  obtain ⟨_, e67, hf⟩ := hp_bind hf
  obtain ⟨g68, e67⟩ := hp_is_of e67
  obtain ⟨q64, h65, e66, hf⟩ := hp_cbe hf
  refine r_callV C dX7_mergeLevels_4 cs_RX7_101 rfl e67 (c_Postings_clear B e0 F v62 h _ e66) rfl rfl rfl ⟨by decide, by decide⟩ ⟨by decide, by decide⟩ (Nat.le_of_ble_eq_true rfl) rfl ?_
  refine r_aload_n C dX7_mergeLevels_7 rfl 0 rfl ?_
  obtain ⟨v69, e70, hf⟩ := hp_bind hf
  refine r_getA C dX7_mergeLevels_8 fl_RX7_26 e70 ?_
  obtain ⟨_, e74, hf⟩ := hp_bind hf
  obtain ⟨g75, e74⟩ := hp_is_of e74
  obtain ⟨q71, h72, e73, hf⟩ := hp_cbe hf
  refine r_callV C dX7_mergeLevels_11 cs_RX7_67 rfl e74 (c_ArrayList_size B e0 F v69 h65 _ e73) rfl rfl rfl ⟨by decide, by decide⟩ ⟨by decide, by decide⟩ (Nat.le_of_ble_eq_true rfl) rfl ?_
  refine r_istore_n (lv' := [(3, .int q71), (0, .ref (hh_ad B e0 a0)), (1, .int x1), (2, .int x2)]) C dX7_mergeLevels_14 rfl (by decide) rfl ?_
  refine r_iconst C dX7_mergeLevels_15 (v := 0) (by decide) ?_
  refine r_istore (lv' := [(4, .int 0), (3, .int q71), (0, .ref (hh_ad B e0 a0)), (1, .int x1), (2, .int x2)]) C dX7_mergeLevels_16 (by decide) rfl ?_
  refine hh_pick [2, 3, 4, 1, 0] rfl ?_
  exact wl_RunRow_mergeLevels_18 C E F F a0 x1 x2 q71 0 h72 hf
theorem c_RunRow_mergeLevels (B e0 F : Nat) (a0 : Nat) (x1 : Int32) (x2 : Int32) (h : hh_H) (rr : Int32 × hh_H) (hf : f_RunRow_mergeLevels F a0 x1 x2 h = some rr) : hh_Met yX7_mergeLevels cX7_mergeLevels 6 (some .boolean) rm_RunRow_mergeLevels mc_RunRow_mergeLevels ms_RunRow_mergeLevels B e0 [.ref (hh_ad B e0 a0), .int x1, .int x2] h (.returned (some (.int rr.1))) rr.2 :=
  hh_met (by decide) (Nat.le_of_ble_eq_true rfl) fun X C E => hh_pick [0, 1, 2] rfl (w_RunRow_mergeLevels C E F a0 x1 x2 h hf)
def mc_RunRow_mergeFullLevels : Nat := 183
def ms_RunRow_mergeFullLevels : Nat := 8723
def rm_RunRow_mergeFullLevels : Room := { frames := 8, cells := 183, slots := 8723, locals := 206 }
abbrev ok_RunRow_mergeFullLevels (X : hh_X) (B e0 : Nat) : Prop := hh_ok X B e0 cX7_mergeFullLevels RX7 3 none "mergeFullLevels" rm_RunRow_mergeFullLevels
set_option maxRecDepth 100000 in
set_option maxHeartbeats 4000000 in
theorem w_RunRow_mergeFullLevels_2 {X : hh_X} {B e0 : Nat} {rr : Unit × hh_H} (C : ok_RunRow_mergeFullLevels X B e0) (E : hh_End X B e0 (.returned none) rr.2 mc_RunRow_mergeFullLevels ms_RunRow_mergeFullLevels) (F : Nat) (r2 : Nat → Int32 → hh_H → Option (Unit × hh_H)) (cn sn : Nat) (hcn : cn + 3 ≤ 183) (hsn : sn + 143 ≤ 8723) (H2 : ∀ (a0 : Nat) (x1 : Int32) (h : hh_H), r2 a0 x1 h = some rr → hh_W X (cn + 3) (sn + 143) 2 [(0, .ref (hh_ad B e0 a0)), (1, .int x1)] [] h) (a0 : Nat) (x1 : Int32) (h : hh_H)
    (hf : f_RunRow_mergeFullLevels_2 F r2 a0 x1 h = some rr) : hh_W X cn sn 2 [(0, .ref (hh_ad B e0 a0)), (1, .int x1)] [] h := by
  unfold f_RunRow_mergeFullLevels_2 at hf
  refine r_iload_n C dX7_mergeFullLevels_2 rfl 1 rfl ?_
  refine r_bipush C dX7_mergeFullLevels_3 (v := 60) (by decide) ?_
  refine r_icmp_ge C dX7_mergeFullLevels_5 (tgt := 33) (by decide) (fun c1 => ?_) (fun c1 => ?_)
  · rw [if_pos c1] at hf
    exact r_return C E dX7_mergeFullLevels_33 (by show cn + 0 + 0 ≤ 183; omega) (by show sn + 0 + 0 ≤ 8723; omega) hf
  · rw [if_neg c1] at hf
    refine r_aload_n C dX7_mergeFullLevels_8 rfl 0 rfl ?_
    obtain ⟨_, e5, hf⟩ := hp_bind hf
    obtain ⟨g6, e5⟩ := hp_is_of e5
    obtain ⟨q2, h3, e4, hf⟩ := hp_cbe hf
    refine r_callV C dX7_mergeFullLevels_9 cs_RX7_116 rfl e5 (c_RunRow_leastFullLevel B e0 F a0 h _ e4) rfl rfl rfl ⟨by decide, by decide⟩ ⟨by show cn + 0 + 0 ≤ 183; omega, by show sn + 0 + 0 ≤ 8723; omega⟩ (Nat.le_of_ble_eq_true rfl) rfl ?_
    refine r_istore_n (lv' := [(2, .int q2), (0, .ref (hh_ad B e0 a0)), (1, .int x1)]) C dX7_mergeFullLevels_12 rfl (by decide) rfl ?_
    refine r_iload_n C dX7_mergeFullLevels_13 rfl 0 rfl ?_
    refine r_if_lt C dX7_mergeFullLevels_14 (tgt := 26) (by decide) (fun c7 => ?_) (fun c7 => ?_)
    · rw [if_pos c7] at hf
      exact r_return C E dX7_mergeFullLevels_26 (by show cn + 0 + 0 ≤ 183; omega) (by show sn + 0 + 0 ≤ 8723; omega) hf
    · rw [if_neg c7] at hf
      refine r_aload_n C dX7_mergeFullLevels_17 rfl 1 rfl ?_
      refine r_iload_n C dX7_mergeFullLevels_18 rfl 0 rfl ?_
      refine r_iload_n C dX7_mergeFullLevels_19 rfl 0 rfl ?_
      obtain ⟨_, e11, hf⟩ := hp_bind hf
      obtain ⟨g12, e11⟩ := hp_is_of e11
      obtain ⟨q8, h9, e10, hf⟩ := hp_cbe hf
      refine r_callV C dX7_mergeFullLevels_20 cs_RX7_119 rfl e11 (c_RunRow_mergeLevels B e0 F a0 q2 q2 h3 _ e10) rfl rfl rfl ⟨by decide, by decide⟩ ⟨by show cn + 0 + 3 ≤ 183; omega, by show sn + 0 + 143 ≤ 8723; omega⟩ (Nat.le_of_ble_eq_true rfl) rfl ?_
      refine r_if_ne C dX7_mergeFullLevels_23 (tgt := 27) (by decide) (fun c13 => ?_) (fun c13 => ?_)
      · rw [if_neg c13] at hf
        refine r_iinc (lv' := [(1, .int (x1 + 1)), (2, .int q2), (0, .ref (hh_ad B e0 a0))]) C dX7_mergeFullLevels_27 2 rfl rfl (by decide) rfl ?_
        refine r_goto C dX7_mergeFullLevels_30 (tgt := 2) (by decide) ?_
        refine hh_pick [2, 0] rfl ?_
        refine hh_widen (cn' := cn + 3) (sn' := sn + 143) (by show cn + 3 ≤ cn + 3; omega) (by show sn + 143 ≤ sn + 143; omega) ?_
        exact H2 a0 (x1 + 1) h9 hf
      · rw [if_pos c13] at hf
        exact r_return C E dX7_mergeFullLevels_26 (by show cn + 3 + 0 ≤ 183; omega) (by show sn + 143 + 0 ≤ 8723; omega) hf
theorem wl_RunRow_mergeFullLevels_2 {X : hh_X} {B e0 : Nat} {rr : Unit × hh_H} (C : ok_RunRow_mergeFullLevels X B e0) (E : hh_End X B e0 (.returned none) rr.2 mc_RunRow_mergeFullLevels ms_RunRow_mergeFullLevels) (F : Nat) :
    ∀ (n cn sn : Nat) (hcn : cn + n * 3 ≤ 183) (hsn : sn + n * 143 ≤ 8723) (a0 : Nat) (x1 : Int32) (h : hh_H), hp_it (fun _ _ _ => none) (f_RunRow_mergeFullLevels_2 F) n a0 x1 h = some rr → hh_W X cn sn 2 [(0, .ref (hh_ad B e0 a0)), (1, .int x1)] [] h := by
  intro n
  induction n with
  | zero => intro cn sn hcn hsn a0 x1 h hf; cases hf
  | succ n ih =>
    intro cn sn hcn hsn a0 x1 h hf
    exact w_RunRow_mergeFullLevels_2 C E F _ cn sn (by omega) (by omega) (ih (cn + 3) (sn + 143) (by omega) (by omega)) a0 x1 h hf
set_option maxRecDepth 100000 in
set_option maxHeartbeats 4000000 in
theorem w_RunRow_mergeFullLevels {X : hh_X} {B e0 : Nat} {rr : Unit × hh_H} (C : ok_RunRow_mergeFullLevels X B e0) (E : hh_End X B e0 (.returned none) rr.2 mc_RunRow_mergeFullLevels ms_RunRow_mergeFullLevels) (F : Nat) (a0 : Nat) (h : hh_H)
    (hf : f_RunRow_mergeFullLevels F a0 h = some rr) : hh_W X 0 0 0 [(0, .ref (hh_ad B e0 a0))] [] h := by
  unfold f_RunRow_mergeFullLevels at hf
  refine r_iconst C dX7_mergeFullLevels_0 (v := 0) (by decide) ?_
  refine r_istore_n (lv' := [(1, .int 0), (0, .ref (hh_ad B e0 a0))]) C dX7_mergeFullLevels_1 rfl (by decide) rfl ?_
  refine hh_pick [1, 0] rfl ?_
  exact wl_RunRow_mergeFullLevels_2 C E F 61 0 0 (by decide) (by decide) a0 0 h hf
theorem c_RunRow_mergeFullLevels (B e0 F : Nat) (a0 : Nat) (h : hh_H) (rr : Unit × hh_H) (hf : f_RunRow_mergeFullLevels F a0 h = some rr) : hh_Met yX7_mergeFullLevels cX7_mergeFullLevels 3 none rm_RunRow_mergeFullLevels mc_RunRow_mergeFullLevels ms_RunRow_mergeFullLevels B e0 [.ref (hh_ad B e0 a0)] h (.returned none) rr.2 :=
  hh_met (by decide) (Nat.le_of_ble_eq_true rfl) fun X C E => hh_pick [0] rfl (w_RunRow_mergeFullLevels C E F a0 h hf)
def mc_RunRow_mergeAll : Nat := 3
def ms_RunRow_mergeAll : Nat := 143
def rm_RunRow_mergeAll : Room := { frames := 8, cells := 3, slots := 143, locals := 206 }
abbrev ok_RunRow_mergeAll (X : hh_X) (B e0 : Nat) : Prop := hh_ok X B e0 cX7_mergeAll RX7 3 (some .boolean) "mergeAll" rm_RunRow_mergeAll
set_option maxRecDepth 100000 in
set_option maxHeartbeats 4000000 in
theorem w_RunRow_mergeAll_52 {X : hh_X} {B e0 : Nat} {rr : Int32 × hh_H} (C : ok_RunRow_mergeAll X B e0) (E : hh_End X B e0 (.returned (some (.int rr.1))) rr.2 mc_RunRow_mergeAll ms_RunRow_mergeAll) (F : Nat) (a0 : Nat) (x1 : Int32) (h : hh_H)
    (hf : f_RunRow_mergeAll_52 F a0 x1 h = some rr) : hh_W X 0 0 52 [(0, .ref (hh_ad B e0 a0)), (1, .int x1)] [] h := by
  unfold f_RunRow_mergeAll_52 at hf
  refine r_aload_n C dX7_mergeAll_52 rfl 0 rfl ?_
  refine r_iconst C dX7_mergeAll_53 (v := 0) (by decide) ?_
  refine r_iload_n C dX7_mergeAll_54 rfl 1 rfl ?_
  obtain ⟨_, e4, hf⟩ := hp_bind hf
  obtain ⟨g5, e4⟩ := hp_is_of e4
  obtain ⟨q1, h2, e3, hf⟩ := hp_cbe hf
  refine r_callV C dX7_mergeAll_55 cs_RX7_119 rfl e4 (c_RunRow_mergeLevels B e0 F a0 0 x1 h _ e3) rfl rfl rfl ⟨by decide, by decide⟩ ⟨by decide, by decide⟩ (Nat.le_of_ble_eq_true rfl) rfl ?_
  obtain ⟨w6, e7, hf⟩ := hp_bind hf
  obtain ⟨rfl, e7⟩ := hp_zb_of e7
  exact r_ireturnz C E dX7_mergeAll_58 e7 (by decide) (by decide) hf
set_option maxRecDepth 100000 in
set_option maxHeartbeats 4000000 in
theorem w_RunRow_mergeAll_16 {X : hh_X} {B e0 : Nat} {rr : Int32 × hh_H} (C : ok_RunRow_mergeAll X B e0) (E : hh_End X B e0 (.returned (some (.int rr.1))) rr.2 mc_RunRow_mergeAll ms_RunRow_mergeAll) (F : Nat) (r16 : Nat → Int32 → Int32 → hh_H → Option (Int32 × hh_H)) (H16 : ∀ (a0 : Nat) (x1 : Int32) (x2 : Int32) (h : hh_H), r16 a0 x1 x2 h = some rr → hh_W X 0 0 16 [(0, .ref (hh_ad B e0 a0)), (1, .int x1), (2, .int x2)] [] h) (a0 : Nat) (x1 : Int32) (x2 : Int32) (h : hh_H)
    (hf : f_RunRow_mergeAll_16 F r16 a0 x1 x2 h = some rr) : hh_W X 0 0 16 [(0, .ref (hh_ad B e0 a0)), (1, .int x1), (2, .int x2)] [] h := by
  unfold f_RunRow_mergeAll_16 at hf
  refine r_iload_n C dX7_mergeAll_16 rfl 2 rfl ?_
  refine r_aload_n C dX7_mergeAll_17 rfl 0 rfl ?_
  obtain ⟨v8, e9, hf⟩ := hp_bind hf
  refine r_getA C dX7_mergeAll_18 fl_RX7_26 e9 ?_
  obtain ⟨_, e13, hf⟩ := hp_bind hf
  obtain ⟨g14, e13⟩ := hp_is_of e13
  obtain ⟨q10, h11, e12, hf⟩ := hp_cbe hf
  refine r_callV C dX7_mergeAll_21 cs_RX7_67 rfl e13 (c_ArrayList_size B e0 F v8 h _ e12) rfl rfl rfl ⟨by decide, by decide⟩ ⟨by decide, by decide⟩ (Nat.le_of_ble_eq_true rfl) rfl ?_
  refine r_icmp_ge C dX7_mergeAll_24 (tgt := 52) (by decide) (fun c15 => ?_) (fun c15 => ?_)
  · rw [if_pos c15] at hf
    refine hh_pick [0, 1] rfl ?_
    exact w_RunRow_mergeAll_52 C E F a0 x1 h11 hf
  · rw [if_neg c15] at hf
    refine r_iload_n C dX7_mergeAll_27 rfl 1 rfl ?_
    refine r_aload_n C dX7_mergeAll_28 rfl 0 rfl ?_
    obtain ⟨v16, e17, hf⟩ := hp_bind hf
    refine r_getA C dX7_mergeAll_29 fl_RX7_26 e17 ?_
    refine r_iload_n C dX7_mergeAll_32 rfl 2 rfl ?_
    obtain ⟨_, e21, hf⟩ := hp_bind hf
    obtain ⟨g22, e21⟩ := hp_is_of e21
    obtain ⟨q18, h19, e20, hf⟩ := hp_cbe hf
    refine r_callV C dX7_mergeAll_33 cs_RX7_72 rfl e21 (c_ArrayList_get B e0 F v16 x2 h11 _ e20) rfl rfl rfl ⟨by decide, by decide⟩ ⟨by decide, by decide⟩ (Nat.le_of_ble_eq_true rfl) rfl ?_
    obtain ⟨_, e23, hf⟩ := hp_bind hf
    obtain ⟨g24, e23⟩ := hp_is_of e23
    refine r_cast C dX7_mergeAll_36 ca_RX7_76 e23 ?_
    obtain ⟨v25, e26, hf⟩ := hp_bind hf
    refine r_getIN C dX7_mergeAll_39 fn_RX7_78 e26 ?_
    refine r_mmax C dX7_mergeAll_42 mm_RX7_125 (by decide) (Nat.le_of_ble_eq_true rfl) (by decide) (by decide) ?_
    refine r_istore_n (lv' := [(1, .int (if x1 < v25 then v25 else x1)), (0, .ref (hh_ad B e0 a0)), (2, .int x2)]) C dX7_mergeAll_45 rfl (by decide) rfl ?_
    refine r_iinc (lv' := [(2, .int (x2 + 1)), (1, .int (if x1 < v25 then v25 else x1)), (0, .ref (hh_ad B e0 a0))]) C dX7_mergeAll_46 2 rfl rfl (by decide) rfl ?_
    refine r_goto C dX7_mergeAll_49 (tgt := 16) (by decide) ?_
    refine hh_pick [2, 1, 0] rfl ?_
    exact H16 a0 (if x1 < v25 then v25 else x1) (x2 + 1) h19 hf
theorem wl_RunRow_mergeAll_16 {X : hh_X} {B e0 : Nat} {rr : Int32 × hh_H} (C : ok_RunRow_mergeAll X B e0) (E : hh_End X B e0 (.returned (some (.int rr.1))) rr.2 mc_RunRow_mergeAll ms_RunRow_mergeAll) (F : Nat) :
    ∀ (n : Nat) (a0 : Nat) (x1 : Int32) (x2 : Int32) (h : hh_H), hp_it (fun _ _ _ _ => none) (f_RunRow_mergeAll_16 F) n a0 x1 x2 h = some rr → hh_W X 0 0 16 [(0, .ref (hh_ad B e0 a0)), (1, .int x1), (2, .int x2)] [] h := by
  intro n
  induction n with
  | zero => intro a0 x1 x2 h hf; cases hf
  | succ n ih =>
    intro a0 x1 x2 h hf
    exact w_RunRow_mergeAll_16 C E F _ ih a0 x1 x2 h hf
set_option maxRecDepth 100000 in
set_option maxHeartbeats 4000000 in
theorem w_RunRow_mergeAll {X : hh_X} {B e0 : Nat} {rr : Int32 × hh_H} (C : ok_RunRow_mergeAll X B e0) (E : hh_End X B e0 (.returned (some (.int rr.1))) rr.2 mc_RunRow_mergeAll ms_RunRow_mergeAll) (F : Nat) (a0 : Nat) (h : hh_H)
    (hf : f_RunRow_mergeAll F a0 h = some rr) : hh_W X 0 0 0 [(0, .ref (hh_ad B e0 a0))] [] h := by
  unfold f_RunRow_mergeAll at hf
  refine r_aload_n C dX7_mergeAll_0 rfl 0 rfl ?_
  obtain ⟨v27, e28, hf⟩ := hp_bind hf
  refine r_getA C dX7_mergeAll_1 fl_RX7_26 e28 ?_
  obtain ⟨_, e32, hf⟩ := hp_bind hf
  obtain ⟨g33, e32⟩ := hp_is_of e32
  obtain ⟨q29, h30, e31, hf⟩ := hp_cbe hf
  refine r_callV C dX7_mergeAll_4 cs_RX7_122 rfl e32 (c_ArrayList_isEmpty B e0 F v27 h _ e31) rfl rfl rfl ⟨by decide, by decide⟩ ⟨by decide, by decide⟩ (Nat.le_of_ble_eq_true rfl) rfl ?_
  refine r_if_eq C dX7_mergeAll_7 (tgt := 12) (by decide) (fun c34 => ?_) (fun c34 => ?_)
  · rw [if_pos c34] at hf
    refine r_iconst C dX7_mergeAll_12 (v := 0) (by decide) ?_
    refine r_istore_n (lv' := [(1, .int 0), (0, .ref (hh_ad B e0 a0))]) C dX7_mergeAll_13 rfl (by decide) rfl ?_
    refine r_iconst C dX7_mergeAll_14 (v := 0) (by decide) ?_
    refine r_istore_n (lv' := [(2, .int 0), (1, .int 0), (0, .ref (hh_ad B e0 a0))]) C dX7_mergeAll_15 rfl (by decide) rfl ?_
    refine hh_pick [2, 1, 0] rfl ?_
    exact wl_RunRow_mergeAll_16 C E F F a0 0 0 h30 hf
  · rw [if_neg c34] at hf
    refine r_iconst C dX7_mergeAll_10 (v := 1) (by decide) ?_
    exact r_ireturnz C E dX7_mergeAll_11 rfl (by decide) (by decide) hf
theorem c_RunRow_mergeAll (B e0 F : Nat) (a0 : Nat) (h : hh_H) (rr : Int32 × hh_H) (hf : f_RunRow_mergeAll F a0 h = some rr) : hh_Met yX7_mergeAll cX7_mergeAll 3 (some .boolean) rm_RunRow_mergeAll mc_RunRow_mergeAll ms_RunRow_mergeAll B e0 [.ref (hh_ad B e0 a0)] h (.returned (some (.int rr.1))) rr.2 :=
  hh_met (by decide) (Nat.le_of_ble_eq_true rfl) fun X C E => hh_pick [0] rfl (w_RunRow_mergeAll C E F a0 h hf)
