def f_IB_count (F : Nat) (a0 : Nat) (x1 : Int32) (h : hh_H) : Option (Int32 × hh_H) :=
  if x1 = 0 then
    (hp_ga h a0 8 3).bind fun v2 =>
    (hp_is h v2 3).bind fun _ =>
    hp_cb (f_Documents_size F v2 h) fun q4 h5 =>
    some (q4, h5)
  else
  if x1 = 1 then
    (hp_ga h a0 8 3).bind fun v10 =>
    (hp_is h v10 3).bind fun _ =>
    hp_cb (f_Documents_live F v10 h) fun q12 h13 =>
    some (q12, h13)
  else
  if x1 = 2 then
    (hp_ga h a0 8 4).bind fun v18 =>
    (hp_is h v18 5).bind fun _ =>
    hp_cb (f_Postings_size F v18 h) fun q20 h21 =>
    some (q20, h21)
  else
  if x1 = 3 then
    (hp_ga h a0 8 5).bind fun v26 =>
    (hp_is h v26 7).bind fun _ =>
    hp_cb (f_RunRow_size F v26 h) fun q28 h29 =>
    some (q28, h29)
  else
  if x1 = 4 then
    (hp_ga h a0 8 5).bind fun v34 =>
    (hp_is h v34 7).bind fun _ =>
    hp_cb (f_RunRow_freeBlocks F v34 h) fun q36 h37 =>
    some (q36, h37)
  else
  if x1 = 5 then
    (hp_ga h a0 8 5).bind fun v42 =>
    (hp_is h v42 7).bind fun _ =>
    hp_cb (f_RunRow_blocksRead F v42 h) fun q44 h45 =>
    some (q44, h45)
  else
  if x1 = 6 then
    (hp_ga h a0 8 5).bind fun v50 =>
    (hp_is h v50 7).bind fun _ =>
    hp_cb (f_RunRow_blocksWritten F v50 h) fun q52 h53 =>
    some (q52, h53)
  else
  if x1 = 7 then
    (hp_ga h a0 8 5).bind fun v58 =>
    (hp_is h v58 7).bind fun _ =>
    hp_cb (f_RunRow_mergesDone F v58 h) fun q60 h61 =>
    some (q60, h61)
  else
  if x1 = 8 then
    (hp_ga h a0 8 5).bind fun v66 =>
    (hp_is h v66 7).bind fun _ =>
    hp_cb (f_RunRow_mergesWithoutRoom F v66 h) fun q68 h69 =>
    some (q68, h69)
  else
  if x1 = 9 then
    (hp_gi h a0 8 2).bind fun v74 =>
    some (v74, h)
  else
    some ((-1), h)
def f_IB_clamp (F : Nat) (x0 : Int32) (x1 : Int32) (x2 : Int32) (h : hh_H) : Option (Int32 × hh_H) :=
  some (if x1 < (if x0 < x2 then x0 else x2) then (if x0 < x2 then x0 else x2) else x1, h)
def f_IB_isWord (F : Nat) (x0 : Int32) (h : hh_H) : Option (Int32 × hh_H) :=
  if x0 < 0 then
    some (0, h)
  else
    if 100 ≤ x0 then
      some (0, h)
    else
      some (1, h)
def f_IB_flushBuffer (F : Nat) (a0 : Nat) (h : hh_H) : Option (Int32 × hh_H) :=
  (hp_ga h a0 8 4).bind fun v1 =>
  (hp_is h v1 5).bind fun _ =>
  hp_cb (f_Postings_size F v1 h) fun q3 h4 =>
  if q3 = 0 then
    some (1, h4)
  else
    (hp_ga h4 a0 8 5).bind fun v9 =>
    (hp_ga h4 a0 8 4).bind fun v11 =>
    (hp_is h4 v9 7).bind fun _ =>
    hp_cb (f_RunRow_append F v9 v11 h4) fun q13 h14 =>
    if q13 = 0 then
      some (0, h14)
    else
      (hp_ga h14 a0 8 4).bind fun v19 =>
      (hp_is h14 v19 5).bind fun _ =>
      hp_cb (f_Postings_clear F v19 h14) fun q21 h22 =>
      (hp_ga h22 a0 8 5).bind fun v26 =>
      (hp_is h22 v26 7).bind fun _ =>
      hp_cb (f_RunRow_mergeFullLevels F v26 h22) fun q28 h29 =>
      some (1, h29)
def f_IB_lookUp (F : Nat) (a0 : Nat) (x1 : Int32) (x2 : Int32) (h : hh_H) : Option (Unit × hh_H) :=
  (hp_ga h a0 8 6).bind fun v1 =>
  (hp_is h v1 4).bind fun _ =>
  hp_cb (f_Places_begin F v1 x1 h) fun q3 h4 =>
  (hp_ga h4 a0 8 7).bind fun v8 =>
  (hp_is h4 v8 4).bind fun _ =>
  hp_cb (f_Places_begin F v8 x2 h4) fun q10 h11 =>
  (hp_ga h11 a0 8 5).bind fun v15 =>
  (hp_ga h11 a0 8 6).bind fun v17 =>
  (hp_ga h11 a0 8 7).bind fun v19 =>
  (hp_is h11 v15 7).bind fun _ =>
  hp_cb (f_RunRow_readAll F v15 v17 v19 h11) fun q21 h22 =>
  (hp_ga h22 a0 8 6).bind fun v26 =>
  (hp_ga h22 a0 8 4).bind fun v28 =>
  (hp_ga h22 a0 8 3).bind fun v30 =>
  (hp_is h22 v26 4).bind fun _ =>
  hp_cb (f_Places_take F v26 v28 v30 h22) fun q32 h33 =>
  (hp_ga h33 a0 8 7).bind fun v37 =>
  (hp_ga h33 a0 8 4).bind fun v39 =>
  (hp_ga h33 a0 8 3).bind fun v41 =>
  (hp_is h33 v37 4).bind fun _ =>
  hp_cb (f_Places_take F v37 v39 v41 h33) fun q43 h44 =>
  some ((), h44)
def f_IB_fits (F : Nat) (a0 : Nat) (x1 : Int32) (x2 : Int32) (h : hh_H) : Option (Int32 × hh_H) :=
  (hp_ga h a0 8 6).bind fun v1 =>
  (hp_is h v1 4).bind fun _ =>
  hp_cb (f_Places_bitsOf F v1 x1 h) fun q3 h4 =>
  (hp_ga h4 a0 8 7).bind fun v8 =>
  (hp_is h4 v8 4).bind fun _ =>
  hp_cb (f_Places_bitsOf F v8 x1 h4) fun q10 h11 =>
  if x2 = 0 then
    if q3 = 0 then
      some (0, h11)
    else
      if q10 = 0 then
        some (0, h11)
      else
        some (1, h11)
  else
  if x2 = 1 then
    if q3 = 0 then
      if q10 = 0 then
        some (0, h11)
      else
        some (1, h11)
    else
      some (1, h11)
  else
  if x2 = 2 then
    if ((q3 <<< (1 &&& 31)) &&& q10) = 0 then
      some (0, h11)
    else
      some (1, h11)
  else
  if x2 = 3 then
    if q3 = 0 then
      some (0, h11)
    else
      if q10 = 0 then
        some (1, h11)
      else
        some (0, h11)
  else
    some (0, h11)
def f_IB_init (F : Nat) (a0 : Nat) (x1 : Int32) (x2 : Int32) (x3 : Int32) (h : hh_H) : Option (Unit × hh_H) :=
  hp_cb (f_IB_clamp F x1 20 48 h) fun q1 h2 =>
  (hp_pi h2 a0 8 0 q1).bind fun h4 =>
  hp_cb (hp_na h4 0 20 20) fun b6 h8 =>
  (hp_pa h8 a0 8 1 b6).bind fun h9 =>
  (hp_pi h9 a0 8 2 0).bind fun h11 =>
  hp_cb (hp_new h11 3) fun b13 h15 =>
  hp_cb (f_Documents_init F b13 h15) fun q16 h17 =>
  (hp_pa h17 a0 8 3 b13).bind fun h19 =>
  hp_cb (hp_new h19 5) fun b21 h23 =>
  (hp_gi h23 a0 8 0).bind fun v24 =>
  hp_cb (f_Postings_init F b21 v24 h23) fun q26 h27 =>
  (hp_pa h27 a0 8 4 b21).bind fun h29 =>
  hp_cb (hp_new h29 2) fun b31 h33 =>
  hp_cb (f_IB_clamp F x3 8 60 h33) fun q34 h35 =>
  hp_cb (f_Disk_init F b31 q34 h35) fun q37 h38 =>
  hp_cb (hp_new h38 7) fun b40 h42 =>
  (hp_ga h42 a0 8 3).bind fun v43 =>
  hp_cb (f_IB_clamp F x2 2 4 h42) fun q45 h46 =>
  hp_cb (f_RunRow_init F b40 v43 b31 q45 h46) fun q48 h49 =>
  (hp_pa h49 a0 8 5 b40).bind fun h51 =>
  hp_cb (hp_new h51 4) fun b53 h55 =>
  hp_cb (f_Places_init F b53 h55) fun q56 h57 =>
  (hp_pa h57 a0 8 6 b53).bind fun h59 =>
  hp_cb (hp_new h59 4) fun b61 h63 =>
  hp_cb (f_Places_init F b61 h63) fun q64 h65 =>
  (hp_pa h65 a0 8 7 b61).bind fun h67 =>
  hp_cb (hp_new h67 0) fun b69 h71 =>
  hp_cb (f_Answer_init F b69 h71) fun q72 h73 =>
  (hp_pa h73 a0 8 8 b69).bind fun h75 =>
  some ((), h75)
theorem lay_X8 : ∀ w ∈ u_ws RX8 TX8 9, w ∈ hh_T := hh_sub (by decide +kernel) (by decide +kernel)
theorem tyok_X8 : ∀ k, k < 9 → parseFieldDescriptor (TX8 k).2.2.1 = some (tyX8 k) := by decide +kernel
theorem nmok_X8 : ∀ a, a < 9 → ∀ b, b < 9 → a ≠ b → (TX8 a).2.1 ≠ (TX8 b).2.1 := by decide +kernel
theorem fl_RX8_27 : hh_FL RX8 27 8 3 (.object "IndexBuilder$Documents") true := ⟨_, _, _, tyX8, "IndexBuilder", rfl, by decide, lay_X8, ⟨hh_at 256 (by decide +kernel) (by decide +kernel), Or.inl rfl⟩, rfl, by decide +kernel, tyok_X8, nmok_X8⟩
theorem cw_X3_size : Cond.code yX3_size cX3_size 1 (some .int) ∈ hh_T := hh_at 288 (by decide +kernel) (by decide +kernel)
theorem cs_RX8_85 : hh_CS RX8 85 yX3_size cX3_size 1 (some .int) 0 [.instanceMethod yX3_size, .selects yX3_size.cls yX3_size yX3_size] := ⟨cw_X3_size, hh_at 285 (by decide +kernel) (by decide +kernel), hh_at 37 (by decide +kernel) (by decide +kernel), hh_all2 (hh_at 286 (by decide +kernel) (by decide +kernel)) (hh_at 287 (by decide +kernel) (by decide +kernel)), by decide +kernel⟩
theorem cw_X3_live : Cond.code yX3_live cX3_live 1 (some .int) ∈ hh_T := hh_at 292 (by decide +kernel) (by decide +kernel)
theorem cs_RX8_121 : hh_CS RX8 121 yX3_live cX3_live 1 (some .int) 0 [.instanceMethod yX3_live, .selects yX3_live.cls yX3_live yX3_live] := ⟨cw_X3_live, hh_at 289 (by decide +kernel) (by decide +kernel), hh_at 37 (by decide +kernel) (by decide +kernel), hh_all2 (hh_at 290 (by decide +kernel) (by decide +kernel)) (hh_at 291 (by decide +kernel) (by decide +kernel)), by decide +kernel⟩
theorem fl_RX8_36 : hh_FL RX8 36 8 4 (.object "IndexBuilder$Postings") true := ⟨_, _, _, tyX8, "IndexBuilder", rfl, by decide, lay_X8, ⟨hh_at 257 (by decide +kernel) (by decide +kernel), Or.inl rfl⟩, rfl, by decide +kernel, tyok_X8, nmok_X8⟩
theorem cs_RX8_91 : hh_CS RX8 91 yX5_size cX5_size 1 (some .int) 0 [.instanceMethod yX5_size, .selects yX5_size.cls yX5_size yX5_size] := ⟨cw_X5_size, hh_at 293 (by decide +kernel) (by decide +kernel), hh_at 38 (by decide +kernel) (by decide +kernel), hh_all2 (hh_at 294 (by decide +kernel) (by decide +kernel)) (hh_at 295 (by decide +kernel) (by decide +kernel)), by decide +kernel⟩
theorem fl_RX8_48 : hh_FL RX8 48 8 5 (.object "IndexBuilder$RunRow") true := ⟨_, _, _, tyX8, "IndexBuilder", rfl, by decide, lay_X8, ⟨hh_at 258 (by decide +kernel) (by decide +kernel), Or.inl rfl⟩, rfl, by decide +kernel, tyok_X8, nmok_X8⟩
theorem cw_X7_size : Cond.code yX7_size cX7_size 1 (some .int) ∈ hh_T := hh_at 300 (by decide +kernel) (by decide +kernel)
theorem cs_RX8_124 : hh_CS RX8 124 yX7_size cX7_size 1 (some .int) 0 [.instanceMethod yX7_size, .selects yX7_size.cls yX7_size yX7_size] := ⟨cw_X7_size, hh_at 297 (by decide +kernel) (by decide +kernel), hh_at 40 (by decide +kernel) (by decide +kernel), hh_all2 (hh_at 298 (by decide +kernel) (by decide +kernel)) (hh_at 299 (by decide +kernel) (by decide +kernel)), by decide +kernel⟩
theorem cw_X7_freeBlocks : Cond.code yX7_freeBlocks cX7_freeBlocks 1 (some .int) ∈ hh_T := hh_at 308 (by decide +kernel) (by decide +kernel)
theorem cs_RX8_199 : hh_CS RX8 199 yX7_freeBlocks cX7_freeBlocks 1 (some .int) 0 [.instanceMethod yX7_freeBlocks, .selects yX7_freeBlocks.cls yX7_freeBlocks yX7_freeBlocks] := ⟨cw_X7_freeBlocks, hh_at 305 (by decide +kernel) (by decide +kernel), hh_at 40 (by decide +kernel) (by decide +kernel), hh_all2 (hh_at 306 (by decide +kernel) (by decide +kernel)) (hh_at 307 (by decide +kernel) (by decide +kernel)), by decide +kernel⟩
theorem cw_X7_blocksRead : Cond.code yX7_blocksRead cX7_blocksRead 1 (some .int) ∈ hh_T := hh_at 316 (by decide +kernel) (by decide +kernel)
theorem cs_RX8_202 : hh_CS RX8 202 yX7_blocksRead cX7_blocksRead 1 (some .int) 0 [.instanceMethod yX7_blocksRead, .selects yX7_blocksRead.cls yX7_blocksRead yX7_blocksRead] := ⟨cw_X7_blocksRead, hh_at 313 (by decide +kernel) (by decide +kernel), hh_at 40 (by decide +kernel) (by decide +kernel), hh_all2 (hh_at 314 (by decide +kernel) (by decide +kernel)) (hh_at 315 (by decide +kernel) (by decide +kernel)), by decide +kernel⟩
theorem cw_X7_blocksWritten : Cond.code yX7_blocksWritten cX7_blocksWritten 1 (some .int) ∈ hh_T := hh_at 320 (by decide +kernel) (by decide +kernel)
theorem cs_RX8_205 : hh_CS RX8 205 yX7_blocksWritten cX7_blocksWritten 1 (some .int) 0 [.instanceMethod yX7_blocksWritten, .selects yX7_blocksWritten.cls yX7_blocksWritten yX7_blocksWritten] := ⟨cw_X7_blocksWritten, hh_at 317 (by decide +kernel) (by decide +kernel), hh_at 40 (by decide +kernel) (by decide +kernel), hh_all2 (hh_at 318 (by decide +kernel) (by decide +kernel)) (hh_at 319 (by decide +kernel) (by decide +kernel)), by decide +kernel⟩
theorem cw_X7_mergesDone : Cond.code yX7_mergesDone cX7_mergesDone 1 (some .int) ∈ hh_T := hh_at 324 (by decide +kernel) (by decide +kernel)
theorem cs_RX8_208 : hh_CS RX8 208 yX7_mergesDone cX7_mergesDone 1 (some .int) 0 [.instanceMethod yX7_mergesDone, .selects yX7_mergesDone.cls yX7_mergesDone yX7_mergesDone] := ⟨cw_X7_mergesDone, hh_at 321 (by decide +kernel) (by decide +kernel), hh_at 40 (by decide +kernel) (by decide +kernel), hh_all2 (hh_at 322 (by decide +kernel) (by decide +kernel)) (hh_at 323 (by decide +kernel) (by decide +kernel)), by decide +kernel⟩
theorem cw_X7_mergesWithoutRoom : Cond.code yX7_mergesWithoutRoom cX7_mergesWithoutRoom 1 (some .int) ∈ hh_T := hh_at 328 (by decide +kernel) (by decide +kernel)
theorem cs_RX8_211 : hh_CS RX8 211 yX7_mergesWithoutRoom cX7_mergesWithoutRoom 1 (some .int) 0 [.instanceMethod yX7_mergesWithoutRoom, .selects yX7_mergesWithoutRoom.cls yX7_mergesWithoutRoom yX7_mergesWithoutRoom] := ⟨cw_X7_mergesWithoutRoom, hh_at 325 (by decide +kernel) (by decide +kernel), hh_at 40 (by decide +kernel) (by decide +kernel), hh_all2 (hh_at 326 (by decide +kernel) (by decide +kernel)) (hh_at 327 (by decide +kernel) (by decide +kernel)), by decide +kernel⟩
theorem fl_RX8_21 : hh_FL RX8 21 8 2 .int false := ⟨_, _, _, tyX8, "IndexBuilder", rfl, by decide, lay_X8, ⟨hh_at 255 (by decide +kernel) (by decide +kernel), Or.inl rfl⟩, rfl, by decide +kernel, tyok_X8, nmok_X8⟩
theorem mm_RX8_214 : Cond.methodLink RX8 214 Lib.Math.min.name ∈ hh_T := hh_at 79 (by decide +kernel) (by decide +kernel)
theorem mm_RX8_219 : Cond.methodLink RX8 219 Lib.Math.max.name ∈ hh_T := hh_at 82 (by decide +kernel) (by decide +kernel)
theorem cw_X7_append : Cond.code yX7_append cX7_append 2 (some .boolean) ∈ hh_T := hh_at 446 (by decide +kernel) (by decide +kernel)
theorem cs_RX8_222 : hh_CS RX8 222 yX7_append cX7_append 2 (some .boolean) 1 [.instanceMethod yX7_append, .selects yX7_append.cls yX7_append yX7_append] := ⟨cw_X7_append, hh_at 443 (by decide +kernel) (by decide +kernel), hh_at 40 (by decide +kernel) (by decide +kernel), hh_all2 (hh_at 444 (by decide +kernel) (by decide +kernel)) (hh_at 445 (by decide +kernel) (by decide +kernel)), by decide +kernel⟩
theorem cs_RX8_226 : hh_CS RX8 226 yX5_clear cX5_clear 1 none 0 [.instanceMethod yX5_clear, .selects yX5_clear.cls yX5_clear yX5_clear] := ⟨cw_X5_clear, hh_at 860 (by decide +kernel) (by decide +kernel), hh_at 38 (by decide +kernel) (by decide +kernel), hh_all2 (hh_at 448 (by decide +kernel) (by decide +kernel)) (hh_at 449 (by decide +kernel) (by decide +kernel)), by decide +kernel⟩
theorem cw_X7_mergeFullLevels : Cond.code yX7_mergeFullLevels cX7_mergeFullLevels 3 none ∈ hh_T := hh_at 864 (by decide +kernel) (by decide +kernel)
theorem cs_RX8_229 : hh_CS RX8 229 yX7_mergeFullLevels cX7_mergeFullLevels 3 none 0 [.instanceMethod yX7_mergeFullLevels, .selects yX7_mergeFullLevels.cls yX7_mergeFullLevels yX7_mergeFullLevels] := ⟨cw_X7_mergeFullLevels, hh_at 861 (by decide +kernel) (by decide +kernel), hh_at 40 (by decide +kernel) (by decide +kernel), hh_all2 (hh_at 862 (by decide +kernel) (by decide +kernel)) (hh_at 863 (by decide +kernel) (by decide +kernel)), by decide +kernel⟩
theorem fl_RX8_55 : hh_FL RX8 55 8 6 (.object "IndexBuilder$Places") true := ⟨_, _, _, tyX8, "IndexBuilder", rfl, by decide, lay_X8, ⟨hh_at 259 (by decide +kernel) (by decide +kernel), Or.inl rfl⟩, rfl, by decide +kernel, tyok_X8, nmok_X8⟩
theorem cw_X4_begin : Cond.code yX4_begin cX4_begin 2 none ∈ hh_T := hh_at 1034 (by decide +kernel) (by decide +kernel)
theorem cs_RX8_232 : hh_CS RX8 232 yX4_begin cX4_begin 2 none 1 [.instanceMethod yX4_begin, .selects yX4_begin.cls yX4_begin yX4_begin] := ⟨cw_X4_begin, hh_at 1031 (by decide +kernel) (by decide +kernel), hh_at 45 (by decide +kernel) (by decide +kernel), hh_all2 (hh_at 1032 (by decide +kernel) (by decide +kernel)) (hh_at 1033 (by decide +kernel) (by decide +kernel)), by decide +kernel⟩
theorem fl_RX8_59 : hh_FL RX8 59 8 7 (.object "IndexBuilder$Places") true := ⟨_, _, _, tyX8, "IndexBuilder", rfl, by decide, lay_X8, ⟨hh_at 260 (by decide +kernel) (by decide +kernel), Or.inl rfl⟩, rfl, by decide +kernel, tyok_X8, nmok_X8⟩
theorem cw_X7_readAll : Cond.code yX7_readAll cX7_readAll 4 none ∈ hh_T := hh_at 1041 (by decide +kernel) (by decide +kernel)
theorem cs_RX8_234 : hh_CS RX8 234 yX7_readAll cX7_readAll 4 none 2 [.instanceMethod yX7_readAll, .selects yX7_readAll.cls yX7_readAll yX7_readAll] := ⟨cw_X7_readAll, hh_at 1038 (by decide +kernel) (by decide +kernel), hh_at 40 (by decide +kernel) (by decide +kernel), hh_all2 (hh_at 1039 (by decide +kernel) (by decide +kernel)) (hh_at 1040 (by decide +kernel) (by decide +kernel)), by decide +kernel⟩
theorem cs_RX8_238 : hh_CS RX8 238 yX4_take cX4_take 6 none 2 [.instanceMethod yX4_take, .selects yX4_take.cls yX4_take yX4_take] := ⟨cw_X4_take, hh_at 1052 (by decide +kernel) (by decide +kernel), hh_at 45 (by decide +kernel) (by decide +kernel), hh_all2 (hh_at 1043 (by decide +kernel) (by decide +kernel)) (hh_at 1044 (by decide +kernel) (by decide +kernel)), by decide +kernel⟩
theorem cs_RX8_242 : hh_CS RX8 242 yX4_bitsOf cX4_bitsOf 2 (some .int) 1 [.instanceMethod yX4_bitsOf, .selects yX4_bitsOf.cls yX4_bitsOf yX4_bitsOf] := ⟨cw_X4_bitsOf, hh_at 1061 (by decide +kernel) (by decide +kernel), hh_at 45 (by decide +kernel) (by decide +kernel), hh_all2 (hh_at 1062 (by decide +kernel) (by decide +kernel)) (hh_at 1063 (by decide +kernel) (by decide +kernel)), by decide +kernel⟩
theorem oi_RX8_1 : Cond.methodLink RX8 1 Lib.objectInit ∈ hh_T := hh_at 73 (by decide +kernel) (by decide +kernel)
theorem cw_X8_clamp : Cond.code yX8_clamp cX8_clamp 3 (some .int) ∈ hh_T := hh_at 78 (by decide +kernel) (by decide +kernel)
theorem cs_RX8_9 : hh_CS RX8 9 yX8_clamp cX8_clamp 3 (some .int) 3 [.static yX8_clamp] := ⟨cw_X8_clamp, hh_at 76 (by decide +kernel) (by decide +kernel), hh_at 35 (by decide +kernel) (by decide +kernel), hh_all1 (hh_at 77 (by decide +kernel) (by decide +kernel)), by decide +kernel⟩
theorem fl_RX8_13 : hh_FL RX8 13 8 0 .int true := ⟨_, _, _, tyX8, "IndexBuilder", rfl, by decide, lay_X8, ⟨hh_at 253 (by decide +kernel) (by decide +kernel), Or.inl rfl⟩, rfl, by decide +kernel, tyok_X8, nmok_X8⟩
theorem fl_RX8_17 : hh_FL RX8 17 8 1 (.array .int) true := ⟨_, _, _, tyX8, "IndexBuilder", rfl, by decide, lay_X8, ⟨hh_at 254 (by decide +kernel) (by decide +kernel), Or.inl rfl⟩, rfl, by decide +kernel, tyok_X8, nmok_X8⟩
theorem dfl_X3 : ∀ B e0 j, j < 3 → defaultValue (tyX3 j) = vp_V ((hh_dfl 3).map (hh_v B e0)) j := fun B e0 j hj => by rcases (show j = 0 ∨ j = 1 ∨ j = 2 by omega) with rfl | rfl | rfl <;> rfl
theorem nw_RX8_24 : hh_NW RX8 24 3 3 := ⟨_, _, tyX3, rfl, lay_X3, hh_at 85 (by decide +kernel) (by decide +kernel), hh_at 86 (by decide +kernel) (by decide +kernel), hh_at 37 (by decide +kernel) (by decide +kernel), tyok_X3, dfl_X3⟩
theorem cw_X3_init : Cond.code yX3_init cX3_init 1 none ∈ hh_T := hh_at 89 (by decide +kernel) (by decide +kernel)
theorem cs_RX8_26 : hh_CS RX8 26 yX3_init cX3_init 1 none 0 [.instanceMethod yX3_init] := ⟨cw_X3_init, hh_at 87 (by decide +kernel) (by decide +kernel), hh_at 37 (by decide +kernel) (by decide +kernel), hh_all1 (hh_at 88 (by decide +kernel) (by decide +kernel)), by decide +kernel⟩
theorem nw_RX8_31 : hh_NW RX8 31 5 2 := ⟨_, _, tyX5, rfl, lay_X5, hh_at 103 (by decide +kernel) (by decide +kernel), hh_at 104 (by decide +kernel) (by decide +kernel), hh_at 38 (by decide +kernel) (by decide +kernel), tyok_X5, dfl_X5⟩
theorem cs_RX8_33 : hh_CS RX8 33 yX5_init cX5_init 2 none 1 [.instanceMethod yX5_init] := ⟨cw_X5_init, hh_at 105 (by decide +kernel) (by decide +kernel), hh_at 38 (by decide +kernel) (by decide +kernel), hh_all1 (hh_at 106 (by decide +kernel) (by decide +kernel)), by decide +kernel⟩
theorem dfl_X2 : ∀ B e0 j, j < 3 → defaultValue (tyX2 j) = vp_V ((hh_dfl 2).map (hh_v B e0)) j := fun B e0 j hj => by rcases (show j = 0 ∨ j = 1 ∨ j = 2 by omega) with rfl | rfl | rfl <;> rfl
theorem nw_RX8_40 : hh_NW RX8 40 2 3 := ⟨_, _, tyX2, rfl, lay_X2, hh_at 116 (by decide +kernel) (by decide +kernel), hh_at 117 (by decide +kernel) (by decide +kernel), hh_at 39 (by decide +kernel) (by decide +kernel), tyok_X2, dfl_X2⟩
theorem cw_X2_init : Cond.code yX2_init cX2_init 2 none ∈ hh_T := hh_at 120 (by decide +kernel) (by decide +kernel)
theorem cs_RX8_42 : hh_CS RX8 42 yX2_init cX2_init 2 none 1 [.instanceMethod yX2_init] := ⟨cw_X2_init, hh_at 118 (by decide +kernel) (by decide +kernel), hh_at 39 (by decide +kernel) (by decide +kernel), hh_all1 (hh_at 119 (by decide +kernel) (by decide +kernel)), by decide +kernel⟩
theorem dfl_X7 : ∀ B e0 j, j < 11 → defaultValue (tyX7 j) = vp_V ((hh_dfl 7).map (hh_v B e0)) j := fun B e0 j hj => by rcases (show j = 0 ∨ j = 1 ∨ j = 2 ∨ j = 3 ∨ j = 4 ∨ j = 5 ∨ j = 6 ∨ j = 7 ∨ j = 8 ∨ j = 9 ∨ j = 10 by omega) with rfl | rfl | rfl | rfl | rfl | rfl | rfl | rfl | rfl | rfl | rfl <;> rfl
theorem nw_RX8_43 : hh_NW RX8 43 7 11 := ⟨_, _, tyX7, rfl, lay_X7, hh_at 132 (by decide +kernel) (by decide +kernel), hh_at 133 (by decide +kernel) (by decide +kernel), hh_at 40 (by decide +kernel) (by decide +kernel), tyok_X7, dfl_X7⟩
theorem cw_X7_init : Cond.code yX7_init cX7_init 4 none ∈ hh_T := hh_at 136 (by decide +kernel) (by decide +kernel)
theorem cs_RX8_45 : hh_CS RX8 45 yX7_init cX7_init 4 none 3 [.instanceMethod yX7_init] := ⟨cw_X7_init, hh_at 134 (by decide +kernel) (by decide +kernel), hh_at 40 (by decide +kernel) (by decide +kernel), hh_all1 (hh_at 135 (by decide +kernel) (by decide +kernel)), by decide +kernel⟩
theorem dfl_X4 : ∀ B e0 j, j < 2 → defaultValue (tyX4 j) = vp_V ((hh_dfl 4).map (hh_v B e0)) j := fun B e0 j hj => by rcases (show j = 0 ∨ j = 1 by omega) with rfl | rfl <;> rfl
theorem nw_RX8_52 : hh_NW RX8 52 4 2 := ⟨_, _, tyX4, rfl, lay_X4, hh_at 220 (by decide +kernel) (by decide +kernel), hh_at 221 (by decide +kernel) (by decide +kernel), hh_at 45 (by decide +kernel) (by decide +kernel), tyok_X4, dfl_X4⟩
theorem cw_X4_init : Cond.code yX4_init cX4_init 1 none ∈ hh_T := hh_at 224 (by decide +kernel) (by decide +kernel)
theorem cs_RX8_54 : hh_CS RX8 54 yX4_init cX4_init 1 none 0 [.instanceMethod yX4_init] := ⟨cw_X4_init, hh_at 222 (by decide +kernel) (by decide +kernel), hh_at 45 (by decide +kernel) (by decide +kernel), hh_all1 (hh_at 223 (by decide +kernel) (by decide +kernel)), by decide +kernel⟩
theorem dfl_X0 : ∀ B e0 j, j < 4 → defaultValue (tyX0 j) = vp_V ((hh_dfl 0).map (hh_v B e0)) j := fun B e0 j hj => by rcases (show j = 0 ∨ j = 1 ∨ j = 2 ∨ j = 3 by omega) with rfl | rfl | rfl | rfl <;> rfl
theorem nw_RX8_62 : hh_NW RX8 62 0 4 := ⟨_, _, tyX0, rfl, lay_X0, hh_at 233 (by decide +kernel) (by decide +kernel), hh_at 234 (by decide +kernel) (by decide +kernel), hh_at 46 (by decide +kernel) (by decide +kernel), tyok_X0, dfl_X0⟩
theorem cw_X0_init : Cond.code yX0_init cX0_init 1 none ∈ hh_T := hh_at 237 (by decide +kernel) (by decide +kernel)
theorem cs_RX8_64 : hh_CS RX8 64 yX0_init cX0_init 1 none 0 [.instanceMethod yX0_init] := ⟨cw_X0_init, hh_at 235 (by decide +kernel) (by decide +kernel), hh_at 46 (by decide +kernel) (by decide +kernel), hh_all1 (hh_at 236 (by decide +kernel) (by decide +kernel)), by decide +kernel⟩
theorem fl_RX8_65 : hh_FL RX8 65 8 8 (.object "IndexBuilder$Answer") true := ⟨_, _, _, tyX8, "IndexBuilder", rfl, by decide, lay_X8, ⟨hh_at 261 (by decide +kernel) (by decide +kernel), Or.inl rfl⟩, rfl, by decide +kernel, tyok_X8, nmok_X8⟩
def mc_IB_count : Nat := 0
def ms_IB_count : Nat := 0
def rm_IB_count : Room := { frames := 2, cells := 0, slots := 0, locals := 40 }
abbrev ok_IB_count (X : hh_X) (B e0 : Nat) : Prop := hh_ok X B e0 cX8_count RX8 2 (some .int) "count" rm_IB_count
set_option maxRecDepth 100000 in
set_option maxHeartbeats 4000000 in
theorem w_IB_count {X : hh_X} {B e0 : Nat} {rr : Int32 × hh_H} (C : ok_IB_count X B e0) (E : hh_End X B e0 (.returned (some (.int rr.1))) rr.2 mc_IB_count ms_IB_count) (F : Nat) (a0 : Nat) (x1 : Int32) (h : hh_H)
    (hf : f_IB_count F a0 x1 h = some rr) : hh_W X 0 0 0 [(0, .ref (hh_ad B e0 a0)), (1, .int x1)] [] h := by
  unfold f_IB_count at hf
  refine r_iload_n C dX8_count_0 rfl 1 rfl ?_
  by_cases c1 : x1 = 0
  · rw [if_pos c1] at hf
    refine r_tsIn C dX8_count_1 c1 (tgt := 56) (by decide) (by decide) rfl (by decide) ?_
    refine r_aload_n C dX8_count_56 rfl 0 rfl ?_
    obtain ⟨v2, e3, hf⟩ := hp_bind hf
    refine r_getA C dX8_count_57 fl_RX8_27 e3 ?_
    obtain ⟨_, e7, hf⟩ := hp_bind hf
    obtain ⟨g8, e7⟩ := hp_is_of e7
    obtain ⟨q4, h5, e6, hf⟩ := hp_cbe hf
    refine r_callV C dX8_count_60 cs_RX8_85 rfl e7 (c_Documents_size B e0 F v2 h _ e6) rfl rfl rfl ⟨by decide, by decide⟩ ⟨by decide, by decide⟩ (Nat.le_of_ble_eq_true rfl) rfl ?_
    exact r_ireturn C E dX8_count_63 (by decide) (by decide) hf
  rw [if_neg c1] at hf
  by_cases c9 : x1 = 1
  · rw [if_pos c9] at hf
    refine r_tsIn C dX8_count_1 c9 (tgt := 64) (by decide) (by decide) rfl (by decide) ?_
    refine r_aload_n C dX8_count_64 rfl 0 rfl ?_
    obtain ⟨v10, e11, hf⟩ := hp_bind hf
    refine r_getA C dX8_count_65 fl_RX8_27 e11 ?_
    obtain ⟨_, e15, hf⟩ := hp_bind hf
    obtain ⟨g16, e15⟩ := hp_is_of e15
    obtain ⟨q12, h13, e14, hf⟩ := hp_cbe hf
    refine r_callV C dX8_count_68 cs_RX8_121 rfl e15 (c_Documents_live B e0 F v10 h _ e14) rfl rfl rfl ⟨by decide, by decide⟩ ⟨by decide, by decide⟩ (Nat.le_of_ble_eq_true rfl) rfl ?_
    exact r_ireturn C E dX8_count_71 (by decide) (by decide) hf
  rw [if_neg c9] at hf
  by_cases c17 : x1 = 2
  · rw [if_pos c17] at hf
    refine r_tsIn C dX8_count_1 c17 (tgt := 72) (by decide) (by decide) rfl (by decide) ?_
    refine r_aload_n C dX8_count_72 rfl 0 rfl ?_
    obtain ⟨v18, e19, hf⟩ := hp_bind hf
    refine r_getA C dX8_count_73 fl_RX8_36 e19 ?_
    obtain ⟨_, e23, hf⟩ := hp_bind hf
    obtain ⟨g24, e23⟩ := hp_is_of e23
    obtain ⟨q20, h21, e22, hf⟩ := hp_cbe hf
    refine r_callV C dX8_count_76 cs_RX8_91 rfl e23 (c_Postings_size B e0 F v18 h _ e22) rfl rfl rfl ⟨by decide, by decide⟩ ⟨by decide, by decide⟩ (Nat.le_of_ble_eq_true rfl) rfl ?_
    exact r_ireturn C E dX8_count_79 (by decide) (by decide) hf
  rw [if_neg c17] at hf
  by_cases c25 : x1 = 3
  · rw [if_pos c25] at hf
    refine r_tsIn C dX8_count_1 c25 (tgt := 80) (by decide) (by decide) rfl (by decide) ?_
    refine r_aload_n C dX8_count_80 rfl 0 rfl ?_
    obtain ⟨v26, e27, hf⟩ := hp_bind hf
    refine r_getA C dX8_count_81 fl_RX8_48 e27 ?_
    obtain ⟨_, e31, hf⟩ := hp_bind hf
    obtain ⟨g32, e31⟩ := hp_is_of e31
    obtain ⟨q28, h29, e30, hf⟩ := hp_cbe hf
    refine r_callV C dX8_count_84 cs_RX8_124 rfl e31 (c_RunRow_size B e0 F v26 h _ e30) rfl rfl rfl ⟨by decide, by decide⟩ ⟨by decide, by decide⟩ (Nat.le_of_ble_eq_true rfl) rfl ?_
    exact r_ireturn C E dX8_count_87 (by decide) (by decide) hf
  rw [if_neg c25] at hf
  by_cases c33 : x1 = 4
  · rw [if_pos c33] at hf
    refine r_tsIn C dX8_count_1 c33 (tgt := 88) (by decide) (by decide) rfl (by decide) ?_
    refine r_aload_n C dX8_count_88 rfl 0 rfl ?_
    obtain ⟨v34, e35, hf⟩ := hp_bind hf
    refine r_getA C dX8_count_89 fl_RX8_48 e35 ?_
    obtain ⟨_, e39, hf⟩ := hp_bind hf
    obtain ⟨g40, e39⟩ := hp_is_of e39
    obtain ⟨q36, h37, e38, hf⟩ := hp_cbe hf
    refine r_callV C dX8_count_92 cs_RX8_199 rfl e39 (c_RunRow_freeBlocks B e0 F v34 h _ e38) rfl rfl rfl ⟨by decide, by decide⟩ ⟨by decide, by decide⟩ (Nat.le_of_ble_eq_true rfl) rfl ?_
    exact r_ireturn C E dX8_count_95 (by decide) (by decide) hf
  rw [if_neg c33] at hf
  by_cases c41 : x1 = 5
  · rw [if_pos c41] at hf
    refine r_tsIn C dX8_count_1 c41 (tgt := 96) (by decide) (by decide) rfl (by decide) ?_
    refine r_aload_n C dX8_count_96 rfl 0 rfl ?_
    obtain ⟨v42, e43, hf⟩ := hp_bind hf
    refine r_getA C dX8_count_97 fl_RX8_48 e43 ?_
    obtain ⟨_, e47, hf⟩ := hp_bind hf
    obtain ⟨g48, e47⟩ := hp_is_of e47
    obtain ⟨q44, h45, e46, hf⟩ := hp_cbe hf
    refine r_callV C dX8_count_100 cs_RX8_202 rfl e47 (c_RunRow_blocksRead B e0 F v42 h _ e46) rfl rfl rfl ⟨by decide, by decide⟩ ⟨by decide, by decide⟩ (Nat.le_of_ble_eq_true rfl) rfl ?_
    exact r_ireturn C E dX8_count_103 (by decide) (by decide) hf
  rw [if_neg c41] at hf
  by_cases c49 : x1 = 6
  · rw [if_pos c49] at hf
    refine r_tsIn C dX8_count_1 c49 (tgt := 104) (by decide) (by decide) rfl (by decide) ?_
    refine r_aload_n C dX8_count_104 rfl 0 rfl ?_
    obtain ⟨v50, e51, hf⟩ := hp_bind hf
    refine r_getA C dX8_count_105 fl_RX8_48 e51 ?_
    obtain ⟨_, e55, hf⟩ := hp_bind hf
    obtain ⟨g56, e55⟩ := hp_is_of e55
    obtain ⟨q52, h53, e54, hf⟩ := hp_cbe hf
    refine r_callV C dX8_count_108 cs_RX8_205 rfl e55 (c_RunRow_blocksWritten B e0 F v50 h _ e54) rfl rfl rfl ⟨by decide, by decide⟩ ⟨by decide, by decide⟩ (Nat.le_of_ble_eq_true rfl) rfl ?_
    exact r_ireturn C E dX8_count_111 (by decide) (by decide) hf
  rw [if_neg c49] at hf
  by_cases c57 : x1 = 7
  · rw [if_pos c57] at hf
    refine r_tsIn C dX8_count_1 c57 (tgt := 112) (by decide) (by decide) rfl (by decide) ?_
    refine r_aload_n C dX8_count_112 rfl 0 rfl ?_
    obtain ⟨v58, e59, hf⟩ := hp_bind hf
    refine r_getA C dX8_count_113 fl_RX8_48 e59 ?_
    obtain ⟨_, e63, hf⟩ := hp_bind hf
    obtain ⟨g64, e63⟩ := hp_is_of e63
    obtain ⟨q60, h61, e62, hf⟩ := hp_cbe hf
    refine r_callV C dX8_count_116 cs_RX8_208 rfl e63 (c_RunRow_mergesDone B e0 F v58 h _ e62) rfl rfl rfl ⟨by decide, by decide⟩ ⟨by decide, by decide⟩ (Nat.le_of_ble_eq_true rfl) rfl ?_
    exact r_ireturn C E dX8_count_119 (by decide) (by decide) hf
  rw [if_neg c57] at hf
  by_cases c65 : x1 = 8
  · rw [if_pos c65] at hf
    refine r_tsIn C dX8_count_1 c65 (tgt := 120) (by decide) (by decide) rfl (by decide) ?_
    refine r_aload_n C dX8_count_120 rfl 0 rfl ?_
    obtain ⟨v66, e67, hf⟩ := hp_bind hf
    refine r_getA C dX8_count_121 fl_RX8_48 e67 ?_
    obtain ⟨_, e71, hf⟩ := hp_bind hf
    obtain ⟨g72, e71⟩ := hp_is_of e71
    obtain ⟨q68, h69, e70, hf⟩ := hp_cbe hf
    refine r_callV C dX8_count_124 cs_RX8_211 rfl e71 (c_RunRow_mergesWithoutRoom B e0 F v66 h _ e70) rfl rfl rfl ⟨by decide, by decide⟩ ⟨by decide, by decide⟩ (Nat.le_of_ble_eq_true rfl) rfl ?_
    exact r_ireturn C E dX8_count_127 (by decide) (by decide) hf
  rw [if_neg c65] at hf
  by_cases c73 : x1 = 9
  · rw [if_pos c73] at hf
    refine r_tsIn C dX8_count_1 c73 (tgt := 128) (by decide) (by decide) rfl (by decide) ?_
    refine r_aload_n C dX8_count_128 rfl 0 rfl ?_
    obtain ⟨v74, e75, hf⟩ := hp_bind hf
    refine r_getI C dX8_count_129 fl_RX8_21 e75 ?_
    exact r_ireturn C E dX8_count_132 (by decide) (by decide) hf
  rw [if_neg c73] at hf
  refine r_tsOut C dX8_count_1 (tgt := 133) (by have qc1 := lv_neT c1 (a := 0) (by decide); have qc9 := lv_neT c9 (a := 1) (by decide); have qc17 := lv_neT c17 (a := 2) (by decide); have qc25 := lv_neT c25 (a := 3) (by decide); have qc33 := lv_neT c33 (a := 4) (by decide); have qc41 := lv_neT c41 (a := 5) (by decide); have qc49 := lv_neT c49 (a := 6) (by decide); have qc57 := lv_neT c57 (a := 7) (by decide); have qc65 := lv_neT c65 (a := 8) (by decide); have qc73 := lv_neT c73 (a := 9) (by decide); omega) (by decide) ?_
  refine r_iconst C dX8_count_133 (v := (-1)) (by decide) ?_
  exact r_ireturn C E dX8_count_134 (by decide) (by decide) hf
theorem c_IB_count (B e0 F : Nat) (a0 : Nat) (x1 : Int32) (h : hh_H) (rr : Int32 × hh_H) (hf : f_IB_count F a0 x1 h = some rr) : hh_Met yX8_count cX8_count 2 (some .int) rm_IB_count mc_IB_count ms_IB_count B e0 [.ref (hh_ad B e0 a0), .int x1] h (.returned (some (.int rr.1))) rr.2 :=
  hh_met (by decide) (Nat.le_of_ble_eq_true rfl) fun X C E => hh_pick [0, 1] rfl (w_IB_count C E F a0 x1 h hf)
def mc_IB_clamp : Nat := 0
def ms_IB_clamp : Nat := 0
def rm_IB_clamp : Room := { frames := 1, cells := 0, slots := 0, locals := 21 }
abbrev ok_IB_clamp (X : hh_X) (B e0 : Nat) : Prop := hh_ok X B e0 cX8_clamp RX8 3 (some .int) "clamp" rm_IB_clamp
set_option maxRecDepth 100000 in
set_option maxHeartbeats 4000000 in
theorem w_IB_clamp {X : hh_X} {B e0 : Nat} {rr : Int32 × hh_H} (C : ok_IB_clamp X B e0) (E : hh_End X B e0 (.returned (some (.int rr.1))) rr.2 mc_IB_clamp ms_IB_clamp) (F : Nat) (x0 : Int32) (x1 : Int32) (x2 : Int32) (h : hh_H)
    (hf : f_IB_clamp F x0 x1 x2 h = some rr) : hh_W X 0 0 0 [(0, .int x0), (1, .int x1), (2, .int x2)] [] h := by
  unfold f_IB_clamp at hf
  refine r_iload_n C dX8_clamp_0 rfl 1 rfl ?_
  refine r_iload_n C dX8_clamp_1 rfl 2 rfl ?_
  refine r_iload_n C dX8_clamp_2 rfl 0 rfl ?_
  refine r_mmin C dX8_clamp_3 mm_RX8_214 (by decide) (Nat.le_of_ble_eq_true rfl) (by decide) (by decide) ?_
  refine r_mmax C dX8_clamp_6 mm_RX8_219 (by decide) (Nat.le_of_ble_eq_true rfl) (by decide) (by decide) ?_
  exact r_ireturn C E dX8_clamp_9 (by decide) (by decide) hf
theorem c_IB_clamp (B e0 F : Nat) (x0 : Int32) (x1 : Int32) (x2 : Int32) (h : hh_H) (rr : Int32 × hh_H) (hf : f_IB_clamp F x0 x1 x2 h = some rr) : hh_Met yX8_clamp cX8_clamp 3 (some .int) rm_IB_clamp mc_IB_clamp ms_IB_clamp B e0 [.int x0, .int x1, .int x2] h (.returned (some (.int rr.1))) rr.2 :=
  hh_met (by decide) (Nat.le_of_ble_eq_true rfl) fun X C E => hh_pick [0, 1, 2] rfl (w_IB_clamp C E F x0 x1 x2 h hf)
def mc_IB_isWord : Nat := 0
def ms_IB_isWord : Nat := 0
def rm_IB_isWord : Room := { frames := 0, cells := 0, slots := 0, locals := 0 }
abbrev ok_IB_isWord (X : hh_X) (B e0 : Nat) : Prop := hh_ok X B e0 cX8_isWord RX8 1 (some .boolean) "isWord" rm_IB_isWord
set_option maxRecDepth 100000 in
set_option maxHeartbeats 4000000 in
theorem w_IB_isWord {X : hh_X} {B e0 : Nat} {rr : Int32 × hh_H} (C : ok_IB_isWord X B e0) (E : hh_End X B e0 (.returned (some (.int rr.1))) rr.2 mc_IB_isWord ms_IB_isWord) (F : Nat) (x0 : Int32) (h : hh_H)
    (hf : f_IB_isWord F x0 h = some rr) : hh_W X 0 0 0 [(0, .int x0)] [] h := by
  unfold f_IB_isWord at hf
  refine r_iload_n C dX8_isWord_0 rfl 0 rfl ?_
  refine r_if_lt C dX8_isWord_1 (tgt := 14) (by decide) (fun c1 => ?_) (fun c1 => ?_)
  · rw [if_pos c1] at hf
    refine r_iconst C dX8_isWord_14 (v := 0) (by decide) ?_
    exact r_ireturnz C E dX8_isWord_15 rfl (by decide) (by decide) hf
  · rw [if_neg c1] at hf
    refine r_iload_n C dX8_isWord_4 rfl 0 rfl ?_
    refine r_bipush C dX8_isWord_5 (v := 100) (by decide) ?_
    refine r_icmp_ge C dX8_isWord_7 (tgt := 14) (by decide) (fun c2 => ?_) (fun c2 => ?_)
    · rw [if_pos c2] at hf
      refine r_iconst C dX8_isWord_14 (v := 0) (by decide) ?_
      exact r_ireturnz C E dX8_isWord_15 rfl (by decide) (by decide) hf
    · rw [if_neg c2] at hf
      refine r_iconst C dX8_isWord_10 (v := 1) (by decide) ?_
      refine r_goto C dX8_isWord_11 (tgt := 15) (by decide) ?_
      exact r_ireturnz C E dX8_isWord_15 rfl (by decide) (by decide) hf
theorem c_IB_isWord (B e0 F : Nat) (x0 : Int32) (h : hh_H) (rr : Int32 × hh_H) (hf : f_IB_isWord F x0 h = some rr) : hh_Met yX8_isWord cX8_isWord 1 (some .boolean) rm_IB_isWord mc_IB_isWord ms_IB_isWord B e0 [.int x0] h (.returned (some (.int rr.1))) rr.2 :=
  hh_met (by decide) (Nat.le_of_ble_eq_true rfl) fun X C E => hh_pick [0] rfl (w_IB_isWord C E F x0 h hf)
def mc_IB_flushBuffer : Nat := 186
def ms_IB_flushBuffer : Nat := 8866
def rm_IB_flushBuffer : Room := { frames := 9, cells := 186, slots := 8866, locals := 228 }
abbrev ok_IB_flushBuffer (X : hh_X) (B e0 : Nat) : Prop := hh_ok X B e0 cX8_flushBuffer RX8 1 (some .boolean) "flushBuffer" rm_IB_flushBuffer
set_option maxRecDepth 100000 in
set_option maxHeartbeats 4000000 in
theorem w_IB_flushBuffer {X : hh_X} {B e0 : Nat} {rr : Int32 × hh_H} (C : ok_IB_flushBuffer X B e0) (E : hh_End X B e0 (.returned (some (.int rr.1))) rr.2 mc_IB_flushBuffer ms_IB_flushBuffer) (F : Nat) (a0 : Nat) (h : hh_H)
    (hf : f_IB_flushBuffer F a0 h = some rr) : hh_W X 0 0 0 [(0, .ref (hh_ad B e0 a0))] [] h := by
  unfold f_IB_flushBuffer at hf
  refine r_aload_n C dX8_flushBuffer_0 rfl 0 rfl ?_
  obtain ⟨v1, e2, hf⟩ := hp_bind hf
  refine r_getA C dX8_flushBuffer_1 fl_RX8_36 e2 ?_
  obtain ⟨_, e6, hf⟩ := hp_bind hf
  obtain ⟨g7, e6⟩ := hp_is_of e6
  obtain ⟨q3, h4, e5, hf⟩ := hp_cbe hf
  refine r_callV C dX8_flushBuffer_4 cs_RX8_91 rfl e6 (c_Postings_size B e0 F v1 h _ e5) rfl rfl rfl ⟨by decide, by decide⟩ ⟨by decide, by decide⟩ (Nat.le_of_ble_eq_true rfl) rfl ?_
  refine r_if_ne C dX8_flushBuffer_7 (tgt := 12) (by decide) (fun c8 => ?_) (fun c8 => ?_)
  · rw [if_neg c8] at hf
    refine r_aload_n C dX8_flushBuffer_12 rfl 0 rfl ?_
    obtain ⟨v9, e10, hf⟩ := hp_bind hf
    refine r_getA C dX8_flushBuffer_13 fl_RX8_48 e10 ?_
    refine r_aload_n C dX8_flushBuffer_16 rfl 0 rfl ?_
    obtain ⟨v11, e12, hf⟩ := hp_bind hf
    refine r_getA C dX8_flushBuffer_17 fl_RX8_36 e12 ?_
    obtain ⟨_, e16, hf⟩ := hp_bind hf
    obtain ⟨g17, e16⟩ := hp_is_of e16
    obtain ⟨q13, h14, e15, hf⟩ := hp_cbe hf
    refine r_callV C dX8_flushBuffer_20 cs_RX8_222 rfl e16 (c_RunRow_append B e0 F v9 v11 h4 _ e15) rfl rfl rfl ⟨by decide, by decide⟩ ⟨by decide, by decide⟩ (Nat.le_of_ble_eq_true rfl) rfl ?_
    refine r_if_ne C dX8_flushBuffer_23 (tgt := 28) (by decide) (fun c18 => ?_) (fun c18 => ?_)
    · rw [if_neg c18] at hf
      refine r_aload_n C dX8_flushBuffer_28 rfl 0 rfl ?_
      obtain ⟨v19, e20, hf⟩ := hp_bind hf
      refine r_getA C dX8_flushBuffer_29 fl_RX8_36 e20 ?_
      obtain ⟨_, e24, hf⟩ := hp_bind hf
      obtain ⟨g25, e24⟩ := hp_is_of e24
      obtain ⟨q21, h22, e23, hf⟩ := hp_cbe hf
      refine r_callV C dX8_flushBuffer_32 cs_RX8_226 rfl e24 (c_Postings_clear B e0 F v19 h14 _ e23) rfl rfl rfl ⟨by decide, by decide⟩ ⟨by decide, by decide⟩ (Nat.le_of_ble_eq_true rfl) rfl ?_
      refine r_aload_n C dX8_flushBuffer_35 rfl 0 rfl ?_
      obtain ⟨v26, e27, hf⟩ := hp_bind hf
      refine r_getA C dX8_flushBuffer_36 fl_RX8_48 e27 ?_
      obtain ⟨_, e31, hf⟩ := hp_bind hf
      obtain ⟨g32, e31⟩ := hp_is_of e31
      obtain ⟨q28, h29, e30, hf⟩ := hp_cbe hf
      refine r_callV C dX8_flushBuffer_39 cs_RX8_229 rfl e31 (c_RunRow_mergeFullLevels B e0 F v26 h22 _ e30) rfl rfl rfl ⟨by decide, by decide⟩ ⟨by decide, by decide⟩ (Nat.le_of_ble_eq_true rfl) rfl ?_
      refine r_iconst C dX8_flushBuffer_42 (v := 1) (by decide) ?_
      exact r_ireturnz C E dX8_flushBuffer_43 rfl (by decide) (by decide) hf
    · rw [if_pos c18] at hf
      refine r_iconst C dX8_flushBuffer_26 (v := 0) (by decide) ?_
      exact r_ireturnz C E dX8_flushBuffer_27 rfl (by decide) (by decide) hf
  · rw [if_pos c8] at hf
    refine r_iconst C dX8_flushBuffer_10 (v := 1) (by decide) ?_
    exact r_ireturnz C E dX8_flushBuffer_11 rfl (by decide) (by decide) hf
theorem c_IB_flushBuffer (B e0 F : Nat) (a0 : Nat) (h : hh_H) (rr : Int32 × hh_H) (hf : f_IB_flushBuffer F a0 h = some rr) : hh_Met yX8_flushBuffer cX8_flushBuffer 1 (some .boolean) rm_IB_flushBuffer mc_IB_flushBuffer ms_IB_flushBuffer B e0 [.ref (hh_ad B e0 a0)] h (.returned (some (.int rr.1))) rr.2 :=
  hh_met (by decide) (Nat.le_of_ble_eq_true rfl) fun X C E => hh_pick [0] rfl (w_IB_flushBuffer C E F a0 h hf)
def mc_IB_lookUp : Nat := 0
def ms_IB_lookUp : Nat := 0
def rm_IB_lookUp : Room := { frames := 4, cells := 0, slots := 0, locals := 96 }
abbrev ok_IB_lookUp (X : hh_X) (B e0 : Nat) : Prop := hh_ok X B e0 cX8_lookUp RX8 3 none "lookUp" rm_IB_lookUp
set_option maxRecDepth 100000 in
set_option maxHeartbeats 4000000 in
theorem w_IB_lookUp {X : hh_X} {B e0 : Nat} {rr : Unit × hh_H} (C : ok_IB_lookUp X B e0) (E : hh_End X B e0 (.returned none) rr.2 mc_IB_lookUp ms_IB_lookUp) (F : Nat) (a0 : Nat) (x1 : Int32) (x2 : Int32) (h : hh_H)
    (hf : f_IB_lookUp F a0 x1 x2 h = some rr) : hh_W X 0 0 0 [(0, .ref (hh_ad B e0 a0)), (1, .int x1), (2, .int x2)] [] h := by
  unfold f_IB_lookUp at hf
  refine r_aload_n C dX8_lookUp_0 rfl 0 rfl ?_
  obtain ⟨v1, e2, hf⟩ := hp_bind hf
  refine r_getA C dX8_lookUp_1 fl_RX8_55 e2 ?_
  refine r_iload_n C dX8_lookUp_4 rfl 1 rfl ?_
  obtain ⟨_, e6, hf⟩ := hp_bind hf
  obtain ⟨g7, e6⟩ := hp_is_of e6
  obtain ⟨q3, h4, e5, hf⟩ := hp_cbe hf
  refine r_callV C dX8_lookUp_5 cs_RX8_232 rfl e6 (c_Places_begin B e0 F v1 x1 h _ e5) rfl rfl rfl ⟨by decide, by decide⟩ ⟨by decide, by decide⟩ (Nat.le_of_ble_eq_true rfl) rfl ?_
  refine r_aload_n C dX8_lookUp_8 rfl 0 rfl ?_
  obtain ⟨v8, e9, hf⟩ := hp_bind hf
  refine r_getA C dX8_lookUp_9 fl_RX8_59 e9 ?_
  refine r_iload_n C dX8_lookUp_12 rfl 2 rfl ?_
  obtain ⟨_, e13, hf⟩ := hp_bind hf
  obtain ⟨g14, e13⟩ := hp_is_of e13
  obtain ⟨q10, h11, e12, hf⟩ := hp_cbe hf
  refine r_callV C dX8_lookUp_13 cs_RX8_232 rfl e13 (c_Places_begin B e0 F v8 x2 h4 _ e12) rfl rfl rfl ⟨by decide, by decide⟩ ⟨by decide, by decide⟩ (Nat.le_of_ble_eq_true rfl) rfl ?_
  refine r_aload_n C dX8_lookUp_16 rfl 0 rfl ?_
  obtain ⟨v15, e16, hf⟩ := hp_bind hf
  refine r_getA C dX8_lookUp_17 fl_RX8_48 e16 ?_
  refine r_aload_n C dX8_lookUp_20 rfl 0 rfl ?_
  obtain ⟨v17, e18, hf⟩ := hp_bind hf
  refine r_getA C dX8_lookUp_21 fl_RX8_55 e18 ?_
  refine r_aload_n C dX8_lookUp_24 rfl 0 rfl ?_
  obtain ⟨v19, e20, hf⟩ := hp_bind hf
  refine r_getA C dX8_lookUp_25 fl_RX8_59 e20 ?_
  obtain ⟨_, e24, hf⟩ := hp_bind hf
  obtain ⟨g25, e24⟩ := hp_is_of e24
  obtain ⟨q21, h22, e23, hf⟩ := hp_cbe hf
  refine r_callV C dX8_lookUp_28 cs_RX8_234 rfl e24 (c_RunRow_readAll B e0 F v15 v17 v19 h11 _ e23) rfl rfl rfl ⟨by decide, by decide⟩ ⟨by decide, by decide⟩ (Nat.le_of_ble_eq_true rfl) rfl ?_
  refine r_aload_n C dX8_lookUp_31 rfl 0 rfl ?_
  obtain ⟨v26, e27, hf⟩ := hp_bind hf
  refine r_getA C dX8_lookUp_32 fl_RX8_55 e27 ?_
  refine r_aload_n C dX8_lookUp_35 rfl 0 rfl ?_
  obtain ⟨v28, e29, hf⟩ := hp_bind hf
  refine r_getA C dX8_lookUp_36 fl_RX8_36 e29 ?_
  refine r_aload_n C dX8_lookUp_39 rfl 0 rfl ?_
  obtain ⟨v30, e31, hf⟩ := hp_bind hf
  refine r_getA C dX8_lookUp_40 fl_RX8_27 e31 ?_
  obtain ⟨_, e35, hf⟩ := hp_bind hf
  obtain ⟨g36, e35⟩ := hp_is_of e35
  obtain ⟨q32, h33, e34, hf⟩ := hp_cbe hf
  refine r_callV C dX8_lookUp_43 cs_RX8_238 rfl e35 (c_Places_take B e0 F v26 v28 v30 h22 _ e34) rfl rfl rfl ⟨by decide, by decide⟩ ⟨by decide, by decide⟩ (Nat.le_of_ble_eq_true rfl) rfl ?_
  refine r_aload_n C dX8_lookUp_46 rfl 0 rfl ?_
  obtain ⟨v37, e38, hf⟩ := hp_bind hf
  refine r_getA C dX8_lookUp_47 fl_RX8_59 e38 ?_
  refine r_aload_n C dX8_lookUp_50 rfl 0 rfl ?_
  obtain ⟨v39, e40, hf⟩ := hp_bind hf
  refine r_getA C dX8_lookUp_51 fl_RX8_36 e40 ?_
  refine r_aload_n C dX8_lookUp_54 rfl 0 rfl ?_
  obtain ⟨v41, e42, hf⟩ := hp_bind hf
  refine r_getA C dX8_lookUp_55 fl_RX8_27 e42 ?_
  obtain ⟨_, e46, hf⟩ := hp_bind hf
  obtain ⟨g47, e46⟩ := hp_is_of e46
  obtain ⟨q43, h44, e45, hf⟩ := hp_cbe hf
  refine r_callV C dX8_lookUp_58 cs_RX8_238 rfl e46 (c_Places_take B e0 F v37 v39 v41 h33 _ e45) rfl rfl rfl ⟨by decide, by decide⟩ ⟨by decide, by decide⟩ (Nat.le_of_ble_eq_true rfl) rfl ?_
  exact r_return C E dX8_lookUp_61 (by decide) (by decide) hf
theorem c_IB_lookUp (B e0 F : Nat) (a0 : Nat) (x1 : Int32) (x2 : Int32) (h : hh_H) (rr : Unit × hh_H) (hf : f_IB_lookUp F a0 x1 x2 h = some rr) : hh_Met yX8_lookUp cX8_lookUp 3 none rm_IB_lookUp mc_IB_lookUp ms_IB_lookUp B e0 [.ref (hh_ad B e0 a0), .int x1, .int x2] h (.returned none) rr.2 :=
  hh_met (by decide) (Nat.le_of_ble_eq_true rfl) fun X C E => hh_pick [0, 1, 2] rfl (w_IB_lookUp C E F a0 x1 x2 h hf)
def mc_IB_fits : Nat := 0
def ms_IB_fits : Nat := 0
def rm_IB_fits : Room := { frames := 1, cells := 0, slots := 0, locals := 21 }
abbrev ok_IB_fits (X : hh_X) (B e0 : Nat) : Prop := hh_ok X B e0 cX8_fits RX8 5 (some .boolean) "fits" rm_IB_fits
set_option maxRecDepth 100000 in
set_option maxHeartbeats 4000000 in
theorem w_IB_fits {X : hh_X} {B e0 : Nat} {rr : Int32 × hh_H} (C : ok_IB_fits X B e0) (E : hh_End X B e0 (.returned (some (.int rr.1))) rr.2 mc_IB_fits ms_IB_fits) (F : Nat) (a0 : Nat) (x1 : Int32) (x2 : Int32) (h : hh_H)
    (hf : f_IB_fits F a0 x1 x2 h = some rr) : hh_W X 0 0 0 [(0, .ref (hh_ad B e0 a0)), (1, .int x1), (2, .int x2)] [] h := by
  unfold f_IB_fits at hf
  refine r_aload_n C dX8_fits_0 rfl 0 rfl ?_
  obtain ⟨v1, e2, hf⟩ := hp_bind hf
  refine r_getA C dX8_fits_1 fl_RX8_55 e2 ?_
  refine r_iload_n C dX8_fits_4 rfl 1 rfl ?_
  obtain ⟨_, e6, hf⟩ := hp_bind hf
  obtain ⟨g7, e6⟩ := hp_is_of e6
  obtain ⟨q3, h4, e5, hf⟩ := hp_cbe hf
  refine r_callV C dX8_fits_5 cs_RX8_242 rfl e6 (c_Places_bitsOf B e0 F v1 x1 h _ e5) rfl rfl rfl ⟨by decide, by decide⟩ ⟨by decide, by decide⟩ (Nat.le_of_ble_eq_true rfl) rfl ?_
  refine r_istore_n (lv' := [(3, .int q3), (0, .ref (hh_ad B e0 a0)), (1, .int x1), (2, .int x2)]) C dX8_fits_8 rfl (by decide) rfl ?_
  refine r_aload_n C dX8_fits_9 rfl 1 rfl ?_
  obtain ⟨v8, e9, hf⟩ := hp_bind hf
  refine r_getA C dX8_fits_10 fl_RX8_59 e9 ?_
  refine r_iload_n C dX8_fits_13 rfl 2 rfl ?_
  obtain ⟨_, e13, hf⟩ := hp_bind hf
  obtain ⟨g14, e13⟩ := hp_is_of e13
  obtain ⟨q10, h11, e12, hf⟩ := hp_cbe hf
  refine r_callV C dX8_fits_14 cs_RX8_242 rfl e13 (c_Places_bitsOf B e0 F v8 x1 h4 _ e12) rfl rfl rfl ⟨by decide, by decide⟩ ⟨by decide, by decide⟩ (Nat.le_of_ble_eq_true rfl) rfl ?_
  refine r_istore (lv' := [(4, .int q10), (3, .int q3), (0, .ref (hh_ad B e0 a0)), (1, .int x1), (2, .int x2)]) C dX8_fits_17 (by decide) rfl ?_
  refine r_iload_n C dX8_fits_19 rfl 4 rfl ?_
  by_cases c15 : x2 = 0
  · rw [if_pos c15] at hf
    refine r_tsIn C dX8_fits_20 c15 (tgt := 52) (by decide) (by decide) rfl (by decide) ?_
    refine r_iload_n C dX8_fits_52 rfl 1 rfl ?_
    refine r_if_eq C dX8_fits_53 (tgt := 65) (by decide) (fun c16 => ?_) (fun c16 => ?_)
    · rw [if_pos c16] at hf
      refine r_iconst C dX8_fits_65 (v := 0) (by decide) ?_
      exact r_ireturnz C E dX8_fits_66 rfl (by decide) (by decide) hf
    · rw [if_neg c16] at hf
      refine r_iload C dX8_fits_56 0 rfl ?_
      refine r_if_eq C dX8_fits_58 (tgt := 65) (by decide) (fun c17 => ?_) (fun c17 => ?_)
      · rw [if_pos c17] at hf
        refine r_iconst C dX8_fits_65 (v := 0) (by decide) ?_
        exact r_ireturnz C E dX8_fits_66 rfl (by decide) (by decide) hf
      · rw [if_neg c17] at hf
        refine r_iconst C dX8_fits_61 (v := 1) (by decide) ?_
        refine r_goto C dX8_fits_62 (tgt := 66) (by decide) ?_
        exact r_ireturnz C E dX8_fits_66 rfl (by decide) (by decide) hf
  rw [if_neg c15] at hf
  by_cases c18 : x2 = 1
  · rw [if_pos c18] at hf
    refine r_tsIn C dX8_fits_20 c18 (tgt := 67) (by decide) (by decide) rfl (by decide) ?_
    refine r_iload_n C dX8_fits_67 rfl 1 rfl ?_
    refine r_if_ne C dX8_fits_68 (tgt := 76) (by decide) (fun c19 => ?_) (fun c19 => ?_)
    · rw [if_neg c19] at hf
      refine r_iconst C dX8_fits_76 (v := 1) (by decide) ?_
      refine r_goto C dX8_fits_77 (tgt := 81) (by decide) ?_
      exact r_ireturnz C E dX8_fits_81 rfl (by decide) (by decide) hf
    · rw [if_pos c19] at hf
      refine r_iload C dX8_fits_71 0 rfl ?_
      refine r_if_eq C dX8_fits_73 (tgt := 80) (by decide) (fun c20 => ?_) (fun c20 => ?_)
      · rw [if_pos c20] at hf
        refine r_iconst C dX8_fits_80 (v := 0) (by decide) ?_
        exact r_ireturnz C E dX8_fits_81 rfl (by decide) (by decide) hf
      · rw [if_neg c20] at hf
        refine r_iconst C dX8_fits_76 (v := 1) (by decide) ?_
        refine r_goto C dX8_fits_77 (tgt := 81) (by decide) ?_
        exact r_ireturnz C E dX8_fits_81 rfl (by decide) (by decide) hf
  rw [if_neg c18] at hf
  by_cases c21 : x2 = 2
  · rw [if_pos c21] at hf
    refine r_tsIn C dX8_fits_20 c21 (tgt := 82) (by decide) (by decide) rfl (by decide) ?_
    refine r_iload_n C dX8_fits_82 rfl 1 rfl ?_
    refine r_iconst C dX8_fits_83 (v := 1) (by decide) ?_
    refine r_ishl C dX8_fits_84 ?_
    refine r_iload C dX8_fits_85 0 rfl ?_
    refine r_iand C dX8_fits_87 ?_
    refine r_if_eq C dX8_fits_88 (tgt := 95) (by decide) (fun c22 => ?_) (fun c22 => ?_)
    · rw [if_pos c22] at hf
      refine r_iconst C dX8_fits_95 (v := 0) (by decide) ?_
      exact r_ireturnz C E dX8_fits_96 rfl (by decide) (by decide) hf
    · rw [if_neg c22] at hf
      refine r_iconst C dX8_fits_91 (v := 1) (by decide) ?_
      refine r_goto C dX8_fits_92 (tgt := 96) (by decide) ?_
      exact r_ireturnz C E dX8_fits_96 rfl (by decide) (by decide) hf
  rw [if_neg c21] at hf
  by_cases c23 : x2 = 3
  · rw [if_pos c23] at hf
    refine r_tsIn C dX8_fits_20 c23 (tgt := 97) (by decide) (by decide) rfl (by decide) ?_
    refine r_iload_n C dX8_fits_97 rfl 1 rfl ?_
    refine r_if_eq C dX8_fits_98 (tgt := 110) (by decide) (fun c24 => ?_) (fun c24 => ?_)
    · rw [if_pos c24] at hf
      refine r_iconst C dX8_fits_110 (v := 0) (by decide) ?_
      exact r_ireturnz C E dX8_fits_111 rfl (by decide) (by decide) hf
    · rw [if_neg c24] at hf
      refine r_iload C dX8_fits_101 0 rfl ?_
      refine r_if_ne C dX8_fits_103 (tgt := 110) (by decide) (fun c25 => ?_) (fun c25 => ?_)
      · rw [if_neg c25] at hf
        refine r_iconst C dX8_fits_110 (v := 0) (by decide) ?_
        exact r_ireturnz C E dX8_fits_111 rfl (by decide) (by decide) hf
      · rw [if_pos c25] at hf
        refine r_iconst C dX8_fits_106 (v := 1) (by decide) ?_
        refine r_goto C dX8_fits_107 (tgt := 111) (by decide) ?_
        exact r_ireturnz C E dX8_fits_111 rfl (by decide) (by decide) hf
  rw [if_neg c23] at hf
  refine r_tsOut C dX8_fits_20 (tgt := 112) (by have qc15 := lv_neT c15 (a := 0) (by decide); have qc18 := lv_neT c18 (a := 1) (by decide); have qc21 := lv_neT c21 (a := 2) (by decide); have qc23 := lv_neT c23 (a := 3) (by decide); omega) (by decide) ?_
  refine r_iconst C dX8_fits_112 (v := 0) (by decide) ?_
  exact r_ireturnz C E dX8_fits_113 rfl (by decide) (by decide) hf
theorem c_IB_fits (B e0 F : Nat) (a0 : Nat) (x1 : Int32) (x2 : Int32) (h : hh_H) (rr : Int32 × hh_H) (hf : f_IB_fits F a0 x1 x2 h = some rr) : hh_Met yX8_fits cX8_fits 5 (some .boolean) rm_IB_fits mc_IB_fits ms_IB_fits B e0 [.ref (hh_ad B e0 a0), .int x1, .int x2] h (.returned (some (.int rr.1))) rr.2 :=
  hh_met (by decide) (Nat.le_of_ble_eq_true rfl) fun X C E => hh_pick [0, 1, 2] rfl (w_IB_fits C E F a0 x1 x2 h hf)
def mc_IB_init : Nat := 23
def ms_IB_init : Nat := 5537
def rm_IB_init : Room := { frames := 5, cells := 23, slots := 5537, locals := 103 }
abbrev ok_IB_init (X : hh_X) (B e0 : Nat) : Prop := hh_ok X B e0 cX8_init RX8 5 none "<init>" rm_IB_init
set_option maxRecDepth 100000 in
set_option maxHeartbeats 4000000 in
theorem w_IB_init {X : hh_X} {B e0 : Nat} {rr : Unit × hh_H} (C : ok_IB_init X B e0) (E : hh_End X B e0 (.returned none) rr.2 mc_IB_init ms_IB_init) (F : Nat) (a0 : Nat) (x1 : Int32) (x2 : Int32) (x3 : Int32) (h : hh_H)
    (hf : f_IB_init F a0 x1 x2 x3 h = some rr) : hh_W X 0 0 0 [(0, .ref (hh_ad B e0 a0)), (1, .int x1), (2, .int x2), (3, .int x3)] [] h := by
  unfold f_IB_init at hf
  refine r_aload_n C dX8_init_0 rfl 0 rfl ?_
  refine r_objInit C dX8_init_1 oi_RX8_1 oi_inst oi_code (by decide) (Nat.le_of_ble_eq_true rfl) ?_
  refine r_aload_n C dX8_init_4 rfl 0 rfl ?_
  refine r_iload_n C dX8_init_5 rfl 1 rfl ?_
  refine r_bipush C dX8_init_6 (v := 20) (by decide) ?_
  refine r_bipush C dX8_init_8 (v := 48) (by decide) ?_
  obtain ⟨q1, h2, e3, hf⟩ := hp_cbe hf
  refine r_callS C dX8_init_10 cs_RX8_9 (c_IB_clamp B e0 F x1 20 48 h _ e3) rfl rfl rfl ⟨by decide, by decide⟩ ⟨by decide, by decide⟩ (Nat.le_of_ble_eq_true rfl) rfl ?_
  obtain ⟨h4, e5, hf⟩ := hp_bind hf
  refine r_putIF C dX8_init_13 fl_RX8_13 rfl (fun _ _ _ q => by cases q; rfl) e5 ?_
  refine r_aload_n C dX8_init_16 rfl 0 rfl ?_
  refine r_bipush C dX8_init_17 (v := 20) (by decide) ?_
  obtain ⟨b6, h8, e7, hf⟩ := hp_cbe hf
  refine r_na_int (bd := 20) C dX8_init_19 (by decide) (by decide) (by decide) e7 ?_
  obtain ⟨h9, e10, hf⟩ := hp_bind hf
  refine r_putAF C dX8_init_21 fl_RX8_17 rfl (fun _ _ _ q => by cases q; rfl) (fun _ => ⟨rfl, rfl⟩) e10 ?_
  refine r_aload_n C dX8_init_24 rfl 0 rfl ?_
  refine r_iconst C dX8_init_25 (v := 0) (by decide) ?_
  obtain ⟨h11, e12, hf⟩ := hp_bind hf
  refine r_putI C dX8_init_26 fl_RX8_21 e12 ?_
  refine r_aload_n C dX8_init_29 rfl 0 rfl ?_
  obtain ⟨b13, h15, e14, hf⟩ := hp_cbe hf
  refine r_new C dX8_init_30 nw_RX8_24 (by decide) (by decide) e14 ?_
  refine r_dup C dX8_init_33 rfl ?_
  obtain ⟨q16, h17, e18, hf⟩ := hp_cbe hf
  refine r_callI C dX8_init_34 cs_RX8_26 rfl (c_Documents_init B e0 F b13 h15 _ e18) rfl rfl rfl ⟨by decide, by decide⟩ ⟨by decide, by decide⟩ (Nat.le_of_ble_eq_true rfl) rfl ?_
  obtain ⟨h19, e20, hf⟩ := hp_bind hf
  refine r_putAF C dX8_init_37 fl_RX8_27 rfl (fun _ _ _ q => by cases q; rfl) (fun _ => ⟨rfl, rfl⟩) e20 ?_
  refine r_aload_n C dX8_init_40 rfl 0 rfl ?_
  obtain ⟨b21, h23, e22, hf⟩ := hp_cbe hf
  refine r_new C dX8_init_41 nw_RX8_31 (by decide) (by decide) e22 ?_
  refine r_dup C dX8_init_44 rfl ?_
  refine r_aload_n C dX8_init_45 rfl 0 rfl ?_
  obtain ⟨v24, e25, hf⟩ := hp_bind hf
  refine r_getI C dX8_init_46 fl_RX8_13 e25 ?_
  obtain ⟨q26, h27, e28, hf⟩ := hp_cbe hf
  refine r_callI C dX8_init_49 cs_RX8_33 rfl (c_Postings_init B e0 F b21 v24 h23 _ e28) rfl rfl rfl ⟨by decide, by decide⟩ ⟨by decide, by decide⟩ (Nat.le_of_ble_eq_true rfl) rfl ?_
  obtain ⟨h29, e30, hf⟩ := hp_bind hf
  refine r_putAF C dX8_init_52 fl_RX8_36 rfl (fun _ _ _ q => by cases q; rfl) (fun _ => ⟨rfl, rfl⟩) e30 ?_
  obtain ⟨b31, h33, e32, hf⟩ := hp_cbe hf
  refine r_new C dX8_init_55 nw_RX8_40 (by decide) (by decide) e32 ?_
  refine r_dup C dX8_init_58 rfl ?_
  refine r_iload_n C dX8_init_59 rfl 3 rfl ?_
  refine r_bipush C dX8_init_60 (v := 8) (by decide) ?_
  refine r_bipush C dX8_init_62 (v := 60) (by decide) ?_
  obtain ⟨q34, h35, e36, hf⟩ := hp_cbe hf
  refine r_callS C dX8_init_64 cs_RX8_9 (c_IB_clamp B e0 F x3 8 60 h33 _ e36) rfl rfl rfl ⟨by decide, by decide⟩ ⟨by decide, by decide⟩ (Nat.le_of_ble_eq_true rfl) rfl ?_
  obtain ⟨q37, h38, e39, hf⟩ := hp_cbe hf
  refine r_callI C dX8_init_67 cs_RX8_42 rfl (c_Disk_init B e0 F b31 q34 h35 _ e39) rfl rfl rfl ⟨by decide, by decide⟩ ⟨by decide, by decide⟩ (Nat.le_of_ble_eq_true rfl) rfl ?_
  refine r_astore (lv' := [(4, .ref (hh_ad B e0 b31)), (0, .ref (hh_ad B e0 a0)), (1, .int x1), (2, .int x2), (3, .int x3)]) C dX8_init_70 (by decide) rfl ?_
  refine r_aload_n C dX8_init_72 rfl 1 rfl ?_
  obtain ⟨b40, h42, e41, hf⟩ := hp_cbe hf
  refine r_new C dX8_init_73 nw_RX8_43 (by decide) (by decide) e41 ?_
  refine r_dup C dX8_init_76 rfl ?_
  refine r_aload_n C dX8_init_77 rfl 1 rfl ?_
  obtain ⟨v43, e44, hf⟩ := hp_bind hf
  refine r_getA C dX8_init_78 fl_RX8_27 e44 ?_
  refine r_aload C dX8_init_81 0 rfl ?_
  refine r_iload_n C dX8_init_83 rfl 3 rfl ?_
  refine r_iconst C dX8_init_84 (v := 2) (by decide) ?_
  refine r_iconst C dX8_init_85 (v := 4) (by decide) ?_
  obtain ⟨q45, h46, e47, hf⟩ := hp_cbe hf
  refine r_callS C dX8_init_86 cs_RX8_9 (c_IB_clamp B e0 F x2 2 4 h42 _ e47) rfl rfl rfl ⟨by decide, by decide⟩ ⟨by decide, by decide⟩ (Nat.le_of_ble_eq_true rfl) rfl ?_
  obtain ⟨q48, h49, e50, hf⟩ := hp_cbe hf
  refine r_callI C dX8_init_89 cs_RX8_45 rfl (c_RunRow_init B e0 F b40 v43 b31 q45 h46 _ e50) rfl rfl rfl ⟨by decide, by decide⟩ ⟨by decide, by decide⟩ (Nat.le_of_ble_eq_true rfl) rfl ?_
  obtain ⟨h51, e52, hf⟩ := hp_bind hf
  refine r_putAF C dX8_init_92 fl_RX8_48 rfl (fun _ _ _ q => by cases q; rfl) (fun _ => ⟨rfl, rfl⟩) e52 ?_
  refine r_aload_n C dX8_init_95 rfl 1 rfl ?_
  obtain ⟨b53, h55, e54, hf⟩ := hp_cbe hf
  refine r_new C dX8_init_96 nw_RX8_52 (by decide) (by decide) e54 ?_
  refine r_dup C dX8_init_99 rfl ?_
  obtain ⟨q56, h57, e58, hf⟩ := hp_cbe hf
  refine r_callI C dX8_init_100 cs_RX8_54 rfl (c_Places_init B e0 F b53 h55 _ e58) rfl rfl rfl ⟨by decide, by decide⟩ ⟨by decide, by decide⟩ (Nat.le_of_ble_eq_true rfl) rfl ?_
  obtain ⟨h59, e60, hf⟩ := hp_bind hf
  refine r_putAF C dX8_init_103 fl_RX8_55 rfl (fun _ _ _ q => by cases q; rfl) (fun _ => ⟨rfl, rfl⟩) e60 ?_
  refine r_aload_n C dX8_init_106 rfl 1 rfl ?_
  obtain ⟨b61, h63, e62, hf⟩ := hp_cbe hf
  refine r_new C dX8_init_107 nw_RX8_52 (by decide) (by decide) e62 ?_
  refine r_dup C dX8_init_110 rfl ?_
  obtain ⟨q64, h65, e66, hf⟩ := hp_cbe hf
  refine r_callI C dX8_init_111 cs_RX8_54 rfl (c_Places_init B e0 F b61 h63 _ e66) rfl rfl rfl ⟨by decide, by decide⟩ ⟨by decide, by decide⟩ (Nat.le_of_ble_eq_true rfl) rfl ?_
  obtain ⟨h67, e68, hf⟩ := hp_bind hf
  refine r_putAF C dX8_init_114 fl_RX8_59 rfl (fun _ _ _ q => by cases q; rfl) (fun _ => ⟨rfl, rfl⟩) e68 ?_
  refine r_aload_n C dX8_init_117 rfl 1 rfl ?_
  obtain ⟨b69, h71, e70, hf⟩ := hp_cbe hf
  refine r_new C dX8_init_118 nw_RX8_62 (by decide) (by decide) e70 ?_
  refine r_dup C dX8_init_121 rfl ?_
  obtain ⟨q72, h73, e74, hf⟩ := hp_cbe hf
  refine r_callI C dX8_init_122 cs_RX8_64 rfl (c_Answer_init B e0 F b69 h71 _ e74) rfl rfl rfl ⟨by decide, by decide⟩ ⟨by decide, by decide⟩ (Nat.le_of_ble_eq_true rfl) rfl ?_
  obtain ⟨h75, e76, hf⟩ := hp_bind hf
  refine r_putAF C dX8_init_125 fl_RX8_65 rfl (fun _ _ _ q => by cases q; rfl) (fun _ => ⟨rfl, rfl⟩) e76 ?_
  exact r_return C E dX8_init_128 (by decide) (by decide) hf
theorem c_IB_init (B e0 F : Nat) (a0 : Nat) (x1 : Int32) (x2 : Int32) (x3 : Int32) (h : hh_H) (rr : Unit × hh_H) (hf : f_IB_init F a0 x1 x2 x3 h = some rr) : hh_Met yX8_init cX8_init 5 none rm_IB_init mc_IB_init ms_IB_init B e0 [.ref (hh_ad B e0 a0), .int x1, .int x2, .int x3] h (.returned none) rr.2 :=
  hh_met (by decide) (Nat.le_of_ble_eq_true rfl) fun X C E => hh_pick [0, 1, 2, 3] rfl (w_IB_init C E F a0 x1 x2 x3 h hf)
