def f_La_cell (F L : Nat) (xs : Nat → Int32) (x1 : Int32) (h : hh_H) : Option (Int32 × hh_H) :=
  if (Int32.ofNat L) ≤ x1 then
    some (0, h)
  else
    (hp_sc L xs x1).bind fun v2 =>
    some (v2, h)
def f_La_law_58 (F L : Nat) (xs : Nat → Int32) (r58 : Nat → Nat → Nat → Nat → Int32 → hh_H → Option (Int32 × hh_H)) (a1 : Nat) (a2 : Nat) (a3 : Nat) (a4 : Nat) (x5 : Int32) (h : hh_H) : Option (Int32 × hh_H) :=
  if ((Int32.ofNat L) - 4) < x5 then
    some (1, h)
  else
    (hp_sc L xs x5).bind fun v2 =>
    if (v2 &&& 15) = 0 then
      (hp_sc L xs (x5 + 1)).bind fun v5 =>
      hp_cb (f_La_word F a1 v5 a3 h) fun q7 h8 =>
      (hp_sc L xs (x5 + 1)).bind fun v10 =>
      (hp_is h8 a2 9).bind fun _ =>
      hp_cb (f_Mo_word F a2 v10 h8) fun q12 h13 =>
      (hp_is h13 a2 9).bind fun _ =>
      hp_cb (f_Mo_thrown F a2 h13) fun q17 h18 =>
      if q17 = q7 then
        if q7 = 0 then
          (hp_aj h18 a3 0).bind fun v24 =>
          if (lg_cmp v24 q12.toInt64) = 0 then
            r58 a1 a2 a3 a4 (x5 + 4) h18
          else
            some (0, h18)
        else
          r58 a1 a2 a3 a4 (x5 + 4) h18
      else
        some (0, h18)
    else
    if (v2 &&& 15) = 1 then
      hp_cb (f_La_close F a1 a3 h) fun q28 h29 =>
      (hp_is h29 a2 9).bind fun _ =>
      hp_cb (f_Mo_close F a2 h29) fun q31 h32 =>
      (hp_is h32 a2 9).bind fun _ =>
      hp_cb (f_Mo_thrown F a2 h32) fun q36 h37 =>
      if q36 = q28 then
        if q28 = 0 then
          (hp_aj h37 a3 0).bind fun v43 =>
          if (lg_cmp v43 q31.toInt64) = 0 then
            r58 a1 a2 a3 a4 (x5 + 4) h37
          else
            some (0, h37)
        else
          r58 a1 a2 a3 a4 (x5 + 4) h37
      else
        some (0, h37)
    else
    if (v2 &&& 15) = 2 then
      (hp_sc L xs (x5 + 1)).bind fun v47 =>
      hp_cb (f_La_drop F a1 v47 a3 h) fun q49 h50 =>
      (hp_sc L xs (x5 + 1)).bind fun v52 =>
      (hp_is h50 a2 9).bind fun _ =>
      hp_cb (f_Mo_drop F a2 v52 h50) fun q54 h55 =>
      (hp_is h55 a2 9).bind fun _ =>
      hp_cb (f_Mo_thrown F a2 h55) fun q59 h60 =>
      if q59 = q49 then
        if q49 = 0 then
          (hp_aj h60 a3 0).bind fun v66 =>
          if (lg_cmp v66 q54.toInt64) = 0 then
            r58 a1 a2 a3 a4 (x5 + 4) h60
          else
            some (0, h60)
        else
          r58 a1 a2 a3 a4 (x5 + 4) h60
      else
        some (0, h60)
    else
    if (v2 &&& 15) = 3 then
      hp_cb (f_La_flush F a1 a3 h) fun q70 h71 =>
      (hp_is h71 a2 9).bind fun _ =>
      hp_cb (f_Mo_flush F a2 h71) fun q73 h74 =>
      (hp_is h74 a2 9).bind fun _ =>
      hp_cb (f_Mo_thrown F a2 h74) fun q78 h79 =>
      if q78 = q70 then
        if q70 = 0 then
          (hp_aj h79 a3 0).bind fun v85 =>
          if (lg_cmp v85 q73.toInt64) = 0 then
            r58 a1 a2 a3 a4 (x5 + 4) h79
          else
            some (0, h79)
        else
          r58 a1 a2 a3 a4 (x5 + 4) h79
      else
        some (0, h79)
    else
    if (v2 &&& 15) = 4 then
      hp_cb (f_La_finish F a1 a3 h) fun q89 h90 =>
      (hp_is h90 a2 9).bind fun _ =>
      hp_cb (f_Mo_finish F a2 h90) fun q92 h93 =>
      (hp_is h93 a2 9).bind fun _ =>
      hp_cb (f_Mo_thrown F a2 h93) fun q97 h98 =>
      if q97 = q89 then
        if q89 = 0 then
          (hp_aj h98 a3 0).bind fun v104 =>
          if (lg_cmp v104 q92.toInt64) = 0 then
            r58 a1 a2 a3 a4 (x5 + 4) h98
          else
            some (0, h98)
        else
          r58 a1 a2 a3 a4 (x5 + 4) h98
      else
        some (0, h98)
    else
    if (v2 &&& 15) = 5 then
      (hp_sc L xs (x5 + 1)).bind fun v108 =>
      (hp_sc L xs (x5 + 2)).bind fun v110 =>
      (hp_sc L xs (x5 + 3)).bind fun v112 =>
      hp_cb (f_La_find F a1 v108 v110 v112 a3 h) fun q114 h115 =>
      (hp_sc L xs (x5 + 1)).bind fun v117 =>
      (hp_sc L xs (x5 + 2)).bind fun v119 =>
      (hp_sc L xs (x5 + 3)).bind fun v121 =>
      (hp_is h115 a2 9).bind fun _ =>
      hp_cb (f_Mo_find F a2 v117 v119 v121 h115) fun q123 h124 =>
      (hp_is h124 a2 9).bind fun _ =>
      hp_cb (f_Mo_thrown F a2 h124) fun q128 h129 =>
      if q128 = q114 then
        if q114 = 0 then
          (hp_aj h129 a3 0).bind fun v135 =>
          if (lg_cmp v135 q123.toInt64) = 0 then
            r58 a1 a2 a3 a4 (x5 + 4) h129
          else
            some (0, h129)
        else
          r58 a1 a2 a3 a4 (x5 + 4) h129
      else
        some (0, h129)
    else
    if (v2 &&& 15) = 6 then
      (hp_sc L xs (x5 + 1)).bind fun v139 =>
      (hp_sc L xs (x5 + 2)).bind fun v141 =>
      hp_cb (f_La_rank F a1 v139 v141 a3 h) fun q143 h144 =>
      (hp_sc L xs (x5 + 1)).bind fun v146 =>
      (hp_sc L xs (x5 + 2)).bind fun v148 =>
      (hp_is h144 a2 9).bind fun _ =>
      hp_cb (f_Mo_rank F a2 v146 v148 h144) fun q150 h151 =>
      (hp_is h151 a2 9).bind fun _ =>
      hp_cb (f_Mo_thrown F a2 h151) fun q155 h156 =>
      if q155 = q143 then
        if q143 = 0 then
          (hp_aj h156 a3 0).bind fun v162 =>
          if (lg_cmp v162 q150.toInt64) = 0 then
            r58 a1 a2 a3 a4 (x5 + 4) h156
          else
            some (0, h156)
        else
          r58 a1 a2 a3 a4 (x5 + 4) h156
      else
        some (0, h156)
    else
    if (v2 &&& 15) = 7 then
      (hp_sc L xs (x5 + 1)).bind fun v166 =>
      hp_cb (f_La_result F a1 v166 a3 h) fun q168 h169 =>
      (hp_sc L xs (x5 + 1)).bind fun v171 =>
      (hp_is h169 a2 9).bind fun _ =>
      hp_cb (f_Mo_result F a2 v171 h169) fun q173 h174 =>
      (hp_is h174 a2 9).bind fun _ =>
      hp_cb (f_Mo_thrown F a2 h174) fun q178 h179 =>
      if q178 = q168 then
        if q168 = 0 then
          (hp_aj h179 a3 0).bind fun v185 =>
          if (lg_cmp v185 q173.toInt64) = 0 then
            r58 a1 a2 a3 a4 (x5 + 4) h179
          else
            some (0, h179)
        else
          r58 a1 a2 a3 a4 (x5 + 4) h179
      else
        some (0, h179)
    else
    if (v2 &&& 15) = 8 then
      (hp_sc L xs (x5 + 1)).bind fun v189 =>
      hp_cb (f_La_score F a1 v189 a4 h) fun q191 h192 =>
      (hp_sc L xs (x5 + 1)).bind fun v194 =>
      (hp_is h192 a2 9).bind fun _ =>
      hp_cb (f_Mo_score F a2 v194 h192) fun q196 h197 =>
      (hp_is h197 a2 9).bind fun _ =>
      hp_cb (f_Mo_thrown F a2 h197) fun q201 h202 =>
      if q201 = q191 then
        if q191 = 0 then
          (hp_ad h202 a4 0).bind fun v208 =>
          if (Op.cmpValue (FP.dcmp v208 q196) .l) = 0 then
            r58 a1 a2 a3 a4 (x5 + 4) h202
          else
            (hp_ad h202 a4 0).bind fun v211 =>
            (hp_ad h202 a4 0).bind fun v213 =>
            if (Op.cmpValue (FP.dcmp v211 v213) .l) = 0 then
              some (0, h202)
            else
              if (Op.cmpValue (FP.dcmp q196 q196) .l) = 0 then
                some (0, h202)
              else
                r58 a1 a2 a3 a4 (x5 + 4) h202
        else
          r58 a1 a2 a3 a4 (x5 + 4) h202
      else
        some (0, h202)
    else
    if (v2 &&& 15) = 9 then
      (hp_sc L xs (x5 + 1)).bind fun v218 =>
      (hp_sc L xs (x5 + 2)).bind fun v220 =>
      hp_cb (f_La_byteOf F a1 v218 v220 a3 h) fun q222 h223 =>
      (hp_sc L xs (x5 + 1)).bind fun v225 =>
      (hp_sc L xs (x5 + 2)).bind fun v227 =>
      (hp_is h223 a2 9).bind fun _ =>
      hp_cb (f_Mo_byteOf F a2 v225 v227 h223) fun q229 h230 =>
      (hp_is h230 a2 9).bind fun _ =>
      hp_cb (f_Mo_thrown F a2 h230) fun q234 h235 =>
      if q234 = q222 then
        if q222 = 0 then
          (hp_aj h235 a3 0).bind fun v241 =>
          if (lg_cmp v241 q229.toInt64) = 0 then
            r58 a1 a2 a3 a4 (x5 + 4) h235
          else
            some (0, h235)
        else
          r58 a1 a2 a3 a4 (x5 + 4) h235
      else
        some (0, h235)
    else
    if (v2 &&& 15) = 10 then
      (hp_sc L xs (x5 + 1)).bind fun v245 =>
      (hp_sc L xs (x5 + 2)).bind fun v247 =>
      hp_cb (f_La_run F a1 v245 v247 a3 h) fun q249 h250 =>
      (hp_sc L xs (x5 + 1)).bind fun v252 =>
      (hp_sc L xs (x5 + 2)).bind fun v254 =>
      (hp_is h250 a2 9).bind fun _ =>
      hp_cb (f_Mo_run F a2 v252 v254 h250) fun q256 h257 =>
      (hp_is h257 a2 9).bind fun _ =>
      hp_cb (f_Mo_thrown F a2 h257) fun q261 h262 =>
      if q261 = q249 then
        if q249 = 0 then
          (hp_aj h262 a3 0).bind fun v268 =>
          if (lg_cmp v268 q256.toInt64) = 0 then
            r58 a1 a2 a3 a4 (x5 + 4) h262
          else
            some (0, h262)
        else
          r58 a1 a2 a3 a4 (x5 + 4) h262
      else
        some (0, h262)
    else
    if (v2 &&& 15) = 11 then
      (hp_sc L xs (x5 + 1)).bind fun v272 =>
      (hp_is h a1 8).bind fun _ =>
      hp_cb (f_IB_count F a1 v272 h) fun q274 h275 =>
      (hp_sc L xs (x5 + 1)).bind fun v279 =>
      (hp_is h275 a2 9).bind fun _ =>
      hp_cb (f_Mo_count F a2 v279 h275) fun q281 h282 =>
      if q274 = q281 then
        r58 a1 a2 a3 a4 (x5 + 4) h282
      else
        some (0, h282)
    else
      r58 a1 a2 a3 a4 (x5 + 4) h
def l_La_law_58 (F L : Nat) (xs : Nat → Int32) : Nat → Nat → Nat → Nat → Int32 → hh_H → Option (Int32 × hh_H) := hp_it (fun _ _ _ _ _ _ => none) (f_La_law_58 F L xs) 513
def f_La_law (F L : Nat) (xs : Nat → Int32) (h : hh_H) : Option (Int32 × hh_H) :=
  hp_cb (hp_new h 8) fun b287 h289 =>
  hp_cb (f_La_cell F L xs 0 h289) fun q290 h291 =>
  hp_cb (f_La_cell F L xs 1 h291) fun q293 h294 =>
  hp_cb (f_La_cell F L xs 2 h294) fun q296 h297 =>
  hp_cb (f_IB_init F b287 q290 q293 q296 h297) fun q299 h300 =>
  hp_cb (hp_new h300 9) fun b302 h304 =>
  hp_cb (f_La_cell F L xs 0 h304) fun q305 h306 =>
  hp_cb (f_La_cell F L xs 1 h306) fun q308 h309 =>
  hp_cb (f_La_cell F L xs 2 h309) fun q311 h312 =>
  hp_cb (f_Mo_init F b302 q305 q308 q311 h312) fun q314 h315 =>
  hp_cb (hp_na h315 3 1 1) fun b317 h319 =>
  hp_cb (hp_na h319 2 1 1) fun b320 h322 =>
  l_La_law_58 F L xs b287 b302 b317 b320 3 h322
theorem ch_RL_69 : hh_CH RL 69 yL_word cL_word 4 (some .int) hs_La_word 3 := ⟨hh_at 334 (by decide +kernel) (by decide +kernel), hh_at 332 (by decide +kernel) (by decide +kernel), hh_at 34 (by decide +kernel) (by decide +kernel), hh_at 333 (by decide +kernel) (by decide +kernel), by decide +kernel⟩
theorem cw_X9_word : Cond.code yX9_word cX9_word 2 (some .int) ∈ hh_T := hh_at 1283 (by decide +kernel) (by decide +kernel)
theorem cs_RL_72 : hh_CS RL 72 yX9_word cX9_word 2 (some .int) 1 [.instanceMethod yX9_word, .selects yX9_word.cls yX9_word yX9_word] := ⟨cw_X9_word, hh_at 1280 (by decide +kernel) (by decide +kernel), hh_at 47 (by decide +kernel) (by decide +kernel), hh_all2 (hh_at 1281 (by decide +kernel) (by decide +kernel)) (hh_at 1282 (by decide +kernel) (by decide +kernel)), by decide +kernel⟩
theorem cw_X9_thrown : Cond.code yX9_thrown cX9_thrown 1 (some .int) ∈ hh_T := hh_at 1279 (by decide +kernel) (by decide +kernel)
theorem cs_RL_73 : hh_CS RL 73 yX9_thrown cX9_thrown 1 (some .int) 0 [.instanceMethod yX9_thrown, .selects yX9_thrown.cls yX9_thrown yX9_thrown] := ⟨cw_X9_thrown, hh_at 1276 (by decide +kernel) (by decide +kernel), hh_at 47 (by decide +kernel) (by decide +kernel), hh_all2 (hh_at 1277 (by decide +kernel) (by decide +kernel)) (hh_at 1278 (by decide +kernel) (by decide +kernel)), by decide +kernel⟩
theorem ch_RL_76 : hh_CH RL 76 yL_close cL_close 3 (some .int) hs_La_close 2 := ⟨hh_at 432 (by decide +kernel) (by decide +kernel), hh_at 430 (by decide +kernel) (by decide +kernel), hh_at 34 (by decide +kernel) (by decide +kernel), hh_at 431 (by decide +kernel) (by decide +kernel), by decide +kernel⟩
theorem cw_X9_close : Cond.code yX9_close cX9_close 2 (some .int) ∈ hh_T := hh_at 1294 (by decide +kernel) (by decide +kernel)
theorem cs_RL_79 : hh_CS RL 79 yX9_close cX9_close 2 (some .int) 0 [.instanceMethod yX9_close, .selects yX9_close.cls yX9_close yX9_close] := ⟨cw_X9_close, hh_at 1291 (by decide +kernel) (by decide +kernel), hh_at 47 (by decide +kernel) (by decide +kernel), hh_all2 (hh_at 1292 (by decide +kernel) (by decide +kernel)) (hh_at 1293 (by decide +kernel) (by decide +kernel)), by decide +kernel⟩
theorem ch_RL_80 : hh_CH RL 80 yL_drop cL_drop 4 (some .int) hs_La_drop 3 := ⟨hh_at 967 (by decide +kernel) (by decide +kernel), hh_at 965 (by decide +kernel) (by decide +kernel), hh_at 34 (by decide +kernel) (by decide +kernel), hh_at 966 (by decide +kernel) (by decide +kernel), by decide +kernel⟩
theorem cw_X9_drop : Cond.code yX9_drop cX9_drop 2 (some .int) ∈ hh_T := hh_at 1341 (by decide +kernel) (by decide +kernel)
theorem cs_RL_82 : hh_CS RL 82 yX9_drop cX9_drop 2 (some .int) 1 [.instanceMethod yX9_drop, .selects yX9_drop.cls yX9_drop yX9_drop] := ⟨cw_X9_drop, hh_at 1338 (by decide +kernel) (by decide +kernel), hh_at 47 (by decide +kernel) (by decide +kernel), hh_all2 (hh_at 1339 (by decide +kernel) (by decide +kernel)) (hh_at 1340 (by decide +kernel) (by decide +kernel)), by decide +kernel⟩
theorem ch_RL_83 : hh_CH RL 83 yL_flush cL_flush 3 (some .int) hs_La_flush 2 := ⟨hh_at 997 (by decide +kernel) (by decide +kernel), hh_at 995 (by decide +kernel) (by decide +kernel), hh_at 34 (by decide +kernel) (by decide +kernel), hh_at 996 (by decide +kernel) (by decide +kernel), by decide +kernel⟩
theorem cw_X9_flush : Cond.code yX9_flush cX9_flush 1 (some .int) ∈ hh_T := hh_at 1345 (by decide +kernel) (by decide +kernel)
theorem cs_RL_85 : hh_CS RL 85 yX9_flush cX9_flush 1 (some .int) 0 [.instanceMethod yX9_flush, .selects yX9_flush.cls yX9_flush yX9_flush] := ⟨cw_X9_flush, hh_at 1342 (by decide +kernel) (by decide +kernel), hh_at 47 (by decide +kernel) (by decide +kernel), hh_all2 (hh_at 1343 (by decide +kernel) (by decide +kernel)) (hh_at 1344 (by decide +kernel) (by decide +kernel)), by decide +kernel⟩
theorem ch_RL_86 : hh_CH RL 86 yL_finish cL_finish 3 (some .int) hs_La_finish 2 := ⟨hh_at 1004 (by decide +kernel) (by decide +kernel), hh_at 1002 (by decide +kernel) (by decide +kernel), hh_at 34 (by decide +kernel) (by decide +kernel), hh_at 1003 (by decide +kernel) (by decide +kernel), by decide +kernel⟩
theorem cw_X9_finish : Cond.code yX9_finish cX9_finish 1 (some .int) ∈ hh_T := hh_at 1349 (by decide +kernel) (by decide +kernel)
theorem cs_RL_88 : hh_CS RL 88 yX9_finish cX9_finish 1 (some .int) 0 [.instanceMethod yX9_finish, .selects yX9_finish.cls yX9_finish yX9_finish] := ⟨cw_X9_finish, hh_at 1346 (by decide +kernel) (by decide +kernel), hh_at 47 (by decide +kernel) (by decide +kernel), hh_all2 (hh_at 1347 (by decide +kernel) (by decide +kernel)) (hh_at 1348 (by decide +kernel) (by decide +kernel)), by decide +kernel⟩
theorem ch_RL_89 : hh_CH RL 89 yL_find cL_find 6 (some .int) hs_La_find 5 := ⟨hh_at 1021 (by decide +kernel) (by decide +kernel), hh_at 1019 (by decide +kernel) (by decide +kernel), hh_at 34 (by decide +kernel) (by decide +kernel), hh_at 1020 (by decide +kernel) (by decide +kernel), by decide +kernel⟩
theorem cw_X9_find : Cond.code yX9_find cX9_find 5 (some .int) ∈ hh_T := hh_at 1353 (by decide +kernel) (by decide +kernel)
theorem cs_RL_92 : hh_CS RL 92 yX9_find cX9_find 5 (some .int) 3 [.instanceMethod yX9_find, .selects yX9_find.cls yX9_find yX9_find] := ⟨cw_X9_find, hh_at 1350 (by decide +kernel) (by decide +kernel), hh_at 47 (by decide +kernel) (by decide +kernel), hh_all2 (hh_at 1351 (by decide +kernel) (by decide +kernel)) (hh_at 1352 (by decide +kernel) (by decide +kernel)), by decide +kernel⟩
theorem ch_RL_93 : hh_CH RL 93 yL_rank cL_rank 5 (some .int) hs_La_rank 4 := ⟨hh_at 1075 (by decide +kernel) (by decide +kernel), hh_at 1073 (by decide +kernel) (by decide +kernel), hh_at 34 (by decide +kernel) (by decide +kernel), hh_at 1074 (by decide +kernel) (by decide +kernel), by decide +kernel⟩
theorem cw_X9_rank : Cond.code yX9_rank cX9_rank 7 (some .int) ∈ hh_T := hh_at 1365 (by decide +kernel) (by decide +kernel)
theorem cs_RL_96 : hh_CS RL 96 yX9_rank cX9_rank 7 (some .int) 2 [.instanceMethod yX9_rank, .selects yX9_rank.cls yX9_rank yX9_rank] := ⟨cw_X9_rank, hh_at 1362 (by decide +kernel) (by decide +kernel), hh_at 47 (by decide +kernel) (by decide +kernel), hh_all2 (hh_at 1363 (by decide +kernel) (by decide +kernel)) (hh_at 1364 (by decide +kernel) (by decide +kernel)), by decide +kernel⟩
theorem ch_RL_97 : hh_CH RL 97 yL_result cL_result 4 (some .int) hs_La_result 3 := ⟨hh_at 1097 (by decide +kernel) (by decide +kernel), hh_at 1095 (by decide +kernel) (by decide +kernel), hh_at 34 (by decide +kernel) (by decide +kernel), hh_at 1096 (by decide +kernel) (by decide +kernel), by decide +kernel⟩
theorem cw_X9_result : Cond.code yX9_result cX9_result 2 (some .int) ∈ hh_T := hh_at 1373 (by decide +kernel) (by decide +kernel)
theorem cs_RL_99 : hh_CS RL 99 yX9_result cX9_result 2 (some .int) 1 [.instanceMethod yX9_result, .selects yX9_result.cls yX9_result yX9_result] := ⟨cw_X9_result, hh_at 1370 (by decide +kernel) (by decide +kernel), hh_at 47 (by decide +kernel) (by decide +kernel), hh_all2 (hh_at 1371 (by decide +kernel) (by decide +kernel)) (hh_at 1372 (by decide +kernel) (by decide +kernel)), by decide +kernel⟩
theorem ch_RL_100 : hh_CH RL 100 yL_score cL_score 4 (some .int) hs_La_score 3 := ⟨hh_at 1109 (by decide +kernel) (by decide +kernel), hh_at 1107 (by decide +kernel) (by decide +kernel), hh_at 34 (by decide +kernel) (by decide +kernel), hh_at 1108 (by decide +kernel) (by decide +kernel), by decide +kernel⟩
theorem cw_X9_score : Cond.code yX9_score cX9_score 2 (some .double) ∈ hh_T := hh_at 1377 (by decide +kernel) (by decide +kernel)
theorem cs_RL_103 : hh_CS RL 103 yX9_score cX9_score 2 (some .double) 1 [.instanceMethod yX9_score, .selects yX9_score.cls yX9_score yX9_score] := ⟨cw_X9_score, hh_at 1374 (by decide +kernel) (by decide +kernel), hh_at 47 (by decide +kernel) (by decide +kernel), hh_all2 (hh_at 1375 (by decide +kernel) (by decide +kernel)) (hh_at 1376 (by decide +kernel) (by decide +kernel)), by decide +kernel⟩
theorem ch_RL_104 : hh_CH RL 104 yL_byteOf cL_byteOf 5 (some .int) hs_La_byteOf 4 := ⟨hh_at 1125 (by decide +kernel) (by decide +kernel), hh_at 1123 (by decide +kernel) (by decide +kernel), hh_at 34 (by decide +kernel) (by decide +kernel), hh_at 1124 (by decide +kernel) (by decide +kernel), by decide +kernel⟩
theorem cw_X9_byteOf : Cond.code yX9_byteOf cX9_byteOf 5 (some .int) ∈ hh_T := hh_at 1381 (by decide +kernel) (by decide +kernel)
theorem cs_RL_106 : hh_CS RL 106 yX9_byteOf cX9_byteOf 5 (some .int) 2 [.instanceMethod yX9_byteOf, .selects yX9_byteOf.cls yX9_byteOf yX9_byteOf] := ⟨cw_X9_byteOf, hh_at 1378 (by decide +kernel) (by decide +kernel), hh_at 47 (by decide +kernel) (by decide +kernel), hh_all2 (hh_at 1379 (by decide +kernel) (by decide +kernel)) (hh_at 1380 (by decide +kernel) (by decide +kernel)), by decide +kernel⟩
theorem ch_RL_107 : hh_CH RL 107 yL_run cL_run 5 (some .int) hs_La_run 4 := ⟨hh_at 1153 (by decide +kernel) (by decide +kernel), hh_at 1151 (by decide +kernel) (by decide +kernel), hh_at 34 (by decide +kernel) (by decide +kernel), hh_at 1152 (by decide +kernel) (by decide +kernel), by decide +kernel⟩
theorem cw_X9_run : Cond.code yX9_run cX9_run 4 (some .int) ∈ hh_T := hh_at 1385 (by decide +kernel) (by decide +kernel)
theorem cs_RL_109 : hh_CS RL 109 yX9_run cX9_run 4 (some .int) 2 [.instanceMethod yX9_run, .selects yX9_run.cls yX9_run yX9_run] := ⟨cw_X9_run, hh_at 1382 (by decide +kernel) (by decide +kernel), hh_at 47 (by decide +kernel) (by decide +kernel), hh_all2 (hh_at 1383 (by decide +kernel) (by decide +kernel)) (hh_at 1384 (by decide +kernel) (by decide +kernel)), by decide +kernel⟩
theorem cw_X8_count : Cond.code yX8_count cX8_count 2 (some .int) ∈ hh_T := hh_at 284 (by decide +kernel) (by decide +kernel)
theorem cs_RL_110 : hh_CS RL 110 yX8_count cX8_count 2 (some .int) 1 [.instanceMethod yX8_count, .selects yX8_count.cls yX8_count yX8_count] := ⟨cw_X8_count, hh_at 281 (by decide +kernel) (by decide +kernel), hh_at 35 (by decide +kernel) (by decide +kernel), hh_all2 (hh_at 282 (by decide +kernel) (by decide +kernel)) (hh_at 283 (by decide +kernel) (by decide +kernel)), by decide +kernel⟩
theorem cw_X9_count : Cond.code yX9_count cX9_count 2 (some .int) ∈ hh_T := hh_at 1389 (by decide +kernel) (by decide +kernel)
theorem cs_RL_113 : hh_CS RL 113 yX9_count cX9_count 2 (some .int) 1 [.instanceMethod yX9_count, .selects yX9_count.cls yX9_count yX9_count] := ⟨cw_X9_count, hh_at 1386 (by decide +kernel) (by decide +kernel), hh_at 47 (by decide +kernel) (by decide +kernel), hh_all2 (hh_at 1387 (by decide +kernel) (by decide +kernel)) (hh_at 1388 (by decide +kernel) (by decide +kernel)), by decide +kernel⟩
theorem dfl_X8 : ∀ B e0 j, j < 9 → defaultValue (tyX8 j) = vp_V ((hh_dfl 8).map (hh_v B e0)) j := fun B e0 j hj => by rcases (show j = 0 ∨ j = 1 ∨ j = 2 ∨ j = 3 ∨ j = 4 ∨ j = 5 ∨ j = 6 ∨ j = 7 ∨ j = 8 by omega) with rfl | rfl | rfl | rfl | rfl | rfl | rfl | rfl | rfl <;> rfl
theorem nw_RL_8 : hh_NW RL 8 8 9 := ⟨_, _, tyX8, rfl, lay_X8, hh_at 68 (by decide +kernel) (by decide +kernel), hh_at 69 (by decide +kernel) (by decide +kernel), hh_at 35 (by decide +kernel) (by decide +kernel), tyok_X8, dfl_X8⟩
theorem cw_L_cell : Cond.code yL_cell cL_cell 2 (some .int) ∈ hh_T := hh_at 331 (by decide +kernel) (by decide +kernel)
theorem cs_RL_57 : hh_CS RL 57 yL_cell cL_cell 2 (some .int) 2 [.static yL_cell] := ⟨cw_L_cell, hh_at 329 (by decide +kernel) (by decide +kernel), hh_at 34 (by decide +kernel) (by decide +kernel), hh_all1 (hh_at 330 (by decide +kernel) (by decide +kernel)), by decide +kernel⟩
theorem cw_X8_init : Cond.code yX8_init cX8_init 5 none ∈ hh_T := hh_at 72 (by decide +kernel) (by decide +kernel)
theorem cs_RL_63 : hh_CS RL 63 yX8_init cX8_init 5 none 3 [.instanceMethod yX8_init] := ⟨cw_X8_init, hh_at 70 (by decide +kernel) (by decide +kernel), hh_at 35 (by decide +kernel) (by decide +kernel), hh_all1 (hh_at 71 (by decide +kernel) (by decide +kernel)), by decide +kernel⟩
theorem dfl_X9 : ∀ B e0 j, j < 28 → defaultValue (tyX9 j) = vp_V ((hh_dfl 9).map (hh_v B e0)) j := fun B e0 j hj => by rcases (show j = 0 ∨ j = 1 ∨ j = 2 ∨ j = 3 ∨ j = 4 ∨ j = 5 ∨ j = 6 ∨ j = 7 ∨ j = 8 ∨ j = 9 ∨ j = 10 ∨ j = 11 ∨ j = 12 ∨ j = 13 ∨ j = 14 ∨ j = 15 ∨ j = 16 ∨ j = 17 ∨ j = 18 ∨ j = 19 ∨ j = 20 ∨ j = 21 ∨ j = 22 ∨ j = 23 ∨ j = 24 ∨ j = 25 ∨ j = 26 ∨ j = 27 by omega) with rfl | rfl | rfl | rfl | rfl | rfl | rfl | rfl | rfl | rfl | rfl | rfl | rfl | rfl | rfl | rfl | rfl | rfl | rfl | rfl | rfl | rfl | rfl | rfl | rfl | rfl | rfl | rfl <;> rfl
theorem nw_RL_66 : hh_NW RL 66 9 28 := ⟨_, _, tyX9, rfl, lay_X9, hh_at 1181 (by decide +kernel) (by decide +kernel), hh_at 1182 (by decide +kernel) (by decide +kernel), hh_at 47 (by decide +kernel) (by decide +kernel), tyok_X9, dfl_X9⟩
theorem cw_X9_init : Cond.code yX9_init cX9_init 4 none ∈ hh_T := hh_at 1185 (by decide +kernel) (by decide +kernel)
theorem cs_RL_68 : hh_CS RL 68 yX9_init cX9_init 4 none 3 [.instanceMethod yX9_init] := ⟨cw_X9_init, hh_at 1183 (by decide +kernel) (by decide +kernel), hh_at 47 (by decide +kernel) (by decide +kernel), hh_all1 (hh_at 1184 (by decide +kernel) (by decide +kernel)), by decide +kernel⟩
def mc_La_cell : Nat := 0
def ms_La_cell : Nat := 0
abbrev rm_La_cell : Room := { frames := 0, cells := 0, slots := 0, locals := 0 }
abbrev ok_La_cell (X : hh_X) (B e0 : Nat) : Prop := hh_ok X B e0 cL_cell RL 2 (some .int) "cell" rm_La_cell
set_option maxRecDepth 100000 in
set_option maxHeartbeats 4000000 in
theorem w_La_cell {X : hh_X} {B e0 : Nat} {rr : Int32 × hh_H} (C : ok_La_cell X B e0) (E : hh_End X B e0 (.returned (some (.int rr.1))) rr.2 mc_La_cell ms_La_cell) (F L : Nat) (xs : Nat → Int32) (b : Nat) (V : hh_scr X b L xs) (x1 : Int32) (h : hh_H)
    (hf : f_La_cell F L xs x1 h = some rr) : hh_W X 0 0 0 [(0, .ref b), (1, .int x1)] [] h := by
  unfold f_La_cell at hf
  refine r_iload_n C dL_cell_0 rfl 1 rfl ?_
  refine r_aload_n C dL_cell_1 rfl 0 rfl ?_
  refine r_slen C V dL_cell_2 ?_
  refine r_icmp_ge C dL_cell_3 (tgt := 12) (by decide) (fun c1 => ?_) (fun c1 => ?_)
  · rw [if_pos c1] at hf
    refine r_iconst C dL_cell_12 (v := 0) (by decide) ?_
    exact r_ireturn C E dL_cell_13 (by decide) (by decide) hf
  · rw [if_neg c1] at hf
    refine r_aload_n C dL_cell_6 rfl 0 rfl ?_
    refine r_iload_n C dL_cell_7 rfl 1 rfl ?_
    obtain ⟨v2, e3, hf⟩ := hp_bind hf
    refine r_sld C V dL_cell_8 e3 ?_
    refine r_goto C dL_cell_9 (tgt := 13) (by decide) ?_
    exact r_ireturn C E dL_cell_13 (by decide) (by decide) hf
theorem c_La_cell (B e0 F L : Nat) (xs : Nat → Int32) (b : Nat) (x1 : Int32) (h : hh_H) (rr : Int32 × hh_H) (hf : f_La_cell F L xs x1 h = some rr) : hh_MetS yL_cell cL_cell 2 (some .int) rm_La_cell mc_La_cell ms_La_cell B e0 b L xs [.ref b, .int x1] h (.returned (some (.int rr.1))) rr.2 :=
  hh_metS (by decide) (Nat.le_of_ble_eq_true rfl) fun X C E V => w_La_cell C E F L xs b V x1 h hf
def mc_La_law : Nat := 601024
def ms_La_law : Nat := 7293000
abbrev rm_La_law : Room := room_1
abbrev ok_La_law (X : hh_X) (B e0 : Nat) : Prop := hh_ok X B e0 cL_law RL 9 (some .boolean) "law" rm_La_law
set_option maxRecDepth 100000 in
set_option maxHeartbeats 4000000 in
theorem w_La_law_58 {X : hh_X} {B e0 : Nat} {rr : Int32 × hh_H} (C : ok_La_law X B e0) (E : hh_End X B e0 (.returned (some (.int rr.1))) rr.2 mc_La_law ms_La_law) (F L : Nat) (xs : Nat → Int32) (O : hh_oX X) (b : Nat) (V : hh_scr X b L xs) (r58 : Nat → Nat → Nat → Nat → Int32 → hh_H → Option (Int32 × hh_H)) (cn sn : Nat) (hcn : cn + 190 ≤ 601024) (hsn : sn + 9015 ≤ 7293000) (H58 : ∀ (a1 : Nat) (a2 : Nat) (a3 : Nat) (a4 : Nat) (x5 : Int32) (h : hh_H), r58 a1 a2 a3 a4 x5 h = some rr → hh_W X (cn + 190) (sn + 9015) 58 [(0, .ref b), (1, .ref (hh_ad B e0 a1)), (2, .ref (hh_ad B e0 a2)), (3, .ref (hh_ad B e0 a3)), (4, .ref (hh_ad B e0 a4)), (5, .int x5)] [] h) (a1 : Nat) (a2 : Nat) (a3 : Nat) (a4 : Nat) (x5 : Int32) (h : hh_H)
    (hf : f_La_law_58 F L xs r58 a1 a2 a3 a4 x5 h = some rr) : hh_W X cn sn 58 [(0, .ref b), (1, .ref (hh_ad B e0 a1)), (2, .ref (hh_ad B e0 a2)), (3, .ref (hh_ad B e0 a3)), (4, .ref (hh_ad B e0 a4)), (5, .int x5)] [] h := by
  unfold f_La_law_58 at hf
  refine r_iload C dL_law_58 5 rfl ?_
  refine r_aload_n C dL_law_60 rfl 0 rfl ?_
  refine r_slen C V dL_law_61 ?_
  refine r_iconst C dL_law_62 (v := 4) (by decide) ?_
  refine r_isub C dL_law_63 ?_
  refine r_icmp_gt C dL_law_64 (tgt := 828) (by decide) (fun c1 => ?_) (fun c1 => ?_)
  · rw [if_pos c1] at hf
    refine r_iconst C dL_law_828 (v := 1) (by decide) ?_
    exact r_ireturnz C E dL_law_829 rfl (by show cn + 0 + 0 ≤ 601024; omega) (by show sn + 0 + 0 ≤ 7293000; omega) hf
  · rw [if_neg c1] at hf
    refine r_aload_n C dL_law_67 rfl 0 rfl ?_
    refine r_iload C dL_law_68 5 rfl ?_
    obtain ⟨v2, e3, hf⟩ := hp_bind hf
    refine r_sld C V dL_law_70 e3 ?_
    refine r_bipush C dL_law_71 (v := 15) (by decide) ?_
    refine r_iand C dL_law_73 ?_
    by_cases c4 : (v2 &&& 15) = 0
    · rw [if_pos c4] at hf
      refine r_tsIn C dL_law_74 c4 (tgt := 136) (by decide) (by decide) rfl (by decide) ?_
      refine r_aload_n C dL_law_136 rfl 1 rfl ?_
      refine r_aload_n C dL_law_137 rfl 0 rfl ?_
      refine r_iload C dL_law_138 5 rfl ?_
      refine r_iconst C dL_law_140 (v := 1) (by decide) ?_
      refine r_iadd C dL_law_141 ?_
      obtain ⟨v5, e6, hf⟩ := hp_bind hf
      refine r_sld C V dL_law_142 e6 ?_
      refine r_aload_n C dL_law_143 rfl 3 rfl ?_
      obtain ⟨q7, h8, e9, hf⟩ := hp_cbe hf
      refine r_callSH C O dL_law_144 ch_RL_69 (c_La_word B e0 F a1 v5 a3 h _ e9) rfl rfl rfl ⟨by decide, by decide⟩ ⟨by show cn + 0 + 1 ≤ 601024; omega, by show sn + 0 + 6 ≤ 7293000; omega⟩ (Nat.le_of_ble_eq_true rfl) rfl ?_
      refine r_istore (lv' := [(6, .int q7), (0, .ref b), (1, .ref (hh_ad B e0 a1)), (2, .ref (hh_ad B e0 a2)), (3, .ref (hh_ad B e0 a3)), (4, .ref (hh_ad B e0 a4)), (5, .int x5)]) C dL_law_147 (by decide) rfl ?_
      refine r_aload_n C dL_law_149 rfl 3 rfl ?_
      refine r_aload_n C dL_law_150 rfl 1 rfl ?_
      refine r_iload C dL_law_151 6 rfl ?_
      refine r_iconst C dL_law_153 (v := 1) (by decide) ?_
      refine r_iadd C dL_law_154 ?_
      obtain ⟨v10, e11, hf⟩ := hp_bind hf
      refine r_sld C V dL_law_155 e11 ?_
      obtain ⟨_, e15, hf⟩ := hp_bind hf
      obtain ⟨g16, e15⟩ := hp_is_of e15
      obtain ⟨q12, h13, e14, hf⟩ := hp_cbe hf
      refine r_callV C dL_law_156 cs_RL_72 rfl e15 (c_Mo_word B e0 F a2 v10 h8 _ e14) rfl rfl rfl ⟨by decide, by decide⟩ ⟨by show cn + 1 + 0 ≤ 601024; omega, by show sn + 6 + 0 ≤ 7293000; omega⟩ (Nat.le_of_ble_eq_true rfl) rfl ?_
      refine r_istore (lv' := [(7, .int q12), (6, .int q7), (0, .ref b), (1, .ref (hh_ad B e0 a1)), (2, .ref (hh_ad B e0 a2)), (3, .ref (hh_ad B e0 a3)), (4, .ref (hh_ad B e0 a4)), (5, .int x5)]) C dL_law_159 (by decide) rfl ?_
      refine r_aload_n C dL_law_161 rfl 4 rfl ?_
      obtain ⟨_, e20, hf⟩ := hp_bind hf
      obtain ⟨g21, e20⟩ := hp_is_of e20
      obtain ⟨q17, h18, e19, hf⟩ := hp_cbe hf
      refine r_callV C dL_law_162 cs_RL_73 rfl e20 (c_Mo_thrown B e0 F a2 h13 _ e19) rfl rfl rfl ⟨by decide, by decide⟩ ⟨by show cn + 1 + 0 ≤ 601024; omega, by show sn + 6 + 0 ≤ 7293000; omega⟩ (Nat.le_of_ble_eq_true rfl) rfl ?_
      refine r_iload C dL_law_165 1 rfl ?_
      refine r_icmp_eq C dL_law_167 (tgt := 172) (by decide) (fun c22 => ?_) (fun c22 => ?_)
      · rw [if_pos c22] at hf
        refine r_iload C dL_law_172 1 rfl ?_
        refine r_if_ne C dL_law_174 (tgt := 189) (by decide) (fun c23 => ?_) (fun c23 => ?_)
        · rw [if_neg c23] at hf
          refine r_goto C dL_law_189 (tgt := 822) (by decide) ?_
          refine r_iinc (lv' := [(5, .int (x5 + 4)), (7, .int q12), (6, .int q7), (0, .ref b), (1, .ref (hh_ad B e0 a1)), (2, .ref (hh_ad B e0 a2)), (3, .ref (hh_ad B e0 a3)), (4, .ref (hh_ad B e0 a4))]) C dL_law_822 7 rfl rfl (by decide) rfl ?_
          refine r_goto C dL_law_825 (tgt := 58) (by decide) ?_
          refine hh_pick [3, 4, 5, 6, 7, 0] rfl ?_
          refine hh_widen (cn' := cn + 190) (sn' := sn + 9015) (by show cn + 1 ≤ cn + 190; omega) (by show sn + 6 ≤ sn + 9015; omega) ?_
          exact H58 a1 a2 a3 a4 (x5 + 4) h18 hf
        · rw [if_pos c23] at hf
          refine r_aload_n C dL_law_177 rfl 5 rfl ?_
          refine r_iconst C dL_law_178 (v := 0) (by decide) ?_
          obtain ⟨v24, e25, hf⟩ := hp_bind hf
          refine r_aj C dL_law_179 e25 ?_
          refine r_iload C dL_law_180 0 rfl ?_
          refine r_i2l C dL_law_182 ?_
          refine r_lcmp C dL_law_183 ?_
          refine r_if_eq C dL_law_184 (tgt := 189) (by decide) (fun c26 => ?_) (fun c26 => ?_)
          · rw [if_pos c26] at hf
            refine r_goto C dL_law_189 (tgt := 822) (by decide) ?_
            refine r_iinc (lv' := [(5, .int (x5 + 4)), (7, .int q12), (6, .int q7), (0, .ref b), (1, .ref (hh_ad B e0 a1)), (2, .ref (hh_ad B e0 a2)), (3, .ref (hh_ad B e0 a3)), (4, .ref (hh_ad B e0 a4))]) C dL_law_822 7 rfl rfl (by decide) rfl ?_
            refine r_goto C dL_law_825 (tgt := 58) (by decide) ?_
            refine hh_pick [3, 4, 5, 6, 7, 0] rfl ?_
            refine hh_widen (cn' := cn + 190) (sn' := sn + 9015) (by show cn + 1 ≤ cn + 190; omega) (by show sn + 6 ≤ sn + 9015; omega) ?_
            exact H58 a1 a2 a3 a4 (x5 + 4) h18 hf
          · rw [if_neg c26] at hf
            refine r_iconst C dL_law_187 (v := 0) (by decide) ?_
            exact r_ireturnz C E dL_law_188 rfl (by show cn + 1 + 0 ≤ 601024; omega) (by show sn + 6 + 0 ≤ 7293000; omega) hf
      · rw [if_neg c22] at hf
        refine r_iconst C dL_law_170 (v := 0) (by decide) ?_
        exact r_ireturnz C E dL_law_171 rfl (by show cn + 1 + 0 ≤ 601024; omega) (by show sn + 6 + 0 ≤ 7293000; omega) hf
    rw [if_neg c4] at hf
    by_cases c27 : (v2 &&& 15) = 1
    · rw [if_pos c27] at hf
      refine r_tsIn C dL_law_74 c27 (tgt := 192) (by decide) (by decide) rfl (by decide) ?_
      refine r_aload_n C dL_law_192 rfl 1 rfl ?_
      refine r_aload_n C dL_law_193 rfl 3 rfl ?_
      obtain ⟨q28, h29, e30, hf⟩ := hp_cbe hf
      refine r_callSH C O dL_law_194 ch_RL_76 (c_La_close B e0 F a1 a3 h _ e30) rfl rfl rfl ⟨by decide, by decide⟩ ⟨by show cn + 0 + 187 ≤ 601024; omega, by show sn + 0 + 8872 ≤ 7293000; omega⟩ (Nat.le_of_ble_eq_true rfl) rfl ?_
      refine r_istore (lv' := [(6, .int q28), (0, .ref b), (1, .ref (hh_ad B e0 a1)), (2, .ref (hh_ad B e0 a2)), (3, .ref (hh_ad B e0 a3)), (4, .ref (hh_ad B e0 a4)), (5, .int x5)]) C dL_law_197 (by decide) rfl ?_
      refine r_aload_n C dL_law_199 rfl 3 rfl ?_
      obtain ⟨_, e34, hf⟩ := hp_bind hf
      obtain ⟨g35, e34⟩ := hp_is_of e34
      obtain ⟨q31, h32, e33, hf⟩ := hp_cbe hf
      refine r_callV C dL_law_200 cs_RL_79 rfl e34 (c_Mo_close B e0 F a2 h29 _ e33) rfl rfl rfl ⟨by decide, by decide⟩ ⟨by show cn + 187 + 0 ≤ 601024; omega, by show sn + 8872 + 0 ≤ 7293000; omega⟩ (Nat.le_of_ble_eq_true rfl) rfl ?_
      refine r_istore (lv' := [(7, .int q31), (6, .int q28), (0, .ref b), (1, .ref (hh_ad B e0 a1)), (2, .ref (hh_ad B e0 a2)), (3, .ref (hh_ad B e0 a3)), (4, .ref (hh_ad B e0 a4)), (5, .int x5)]) C dL_law_203 (by decide) rfl ?_
      refine r_aload_n C dL_law_205 rfl 4 rfl ?_
      obtain ⟨_, e39, hf⟩ := hp_bind hf
      obtain ⟨g40, e39⟩ := hp_is_of e39
      obtain ⟨q36, h37, e38, hf⟩ := hp_cbe hf
      refine r_callV C dL_law_206 cs_RL_73 rfl e39 (c_Mo_thrown B e0 F a2 h32 _ e38) rfl rfl rfl ⟨by decide, by decide⟩ ⟨by show cn + 187 + 0 ≤ 601024; omega, by show sn + 8872 + 0 ≤ 7293000; omega⟩ (Nat.le_of_ble_eq_true rfl) rfl ?_
      refine r_iload C dL_law_209 1 rfl ?_
      refine r_icmp_eq C dL_law_211 (tgt := 216) (by decide) (fun c41 => ?_) (fun c41 => ?_)
      · rw [if_pos c41] at hf
        refine r_iload C dL_law_216 1 rfl ?_
        refine r_if_ne C dL_law_218 (tgt := 233) (by decide) (fun c42 => ?_) (fun c42 => ?_)
        · rw [if_neg c42] at hf
          refine r_goto C dL_law_233 (tgt := 822) (by decide) ?_
          refine r_iinc (lv' := [(5, .int (x5 + 4)), (7, .int q31), (6, .int q28), (0, .ref b), (1, .ref (hh_ad B e0 a1)), (2, .ref (hh_ad B e0 a2)), (3, .ref (hh_ad B e0 a3)), (4, .ref (hh_ad B e0 a4))]) C dL_law_822 7 rfl rfl (by decide) rfl ?_
          refine r_goto C dL_law_825 (tgt := 58) (by decide) ?_
          refine hh_pick [3, 4, 5, 6, 7, 0] rfl ?_
          refine hh_widen (cn' := cn + 190) (sn' := sn + 9015) (by show cn + 187 ≤ cn + 190; omega) (by show sn + 8872 ≤ sn + 9015; omega) ?_
          exact H58 a1 a2 a3 a4 (x5 + 4) h37 hf
        · rw [if_pos c42] at hf
          refine r_aload_n C dL_law_221 rfl 5 rfl ?_
          refine r_iconst C dL_law_222 (v := 0) (by decide) ?_
          obtain ⟨v43, e44, hf⟩ := hp_bind hf
          refine r_aj C dL_law_223 e44 ?_
          refine r_iload C dL_law_224 0 rfl ?_
          refine r_i2l C dL_law_226 ?_
          refine r_lcmp C dL_law_227 ?_
          refine r_if_eq C dL_law_228 (tgt := 233) (by decide) (fun c45 => ?_) (fun c45 => ?_)
          · rw [if_pos c45] at hf
            refine r_goto C dL_law_233 (tgt := 822) (by decide) ?_
            refine r_iinc (lv' := [(5, .int (x5 + 4)), (7, .int q31), (6, .int q28), (0, .ref b), (1, .ref (hh_ad B e0 a1)), (2, .ref (hh_ad B e0 a2)), (3, .ref (hh_ad B e0 a3)), (4, .ref (hh_ad B e0 a4))]) C dL_law_822 7 rfl rfl (by decide) rfl ?_
            refine r_goto C dL_law_825 (tgt := 58) (by decide) ?_
            refine hh_pick [3, 4, 5, 6, 7, 0] rfl ?_
            refine hh_widen (cn' := cn + 190) (sn' := sn + 9015) (by show cn + 187 ≤ cn + 190; omega) (by show sn + 8872 ≤ sn + 9015; omega) ?_
            exact H58 a1 a2 a3 a4 (x5 + 4) h37 hf
          · rw [if_neg c45] at hf
            refine r_iconst C dL_law_231 (v := 0) (by decide) ?_
            exact r_ireturnz C E dL_law_232 rfl (by show cn + 187 + 0 ≤ 601024; omega) (by show sn + 8872 + 0 ≤ 7293000; omega) hf
      · rw [if_neg c41] at hf
        refine r_iconst C dL_law_214 (v := 0) (by decide) ?_
        exact r_ireturnz C E dL_law_215 rfl (by show cn + 187 + 0 ≤ 601024; omega) (by show sn + 8872 + 0 ≤ 7293000; omega) hf
    rw [if_neg c27] at hf
    by_cases c46 : (v2 &&& 15) = 2
    · rw [if_pos c46] at hf
      refine r_tsIn C dL_law_74 c46 (tgt := 236) (by decide) (by decide) rfl (by decide) ?_
      refine r_aload_n C dL_law_236 rfl 1 rfl ?_
      refine r_aload_n C dL_law_237 rfl 0 rfl ?_
      refine r_iload C dL_law_238 5 rfl ?_
      refine r_iconst C dL_law_240 (v := 1) (by decide) ?_
      refine r_iadd C dL_law_241 ?_
      obtain ⟨v47, e48, hf⟩ := hp_bind hf
      refine r_sld C V dL_law_242 e48 ?_
      refine r_aload_n C dL_law_243 rfl 3 rfl ?_
      obtain ⟨q49, h50, e51, hf⟩ := hp_cbe hf
      refine r_callSH C O dL_law_244 ch_RL_80 (c_La_drop B e0 F a1 v47 a3 h _ e51) rfl rfl rfl ⟨by decide, by decide⟩ ⟨by show cn + 0 + 1 ≤ 601024; omega, by show sn + 0 + 6 ≤ 7293000; omega⟩ (Nat.le_of_ble_eq_true rfl) rfl ?_
      refine r_istore (lv' := [(6, .int q49), (0, .ref b), (1, .ref (hh_ad B e0 a1)), (2, .ref (hh_ad B e0 a2)), (3, .ref (hh_ad B e0 a3)), (4, .ref (hh_ad B e0 a4)), (5, .int x5)]) C dL_law_247 (by decide) rfl ?_
      refine r_aload_n C dL_law_249 rfl 3 rfl ?_
      refine r_aload_n C dL_law_250 rfl 1 rfl ?_
      refine r_iload C dL_law_251 6 rfl ?_
      refine r_iconst C dL_law_253 (v := 1) (by decide) ?_
      refine r_iadd C dL_law_254 ?_
      obtain ⟨v52, e53, hf⟩ := hp_bind hf
      refine r_sld C V dL_law_255 e53 ?_
      obtain ⟨_, e57, hf⟩ := hp_bind hf
      obtain ⟨g58, e57⟩ := hp_is_of e57
      obtain ⟨q54, h55, e56, hf⟩ := hp_cbe hf
      refine r_callV C dL_law_256 cs_RL_82 rfl e57 (c_Mo_drop B e0 F a2 v52 h50 _ e56) rfl rfl rfl ⟨by decide, by decide⟩ ⟨by show cn + 1 + 0 ≤ 601024; omega, by show sn + 6 + 0 ≤ 7293000; omega⟩ (Nat.le_of_ble_eq_true rfl) rfl ?_
      refine r_istore (lv' := [(7, .int q54), (6, .int q49), (0, .ref b), (1, .ref (hh_ad B e0 a1)), (2, .ref (hh_ad B e0 a2)), (3, .ref (hh_ad B e0 a3)), (4, .ref (hh_ad B e0 a4)), (5, .int x5)]) C dL_law_259 (by decide) rfl ?_
      refine r_aload_n C dL_law_261 rfl 4 rfl ?_
      obtain ⟨_, e62, hf⟩ := hp_bind hf
      obtain ⟨g63, e62⟩ := hp_is_of e62
      obtain ⟨q59, h60, e61, hf⟩ := hp_cbe hf
      refine r_callV C dL_law_262 cs_RL_73 rfl e62 (c_Mo_thrown B e0 F a2 h55 _ e61) rfl rfl rfl ⟨by decide, by decide⟩ ⟨by show cn + 1 + 0 ≤ 601024; omega, by show sn + 6 + 0 ≤ 7293000; omega⟩ (Nat.le_of_ble_eq_true rfl) rfl ?_
      refine r_iload C dL_law_265 1 rfl ?_
      refine r_icmp_eq C dL_law_267 (tgt := 272) (by decide) (fun c64 => ?_) (fun c64 => ?_)
      · rw [if_pos c64] at hf
        refine r_iload C dL_law_272 1 rfl ?_
        refine r_if_ne C dL_law_274 (tgt := 289) (by decide) (fun c65 => ?_) (fun c65 => ?_)
        · rw [if_neg c65] at hf
          refine r_goto C dL_law_289 (tgt := 822) (by decide) ?_
          refine r_iinc (lv' := [(5, .int (x5 + 4)), (7, .int q54), (6, .int q49), (0, .ref b), (1, .ref (hh_ad B e0 a1)), (2, .ref (hh_ad B e0 a2)), (3, .ref (hh_ad B e0 a3)), (4, .ref (hh_ad B e0 a4))]) C dL_law_822 7 rfl rfl (by decide) rfl ?_
          refine r_goto C dL_law_825 (tgt := 58) (by decide) ?_
          refine hh_pick [3, 4, 5, 6, 7, 0] rfl ?_
          refine hh_widen (cn' := cn + 190) (sn' := sn + 9015) (by show cn + 1 ≤ cn + 190; omega) (by show sn + 6 ≤ sn + 9015; omega) ?_
          exact H58 a1 a2 a3 a4 (x5 + 4) h60 hf
        · rw [if_pos c65] at hf
          refine r_aload_n C dL_law_277 rfl 5 rfl ?_
          refine r_iconst C dL_law_278 (v := 0) (by decide) ?_
          obtain ⟨v66, e67, hf⟩ := hp_bind hf
          refine r_aj C dL_law_279 e67 ?_
          refine r_iload C dL_law_280 0 rfl ?_
          refine r_i2l C dL_law_282 ?_
          refine r_lcmp C dL_law_283 ?_
          refine r_if_eq C dL_law_284 (tgt := 289) (by decide) (fun c68 => ?_) (fun c68 => ?_)
          · rw [if_pos c68] at hf
            refine r_goto C dL_law_289 (tgt := 822) (by decide) ?_
            refine r_iinc (lv' := [(5, .int (x5 + 4)), (7, .int q54), (6, .int q49), (0, .ref b), (1, .ref (hh_ad B e0 a1)), (2, .ref (hh_ad B e0 a2)), (3, .ref (hh_ad B e0 a3)), (4, .ref (hh_ad B e0 a4))]) C dL_law_822 7 rfl rfl (by decide) rfl ?_
            refine r_goto C dL_law_825 (tgt := 58) (by decide) ?_
            refine hh_pick [3, 4, 5, 6, 7, 0] rfl ?_
            refine hh_widen (cn' := cn + 190) (sn' := sn + 9015) (by show cn + 1 ≤ cn + 190; omega) (by show sn + 6 ≤ sn + 9015; omega) ?_
            exact H58 a1 a2 a3 a4 (x5 + 4) h60 hf
          · rw [if_neg c68] at hf
            refine r_iconst C dL_law_287 (v := 0) (by decide) ?_
            exact r_ireturnz C E dL_law_288 rfl (by show cn + 1 + 0 ≤ 601024; omega) (by show sn + 6 + 0 ≤ 7293000; omega) hf
      · rw [if_neg c64] at hf
        refine r_iconst C dL_law_270 (v := 0) (by decide) ?_
        exact r_ireturnz C E dL_law_271 rfl (by show cn + 1 + 0 ≤ 601024; omega) (by show sn + 6 + 0 ≤ 7293000; omega) hf
    rw [if_neg c46] at hf
    by_cases c69 : (v2 &&& 15) = 3
    · rw [if_pos c69] at hf
      refine r_tsIn C dL_law_74 c69 (tgt := 292) (by decide) (by decide) rfl (by decide) ?_
      refine r_aload_n C dL_law_292 rfl 1 rfl ?_
      refine r_aload_n C dL_law_293 rfl 3 rfl ?_
      obtain ⟨q70, h71, e72, hf⟩ := hp_cbe hf
      refine r_callSH C O dL_law_294 ch_RL_83 (c_La_flush B e0 F a1 a3 h _ e72) rfl rfl rfl ⟨by decide, by decide⟩ ⟨by show cn + 0 + 187 ≤ 601024; omega, by show sn + 0 + 8872 ≤ 7293000; omega⟩ (Nat.le_of_ble_eq_true rfl) rfl ?_
      refine r_istore (lv' := [(6, .int q70), (0, .ref b), (1, .ref (hh_ad B e0 a1)), (2, .ref (hh_ad B e0 a2)), (3, .ref (hh_ad B e0 a3)), (4, .ref (hh_ad B e0 a4)), (5, .int x5)]) C dL_law_297 (by decide) rfl ?_
      refine r_aload_n C dL_law_299 rfl 3 rfl ?_
      obtain ⟨_, e76, hf⟩ := hp_bind hf
      obtain ⟨g77, e76⟩ := hp_is_of e76
      obtain ⟨q73, h74, e75, hf⟩ := hp_cbe hf
      refine r_callV C dL_law_300 cs_RL_85 rfl e76 (c_Mo_flush B e0 F a2 h71 _ e75) rfl rfl rfl ⟨by decide, by decide⟩ ⟨by show cn + 187 + 0 ≤ 601024; omega, by show sn + 8872 + 0 ≤ 7293000; omega⟩ (Nat.le_of_ble_eq_true rfl) rfl ?_
      refine r_istore (lv' := [(7, .int q73), (6, .int q70), (0, .ref b), (1, .ref (hh_ad B e0 a1)), (2, .ref (hh_ad B e0 a2)), (3, .ref (hh_ad B e0 a3)), (4, .ref (hh_ad B e0 a4)), (5, .int x5)]) C dL_law_303 (by decide) rfl ?_
      refine r_aload_n C dL_law_305 rfl 4 rfl ?_
      obtain ⟨_, e81, hf⟩ := hp_bind hf
      obtain ⟨g82, e81⟩ := hp_is_of e81
      obtain ⟨q78, h79, e80, hf⟩ := hp_cbe hf
      refine r_callV C dL_law_306 cs_RL_73 rfl e81 (c_Mo_thrown B e0 F a2 h74 _ e80) rfl rfl rfl ⟨by decide, by decide⟩ ⟨by show cn + 187 + 0 ≤ 601024; omega, by show sn + 8872 + 0 ≤ 7293000; omega⟩ (Nat.le_of_ble_eq_true rfl) rfl ?_
      refine r_iload C dL_law_309 1 rfl ?_
      refine r_icmp_eq C dL_law_311 (tgt := 316) (by decide) (fun c83 => ?_) (fun c83 => ?_)
      · rw [if_pos c83] at hf
        refine r_iload C dL_law_316 1 rfl ?_
        refine r_if_ne C dL_law_318 (tgt := 333) (by decide) (fun c84 => ?_) (fun c84 => ?_)
        · rw [if_neg c84] at hf
          refine r_goto C dL_law_333 (tgt := 822) (by decide) ?_
          refine r_iinc (lv' := [(5, .int (x5 + 4)), (7, .int q73), (6, .int q70), (0, .ref b), (1, .ref (hh_ad B e0 a1)), (2, .ref (hh_ad B e0 a2)), (3, .ref (hh_ad B e0 a3)), (4, .ref (hh_ad B e0 a4))]) C dL_law_822 7 rfl rfl (by decide) rfl ?_
          refine r_goto C dL_law_825 (tgt := 58) (by decide) ?_
          refine hh_pick [3, 4, 5, 6, 7, 0] rfl ?_
          refine hh_widen (cn' := cn + 190) (sn' := sn + 9015) (by show cn + 187 ≤ cn + 190; omega) (by show sn + 8872 ≤ sn + 9015; omega) ?_
          exact H58 a1 a2 a3 a4 (x5 + 4) h79 hf
        · rw [if_pos c84] at hf
          refine r_aload_n C dL_law_321 rfl 5 rfl ?_
          refine r_iconst C dL_law_322 (v := 0) (by decide) ?_
          obtain ⟨v85, e86, hf⟩ := hp_bind hf
          refine r_aj C dL_law_323 e86 ?_
          refine r_iload C dL_law_324 0 rfl ?_
          refine r_i2l C dL_law_326 ?_
          refine r_lcmp C dL_law_327 ?_
          refine r_if_eq C dL_law_328 (tgt := 333) (by decide) (fun c87 => ?_) (fun c87 => ?_)
          · rw [if_pos c87] at hf
            refine r_goto C dL_law_333 (tgt := 822) (by decide) ?_
            refine r_iinc (lv' := [(5, .int (x5 + 4)), (7, .int q73), (6, .int q70), (0, .ref b), (1, .ref (hh_ad B e0 a1)), (2, .ref (hh_ad B e0 a2)), (3, .ref (hh_ad B e0 a3)), (4, .ref (hh_ad B e0 a4))]) C dL_law_822 7 rfl rfl (by decide) rfl ?_
            refine r_goto C dL_law_825 (tgt := 58) (by decide) ?_
            refine hh_pick [3, 4, 5, 6, 7, 0] rfl ?_
            refine hh_widen (cn' := cn + 190) (sn' := sn + 9015) (by show cn + 187 ≤ cn + 190; omega) (by show sn + 8872 ≤ sn + 9015; omega) ?_
            exact H58 a1 a2 a3 a4 (x5 + 4) h79 hf
          · rw [if_neg c87] at hf
            refine r_iconst C dL_law_331 (v := 0) (by decide) ?_
            exact r_ireturnz C E dL_law_332 rfl (by show cn + 187 + 0 ≤ 601024; omega) (by show sn + 8872 + 0 ≤ 7293000; omega) hf
      · rw [if_neg c83] at hf
        refine r_iconst C dL_law_314 (v := 0) (by decide) ?_
        exact r_ireturnz C E dL_law_315 rfl (by show cn + 187 + 0 ≤ 601024; omega) (by show sn + 8872 + 0 ≤ 7293000; omega) hf
    rw [if_neg c69] at hf
    by_cases c88 : (v2 &&& 15) = 4
    · rw [if_pos c88] at hf
      refine r_tsIn C dL_law_74 c88 (tgt := 336) (by decide) (by decide) rfl (by decide) ?_
      refine r_aload_n C dL_law_336 rfl 1 rfl ?_
      refine r_aload_n C dL_law_337 rfl 3 rfl ?_
      obtain ⟨q89, h90, e91, hf⟩ := hp_cbe hf
      refine r_callSH C O dL_law_338 ch_RL_86 (c_La_finish B e0 F a1 a3 h _ e91) rfl rfl rfl ⟨by decide, by decide⟩ ⟨by show cn + 0 + 190 ≤ 601024; omega, by show sn + 0 + 9015 ≤ 7293000; omega⟩ (Nat.le_of_ble_eq_true rfl) rfl ?_
      refine r_istore (lv' := [(6, .int q89), (0, .ref b), (1, .ref (hh_ad B e0 a1)), (2, .ref (hh_ad B e0 a2)), (3, .ref (hh_ad B e0 a3)), (4, .ref (hh_ad B e0 a4)), (5, .int x5)]) C dL_law_341 (by decide) rfl ?_
      refine r_aload_n C dL_law_343 rfl 3 rfl ?_
      obtain ⟨_, e95, hf⟩ := hp_bind hf
      obtain ⟨g96, e95⟩ := hp_is_of e95
      obtain ⟨q92, h93, e94, hf⟩ := hp_cbe hf
      refine r_callV C dL_law_344 cs_RL_88 rfl e95 (c_Mo_finish B e0 F a2 h90 _ e94) rfl rfl rfl ⟨by decide, by decide⟩ ⟨by show cn + 190 + 0 ≤ 601024; omega, by show sn + 9015 + 0 ≤ 7293000; omega⟩ (Nat.le_of_ble_eq_true rfl) rfl ?_
      refine r_istore (lv' := [(7, .int q92), (6, .int q89), (0, .ref b), (1, .ref (hh_ad B e0 a1)), (2, .ref (hh_ad B e0 a2)), (3, .ref (hh_ad B e0 a3)), (4, .ref (hh_ad B e0 a4)), (5, .int x5)]) C dL_law_347 (by decide) rfl ?_
      refine r_aload_n C dL_law_349 rfl 4 rfl ?_
      obtain ⟨_, e100, hf⟩ := hp_bind hf
      obtain ⟨g101, e100⟩ := hp_is_of e100
      obtain ⟨q97, h98, e99, hf⟩ := hp_cbe hf
      refine r_callV C dL_law_350 cs_RL_73 rfl e100 (c_Mo_thrown B e0 F a2 h93 _ e99) rfl rfl rfl ⟨by decide, by decide⟩ ⟨by show cn + 190 + 0 ≤ 601024; omega, by show sn + 9015 + 0 ≤ 7293000; omega⟩ (Nat.le_of_ble_eq_true rfl) rfl ?_
      refine r_iload C dL_law_353 1 rfl ?_
      refine r_icmp_eq C dL_law_355 (tgt := 360) (by decide) (fun c102 => ?_) (fun c102 => ?_)
      · rw [if_pos c102] at hf
        refine r_iload C dL_law_360 1 rfl ?_
        refine r_if_ne C dL_law_362 (tgt := 377) (by decide) (fun c103 => ?_) (fun c103 => ?_)
        · rw [if_neg c103] at hf
          refine r_goto C dL_law_377 (tgt := 822) (by decide) ?_
          refine r_iinc (lv' := [(5, .int (x5 + 4)), (7, .int q92), (6, .int q89), (0, .ref b), (1, .ref (hh_ad B e0 a1)), (2, .ref (hh_ad B e0 a2)), (3, .ref (hh_ad B e0 a3)), (4, .ref (hh_ad B e0 a4))]) C dL_law_822 7 rfl rfl (by decide) rfl ?_
          refine r_goto C dL_law_825 (tgt := 58) (by decide) ?_
          refine hh_pick [3, 4, 5, 6, 7, 0] rfl ?_
          refine hh_widen (cn' := cn + 190) (sn' := sn + 9015) (by show cn + 190 ≤ cn + 190; omega) (by show sn + 9015 ≤ sn + 9015; omega) ?_
          exact H58 a1 a2 a3 a4 (x5 + 4) h98 hf
        · rw [if_pos c103] at hf
          refine r_aload_n C dL_law_365 rfl 5 rfl ?_
          refine r_iconst C dL_law_366 (v := 0) (by decide) ?_
          obtain ⟨v104, e105, hf⟩ := hp_bind hf
          refine r_aj C dL_law_367 e105 ?_
          refine r_iload C dL_law_368 0 rfl ?_
          refine r_i2l C dL_law_370 ?_
          refine r_lcmp C dL_law_371 ?_
          refine r_if_eq C dL_law_372 (tgt := 377) (by decide) (fun c106 => ?_) (fun c106 => ?_)
          · rw [if_pos c106] at hf
            refine r_goto C dL_law_377 (tgt := 822) (by decide) ?_
            refine r_iinc (lv' := [(5, .int (x5 + 4)), (7, .int q92), (6, .int q89), (0, .ref b), (1, .ref (hh_ad B e0 a1)), (2, .ref (hh_ad B e0 a2)), (3, .ref (hh_ad B e0 a3)), (4, .ref (hh_ad B e0 a4))]) C dL_law_822 7 rfl rfl (by decide) rfl ?_
            refine r_goto C dL_law_825 (tgt := 58) (by decide) ?_
            refine hh_pick [3, 4, 5, 6, 7, 0] rfl ?_
            refine hh_widen (cn' := cn + 190) (sn' := sn + 9015) (by show cn + 190 ≤ cn + 190; omega) (by show sn + 9015 ≤ sn + 9015; omega) ?_
            exact H58 a1 a2 a3 a4 (x5 + 4) h98 hf
          · rw [if_neg c106] at hf
            refine r_iconst C dL_law_375 (v := 0) (by decide) ?_
            exact r_ireturnz C E dL_law_376 rfl (by show cn + 190 + 0 ≤ 601024; omega) (by show sn + 9015 + 0 ≤ 7293000; omega) hf
      · rw [if_neg c102] at hf
        refine r_iconst C dL_law_358 (v := 0) (by decide) ?_
        exact r_ireturnz C E dL_law_359 rfl (by show cn + 190 + 0 ≤ 601024; omega) (by show sn + 9015 + 0 ≤ 7293000; omega) hf
    rw [if_neg c88] at hf
    by_cases c107 : (v2 &&& 15) = 5
    · rw [if_pos c107] at hf
      refine r_tsIn C dL_law_74 c107 (tgt := 380) (by decide) (by decide) rfl (by decide) ?_
      refine r_aload_n C dL_law_380 rfl 1 rfl ?_
      refine r_aload_n C dL_law_381 rfl 0 rfl ?_
      refine r_iload C dL_law_382 5 rfl ?_
      refine r_iconst C dL_law_384 (v := 1) (by decide) ?_
      refine r_iadd C dL_law_385 ?_
      obtain ⟨v108, e109, hf⟩ := hp_bind hf
      refine r_sld C V dL_law_386 e109 ?_
      refine r_aload_n C dL_law_387 rfl 0 rfl ?_
      refine r_iload C dL_law_388 5 rfl ?_
      refine r_iconst C dL_law_390 (v := 2) (by decide) ?_
      refine r_iadd C dL_law_391 ?_
      obtain ⟨v110, e111, hf⟩ := hp_bind hf
      refine r_sld C V dL_law_392 e111 ?_
      refine r_aload_n C dL_law_393 rfl 0 rfl ?_
      refine r_iload C dL_law_394 5 rfl ?_
      refine r_iconst C dL_law_396 (v := 3) (by decide) ?_
      refine r_iadd C dL_law_397 ?_
      obtain ⟨v112, e113, hf⟩ := hp_bind hf
      refine r_sld C V dL_law_398 e113 ?_
      refine r_aload_n C dL_law_399 rfl 3 rfl ?_
      obtain ⟨q114, h115, e116, hf⟩ := hp_cbe hf
      refine r_callSH C O dL_law_400 ch_RL_89 (c_La_find B e0 F a1 v108 v110 v112 a3 h _ e116) rfl rfl rfl ⟨by decide, by decide⟩ ⟨by show cn + 0 + 1 ≤ 601024; omega, by show sn + 0 + 6 ≤ 7293000; omega⟩ (Nat.le_of_ble_eq_true rfl) rfl ?_
      refine r_istore (lv' := [(6, .int q114), (0, .ref b), (1, .ref (hh_ad B e0 a1)), (2, .ref (hh_ad B e0 a2)), (3, .ref (hh_ad B e0 a3)), (4, .ref (hh_ad B e0 a4)), (5, .int x5)]) C dL_law_403 (by decide) rfl ?_
      refine r_aload_n C dL_law_405 rfl 3 rfl ?_
      refine r_aload_n C dL_law_406 rfl 1 rfl ?_
      refine r_iload C dL_law_407 6 rfl ?_
      refine r_iconst C dL_law_409 (v := 1) (by decide) ?_
      refine r_iadd C dL_law_410 ?_
      obtain ⟨v117, e118, hf⟩ := hp_bind hf
      refine r_sld C V dL_law_411 e118 ?_
      refine r_aload_n C dL_law_412 rfl 1 rfl ?_
      refine r_iload C dL_law_413 6 rfl ?_
      refine r_iconst C dL_law_415 (v := 2) (by decide) ?_
      refine r_iadd C dL_law_416 ?_
      obtain ⟨v119, e120, hf⟩ := hp_bind hf
      refine r_sld C V dL_law_417 e120 ?_
      refine r_aload_n C dL_law_418 rfl 1 rfl ?_
      refine r_iload C dL_law_419 6 rfl ?_
      refine r_iconst C dL_law_421 (v := 3) (by decide) ?_
      refine r_iadd C dL_law_422 ?_
      obtain ⟨v121, e122, hf⟩ := hp_bind hf
      refine r_sld C V dL_law_423 e122 ?_
      obtain ⟨_, e126, hf⟩ := hp_bind hf
      obtain ⟨g127, e126⟩ := hp_is_of e126
      obtain ⟨q123, h124, e125, hf⟩ := hp_cbe hf
      refine r_callV C dL_law_424 cs_RL_92 rfl e126 (c_Mo_find B e0 F a2 v117 v119 v121 h115 _ e125) rfl rfl rfl ⟨by decide, by decide⟩ ⟨by show cn + 1 + 0 ≤ 601024; omega, by show sn + 6 + 0 ≤ 7293000; omega⟩ (Nat.le_of_ble_eq_true rfl) rfl ?_
      refine r_istore (lv' := [(7, .int q123), (6, .int q114), (0, .ref b), (1, .ref (hh_ad B e0 a1)), (2, .ref (hh_ad B e0 a2)), (3, .ref (hh_ad B e0 a3)), (4, .ref (hh_ad B e0 a4)), (5, .int x5)]) C dL_law_427 (by decide) rfl ?_
      refine r_aload_n C dL_law_429 rfl 4 rfl ?_
      obtain ⟨_, e131, hf⟩ := hp_bind hf
      obtain ⟨g132, e131⟩ := hp_is_of e131
      obtain ⟨q128, h129, e130, hf⟩ := hp_cbe hf
      refine r_callV C dL_law_430 cs_RL_73 rfl e131 (c_Mo_thrown B e0 F a2 h124 _ e130) rfl rfl rfl ⟨by decide, by decide⟩ ⟨by show cn + 1 + 0 ≤ 601024; omega, by show sn + 6 + 0 ≤ 7293000; omega⟩ (Nat.le_of_ble_eq_true rfl) rfl ?_
      refine r_iload C dL_law_433 1 rfl ?_
      refine r_icmp_eq C dL_law_435 (tgt := 440) (by decide) (fun c133 => ?_) (fun c133 => ?_)
      · rw [if_pos c133] at hf
        refine r_iload C dL_law_440 1 rfl ?_
        refine r_if_ne C dL_law_442 (tgt := 457) (by decide) (fun c134 => ?_) (fun c134 => ?_)
        · rw [if_neg c134] at hf
          refine r_goto C dL_law_457 (tgt := 822) (by decide) ?_
          refine r_iinc (lv' := [(5, .int (x5 + 4)), (7, .int q123), (6, .int q114), (0, .ref b), (1, .ref (hh_ad B e0 a1)), (2, .ref (hh_ad B e0 a2)), (3, .ref (hh_ad B e0 a3)), (4, .ref (hh_ad B e0 a4))]) C dL_law_822 7 rfl rfl (by decide) rfl ?_
          refine r_goto C dL_law_825 (tgt := 58) (by decide) ?_
          refine hh_pick [3, 4, 5, 6, 7, 0] rfl ?_
          refine hh_widen (cn' := cn + 190) (sn' := sn + 9015) (by show cn + 1 ≤ cn + 190; omega) (by show sn + 6 ≤ sn + 9015; omega) ?_
          exact H58 a1 a2 a3 a4 (x5 + 4) h129 hf
        · rw [if_pos c134] at hf
          refine r_aload_n C dL_law_445 rfl 5 rfl ?_
          refine r_iconst C dL_law_446 (v := 0) (by decide) ?_
          obtain ⟨v135, e136, hf⟩ := hp_bind hf
          refine r_aj C dL_law_447 e136 ?_
          refine r_iload C dL_law_448 0 rfl ?_
          refine r_i2l C dL_law_450 ?_
          refine r_lcmp C dL_law_451 ?_
          refine r_if_eq C dL_law_452 (tgt := 457) (by decide) (fun c137 => ?_) (fun c137 => ?_)
          · rw [if_pos c137] at hf
            refine r_goto C dL_law_457 (tgt := 822) (by decide) ?_
            refine r_iinc (lv' := [(5, .int (x5 + 4)), (7, .int q123), (6, .int q114), (0, .ref b), (1, .ref (hh_ad B e0 a1)), (2, .ref (hh_ad B e0 a2)), (3, .ref (hh_ad B e0 a3)), (4, .ref (hh_ad B e0 a4))]) C dL_law_822 7 rfl rfl (by decide) rfl ?_
            refine r_goto C dL_law_825 (tgt := 58) (by decide) ?_
            refine hh_pick [3, 4, 5, 6, 7, 0] rfl ?_
            refine hh_widen (cn' := cn + 190) (sn' := sn + 9015) (by show cn + 1 ≤ cn + 190; omega) (by show sn + 6 ≤ sn + 9015; omega) ?_
            exact H58 a1 a2 a3 a4 (x5 + 4) h129 hf
          · rw [if_neg c137] at hf
            refine r_iconst C dL_law_455 (v := 0) (by decide) ?_
            exact r_ireturnz C E dL_law_456 rfl (by show cn + 1 + 0 ≤ 601024; omega) (by show sn + 6 + 0 ≤ 7293000; omega) hf
      · rw [if_neg c133] at hf
        refine r_iconst C dL_law_438 (v := 0) (by decide) ?_
        exact r_ireturnz C E dL_law_439 rfl (by show cn + 1 + 0 ≤ 601024; omega) (by show sn + 6 + 0 ≤ 7293000; omega) hf
    rw [if_neg c107] at hf
    by_cases c138 : (v2 &&& 15) = 6
    · rw [if_pos c138] at hf
      refine r_tsIn C dL_law_74 c138 (tgt := 460) (by decide) (by decide) rfl (by decide) ?_
      refine r_aload_n C dL_law_460 rfl 1 rfl ?_
      refine r_aload_n C dL_law_461 rfl 0 rfl ?_
      refine r_iload C dL_law_462 5 rfl ?_
      refine r_iconst C dL_law_464 (v := 1) (by decide) ?_
      refine r_iadd C dL_law_465 ?_
      obtain ⟨v139, e140, hf⟩ := hp_bind hf
      refine r_sld C V dL_law_466 e140 ?_
      refine r_aload_n C dL_law_467 rfl 0 rfl ?_
      refine r_iload C dL_law_468 5 rfl ?_
      refine r_iconst C dL_law_470 (v := 2) (by decide) ?_
      refine r_iadd C dL_law_471 ?_
      obtain ⟨v141, e142, hf⟩ := hp_bind hf
      refine r_sld C V dL_law_472 e142 ?_
      refine r_aload_n C dL_law_473 rfl 3 rfl ?_
      obtain ⟨q143, h144, e145, hf⟩ := hp_cbe hf
      refine r_callSH C O dL_law_474 ch_RL_93 (c_La_rank B e0 F a1 v139 v141 a3 h _ e145) rfl rfl rfl ⟨by decide, by decide⟩ ⟨by show cn + 0 + 1 ≤ 601024; omega, by show sn + 0 + 6 ≤ 7293000; omega⟩ (Nat.le_of_ble_eq_true rfl) rfl ?_
      refine r_istore (lv' := [(6, .int q143), (0, .ref b), (1, .ref (hh_ad B e0 a1)), (2, .ref (hh_ad B e0 a2)), (3, .ref (hh_ad B e0 a3)), (4, .ref (hh_ad B e0 a4)), (5, .int x5)]) C dL_law_477 (by decide) rfl ?_
      refine r_aload_n C dL_law_479 rfl 3 rfl ?_
      refine r_aload_n C dL_law_480 rfl 1 rfl ?_
      refine r_iload C dL_law_481 6 rfl ?_
      refine r_iconst C dL_law_483 (v := 1) (by decide) ?_
      refine r_iadd C dL_law_484 ?_
      obtain ⟨v146, e147, hf⟩ := hp_bind hf
      refine r_sld C V dL_law_485 e147 ?_
      refine r_aload_n C dL_law_486 rfl 1 rfl ?_
      refine r_iload C dL_law_487 6 rfl ?_
      refine r_iconst C dL_law_489 (v := 2) (by decide) ?_
      refine r_iadd C dL_law_490 ?_
      obtain ⟨v148, e149, hf⟩ := hp_bind hf
      refine r_sld C V dL_law_491 e149 ?_
      obtain ⟨_, e153, hf⟩ := hp_bind hf
      obtain ⟨g154, e153⟩ := hp_is_of e153
      obtain ⟨q150, h151, e152, hf⟩ := hp_cbe hf
      refine r_callV C dL_law_492 cs_RL_96 rfl e153 (c_Mo_rank B e0 F a2 v146 v148 h144 _ e152) rfl rfl rfl ⟨by decide, by decide⟩ ⟨by show cn + 1 + 0 ≤ 601024; omega, by show sn + 6 + 0 ≤ 7293000; omega⟩ (Nat.le_of_ble_eq_true rfl) rfl ?_
      refine r_istore (lv' := [(7, .int q150), (6, .int q143), (0, .ref b), (1, .ref (hh_ad B e0 a1)), (2, .ref (hh_ad B e0 a2)), (3, .ref (hh_ad B e0 a3)), (4, .ref (hh_ad B e0 a4)), (5, .int x5)]) C dL_law_495 (by decide) rfl ?_
      refine r_aload_n C dL_law_497 rfl 4 rfl ?_
      obtain ⟨_, e158, hf⟩ := hp_bind hf
      obtain ⟨g159, e158⟩ := hp_is_of e158
      obtain ⟨q155, h156, e157, hf⟩ := hp_cbe hf
      refine r_callV C dL_law_498 cs_RL_73 rfl e158 (c_Mo_thrown B e0 F a2 h151 _ e157) rfl rfl rfl ⟨by decide, by decide⟩ ⟨by show cn + 1 + 0 ≤ 601024; omega, by show sn + 6 + 0 ≤ 7293000; omega⟩ (Nat.le_of_ble_eq_true rfl) rfl ?_
      refine r_iload C dL_law_501 1 rfl ?_
      refine r_icmp_eq C dL_law_503 (tgt := 508) (by decide) (fun c160 => ?_) (fun c160 => ?_)
      · rw [if_pos c160] at hf
        refine r_iload C dL_law_508 1 rfl ?_
        refine r_if_ne C dL_law_510 (tgt := 525) (by decide) (fun c161 => ?_) (fun c161 => ?_)
        · rw [if_neg c161] at hf
          refine r_goto C dL_law_525 (tgt := 822) (by decide) ?_
          refine r_iinc (lv' := [(5, .int (x5 + 4)), (7, .int q150), (6, .int q143), (0, .ref b), (1, .ref (hh_ad B e0 a1)), (2, .ref (hh_ad B e0 a2)), (3, .ref (hh_ad B e0 a3)), (4, .ref (hh_ad B e0 a4))]) C dL_law_822 7 rfl rfl (by decide) rfl ?_
          refine r_goto C dL_law_825 (tgt := 58) (by decide) ?_
          refine hh_pick [3, 4, 5, 6, 7, 0] rfl ?_
          refine hh_widen (cn' := cn + 190) (sn' := sn + 9015) (by show cn + 1 ≤ cn + 190; omega) (by show sn + 6 ≤ sn + 9015; omega) ?_
          exact H58 a1 a2 a3 a4 (x5 + 4) h156 hf
        · rw [if_pos c161] at hf
          refine r_aload_n C dL_law_513 rfl 5 rfl ?_
          refine r_iconst C dL_law_514 (v := 0) (by decide) ?_
          obtain ⟨v162, e163, hf⟩ := hp_bind hf
          refine r_aj C dL_law_515 e163 ?_
          refine r_iload C dL_law_516 0 rfl ?_
          refine r_i2l C dL_law_518 ?_
          refine r_lcmp C dL_law_519 ?_
          refine r_if_eq C dL_law_520 (tgt := 525) (by decide) (fun c164 => ?_) (fun c164 => ?_)
          · rw [if_pos c164] at hf
            refine r_goto C dL_law_525 (tgt := 822) (by decide) ?_
            refine r_iinc (lv' := [(5, .int (x5 + 4)), (7, .int q150), (6, .int q143), (0, .ref b), (1, .ref (hh_ad B e0 a1)), (2, .ref (hh_ad B e0 a2)), (3, .ref (hh_ad B e0 a3)), (4, .ref (hh_ad B e0 a4))]) C dL_law_822 7 rfl rfl (by decide) rfl ?_
            refine r_goto C dL_law_825 (tgt := 58) (by decide) ?_
            refine hh_pick [3, 4, 5, 6, 7, 0] rfl ?_
            refine hh_widen (cn' := cn + 190) (sn' := sn + 9015) (by show cn + 1 ≤ cn + 190; omega) (by show sn + 6 ≤ sn + 9015; omega) ?_
            exact H58 a1 a2 a3 a4 (x5 + 4) h156 hf
          · rw [if_neg c164] at hf
            refine r_iconst C dL_law_523 (v := 0) (by decide) ?_
            exact r_ireturnz C E dL_law_524 rfl (by show cn + 1 + 0 ≤ 601024; omega) (by show sn + 6 + 0 ≤ 7293000; omega) hf
      · rw [if_neg c160] at hf
        refine r_iconst C dL_law_506 (v := 0) (by decide) ?_
        exact r_ireturnz C E dL_law_507 rfl (by show cn + 1 + 0 ≤ 601024; omega) (by show sn + 6 + 0 ≤ 7293000; omega) hf
    rw [if_neg c138] at hf
    by_cases c165 : (v2 &&& 15) = 7
    · rw [if_pos c165] at hf
      refine r_tsIn C dL_law_74 c165 (tgt := 528) (by decide) (by decide) rfl (by decide) ?_
      refine r_aload_n C dL_law_528 rfl 1 rfl ?_
      refine r_aload_n C dL_law_529 rfl 0 rfl ?_
      refine r_iload C dL_law_530 5 rfl ?_
      refine r_iconst C dL_law_532 (v := 1) (by decide) ?_
      refine r_iadd C dL_law_533 ?_
      obtain ⟨v166, e167, hf⟩ := hp_bind hf
      refine r_sld C V dL_law_534 e167 ?_
      refine r_aload_n C dL_law_535 rfl 3 rfl ?_
      obtain ⟨q168, h169, e170, hf⟩ := hp_cbe hf
      refine r_callSH C O dL_law_536 ch_RL_97 (c_La_result B e0 F a1 v166 a3 h _ e170) rfl rfl rfl ⟨by decide, by decide⟩ ⟨by show cn + 0 + 1 ≤ 601024; omega, by show sn + 0 + 6 ≤ 7293000; omega⟩ (Nat.le_of_ble_eq_true rfl) rfl ?_
      refine r_istore (lv' := [(6, .int q168), (0, .ref b), (1, .ref (hh_ad B e0 a1)), (2, .ref (hh_ad B e0 a2)), (3, .ref (hh_ad B e0 a3)), (4, .ref (hh_ad B e0 a4)), (5, .int x5)]) C dL_law_539 (by decide) rfl ?_
      refine r_aload_n C dL_law_541 rfl 3 rfl ?_
      refine r_aload_n C dL_law_542 rfl 1 rfl ?_
      refine r_iload C dL_law_543 6 rfl ?_
      refine r_iconst C dL_law_545 (v := 1) (by decide) ?_
      refine r_iadd C dL_law_546 ?_
      obtain ⟨v171, e172, hf⟩ := hp_bind hf
      refine r_sld C V dL_law_547 e172 ?_
      obtain ⟨_, e176, hf⟩ := hp_bind hf
      obtain ⟨g177, e176⟩ := hp_is_of e176
      obtain ⟨q173, h174, e175, hf⟩ := hp_cbe hf
      refine r_callV C dL_law_548 cs_RL_99 rfl e176 (c_Mo_result B e0 F a2 v171 h169 _ e175) rfl rfl rfl ⟨by decide, by decide⟩ ⟨by show cn + 1 + 0 ≤ 601024; omega, by show sn + 6 + 0 ≤ 7293000; omega⟩ (Nat.le_of_ble_eq_true rfl) rfl ?_
      refine r_istore (lv' := [(7, .int q173), (6, .int q168), (0, .ref b), (1, .ref (hh_ad B e0 a1)), (2, .ref (hh_ad B e0 a2)), (3, .ref (hh_ad B e0 a3)), (4, .ref (hh_ad B e0 a4)), (5, .int x5)]) C dL_law_551 (by decide) rfl ?_
      refine r_aload_n C dL_law_553 rfl 4 rfl ?_
      obtain ⟨_, e181, hf⟩ := hp_bind hf
      obtain ⟨g182, e181⟩ := hp_is_of e181
      obtain ⟨q178, h179, e180, hf⟩ := hp_cbe hf
      refine r_callV C dL_law_554 cs_RL_73 rfl e181 (c_Mo_thrown B e0 F a2 h174 _ e180) rfl rfl rfl ⟨by decide, by decide⟩ ⟨by show cn + 1 + 0 ≤ 601024; omega, by show sn + 6 + 0 ≤ 7293000; omega⟩ (Nat.le_of_ble_eq_true rfl) rfl ?_
      refine r_iload C dL_law_557 1 rfl ?_
      refine r_icmp_eq C dL_law_559 (tgt := 564) (by decide) (fun c183 => ?_) (fun c183 => ?_)
      · rw [if_pos c183] at hf
        refine r_iload C dL_law_564 1 rfl ?_
        refine r_if_ne C dL_law_566 (tgt := 581) (by decide) (fun c184 => ?_) (fun c184 => ?_)
        · rw [if_neg c184] at hf
          refine r_goto C dL_law_581 (tgt := 822) (by decide) ?_
          refine r_iinc (lv' := [(5, .int (x5 + 4)), (7, .int q173), (6, .int q168), (0, .ref b), (1, .ref (hh_ad B e0 a1)), (2, .ref (hh_ad B e0 a2)), (3, .ref (hh_ad B e0 a3)), (4, .ref (hh_ad B e0 a4))]) C dL_law_822 7 rfl rfl (by decide) rfl ?_
          refine r_goto C dL_law_825 (tgt := 58) (by decide) ?_
          refine hh_pick [3, 4, 5, 6, 7, 0] rfl ?_
          refine hh_widen (cn' := cn + 190) (sn' := sn + 9015) (by show cn + 1 ≤ cn + 190; omega) (by show sn + 6 ≤ sn + 9015; omega) ?_
          exact H58 a1 a2 a3 a4 (x5 + 4) h179 hf
        · rw [if_pos c184] at hf
          refine r_aload_n C dL_law_569 rfl 5 rfl ?_
          refine r_iconst C dL_law_570 (v := 0) (by decide) ?_
          obtain ⟨v185, e186, hf⟩ := hp_bind hf
          refine r_aj C dL_law_571 e186 ?_
          refine r_iload C dL_law_572 0 rfl ?_
          refine r_i2l C dL_law_574 ?_
          refine r_lcmp C dL_law_575 ?_
          refine r_if_eq C dL_law_576 (tgt := 581) (by decide) (fun c187 => ?_) (fun c187 => ?_)
          · rw [if_pos c187] at hf
            refine r_goto C dL_law_581 (tgt := 822) (by decide) ?_
            refine r_iinc (lv' := [(5, .int (x5 + 4)), (7, .int q173), (6, .int q168), (0, .ref b), (1, .ref (hh_ad B e0 a1)), (2, .ref (hh_ad B e0 a2)), (3, .ref (hh_ad B e0 a3)), (4, .ref (hh_ad B e0 a4))]) C dL_law_822 7 rfl rfl (by decide) rfl ?_
            refine r_goto C dL_law_825 (tgt := 58) (by decide) ?_
            refine hh_pick [3, 4, 5, 6, 7, 0] rfl ?_
            refine hh_widen (cn' := cn + 190) (sn' := sn + 9015) (by show cn + 1 ≤ cn + 190; omega) (by show sn + 6 ≤ sn + 9015; omega) ?_
            exact H58 a1 a2 a3 a4 (x5 + 4) h179 hf
          · rw [if_neg c187] at hf
            refine r_iconst C dL_law_579 (v := 0) (by decide) ?_
            exact r_ireturnz C E dL_law_580 rfl (by show cn + 1 + 0 ≤ 601024; omega) (by show sn + 6 + 0 ≤ 7293000; omega) hf
      · rw [if_neg c183] at hf
        refine r_iconst C dL_law_562 (v := 0) (by decide) ?_
        exact r_ireturnz C E dL_law_563 rfl (by show cn + 1 + 0 ≤ 601024; omega) (by show sn + 6 + 0 ≤ 7293000; omega) hf
    rw [if_neg c165] at hf
    by_cases c188 : (v2 &&& 15) = 8
    · rw [if_pos c188] at hf
      refine r_tsIn C dL_law_74 c188 (tgt := 584) (by decide) (by decide) rfl (by decide) ?_
      refine r_aload_n C dL_law_584 rfl 1 rfl ?_
      refine r_aload_n C dL_law_585 rfl 0 rfl ?_
      refine r_iload C dL_law_586 5 rfl ?_
      refine r_iconst C dL_law_588 (v := 1) (by decide) ?_
      refine r_iadd C dL_law_589 ?_
      obtain ⟨v189, e190, hf⟩ := hp_bind hf
      refine r_sld C V dL_law_590 e190 ?_
      refine r_aload C dL_law_591 4 rfl ?_
      obtain ⟨q191, h192, e193, hf⟩ := hp_cbe hf
      refine r_callSH C O dL_law_593 ch_RL_100 (c_La_score B e0 F a1 v189 a4 h _ e193) rfl rfl rfl ⟨by decide, by decide⟩ ⟨by show cn + 0 + 1 ≤ 601024; omega, by show sn + 0 + 6 ≤ 7293000; omega⟩ (Nat.le_of_ble_eq_true rfl) rfl ?_
      refine r_istore (lv' := [(6, .int q191), (0, .ref b), (1, .ref (hh_ad B e0 a1)), (2, .ref (hh_ad B e0 a2)), (3, .ref (hh_ad B e0 a3)), (4, .ref (hh_ad B e0 a4)), (5, .int x5)]) C dL_law_596 (by decide) rfl ?_
      refine r_aload_n C dL_law_598 rfl 3 rfl ?_
      refine r_aload_n C dL_law_599 rfl 1 rfl ?_
      refine r_iload C dL_law_600 6 rfl ?_
      refine r_iconst C dL_law_602 (v := 1) (by decide) ?_
      refine r_iadd C dL_law_603 ?_
      obtain ⟨v194, e195, hf⟩ := hp_bind hf
      refine r_sld C V dL_law_604 e195 ?_
      obtain ⟨_, e199, hf⟩ := hp_bind hf
      obtain ⟨g200, e199⟩ := hp_is_of e199
      obtain ⟨q196, h197, e198, hf⟩ := hp_cbe hf
      refine r_callV C dL_law_605 cs_RL_103 rfl e199 (c_Mo_score B e0 F a2 v194 h192 _ e198) rfl rfl rfl ⟨by decide, by decide⟩ ⟨by show cn + 1 + 0 ≤ 601024; omega, by show sn + 6 + 0 ≤ 7293000; omega⟩ (Nat.le_of_ble_eq_true rfl) rfl ?_
      refine r_dstore (lv' := [(7, .double q196), (6, .int q191), (0, .ref b), (1, .ref (hh_ad B e0 a1)), (2, .ref (hh_ad B e0 a2)), (3, .ref (hh_ad B e0 a3)), (4, .ref (hh_ad B e0 a4)), (5, .int x5)]) C dL_law_608 (by decide) rfl ?_
      refine r_aload_n C dL_law_610 rfl 4 rfl ?_
      obtain ⟨_, e204, hf⟩ := hp_bind hf
      obtain ⟨g205, e204⟩ := hp_is_of e204
      obtain ⟨q201, h202, e203, hf⟩ := hp_cbe hf
      refine r_callV C dL_law_611 cs_RL_73 rfl e204 (c_Mo_thrown B e0 F a2 h197 _ e203) rfl rfl rfl ⟨by decide, by decide⟩ ⟨by show cn + 1 + 0 ≤ 601024; omega, by show sn + 6 + 0 ≤ 7293000; omega⟩ (Nat.le_of_ble_eq_true rfl) rfl ?_
      refine r_iload C dL_law_614 1 rfl ?_
      refine r_icmp_eq C dL_law_616 (tgt := 621) (by decide) (fun c206 => ?_) (fun c206 => ?_)
      · rw [if_pos c206] at hf
        refine r_iload C dL_law_621 1 rfl ?_
        refine r_if_ne C dL_law_623 (tgt := 658) (by decide) (fun c207 => ?_) (fun c207 => ?_)
        · rw [if_neg c207] at hf
          refine r_goto C dL_law_658 (tgt := 822) (by decide) ?_
          refine r_iinc (lv' := [(5, .int (x5 + 4)), (7, .double q196), (6, .int q191), (0, .ref b), (1, .ref (hh_ad B e0 a1)), (2, .ref (hh_ad B e0 a2)), (3, .ref (hh_ad B e0 a3)), (4, .ref (hh_ad B e0 a4))]) C dL_law_822 7 rfl rfl (by decide) rfl ?_
          refine r_goto C dL_law_825 (tgt := 58) (by decide) ?_
          refine hh_pick [3, 4, 5, 6, 7, 0] rfl ?_
          refine hh_widen (cn' := cn + 190) (sn' := sn + 9015) (by show cn + 1 ≤ cn + 190; omega) (by show sn + 6 ≤ sn + 9015; omega) ?_
          exact H58 a1 a2 a3 a4 (x5 + 4) h202 hf
        · rw [if_pos c207] at hf
          refine r_aload C dL_law_626 6 rfl ?_
          refine r_iconst C dL_law_628 (v := 0) (by decide) ?_
          obtain ⟨v208, e209, hf⟩ := hp_bind hf
          refine r_ad C dL_law_629 e209 ?_
          refine r_dload C dL_law_630 0 rfl ?_
          refine r_dcmp C dL_law_632 ?_
          refine r_if_eq C dL_law_633 (tgt := 658) (by decide) (fun c210 => ?_) (fun c210 => ?_)
          · rw [if_pos c210] at hf
            refine r_goto C dL_law_658 (tgt := 822) (by decide) ?_
            refine r_iinc (lv' := [(5, .int (x5 + 4)), (7, .double q196), (6, .int q191), (0, .ref b), (1, .ref (hh_ad B e0 a1)), (2, .ref (hh_ad B e0 a2)), (3, .ref (hh_ad B e0 a3)), (4, .ref (hh_ad B e0 a4))]) C dL_law_822 7 rfl rfl (by decide) rfl ?_
            refine r_goto C dL_law_825 (tgt := 58) (by decide) ?_
            refine hh_pick [3, 4, 5, 6, 7, 0] rfl ?_
            refine hh_widen (cn' := cn + 190) (sn' := sn + 9015) (by show cn + 1 ≤ cn + 190; omega) (by show sn + 6 ≤ sn + 9015; omega) ?_
            exact H58 a1 a2 a3 a4 (x5 + 4) h202 hf
          · rw [if_neg c210] at hf
            refine r_aload C dL_law_636 6 rfl ?_
            refine r_iconst C dL_law_638 (v := 0) (by decide) ?_
            obtain ⟨v211, e212, hf⟩ := hp_bind hf
            refine r_ad C dL_law_639 e212 ?_
            refine r_aload C dL_law_640 6 rfl ?_
            refine r_iconst C dL_law_642 (v := 0) (by decide) ?_
            obtain ⟨v213, e214, hf⟩ := hp_bind hf
            refine r_ad C dL_law_643 e214 ?_
            refine r_dcmp C dL_law_644 ?_
            refine r_if_eq C dL_law_645 (tgt := 656) (by decide) (fun c215 => ?_) (fun c215 => ?_)
            · rw [if_pos c215] at hf
              refine r_iconst C dL_law_656 (v := 0) (by decide) ?_
              exact r_ireturnz C E dL_law_657 rfl (by show cn + 1 + 0 ≤ 601024; omega) (by show sn + 6 + 0 ≤ 7293000; omega) hf
            · rw [if_neg c215] at hf
              refine r_dload C dL_law_648 0 rfl ?_
              refine r_dload C dL_law_650 0 rfl ?_
              refine r_dcmp C dL_law_652 ?_
              refine r_if_ne C dL_law_653 (tgt := 658) (by decide) (fun c216 => ?_) (fun c216 => ?_)
              · rw [if_neg c216] at hf
                refine r_goto C dL_law_658 (tgt := 822) (by decide) ?_
                refine r_iinc (lv' := [(5, .int (x5 + 4)), (7, .double q196), (6, .int q191), (0, .ref b), (1, .ref (hh_ad B e0 a1)), (2, .ref (hh_ad B e0 a2)), (3, .ref (hh_ad B e0 a3)), (4, .ref (hh_ad B e0 a4))]) C dL_law_822 7 rfl rfl (by decide) rfl ?_
                refine r_goto C dL_law_825 (tgt := 58) (by decide) ?_
                refine hh_pick [3, 4, 5, 6, 7, 0] rfl ?_
                refine hh_widen (cn' := cn + 190) (sn' := sn + 9015) (by show cn + 1 ≤ cn + 190; omega) (by show sn + 6 ≤ sn + 9015; omega) ?_
                exact H58 a1 a2 a3 a4 (x5 + 4) h202 hf
              · rw [if_pos c216] at hf
                refine r_iconst C dL_law_656 (v := 0) (by decide) ?_
                exact r_ireturnz C E dL_law_657 rfl (by show cn + 1 + 0 ≤ 601024; omega) (by show sn + 6 + 0 ≤ 7293000; omega) hf
      · rw [if_neg c206] at hf
        refine r_iconst C dL_law_619 (v := 0) (by decide) ?_
        exact r_ireturnz C E dL_law_620 rfl (by show cn + 1 + 0 ≤ 601024; omega) (by show sn + 6 + 0 ≤ 7293000; omega) hf
    rw [if_neg c188] at hf
    by_cases c217 : (v2 &&& 15) = 9
    · rw [if_pos c217] at hf
      refine r_tsIn C dL_law_74 c217 (tgt := 661) (by decide) (by decide) rfl (by decide) ?_
      refine r_aload_n C dL_law_661 rfl 1 rfl ?_
      refine r_aload_n C dL_law_662 rfl 0 rfl ?_
      refine r_iload C dL_law_663 5 rfl ?_
      refine r_iconst C dL_law_665 (v := 1) (by decide) ?_
      refine r_iadd C dL_law_666 ?_
      obtain ⟨v218, e219, hf⟩ := hp_bind hf
      refine r_sld C V dL_law_667 e219 ?_
      refine r_aload_n C dL_law_668 rfl 0 rfl ?_
      refine r_iload C dL_law_669 5 rfl ?_
      refine r_iconst C dL_law_671 (v := 2) (by decide) ?_
      refine r_iadd C dL_law_672 ?_
      obtain ⟨v220, e221, hf⟩ := hp_bind hf
      refine r_sld C V dL_law_673 e221 ?_
      refine r_aload_n C dL_law_674 rfl 3 rfl ?_
      obtain ⟨q222, h223, e224, hf⟩ := hp_cbe hf
      refine r_callSH C O dL_law_675 ch_RL_104 (c_La_byteOf B e0 F a1 v218 v220 a3 h _ e224) rfl rfl rfl ⟨by decide, by decide⟩ ⟨by show cn + 0 + 1 ≤ 601024; omega, by show sn + 0 + 6 ≤ 7293000; omega⟩ (Nat.le_of_ble_eq_true rfl) rfl ?_
      refine r_istore (lv' := [(6, .int q222), (0, .ref b), (1, .ref (hh_ad B e0 a1)), (2, .ref (hh_ad B e0 a2)), (3, .ref (hh_ad B e0 a3)), (4, .ref (hh_ad B e0 a4)), (5, .int x5)]) C dL_law_678 (by decide) rfl ?_
      refine r_aload_n C dL_law_680 rfl 3 rfl ?_
      refine r_aload_n C dL_law_681 rfl 1 rfl ?_
      refine r_iload C dL_law_682 6 rfl ?_
      refine r_iconst C dL_law_684 (v := 1) (by decide) ?_
      refine r_iadd C dL_law_685 ?_
      obtain ⟨v225, e226, hf⟩ := hp_bind hf
      refine r_sld C V dL_law_686 e226 ?_
      refine r_aload_n C dL_law_687 rfl 1 rfl ?_
      refine r_iload C dL_law_688 6 rfl ?_
      refine r_iconst C dL_law_690 (v := 2) (by decide) ?_
      refine r_iadd C dL_law_691 ?_
      obtain ⟨v227, e228, hf⟩ := hp_bind hf
      refine r_sld C V dL_law_692 e228 ?_
      obtain ⟨_, e232, hf⟩ := hp_bind hf
      obtain ⟨g233, e232⟩ := hp_is_of e232
      obtain ⟨q229, h230, e231, hf⟩ := hp_cbe hf
      refine r_callV C dL_law_693 cs_RL_106 rfl e232 (c_Mo_byteOf B e0 F a2 v225 v227 h223 _ e231) rfl rfl rfl ⟨by decide, by decide⟩ ⟨by show cn + 1 + 0 ≤ 601024; omega, by show sn + 6 + 0 ≤ 7293000; omega⟩ (Nat.le_of_ble_eq_true rfl) rfl ?_
      refine r_istore (lv' := [(7, .int q229), (6, .int q222), (0, .ref b), (1, .ref (hh_ad B e0 a1)), (2, .ref (hh_ad B e0 a2)), (3, .ref (hh_ad B e0 a3)), (4, .ref (hh_ad B e0 a4)), (5, .int x5)]) C dL_law_696 (by decide) rfl ?_
      refine r_aload_n C dL_law_698 rfl 4 rfl ?_
      obtain ⟨_, e237, hf⟩ := hp_bind hf
      obtain ⟨g238, e237⟩ := hp_is_of e237
      obtain ⟨q234, h235, e236, hf⟩ := hp_cbe hf
      refine r_callV C dL_law_699 cs_RL_73 rfl e237 (c_Mo_thrown B e0 F a2 h230 _ e236) rfl rfl rfl ⟨by decide, by decide⟩ ⟨by show cn + 1 + 0 ≤ 601024; omega, by show sn + 6 + 0 ≤ 7293000; omega⟩ (Nat.le_of_ble_eq_true rfl) rfl ?_
      refine r_iload C dL_law_702 1 rfl ?_
      refine r_icmp_eq C dL_law_704 (tgt := 709) (by decide) (fun c239 => ?_) (fun c239 => ?_)
      · rw [if_pos c239] at hf
        refine r_iload C dL_law_709 1 rfl ?_
        refine r_if_ne C dL_law_711 (tgt := 726) (by decide) (fun c240 => ?_) (fun c240 => ?_)
        · rw [if_neg c240] at hf
          refine r_goto C dL_law_726 (tgt := 822) (by decide) ?_
          refine r_iinc (lv' := [(5, .int (x5 + 4)), (7, .int q229), (6, .int q222), (0, .ref b), (1, .ref (hh_ad B e0 a1)), (2, .ref (hh_ad B e0 a2)), (3, .ref (hh_ad B e0 a3)), (4, .ref (hh_ad B e0 a4))]) C dL_law_822 7 rfl rfl (by decide) rfl ?_
          refine r_goto C dL_law_825 (tgt := 58) (by decide) ?_
          refine hh_pick [3, 4, 5, 6, 7, 0] rfl ?_
          refine hh_widen (cn' := cn + 190) (sn' := sn + 9015) (by show cn + 1 ≤ cn + 190; omega) (by show sn + 6 ≤ sn + 9015; omega) ?_
          exact H58 a1 a2 a3 a4 (x5 + 4) h235 hf
        · rw [if_pos c240] at hf
          refine r_aload_n C dL_law_714 rfl 5 rfl ?_
          refine r_iconst C dL_law_715 (v := 0) (by decide) ?_
          obtain ⟨v241, e242, hf⟩ := hp_bind hf
          refine r_aj C dL_law_716 e242 ?_
          refine r_iload C dL_law_717 0 rfl ?_
          refine r_i2l C dL_law_719 ?_
          refine r_lcmp C dL_law_720 ?_
          refine r_if_eq C dL_law_721 (tgt := 726) (by decide) (fun c243 => ?_) (fun c243 => ?_)
          · rw [if_pos c243] at hf
            refine r_goto C dL_law_726 (tgt := 822) (by decide) ?_
            refine r_iinc (lv' := [(5, .int (x5 + 4)), (7, .int q229), (6, .int q222), (0, .ref b), (1, .ref (hh_ad B e0 a1)), (2, .ref (hh_ad B e0 a2)), (3, .ref (hh_ad B e0 a3)), (4, .ref (hh_ad B e0 a4))]) C dL_law_822 7 rfl rfl (by decide) rfl ?_
            refine r_goto C dL_law_825 (tgt := 58) (by decide) ?_
            refine hh_pick [3, 4, 5, 6, 7, 0] rfl ?_
            refine hh_widen (cn' := cn + 190) (sn' := sn + 9015) (by show cn + 1 ≤ cn + 190; omega) (by show sn + 6 ≤ sn + 9015; omega) ?_
            exact H58 a1 a2 a3 a4 (x5 + 4) h235 hf
          · rw [if_neg c243] at hf
            refine r_iconst C dL_law_724 (v := 0) (by decide) ?_
            exact r_ireturnz C E dL_law_725 rfl (by show cn + 1 + 0 ≤ 601024; omega) (by show sn + 6 + 0 ≤ 7293000; omega) hf
      · rw [if_neg c239] at hf
        refine r_iconst C dL_law_707 (v := 0) (by decide) ?_
        exact r_ireturnz C E dL_law_708 rfl (by show cn + 1 + 0 ≤ 601024; omega) (by show sn + 6 + 0 ≤ 7293000; omega) hf
    rw [if_neg c217] at hf
    by_cases c244 : (v2 &&& 15) = 10
    · rw [if_pos c244] at hf
      refine r_tsIn C dL_law_74 c244 (tgt := 729) (by decide) (by decide) rfl (by decide) ?_
      refine r_aload_n C dL_law_729 rfl 1 rfl ?_
      refine r_aload_n C dL_law_730 rfl 0 rfl ?_
      refine r_iload C dL_law_731 5 rfl ?_
      refine r_iconst C dL_law_733 (v := 1) (by decide) ?_
      refine r_iadd C dL_law_734 ?_
      obtain ⟨v245, e246, hf⟩ := hp_bind hf
      refine r_sld C V dL_law_735 e246 ?_
      refine r_aload_n C dL_law_736 rfl 0 rfl ?_
      refine r_iload C dL_law_737 5 rfl ?_
      refine r_iconst C dL_law_739 (v := 2) (by decide) ?_
      refine r_iadd C dL_law_740 ?_
      obtain ⟨v247, e248, hf⟩ := hp_bind hf
      refine r_sld C V dL_law_741 e248 ?_
      refine r_aload_n C dL_law_742 rfl 3 rfl ?_
      obtain ⟨q249, h250, e251, hf⟩ := hp_cbe hf
      refine r_callSH C O dL_law_743 ch_RL_107 (c_La_run B e0 F a1 v245 v247 a3 h _ e251) rfl rfl rfl ⟨by decide, by decide⟩ ⟨by show cn + 0 + 1 ≤ 601024; omega, by show sn + 0 + 6 ≤ 7293000; omega⟩ (Nat.le_of_ble_eq_true rfl) rfl ?_
      refine r_istore (lv' := [(6, .int q249), (0, .ref b), (1, .ref (hh_ad B e0 a1)), (2, .ref (hh_ad B e0 a2)), (3, .ref (hh_ad B e0 a3)), (4, .ref (hh_ad B e0 a4)), (5, .int x5)]) C dL_law_746 (by decide) rfl ?_
      refine r_aload_n C dL_law_748 rfl 3 rfl ?_
      refine r_aload_n C dL_law_749 rfl 1 rfl ?_
      refine r_iload C dL_law_750 6 rfl ?_
      refine r_iconst C dL_law_752 (v := 1) (by decide) ?_
      refine r_iadd C dL_law_753 ?_
      obtain ⟨v252, e253, hf⟩ := hp_bind hf
      refine r_sld C V dL_law_754 e253 ?_
      refine r_aload_n C dL_law_755 rfl 1 rfl ?_
      refine r_iload C dL_law_756 6 rfl ?_
      refine r_iconst C dL_law_758 (v := 2) (by decide) ?_
      refine r_iadd C dL_law_759 ?_
      obtain ⟨v254, e255, hf⟩ := hp_bind hf
      refine r_sld C V dL_law_760 e255 ?_
      obtain ⟨_, e259, hf⟩ := hp_bind hf
      obtain ⟨g260, e259⟩ := hp_is_of e259
      obtain ⟨q256, h257, e258, hf⟩ := hp_cbe hf
      refine r_callV C dL_law_761 cs_RL_109 rfl e259 (c_Mo_run B e0 F a2 v252 v254 h250 _ e258) rfl rfl rfl ⟨by decide, by decide⟩ ⟨by show cn + 1 + 0 ≤ 601024; omega, by show sn + 6 + 0 ≤ 7293000; omega⟩ (Nat.le_of_ble_eq_true rfl) rfl ?_
      refine r_istore (lv' := [(7, .int q256), (6, .int q249), (0, .ref b), (1, .ref (hh_ad B e0 a1)), (2, .ref (hh_ad B e0 a2)), (3, .ref (hh_ad B e0 a3)), (4, .ref (hh_ad B e0 a4)), (5, .int x5)]) C dL_law_764 (by decide) rfl ?_
      refine r_aload_n C dL_law_766 rfl 4 rfl ?_
      obtain ⟨_, e264, hf⟩ := hp_bind hf
      obtain ⟨g265, e264⟩ := hp_is_of e264
      obtain ⟨q261, h262, e263, hf⟩ := hp_cbe hf
      refine r_callV C dL_law_767 cs_RL_73 rfl e264 (c_Mo_thrown B e0 F a2 h257 _ e263) rfl rfl rfl ⟨by decide, by decide⟩ ⟨by show cn + 1 + 0 ≤ 601024; omega, by show sn + 6 + 0 ≤ 7293000; omega⟩ (Nat.le_of_ble_eq_true rfl) rfl ?_
      refine r_iload C dL_law_770 1 rfl ?_
      refine r_icmp_eq C dL_law_772 (tgt := 777) (by decide) (fun c266 => ?_) (fun c266 => ?_)
      · rw [if_pos c266] at hf
        refine r_iload C dL_law_777 1 rfl ?_
        refine r_if_ne C dL_law_779 (tgt := 794) (by decide) (fun c267 => ?_) (fun c267 => ?_)
        · rw [if_neg c267] at hf
          refine r_goto C dL_law_794 (tgt := 822) (by decide) ?_
          refine r_iinc (lv' := [(5, .int (x5 + 4)), (7, .int q256), (6, .int q249), (0, .ref b), (1, .ref (hh_ad B e0 a1)), (2, .ref (hh_ad B e0 a2)), (3, .ref (hh_ad B e0 a3)), (4, .ref (hh_ad B e0 a4))]) C dL_law_822 7 rfl rfl (by decide) rfl ?_
          refine r_goto C dL_law_825 (tgt := 58) (by decide) ?_
          refine hh_pick [3, 4, 5, 6, 7, 0] rfl ?_
          refine hh_widen (cn' := cn + 190) (sn' := sn + 9015) (by show cn + 1 ≤ cn + 190; omega) (by show sn + 6 ≤ sn + 9015; omega) ?_
          exact H58 a1 a2 a3 a4 (x5 + 4) h262 hf
        · rw [if_pos c267] at hf
          refine r_aload_n C dL_law_782 rfl 5 rfl ?_
          refine r_iconst C dL_law_783 (v := 0) (by decide) ?_
          obtain ⟨v268, e269, hf⟩ := hp_bind hf
          refine r_aj C dL_law_784 e269 ?_
          refine r_iload C dL_law_785 0 rfl ?_
          refine r_i2l C dL_law_787 ?_
          refine r_lcmp C dL_law_788 ?_
          refine r_if_eq C dL_law_789 (tgt := 794) (by decide) (fun c270 => ?_) (fun c270 => ?_)
          · rw [if_pos c270] at hf
            refine r_goto C dL_law_794 (tgt := 822) (by decide) ?_
            refine r_iinc (lv' := [(5, .int (x5 + 4)), (7, .int q256), (6, .int q249), (0, .ref b), (1, .ref (hh_ad B e0 a1)), (2, .ref (hh_ad B e0 a2)), (3, .ref (hh_ad B e0 a3)), (4, .ref (hh_ad B e0 a4))]) C dL_law_822 7 rfl rfl (by decide) rfl ?_
            refine r_goto C dL_law_825 (tgt := 58) (by decide) ?_
            refine hh_pick [3, 4, 5, 6, 7, 0] rfl ?_
            refine hh_widen (cn' := cn + 190) (sn' := sn + 9015) (by show cn + 1 ≤ cn + 190; omega) (by show sn + 6 ≤ sn + 9015; omega) ?_
            exact H58 a1 a2 a3 a4 (x5 + 4) h262 hf
          · rw [if_neg c270] at hf
            refine r_iconst C dL_law_792 (v := 0) (by decide) ?_
            exact r_ireturnz C E dL_law_793 rfl (by show cn + 1 + 0 ≤ 601024; omega) (by show sn + 6 + 0 ≤ 7293000; omega) hf
      · rw [if_neg c266] at hf
        refine r_iconst C dL_law_775 (v := 0) (by decide) ?_
        exact r_ireturnz C E dL_law_776 rfl (by show cn + 1 + 0 ≤ 601024; omega) (by show sn + 6 + 0 ≤ 7293000; omega) hf
    rw [if_neg c244] at hf
    by_cases c271 : (v2 &&& 15) = 11
    · rw [if_pos c271] at hf
      refine r_tsIn C dL_law_74 c271 (tgt := 797) (by decide) (by decide) rfl (by decide) ?_
      refine r_aload_n C dL_law_797 rfl 1 rfl ?_
      refine r_aload_n C dL_law_798 rfl 0 rfl ?_
      refine r_iload C dL_law_799 5 rfl ?_
      refine r_iconst C dL_law_801 (v := 1) (by decide) ?_
      refine r_iadd C dL_law_802 ?_
      obtain ⟨v272, e273, hf⟩ := hp_bind hf
      refine r_sld C V dL_law_803 e273 ?_
      obtain ⟨_, e277, hf⟩ := hp_bind hf
      obtain ⟨g278, e277⟩ := hp_is_of e277
      obtain ⟨q274, h275, e276, hf⟩ := hp_cbe hf
      refine r_callV C dL_law_804 cs_RL_110 rfl e277 (c_IB_count B e0 F a1 v272 h _ e276) rfl rfl rfl ⟨by decide, by decide⟩ ⟨by show cn + 0 + 0 ≤ 601024; omega, by show sn + 0 + 0 ≤ 7293000; omega⟩ (Nat.le_of_ble_eq_true rfl) rfl ?_
      refine r_aload_n C dL_law_807 rfl 2 rfl ?_
      refine r_aload_n C dL_law_808 rfl 0 rfl ?_
      refine r_iload C dL_law_809 5 rfl ?_
      refine r_iconst C dL_law_811 (v := 1) (by decide) ?_
      refine r_iadd C dL_law_812 ?_
      obtain ⟨v279, e280, hf⟩ := hp_bind hf
      refine r_sld C V dL_law_813 e280 ?_
      obtain ⟨_, e284, hf⟩ := hp_bind hf
      obtain ⟨g285, e284⟩ := hp_is_of e284
      obtain ⟨q281, h282, e283, hf⟩ := hp_cbe hf
      refine r_callV C dL_law_814 cs_RL_113 rfl e284 (c_Mo_count B e0 F a2 v279 h275 _ e283) rfl rfl rfl ⟨by decide, by decide⟩ ⟨by show cn + 0 + 0 ≤ 601024; omega, by show sn + 0 + 0 ≤ 7293000; omega⟩ (Nat.le_of_ble_eq_true rfl) rfl ?_
      refine r_icmp_eq C dL_law_817 (tgt := 822) (by decide) (fun c286 => ?_) (fun c286 => ?_)
      · rw [if_pos c286] at hf
        refine r_iinc (lv' := [(5, .int (x5 + 4)), (0, .ref b), (1, .ref (hh_ad B e0 a1)), (2, .ref (hh_ad B e0 a2)), (3, .ref (hh_ad B e0 a3)), (4, .ref (hh_ad B e0 a4))]) C dL_law_822 5 rfl rfl (by decide) rfl ?_
        refine r_goto C dL_law_825 (tgt := 58) (by decide) ?_
        refine hh_pick [1, 2, 3, 4, 5, 0] rfl ?_
        refine hh_widen (cn' := cn + 190) (sn' := sn + 9015) (by show cn + 0 ≤ cn + 190; omega) (by show sn + 0 ≤ sn + 9015; omega) ?_
        exact H58 a1 a2 a3 a4 (x5 + 4) h282 hf
      · rw [if_neg c286] at hf
        refine r_iconst C dL_law_820 (v := 0) (by decide) ?_
        exact r_ireturnz C E dL_law_821 rfl (by show cn + 0 + 0 ≤ 601024; omega) (by show sn + 0 + 0 ≤ 7293000; omega) hf
    rw [if_neg c271] at hf
    refine r_tsOut C dL_law_74 (tgt := 822) (by have qc4 := lv_neT c4 (a := 0) (by decide); have qc27 := lv_neT c27 (a := 1) (by decide); have qc46 := lv_neT c46 (a := 2) (by decide); have qc69 := lv_neT c69 (a := 3) (by decide); have qc88 := lv_neT c88 (a := 4) (by decide); have qc107 := lv_neT c107 (a := 5) (by decide); have qc138 := lv_neT c138 (a := 6) (by decide); have qc165 := lv_neT c165 (a := 7) (by decide); have qc188 := lv_neT c188 (a := 8) (by decide); have qc217 := lv_neT c217 (a := 9) (by decide); have qc244 := lv_neT c244 (a := 10) (by decide); have qc271 := lv_neT c271 (a := 11) (by decide); omega) (by decide) ?_
    refine r_iinc (lv' := [(5, .int (x5 + 4)), (0, .ref b), (1, .ref (hh_ad B e0 a1)), (2, .ref (hh_ad B e0 a2)), (3, .ref (hh_ad B e0 a3)), (4, .ref (hh_ad B e0 a4))]) C dL_law_822 5 rfl rfl (by decide) rfl ?_
    refine r_goto C dL_law_825 (tgt := 58) (by decide) ?_
    refine hh_pick [1, 2, 3, 4, 5, 0] rfl ?_
    refine hh_widen (cn' := cn + 190) (sn' := sn + 9015) (by show cn + 0 ≤ cn + 190; omega) (by show sn + 0 ≤ sn + 9015; omega) ?_
    exact H58 a1 a2 a3 a4 (x5 + 4) h hf
theorem wl_La_law_58 {X : hh_X} {B e0 : Nat} {rr : Int32 × hh_H} (C : ok_La_law X B e0) (E : hh_End X B e0 (.returned (some (.int rr.1))) rr.2 mc_La_law ms_La_law) (F L : Nat) (xs : Nat → Int32) (O : hh_oX X) (b : Nat) (V : hh_scr X b L xs) :
    ∀ (n cn sn : Nat) (hcn : cn + n * 190 ≤ 601024) (hsn : sn + n * 9015 ≤ 7293000) (a1 : Nat) (a2 : Nat) (a3 : Nat) (a4 : Nat) (x5 : Int32) (h : hh_H), hp_it (fun _ _ _ _ _ _ => none) (f_La_law_58 F L xs) n a1 a2 a3 a4 x5 h = some rr → hh_W X cn sn 58 [(0, .ref b), (1, .ref (hh_ad B e0 a1)), (2, .ref (hh_ad B e0 a2)), (3, .ref (hh_ad B e0 a3)), (4, .ref (hh_ad B e0 a4)), (5, .int x5)] [] h := by
  intro n
  induction n with
  | zero => intro cn sn hcn hsn a1 a2 a3 a4 x5 h hf; cases hf
  | succ n ih =>
    intro cn sn hcn hsn a1 a2 a3 a4 x5 h hf
    exact w_La_law_58 C E F L xs O b V _ cn sn (by omega) (by omega) (ih (cn + 190) (sn + 9015) (by omega) (by omega)) a1 a2 a3 a4 x5 h hf
set_option maxRecDepth 100000 in
set_option maxHeartbeats 4000000 in
theorem w_La_law {X : hh_X} {B e0 : Nat} {rr : Int32 × hh_H} (C : ok_La_law X B e0) (E : hh_End X B e0 (.returned (some (.int rr.1))) rr.2 mc_La_law ms_La_law) (F L : Nat) (xs : Nat → Int32) (O : hh_oX X) (b : Nat) (V : hh_scr X b L xs) (h : hh_H)
    (hf : f_La_law F L xs h = some rr) : hh_W X 0 0 0 [(0, .ref b)] [] h := by
  unfold f_La_law at hf
  obtain ⟨b287, h289, e288, hf⟩ := hp_cbe hf
  refine r_new C dL_law_0 nw_RL_8 (by decide) (by decide) e288 ?_
  refine r_dup C dL_law_3 rfl ?_
  refine r_aload_n C dL_law_4 rfl 0 rfl ?_
  refine r_iconst C dL_law_5 (v := 0) (by decide) ?_
  obtain ⟨q290, h291, e292, hf⟩ := hp_cbe hf
  refine r_callSS C V dL_law_6 cs_RL_57 (c_La_cell B e0 F L xs b 0 h289 _ e292) rfl rfl rfl ⟨by decide, by decide⟩ ⟨by decide, by decide⟩ (Nat.le_of_ble_eq_true rfl) rfl ?_
  refine r_aload_n C dL_law_9 rfl 0 rfl ?_
  refine r_iconst C dL_law_10 (v := 1) (by decide) ?_
  obtain ⟨q293, h294, e295, hf⟩ := hp_cbe hf
  refine r_callSS C V dL_law_11 cs_RL_57 (c_La_cell B e0 F L xs b 1 h291 _ e295) rfl rfl rfl ⟨by decide, by decide⟩ ⟨by decide, by decide⟩ (Nat.le_of_ble_eq_true rfl) rfl ?_
  refine r_aload_n C dL_law_14 rfl 0 rfl ?_
  refine r_iconst C dL_law_15 (v := 2) (by decide) ?_
  obtain ⟨q296, h297, e298, hf⟩ := hp_cbe hf
  refine r_callSS C V dL_law_16 cs_RL_57 (c_La_cell B e0 F L xs b 2 h294 _ e298) rfl rfl rfl ⟨by decide, by decide⟩ ⟨by decide, by decide⟩ (Nat.le_of_ble_eq_true rfl) rfl ?_
  obtain ⟨q299, h300, e301, hf⟩ := hp_cbe hf
  refine r_callI C dL_law_19 cs_RL_63 rfl (c_IB_init B e0 F b287 q290 q293 q296 h297 _ e301) rfl rfl rfl ⟨by decide, by decide⟩ ⟨by decide, by decide⟩ (Nat.le_of_ble_eq_true rfl) rfl ?_
  refine r_astore_n (lv' := [(1, .ref (hh_ad B e0 b287)), (0, .ref b)]) C dL_law_22 rfl (by decide) rfl ?_
  obtain ⟨b302, h304, e303, hf⟩ := hp_cbe hf
  refine r_new C dL_law_23 nw_RL_66 (by decide) (by decide) e303 ?_
  refine r_dup C dL_law_26 rfl ?_
  refine r_aload_n C dL_law_27 rfl 1 rfl ?_
  refine r_iconst C dL_law_28 (v := 0) (by decide) ?_
  obtain ⟨q305, h306, e307, hf⟩ := hp_cbe hf
  refine r_callSS C V dL_law_29 cs_RL_57 (c_La_cell B e0 F L xs b 0 h304 _ e307) rfl rfl rfl ⟨by decide, by decide⟩ ⟨by decide, by decide⟩ (Nat.le_of_ble_eq_true rfl) rfl ?_
  refine r_aload_n C dL_law_32 rfl 1 rfl ?_
  refine r_iconst C dL_law_33 (v := 1) (by decide) ?_
  obtain ⟨q308, h309, e310, hf⟩ := hp_cbe hf
  refine r_callSS C V dL_law_34 cs_RL_57 (c_La_cell B e0 F L xs b 1 h306 _ e310) rfl rfl rfl ⟨by decide, by decide⟩ ⟨by decide, by decide⟩ (Nat.le_of_ble_eq_true rfl) rfl ?_
  refine r_aload_n C dL_law_37 rfl 1 rfl ?_
  refine r_iconst C dL_law_38 (v := 2) (by decide) ?_
  obtain ⟨q311, h312, e313, hf⟩ := hp_cbe hf
  refine r_callSS C V dL_law_39 cs_RL_57 (c_La_cell B e0 F L xs b 2 h309 _ e313) rfl rfl rfl ⟨by decide, by decide⟩ ⟨by decide, by decide⟩ (Nat.le_of_ble_eq_true rfl) rfl ?_
  obtain ⟨q314, h315, e316, hf⟩ := hp_cbe hf
  refine r_callI C dL_law_42 cs_RL_68 rfl (c_Mo_init B e0 F b302 q305 q308 q311 h312 _ e316) rfl rfl rfl ⟨by decide, by decide⟩ ⟨by decide, by decide⟩ (Nat.le_of_ble_eq_true rfl) rfl ?_
  refine r_astore_n (lv' := [(2, .ref (hh_ad B e0 b302)), (1, .ref (hh_ad B e0 b287)), (0, .ref b)]) C dL_law_45 rfl (by decide) rfl ?_
  refine r_iconst C dL_law_46 (v := 1) (by decide) ?_
  obtain ⟨b317, h319, e318, hf⟩ := hp_cbe hf
  refine r_na_long (bd := 1) C dL_law_47 (by decide) (by decide) (by decide) e318 ?_
  refine r_astore_n (lv' := [(3, .ref (hh_ad B e0 b317)), (2, .ref (hh_ad B e0 b302)), (1, .ref (hh_ad B e0 b287)), (0, .ref b)]) C dL_law_49 rfl (by decide) rfl ?_
  refine r_iconst C dL_law_50 (v := 1) (by decide) ?_
  obtain ⟨b320, h322, e321, hf⟩ := hp_cbe hf
  refine r_na_double (bd := 1) C dL_law_51 (by decide) (by decide) (by decide) e321 ?_
  refine r_astore (lv' := [(4, .ref (hh_ad B e0 b320)), (3, .ref (hh_ad B e0 b317)), (2, .ref (hh_ad B e0 b302)), (1, .ref (hh_ad B e0 b287)), (0, .ref b)]) C dL_law_53 (by decide) rfl ?_
  refine r_iconst C dL_law_55 (v := 3) (by decide) ?_
  refine r_istore (lv' := [(5, .int 3), (4, .ref (hh_ad B e0 b320)), (3, .ref (hh_ad B e0 b317)), (2, .ref (hh_ad B e0 b302)), (1, .ref (hh_ad B e0 b287)), (0, .ref b)]) C dL_law_56 (by decide) rfl ?_
  refine hh_pick [5, 4, 3, 2, 1, 0] rfl ?_
  exact wl_La_law_58 C E F L xs O b V 513 37 14697 (by decide) (by decide) b287 b302 b317 b320 3 h322 hf
