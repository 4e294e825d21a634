def f_La_word (F : Nat) (a0 : Nat) (x1 : Int32) (a2 : Nat) (h : hh_H) : Option (Int32 × hh_H) :=
  (hp_is h a0 8).bind fun _ =>
  (f_IB_word F a0 x1 h).bind fun r =>
  match r.1 with
  | .inl v => (hp_sj r.2 a2 0 v.toInt64).bind fun h2 => some (0, h2)
  | .inr ci => if ci = 11 then some (1, r.2) else if ci = 12 then some (2, r.2) else none
def f_La_close (F : Nat) (a0 : Nat) (a1 : Nat) (h : hh_H) : Option (Int32 × hh_H) :=
  (hp_is h a0 8).bind fun _ =>
  (f_IB_close F a0 h).bind fun r =>
  match r.1 with
  | .inl v => (hp_sj r.2 a1 0 v.toInt64).bind fun h2 => some (0, h2)
  | .inr ci => if ci = 12 then some (1, r.2) else if ci = 13 then some (2, r.2) else none
def f_La_drop (F : Nat) (a0 : Nat) (x1 : Int32) (a2 : Nat) (h : hh_H) : Option (Int32 × hh_H) :=
  (hp_is h a0 8).bind fun _ =>
  (f_IB_drop F a0 x1 h).bind fun r =>
  match r.1 with
  | .inl v => (hp_sj r.2 a2 0 v.toInt64).bind fun h2 => some (0, h2)
  | .inr ci => if ci = 14 then some (1, r.2) else none
def f_La_flush (F : Nat) (a0 : Nat) (a1 : Nat) (h : hh_H) : Option (Int32 × hh_H) :=
  (hp_is h a0 8).bind fun _ =>
  (f_IB_flush F a0 h).bind fun r =>
  match r.1 with
  | .inl v => (hp_sj r.2 a1 0 v.toInt64).bind fun h2 => some (0, h2)
  | .inr ci => if ci = 13 then some (1, r.2) else none
def f_La_finish (F : Nat) (a0 : Nat) (a1 : Nat) (h : hh_H) : Option (Int32 × hh_H) :=
  (hp_is h a0 8).bind fun _ =>
  (f_IB_finish F a0 h).bind fun r =>
  match r.1 with
  | .inl v => (hp_sj r.2 a1 0 v.toInt64).bind fun h2 => some (0, h2)
  | .inr ci => if ci = 13 then some (1, r.2) else none
def f_La_find (F : Nat) (a0 : Nat) (x1 : Int32) (x2 : Int32) (x3 : Int32) (a4 : Nat) (h : hh_H) : Option (Int32 × hh_H) :=
  (hp_is h a0 8).bind fun _ =>
  (f_IB_find F a0 x1 x2 x3 h).bind fun r =>
  match r.1 with
  | .inl v => (hp_sj r.2 a4 0 v.toInt64).bind fun h2 => some (0, h2)
  | .inr ci => if ci = 11 then some (1, r.2) else none
def f_La_rank (F : Nat) (a0 : Nat) (x1 : Int32) (x2 : Int32) (a3 : Nat) (h : hh_H) : Option (Int32 × hh_H) :=
  (hp_is h a0 8).bind fun _ =>
  (f_IB_rank F a0 x1 x2 h).bind fun r =>
  match r.1 with
  | .inl v => (hp_sj r.2 a3 0 v.toInt64).bind fun h2 => some (0, h2)
  | .inr ci => if ci = 11 then some (1, r.2) else none
def f_La_result (F : Nat) (a0 : Nat) (x1 : Int32) (a2 : Nat) (h : hh_H) : Option (Int32 × hh_H) :=
  (hp_is h a0 8).bind fun _ =>
  (f_IB_result F a0 x1 h).bind fun r =>
  match r.1 with
  | .inl v => (hp_sj r.2 a2 0 v.toInt64).bind fun h2 => some (0, h2)
  | .inr ci => if ci = 14 then some (1, r.2) else none
def f_La_score (F : Nat) (a0 : Nat) (x1 : Int32) (a2 : Nat) (h : hh_H) : Option (Int32 × hh_H) :=
  (hp_is h a0 8).bind fun _ =>
  (f_IB_score F a0 x1 h).bind fun r =>
  match r.1 with
  | .inl v => (hp_sd r.2 a2 0 v).bind fun h2 => some (0, h2)
  | .inr ci => if ci = 14 then some (1, r.2) else if ci = 13 then some (2, r.2) else none
def f_La_byteOf (F : Nat) (a0 : Nat) (x1 : Int32) (x2 : Int32) (a3 : Nat) (h : hh_H) : Option (Int32 × hh_H) :=
  (hp_is h a0 8).bind fun _ =>
  (f_IB_byteOf F a0 x1 x2 h).bind fun r =>
  match r.1 with
  | .inl v => (hp_sj r.2 a3 0 v.toInt64).bind fun h2 => some (0, h2)
  | .inr ci => if ci = 15 then some (1, r.2) else none
def f_La_run (F : Nat) (a0 : Nat) (x1 : Int32) (x2 : Int32) (a3 : Nat) (h : hh_H) : Option (Int32 × hh_H) :=
  (hp_is h a0 8).bind fun _ =>
  (f_IB_run F a0 x1 x2 h).bind fun r =>
  match r.1 with
  | .inl v => (hp_sj r.2 a3 0 v.toInt64).bind fun h2 => some (0, h2)
  | .inr ci => if ci = 14 then some (1, r.2) else if ci = 11 then some (2, r.2) else none
theorem cw_X8_word : Cond.code yX8_word cX8_word 2 (some .int) ∈ hh_T := hh_at 340 (by decide +kernel) (by decide +kernel)
theorem cs_RL_7 : hh_CS RL 7 yX8_word cX8_word 2 (some .int) 1 [.instanceMethod yX8_word, .selects yX8_word.cls yX8_word yX8_word] := ⟨cw_X8_word, hh_at 337 (by decide +kernel) (by decide +kernel), hh_at 35 (by decide +kernel) (by decide +kernel), hh_all2 (hh_at 338 (by decide +kernel) (by decide +kernel)) (hh_at 339 (by decide +kernel) (by decide +kernel)), by decide +kernel⟩
theorem cw_X8_close : Cond.code yX8_close cX8_close 3 (some .int) ∈ hh_T := hh_at 437 (by decide +kernel) (by decide +kernel)
theorem cs_RL_17 : hh_CS RL 17 yX8_close cX8_close 3 (some .int) 0 [.instanceMethod yX8_close, .selects yX8_close.cls yX8_close yX8_close] := ⟨cw_X8_close, hh_at 434 (by decide +kernel) (by decide +kernel), hh_at 35 (by decide +kernel) (by decide +kernel), hh_all2 (hh_at 435 (by decide +kernel) (by decide +kernel)) (hh_at 436 (by decide +kernel) (by decide +kernel)), by decide +kernel⟩
theorem cw_X8_drop : Cond.code yX8_drop cX8_drop 2 (some .int) ∈ hh_T := hh_at 972 (by decide +kernel) (by decide +kernel)
theorem cs_RL_23 : hh_CS RL 23 yX8_drop cX8_drop 2 (some .int) 1 [.instanceMethod yX8_drop, .selects yX8_drop.cls yX8_drop yX8_drop] := ⟨cw_X8_drop, hh_at 969 (by decide +kernel) (by decide +kernel), hh_at 35 (by decide +kernel) (by decide +kernel), hh_all2 (hh_at 970 (by decide +kernel) (by decide +kernel)) (hh_at 971 (by decide +kernel) (by decide +kernel)), by decide +kernel⟩
theorem cw_X8_flush : Cond.code yX8_flush cX8_flush 1 (some .int) ∈ hh_T := hh_at 1001 (by decide +kernel) (by decide +kernel)
theorem cs_RL_28 : hh_CS RL 28 yX8_flush cX8_flush 1 (some .int) 0 [.instanceMethod yX8_flush, .selects yX8_flush.cls yX8_flush yX8_flush] := ⟨cw_X8_flush, hh_at 998 (by decide +kernel) (by decide +kernel), hh_at 35 (by decide +kernel) (by decide +kernel), hh_all2 (hh_at 999 (by decide +kernel) (by decide +kernel)) (hh_at 1000 (by decide +kernel) (by decide +kernel)), by decide +kernel⟩
theorem cw_X8_finish : Cond.code yX8_finish cX8_finish 1 (some .int) ∈ hh_T := hh_at 1008 (by decide +kernel) (by decide +kernel)
theorem cs_RL_31 : hh_CS RL 31 yX8_finish cX8_finish 1 (some .int) 0 [.instanceMethod yX8_finish, .selects yX8_finish.cls yX8_finish yX8_finish] := ⟨cw_X8_finish, hh_at 1005 (by decide +kernel) (by decide +kernel), hh_at 35 (by decide +kernel) (by decide +kernel), hh_all2 (hh_at 1006 (by decide +kernel) (by decide +kernel)) (hh_at 1007 (by decide +kernel) (by decide +kernel)), by decide +kernel⟩
theorem cw_X8_find : Cond.code yX8_find cX8_find 5 (some .int) ∈ hh_T := hh_at 1025 (by decide +kernel) (by decide +kernel)
theorem cs_RL_34 : hh_CS RL 34 yX8_find cX8_find 5 (some .int) 3 [.instanceMethod yX8_find, .selects yX8_find.cls yX8_find yX8_find] := ⟨cw_X8_find, hh_at 1022 (by decide +kernel) (by decide +kernel), hh_at 35 (by decide +kernel) (by decide +kernel), hh_all2 (hh_at 1023 (by decide +kernel) (by decide +kernel)) (hh_at 1024 (by decide +kernel) (by decide +kernel)), by decide +kernel⟩
theorem cw_X8_rank : Cond.code yX8_rank cX8_rank 6 (some .int) ∈ hh_T := hh_at 1079 (by decide +kernel) (by decide +kernel)
theorem cs_RL_38 : hh_CS RL 38 yX8_rank cX8_rank 6 (some .int) 2 [.instanceMethod yX8_rank, .selects yX8_rank.cls yX8_rank yX8_rank] := ⟨cw_X8_rank, hh_at 1076 (by decide +kernel) (by decide +kernel), hh_at 35 (by decide +kernel) (by decide +kernel), hh_all2 (hh_at 1077 (by decide +kernel) (by decide +kernel)) (hh_at 1078 (by decide +kernel) (by decide +kernel)), by decide +kernel⟩
theorem cw_X8_result : Cond.code yX8_result cX8_result 2 (some .int) ∈ hh_T := hh_at 1101 (by decide +kernel) (by decide +kernel)
theorem cs_RL_42 : hh_CS RL 42 yX8_result cX8_result 2 (some .int) 1 [.instanceMethod yX8_result, .selects yX8_result.cls yX8_result yX8_result] := ⟨cw_X8_result, hh_at 1098 (by decide +kernel) (by decide +kernel), hh_at 35 (by decide +kernel) (by decide +kernel), hh_all2 (hh_at 1099 (by decide +kernel) (by decide +kernel)) (hh_at 1100 (by decide +kernel) (by decide +kernel)), by decide +kernel⟩
theorem cw_X8_score : Cond.code yX8_score cX8_score 2 (some .double) ∈ hh_T := hh_at 1113 (by decide +kernel) (by decide +kernel)
theorem cs_RL_45 : hh_CS RL 45 yX8_score cX8_score 2 (some .double) 1 [.instanceMethod yX8_score, .selects yX8_score.cls yX8_score yX8_score] := ⟨cw_X8_score, hh_at 1110 (by decide +kernel) (by decide +kernel), hh_at 35 (by decide +kernel) (by decide +kernel), hh_all2 (hh_at 1111 (by decide +kernel) (by decide +kernel)) (hh_at 1112 (by decide +kernel) (by decide +kernel)), by decide +kernel⟩
theorem cw_X8_byteOf : Cond.code yX8_byteOf cX8_byteOf 3 (some .int) ∈ hh_T := hh_at 1130 (by decide +kernel) (by decide +kernel)
theorem cs_RL_49 : hh_CS RL 49 yX8_byteOf cX8_byteOf 3 (some .int) 2 [.instanceMethod yX8_byteOf, .selects yX8_byteOf.cls yX8_byteOf yX8_byteOf] := ⟨cw_X8_byteOf, hh_at 1127 (by decide +kernel) (by decide +kernel), hh_at 35 (by decide +kernel) (by decide +kernel), hh_all2 (hh_at 1128 (by decide +kernel) (by decide +kernel)) (hh_at 1129 (by decide +kernel) (by decide +kernel)), by decide +kernel⟩
theorem cw_X8_run : Cond.code yX8_run cX8_run 3 (some .int) ∈ hh_T := hh_at 1157 (by decide +kernel) (by decide +kernel)
theorem cs_RL_54 : hh_CS RL 54 yX8_run cX8_run 3 (some .int) 2 [.instanceMethod yX8_run, .selects yX8_run.cls yX8_run yX8_run] := ⟨cw_X8_run, hh_at 1154 (by decide +kernel) (by decide +kernel), hh_at 35 (by decide +kernel) (by decide +kernel), hh_all2 (hh_at 1155 (by decide +kernel) (by decide +kernel)) (hh_at 1156 (by decide +kernel) (by decide +kernel)), by decide +kernel⟩
def mc_La_word : Nat := 1
def ms_La_word : Nat := 6
def rm_La_word : Room := { frames := 7, cells := 1, slots := 6, locals := 121 }
abbrev hs_La_word : List (Nat × Nat × Nat × Nat) := [(0, 9, 12, 13), (0, 9, 15, 15)]
abbrev ok_La_word (X : hh_X) (B e0 : Nat) : Prop := hh_ok X B e0 cL_word RL 4 (some .int) "word" rm_La_word
set_option maxRecDepth 100000 in
set_option maxHeartbeats 4000000 in
theorem w_La_word {X : hh_X} {B e0 : Nat} {rr : Int32 × hh_H} (C : ok_La_word X B e0) (HT : hh_HT X hs_La_word) (E : hh_End X B e0 (.returned (some (.int rr.1))) rr.2 mc_La_word ms_La_word) (F : Nat) (a0 : Nat) (x1 : Int32) (a2 : Nat) (h : hh_H)
    (hf : f_La_word F a0 x1 a2 h = some rr) : hh_W X 0 0 0 [(0, .ref (hh_ad B e0 a0)), (1, .int x1), (2, .ref (hh_ad B e0 a2))] [] h := by
  unfold f_La_word at hf
  obtain ⟨_, e1, hf⟩ := hp_bind hf
  obtain ⟨g1, e1⟩ := hp_is_of e1
  obtain ⟨r, e2, hf⟩ := hp_bind hf
  refine r_aload_n C dL_word_0 rfl 2 rfl ?_
  refine r_iconst C dL_word_1 (v := 0) (by decide) ?_
  refine r_aload_n C dL_word_2 rfl 0 rfl ?_
  refine r_iload_n C dL_word_3 rfl 1 rfl ?_
  refine r_callVT C HT dL_word_4 cs_RL_7 rfl e1 (c_IB_word B e0 F a0 x1 h _ e2) rfl rfl rfl ⟨by decide, by decide⟩ ⟨by decide, by decide⟩ (Nat.le_of_ble_eq_true rfl) rfl (fun v hv => ?_) (fun ci q hv => ?_)
  · simp only [hv] at hf
    obtain ⟨h2, e3, hf⟩ := hp_bind hf
    refine r_i2l C dL_word_7 ?_
    refine r_sj C dL_word_8 e3 ?_
    refine r_goto C dL_word_9 (tgt := 18) (by decide) ?_
    refine r_iconst C dL_word_18 (v := 0) (by decide) ?_
    exact r_ireturn C E dL_word_19 (by decide) (by decide) hf
  · simp only [hv] at hf
    by_cases c0 : ci = 11
    · subst c0
      rw [if_pos rfl] at hf
      refine ⟨"java/lang/IllegalArgumentException", 12, rfl, ⟨by decide, by decide, by decide, "java/lang/IllegalArgumentException", hh_at 335 (by decide +kernel) (by decide +kernel), Or.inl ⟨hh_at2 346 (by decide +kernel) (by decide +kernel), rfl⟩⟩, ?_⟩
      refine r_astore_n (lv' := [(3, .ref q), (0, .ref (hh_ad B e0 a0)), (1, .int x1), (2, .ref (hh_ad B e0 a2))]) C dL_word_12 rfl (by decide) rfl ?_
      refine r_iconst C dL_word_13 (v := 1) (by decide) ?_
      exact r_ireturn C E dL_word_14 (by decide) (by decide) hf
    by_cases c1 : ci = 12
    · subst c1
      rw [if_neg (by decide)] at hf; rw [if_pos rfl] at hf
      refine ⟨"java/lang/IllegalStateException", 15, rfl, ⟨by decide, by decide, by decide, "java/lang/IllegalArgumentException", hh_at 335 (by decide +kernel) (by decide +kernel), Or.inr ⟨by decide +kernel, ⟨by decide, by decide, by decide, "java/lang/IllegalStateException", hh_at 336 (by decide +kernel) (by decide +kernel), Or.inl ⟨hh_at2 416 (by decide +kernel) (by decide +kernel), rfl⟩⟩⟩⟩, ?_⟩
      refine r_astore_n (lv' := [(3, .ref q), (0, .ref (hh_ad B e0 a0)), (1, .int x1), (2, .ref (hh_ad B e0 a2))]) C dL_word_15 rfl (by decide) rfl ?_
      refine r_iconst C dL_word_16 (v := 2) (by decide) ?_
      exact r_ireturn C E dL_word_17 (by decide) (by decide) hf
    rw [if_neg c0, if_neg c1] at hf
    cases hf
theorem c_La_word (B e0 F : Nat) (a0 : Nat) (x1 : Int32) (a2 : Nat) (h : hh_H) (rr : Int32 × hh_H) (hf : f_La_word F a0 x1 a2 h = some rr) : hh_MetH yL_word cL_word 4 (some .int) hs_La_word rm_La_word mc_La_word ms_La_word B e0 [.ref (hh_ad B e0 a0), .int x1, .ref (hh_ad B e0 a2)] h (.returned (some (.int rr.1))) rr.2 :=
  hh_metH (by decide) (Nat.le_of_ble_eq_true rfl) fun X C HT E => w_La_word C HT E F a0 x1 a2 h hf
def mc_La_close : Nat := 187
def ms_La_close : Nat := 8872
def rm_La_close : Room := { frames := 11, cells := 187, slots := 8872, locals := 270 }
abbrev hs_La_close : List (Nat × Nat × Nat × Nat) := [(0, 8, 11, 15), (0, 8, 14, 21)]
abbrev ok_La_close (X : hh_X) (B e0 : Nat) : Prop := hh_ok X B e0 cL_close RL 3 (some .int) "close" rm_La_close
set_option maxRecDepth 100000 in
set_option maxHeartbeats 4000000 in
theorem w_La_close {X : hh_X} {B e0 : Nat} {rr : Int32 × hh_H} (C : ok_La_close X B e0) (HT : hh_HT X hs_La_close) (E : hh_End X B e0 (.returned (some (.int rr.1))) rr.2 mc_La_close ms_La_close) (F : Nat) (a0 : Nat) (a1 : Nat) (h : hh_H)
    (hf : f_La_close F a0 a1 h = some rr) : hh_W X 0 0 0 [(0, .ref (hh_ad B e0 a0)), (1, .ref (hh_ad B e0 a1))] [] h := by
  unfold f_La_close at hf
  obtain ⟨_, e1, hf⟩ := hp_bind hf
  obtain ⟨g1, e1⟩ := hp_is_of e1
  obtain ⟨r, e2, hf⟩ := hp_bind hf
  refine r_aload_n C dL_close_0 rfl 1 rfl ?_
  refine r_iconst C dL_close_1 (v := 0) (by decide) ?_
  refine r_aload_n C dL_close_2 rfl 0 rfl ?_
  refine r_callVT C HT dL_close_3 cs_RL_17 rfl e1 (c_IB_close B e0 F a0 h _ e2) rfl rfl rfl ⟨by decide, by decide⟩ ⟨by decide, by decide⟩ (Nat.le_of_ble_eq_true rfl) rfl (fun v hv => ?_) (fun ci q hv => ?_)
  · simp only [hv] at hf
    obtain ⟨h2, e3, hf⟩ := hp_bind hf
    refine r_i2l C dL_close_6 ?_
    refine r_sj C dL_close_7 e3 ?_
    refine r_goto C dL_close_8 (tgt := 17) (by decide) ?_
    refine r_iconst C dL_close_17 (v := 0) (by decide) ?_
    exact r_ireturn C E dL_close_18 (by decide) (by decide) hf
  · simp only [hv] at hf
    by_cases c0 : ci = 12
    · subst c0
      rw [if_pos rfl] at hf
      refine ⟨"java/lang/IllegalStateException", 11, rfl, ⟨by decide, by decide, by decide, "java/lang/IllegalStateException", hh_at 336 (by decide +kernel) (by decide +kernel), Or.inl ⟨hh_at2 416 (by decide +kernel) (by decide +kernel), rfl⟩⟩, ?_⟩
      refine r_astore_n (lv' := [(2, .ref q), (0, .ref (hh_ad B e0 a0)), (1, .ref (hh_ad B e0 a1))]) C dL_close_11 rfl (by decide) rfl ?_
      refine r_iconst C dL_close_12 (v := 1) (by decide) ?_
      exact r_ireturn C E dL_close_13 (by decide) (by decide) hf
    by_cases c1 : ci = 13
    · subst c1
      rw [if_neg (by decide)] at hf; rw [if_pos rfl] at hf
      refine ⟨"java/lang/UnsupportedOperationException", 14, rfl, ⟨by decide, by decide, by decide, "java/lang/IllegalStateException", hh_at 336 (by decide +kernel) (by decide +kernel), Or.inr ⟨by decide +kernel, ⟨by decide, by decide, by decide, "java/lang/UnsupportedOperationException", hh_at 433 (by decide +kernel) (by decide +kernel), Or.inl ⟨hh_at2 945 (by decide +kernel) (by decide +kernel), rfl⟩⟩⟩⟩, ?_⟩
      refine r_astore_n (lv' := [(2, .ref q), (0, .ref (hh_ad B e0 a0)), (1, .ref (hh_ad B e0 a1))]) C dL_close_14 rfl (by decide) rfl ?_
      refine r_iconst C dL_close_15 (v := 2) (by decide) ?_
      exact r_ireturn C E dL_close_16 (by decide) (by decide) hf
    rw [if_neg c0, if_neg c1] at hf
    cases hf
theorem c_La_close (B e0 F : Nat) (a0 : Nat) (a1 : Nat) (h : hh_H) (rr : Int32 × hh_H) (hf : f_La_close F a0 a1 h = some rr) : hh_MetH yL_close cL_close 3 (some .int) hs_La_close rm_La_close mc_La_close ms_La_close B e0 [.ref (hh_ad B e0 a0), .ref (hh_ad B e0 a1)] h (.returned (some (.int rr.1))) rr.2 :=
  hh_metH (by decide) (Nat.le_of_ble_eq_true rfl) fun X C HT E => w_La_close C HT E F a0 a1 h hf
def mc_La_drop : Nat := 1
def ms_La_drop : Nat := 6
def rm_La_drop : Room := { frames := 7, cells := 1, slots := 6, locals := 121 }
abbrev hs_La_drop : List (Nat × Nat × Nat × Nat) := [(0, 9, 12, 26)]
abbrev ok_La_drop (X : hh_X) (B e0 : Nat) : Prop := hh_ok X B e0 cL_drop RL 4 (some .int) "drop" rm_La_drop
set_option maxRecDepth 100000 in
set_option maxHeartbeats 4000000 in
theorem w_La_drop {X : hh_X} {B e0 : Nat} {rr : Int32 × hh_H} (C : ok_La_drop X B e0) (HT : hh_HT X hs_La_drop) (E : hh_End X B e0 (.returned (some (.int rr.1))) rr.2 mc_La_drop ms_La_drop) (F : Nat) (a0 : Nat) (x1 : Int32) (a2 : Nat) (h : hh_H)
    (hf : f_La_drop F a0 x1 a2 h = some rr) : hh_W X 0 0 0 [(0, .ref (hh_ad B e0 a0)), (1, .int x1), (2, .ref (hh_ad B e0 a2))] [] h := by
  unfold f_La_drop at hf
  obtain ⟨_, e1, hf⟩ := hp_bind hf
  obtain ⟨g1, e1⟩ := hp_is_of e1
  obtain ⟨r, e2, hf⟩ := hp_bind hf
  refine r_aload_n C dL_drop_0 rfl 2 rfl ?_
  refine r_iconst C dL_drop_1 (v := 0) (by decide) ?_
  refine r_aload_n C dL_drop_2 rfl 0 rfl ?_
  refine r_iload_n C dL_drop_3 rfl 1 rfl ?_
  refine r_callVT C HT dL_drop_4 cs_RL_23 rfl e1 (c_IB_drop B e0 F a0 x1 h _ e2) rfl rfl rfl ⟨by decide, by decide⟩ ⟨by decide, by decide⟩ (Nat.le_of_ble_eq_true rfl) rfl (fun v hv => ?_) (fun ci q hv => ?_)
  · simp only [hv] at hf
    obtain ⟨h2, e3, hf⟩ := hp_bind hf
    refine r_i2l C dL_drop_7 ?_
    refine r_sj C dL_drop_8 e3 ?_
    refine r_goto C dL_drop_9 (tgt := 15) (by decide) ?_
    refine r_iconst C dL_drop_15 (v := 0) (by decide) ?_
    exact r_ireturn C E dL_drop_16 (by decide) (by decide) hf
  · simp only [hv] at hf
    by_cases c0 : ci = 14
    · subst c0
      rw [if_pos rfl] at hf
      refine ⟨"java/util/NoSuchElementException", 12, rfl, ⟨by decide, by decide, by decide, "java/util/NoSuchElementException", hh_at 968 (by decide +kernel) (by decide +kernel), Or.inl ⟨hh_at2 976 (by decide +kernel) (by decide +kernel), rfl⟩⟩, ?_⟩
      refine r_astore_n (lv' := [(3, .ref q), (0, .ref (hh_ad B e0 a0)), (1, .int x1), (2, .ref (hh_ad B e0 a2))]) C dL_drop_12 rfl (by decide) rfl ?_
      refine r_iconst C dL_drop_13 (v := 1) (by decide) ?_
      exact r_ireturn C E dL_drop_14 (by decide) (by decide) hf
    rw [if_neg c0] at hf
    cases hf
theorem c_La_drop (B e0 F : Nat) (a0 : Nat) (x1 : Int32) (a2 : Nat) (h : hh_H) (rr : Int32 × hh_H) (hf : f_La_drop F a0 x1 a2 h = some rr) : hh_MetH yL_drop cL_drop 4 (some .int) hs_La_drop rm_La_drop mc_La_drop ms_La_drop B e0 [.ref (hh_ad B e0 a0), .int x1, .ref (hh_ad B e0 a2)] h (.returned (some (.int rr.1))) rr.2 :=
  hh_metH (by decide) (Nat.le_of_ble_eq_true rfl) fun X C HT E => w_La_drop C HT E F a0 x1 a2 h hf
def mc_La_flush : Nat := 187
def ms_La_flush : Nat := 8872
def rm_La_flush : Room := { frames := 11, cells := 187, slots := 8872, locals := 268 }
abbrev hs_La_flush : List (Nat × Nat × Nat × Nat) := [(0, 8, 11, 21)]
abbrev ok_La_flush (X : hh_X) (B e0 : Nat) : Prop := hh_ok X B e0 cL_flush RL 3 (some .int) "flush" rm_La_flush
set_option maxRecDepth 100000 in
set_option maxHeartbeats 4000000 in
theorem w_La_flush {X : hh_X} {B e0 : Nat} {rr : Int32 × hh_H} (C : ok_La_flush X B e0) (HT : hh_HT X hs_La_flush) (E : hh_End X B e0 (.returned (some (.int rr.1))) rr.2 mc_La_flush ms_La_flush) (F : Nat) (a0 : Nat) (a1 : Nat) (h : hh_H)
    (hf : f_La_flush F a0 a1 h = some rr) : hh_W X 0 0 0 [(0, .ref (hh_ad B e0 a0)), (1, .ref (hh_ad B e0 a1))] [] h := by
  unfold f_La_flush at hf
  obtain ⟨_, e1, hf⟩ := hp_bind hf
  obtain ⟨g1, e1⟩ := hp_is_of e1
  obtain ⟨r, e2, hf⟩ := hp_bind hf
  refine r_aload_n C dL_flush_0 rfl 1 rfl ?_
  refine r_iconst C dL_flush_1 (v := 0) (by decide) ?_
  refine r_aload_n C dL_flush_2 rfl 0 rfl ?_
  refine r_callVT C HT dL_flush_3 cs_RL_28 rfl e1 (c_IB_flush B e0 F a0 h _ e2) rfl rfl rfl ⟨by decide, by decide⟩ ⟨by decide, by decide⟩ (Nat.le_of_ble_eq_true rfl) rfl (fun v hv => ?_) (fun ci q hv => ?_)
  · simp only [hv] at hf
    obtain ⟨h2, e3, hf⟩ := hp_bind hf
    refine r_i2l C dL_flush_6 ?_
    refine r_sj C dL_flush_7 e3 ?_
    refine r_goto C dL_flush_8 (tgt := 14) (by decide) ?_
    refine r_iconst C dL_flush_14 (v := 0) (by decide) ?_
    exact r_ireturn C E dL_flush_15 (by decide) (by decide) hf
  · simp only [hv] at hf
    by_cases c0 : ci = 13
    · subst c0
      rw [if_pos rfl] at hf
      refine ⟨"java/lang/UnsupportedOperationException", 11, rfl, ⟨by decide, by decide, by decide, "java/lang/UnsupportedOperationException", hh_at 433 (by decide +kernel) (by decide +kernel), Or.inl ⟨hh_at2 945 (by decide +kernel) (by decide +kernel), rfl⟩⟩, ?_⟩
      refine r_astore_n (lv' := [(2, .ref q), (0, .ref (hh_ad B e0 a0)), (1, .ref (hh_ad B e0 a1))]) C dL_flush_11 rfl (by decide) rfl ?_
      refine r_iconst C dL_flush_12 (v := 1) (by decide) ?_
      exact r_ireturn C E dL_flush_13 (by decide) (by decide) hf
    rw [if_neg c0] at hf
    cases hf
theorem c_La_flush (B e0 F : Nat) (a0 : Nat) (a1 : Nat) (h : hh_H) (rr : Int32 × hh_H) (hf : f_La_flush F a0 a1 h = some rr) : hh_MetH yL_flush cL_flush 3 (some .int) hs_La_flush rm_La_flush mc_La_flush ms_La_flush B e0 [.ref (hh_ad B e0 a0), .ref (hh_ad B e0 a1)] h (.returned (some (.int rr.1))) rr.2 :=
  hh_metH (by decide) (Nat.le_of_ble_eq_true rfl) fun X C HT E => w_La_flush C HT E F a0 a1 h hf
def mc_La_finish : Nat := 190
def ms_La_finish : Nat := 9015
def rm_La_finish : Room := { frames := 11, cells := 190, slots := 9015, locals := 268 }
abbrev hs_La_finish : List (Nat × Nat × Nat × Nat) := [(0, 8, 11, 21)]
abbrev ok_La_finish (X : hh_X) (B e0 : Nat) : Prop := hh_ok X B e0 cL_finish RL 3 (some .int) "finish" rm_La_finish
set_option maxRecDepth 100000 in
set_option maxHeartbeats 4000000 in
theorem w_La_finish {X : hh_X} {B e0 : Nat} {rr : Int32 × hh_H} (C : ok_La_finish X B e0) (HT : hh_HT X hs_La_finish) (E : hh_End X B e0 (.returned (some (.int rr.1))) rr.2 mc_La_finish ms_La_finish) (F : Nat) (a0 : Nat) (a1 : Nat) (h : hh_H)
    (hf : f_La_finish F a0 a1 h = some rr) : hh_W X 0 0 0 [(0, .ref (hh_ad B e0 a0)), (1, .ref (hh_ad B e0 a1))] [] h := by
  unfold f_La_finish at hf
  obtain ⟨_, e1, hf⟩ := hp_bind hf
  obtain ⟨g1, e1⟩ := hp_is_of e1
  obtain ⟨r, e2, hf⟩ := hp_bind hf
  refine r_aload_n C dL_finish_0 rfl 1 rfl ?_
  refine r_iconst C dL_finish_1 (v := 0) (by decide) ?_
  refine r_aload_n C dL_finish_2 rfl 0 rfl ?_
  refine r_callVT C HT dL_finish_3 cs_RL_31 rfl e1 (c_IB_finish B e0 F a0 h _ e2) rfl rfl rfl ⟨by decide, by decide⟩ ⟨by decide, by decide⟩ (Nat.le_of_ble_eq_true rfl) rfl (fun v hv => ?_) (fun ci q hv => ?_)
  · simp only [hv] at hf
    obtain ⟨h2, e3, hf⟩ := hp_bind hf
    refine r_i2l C dL_finish_6 ?_
    refine r_sj C dL_finish_7 e3 ?_
    refine r_goto C dL_finish_8 (tgt := 14) (by decide) ?_
    refine r_iconst C dL_finish_14 (v := 0) (by decide) ?_
    exact r_ireturn C E dL_finish_15 (by decide) (by decide) hf
  · simp only [hv] at hf
    by_cases c0 : ci = 13
    · subst c0
      rw [if_pos rfl] at hf
      refine ⟨"java/lang/UnsupportedOperationException", 11, rfl, ⟨by decide, by decide, by decide, "java/lang/UnsupportedOperationException", hh_at 433 (by decide +kernel) (by decide +kernel), Or.inl ⟨hh_at2 945 (by decide +kernel) (by decide +kernel), rfl⟩⟩, ?_⟩
      refine r_astore_n (lv' := [(2, .ref q), (0, .ref (hh_ad B e0 a0)), (1, .ref (hh_ad B e0 a1))]) C dL_finish_11 rfl (by decide) rfl ?_
      refine r_iconst C dL_finish_12 (v := 1) (by decide) ?_
      exact r_ireturn C E dL_finish_13 (by decide) (by decide) hf
    rw [if_neg c0] at hf
    cases hf
theorem c_La_finish (B e0 F : Nat) (a0 : Nat) (a1 : Nat) (h : hh_H) (rr : Int32 × hh_H) (hf : f_La_finish F a0 a1 h = some rr) : hh_MetH yL_finish cL_finish 3 (some .int) hs_La_finish rm_La_finish mc_La_finish ms_La_finish B e0 [.ref (hh_ad B e0 a0), .ref (hh_ad B e0 a1)] h (.returned (some (.int rr.1))) rr.2 :=
  hh_metH (by decide) (Nat.le_of_ble_eq_true rfl) fun X C HT E => w_La_finish C HT E F a0 a1 h hf
def mc_La_find : Nat := 1
def ms_La_find : Nat := 6
def rm_La_find : Room := { frames := 7, cells := 1, slots := 6, locals := 142 }
abbrev hs_La_find : List (Nat × Nat × Nat × Nat) := [(0, 12, 15, 13)]
abbrev ok_La_find (X : hh_X) (B e0 : Nat) : Prop := hh_ok X B e0 cL_find RL 6 (some .int) "find" rm_La_find
set_option maxRecDepth 100000 in
set_option maxHeartbeats 4000000 in
theorem w_La_find {X : hh_X} {B e0 : Nat} {rr : Int32 × hh_H} (C : ok_La_find X B e0) (HT : hh_HT X hs_La_find) (E : hh_End X B e0 (.returned (some (.int rr.1))) rr.2 mc_La_find ms_La_find) (F : Nat) (a0 : Nat) (x1 : Int32) (x2 : Int32) (x3 : Int32) (a4 : Nat) (h : hh_H)
    (hf : f_La_find F a0 x1 x2 x3 a4 h = some rr) : hh_W X 0 0 0 [(0, .ref (hh_ad B e0 a0)), (1, .int x1), (2, .int x2), (3, .int x3), (4, .ref (hh_ad B e0 a4))] [] h := by
  unfold f_La_find at hf
  obtain ⟨_, e1, hf⟩ := hp_bind hf
  obtain ⟨g1, e1⟩ := hp_is_of e1
  obtain ⟨r, e2, hf⟩ := hp_bind hf
  refine r_aload C dL_find_0 4 rfl ?_
  refine r_iconst C dL_find_2 (v := 0) (by decide) ?_
  refine r_aload_n C dL_find_3 rfl 0 rfl ?_
  refine r_iload_n C dL_find_4 rfl 1 rfl ?_
  refine r_iload_n C dL_find_5 rfl 2 rfl ?_
  refine r_iload_n C dL_find_6 rfl 3 rfl ?_
  refine r_callVT C HT dL_find_7 cs_RL_34 rfl e1 (c_IB_find B e0 F a0 x1 x2 x3 h _ e2) rfl rfl rfl ⟨by decide, by decide⟩ ⟨by decide, by decide⟩ (Nat.le_of_ble_eq_true rfl) rfl (fun v hv => ?_) (fun ci q hv => ?_)
  · simp only [hv] at hf
    obtain ⟨h2, e3, hf⟩ := hp_bind hf
    refine r_i2l C dL_find_10 ?_
    refine r_sj C dL_find_11 e3 ?_
    refine r_goto C dL_find_12 (tgt := 19) (by decide) ?_
    refine r_iconst C dL_find_19 (v := 0) (by decide) ?_
    exact r_ireturn C E dL_find_20 (by decide) (by decide) hf
  · simp only [hv] at hf
    by_cases c0 : ci = 11
    · subst c0
      rw [if_pos rfl] at hf
      refine ⟨"java/lang/IllegalArgumentException", 15, rfl, ⟨by decide, by decide, by decide, "java/lang/IllegalArgumentException", hh_at 335 (by decide +kernel) (by decide +kernel), Or.inl ⟨hh_at2 346 (by decide +kernel) (by decide +kernel), rfl⟩⟩, ?_⟩
      refine r_astore (lv' := [(5, .ref q), (0, .ref (hh_ad B e0 a0)), (1, .int x1), (2, .int x2), (3, .int x3), (4, .ref (hh_ad B e0 a4))]) C dL_find_15 (by decide) rfl ?_
      refine r_iconst C dL_find_17 (v := 1) (by decide) ?_
      exact r_ireturn C E dL_find_18 (by decide) (by decide) hf
    rw [if_neg c0] at hf
    cases hf
theorem c_La_find (B e0 F : Nat) (a0 : Nat) (x1 : Int32) (x2 : Int32) (x3 : Int32) (a4 : Nat) (h : hh_H) (rr : Int32 × hh_H) (hf : f_La_find F a0 x1 x2 x3 a4 h = some rr) : hh_MetH yL_find cL_find 6 (some .int) hs_La_find rm_La_find mc_La_find ms_La_find B e0 [.ref (hh_ad B e0 a0), .int x1, .int x2, .int x3, .ref (hh_ad B e0 a4)] h (.returned (some (.int rr.1))) rr.2 :=
  hh_metH (by decide) (Nat.le_of_ble_eq_true rfl) fun X C HT E => w_La_find C HT E F a0 x1 x2 x3 a4 h hf
def mc_La_rank : Nat := 1
def ms_La_rank : Nat := 6
def rm_La_rank : Room := { frames := 7, cells := 1, slots := 6, locals := 143 }
abbrev hs_La_rank : List (Nat × Nat × Nat × Nat) := [(0, 10, 13, 13)]
abbrev ok_La_rank (X : hh_X) (B e0 : Nat) : Prop := hh_ok X B e0 cL_rank RL 5 (some .int) "rank" rm_La_rank
set_option maxRecDepth 100000 in
set_option maxHeartbeats 4000000 in
theorem w_La_rank {X : hh_X} {B e0 : Nat} {rr : Int32 × hh_H} (C : ok_La_rank X B e0) (HT : hh_HT X hs_La_rank) (E : hh_End X B e0 (.returned (some (.int rr.1))) rr.2 mc_La_rank ms_La_rank) (F : Nat) (a0 : Nat) (x1 : Int32) (x2 : Int32) (a3 : Nat) (h : hh_H)
    (hf : f_La_rank F a0 x1 x2 a3 h = some rr) : hh_W X 0 0 0 [(0, .ref (hh_ad B e0 a0)), (1, .int x1), (2, .int x2), (3, .ref (hh_ad B e0 a3))] [] h := by
  unfold f_La_rank at hf
  obtain ⟨_, e1, hf⟩ := hp_bind hf
  obtain ⟨g1, e1⟩ := hp_is_of e1
  obtain ⟨r, e2, hf⟩ := hp_bind hf
  refine r_aload_n C dL_rank_0 rfl 3 rfl ?_
  refine r_iconst C dL_rank_1 (v := 0) (by decide) ?_
  refine r_aload_n C dL_rank_2 rfl 0 rfl ?_
  refine r_iload_n C dL_rank_3 rfl 1 rfl ?_
  refine r_iload_n C dL_rank_4 rfl 2 rfl ?_
  refine r_callVT C HT dL_rank_5 cs_RL_38 rfl e1 (c_IB_rank B e0 F a0 x1 x2 h _ e2) rfl rfl rfl ⟨by decide, by decide⟩ ⟨by decide, by decide⟩ (Nat.le_of_ble_eq_true rfl) rfl (fun v hv => ?_) (fun ci q hv => ?_)
  · simp only [hv] at hf
    obtain ⟨h2, e3, hf⟩ := hp_bind hf
    refine r_i2l C dL_rank_8 ?_
    refine r_sj C dL_rank_9 e3 ?_
    refine r_goto C dL_rank_10 (tgt := 17) (by decide) ?_
    refine r_iconst C dL_rank_17 (v := 0) (by decide) ?_
    exact r_ireturn C E dL_rank_18 (by decide) (by decide) hf
  · simp only [hv] at hf
    by_cases c0 : ci = 11
    · subst c0
      rw [if_pos rfl] at hf
      refine ⟨"java/lang/IllegalArgumentException", 13, rfl, ⟨by decide, by decide, by decide, "java/lang/IllegalArgumentException", hh_at 335 (by decide +kernel) (by decide +kernel), Or.inl ⟨hh_at2 346 (by decide +kernel) (by decide +kernel), rfl⟩⟩, ?_⟩
      refine r_astore (lv' := [(4, .ref q), (0, .ref (hh_ad B e0 a0)), (1, .int x1), (2, .int x2), (3, .ref (hh_ad B e0 a3))]) C dL_rank_13 (by decide) rfl ?_
      refine r_iconst C dL_rank_15 (v := 1) (by decide) ?_
      exact r_ireturn C E dL_rank_16 (by decide) (by decide) hf
    rw [if_neg c0] at hf
    cases hf
theorem c_La_rank (B e0 F : Nat) (a0 : Nat) (x1 : Int32) (x2 : Int32) (a3 : Nat) (h : hh_H) (rr : Int32 × hh_H) (hf : f_La_rank F a0 x1 x2 a3 h = some rr) : hh_MetH yL_rank cL_rank 5 (some .int) hs_La_rank rm_La_rank mc_La_rank ms_La_rank B e0 [.ref (hh_ad B e0 a0), .int x1, .int x2, .ref (hh_ad B e0 a3)] h (.returned (some (.int rr.1))) rr.2 :=
  hh_metH (by decide) (Nat.le_of_ble_eq_true rfl) fun X C HT E => w_La_rank C HT E F a0 x1 x2 a3 h hf
def mc_La_result : Nat := 1
def ms_La_result : Nat := 6
def rm_La_result : Room := { frames := 7, cells := 1, slots := 6, locals := 121 }
abbrev hs_La_result : List (Nat × Nat × Nat × Nat) := [(0, 9, 12, 26)]
abbrev ok_La_result (X : hh_X) (B e0 : Nat) : Prop := hh_ok X B e0 cL_result RL 4 (some .int) "result" rm_La_result
set_option maxRecDepth 100000 in
set_option maxHeartbeats 4000000 in
theorem w_La_result {X : hh_X} {B e0 : Nat} {rr : Int32 × hh_H} (C : ok_La_result X B e0) (HT : hh_HT X hs_La_result) (E : hh_End X B e0 (.returned (some (.int rr.1))) rr.2 mc_La_result ms_La_result) (F : Nat) (a0 : Nat) (x1 : Int32) (a2 : Nat) (h : hh_H)
    (hf : f_La_result F a0 x1 a2 h = some rr) : hh_W X 0 0 0 [(0, .ref (hh_ad B e0 a0)), (1, .int x1), (2, .ref (hh_ad B e0 a2))] [] h := by
  unfold f_La_result at hf
  obtain ⟨_, e1, hf⟩ := hp_bind hf
  obtain ⟨g1, e1⟩ := hp_is_of e1
  obtain ⟨r, e2, hf⟩ := hp_bind hf
  refine r_aload_n C dL_result_0 rfl 2 rfl ?_
  refine r_iconst C dL_result_1 (v := 0) (by decide) ?_
  refine r_aload_n C dL_result_2 rfl 0 rfl ?_
  refine r_iload_n C dL_result_3 rfl 1 rfl ?_
  refine r_callVT C HT dL_result_4 cs_RL_42 rfl e1 (c_IB_result B e0 F a0 x1 h _ e2) rfl rfl rfl ⟨by decide, by decide⟩ ⟨by decide, by decide⟩ (Nat.le_of_ble_eq_true rfl) rfl (fun v hv => ?_) (fun ci q hv => ?_)
  · simp only [hv] at hf
    obtain ⟨h2, e3, hf⟩ := hp_bind hf
    refine r_i2l C dL_result_7 ?_
    refine r_sj C dL_result_8 e3 ?_
    refine r_goto C dL_result_9 (tgt := 15) (by decide) ?_
    refine r_iconst C dL_result_15 (v := 0) (by decide) ?_
    exact r_ireturn C E dL_result_16 (by decide) (by decide) hf
  · simp only [hv] at hf
    by_cases c0 : ci = 14
    · subst c0
      rw [if_pos rfl] at hf
      refine ⟨"java/util/NoSuchElementException", 12, rfl, ⟨by decide, by decide, by decide, "java/util/NoSuchElementException", hh_at 968 (by decide +kernel) (by decide +kernel), Or.inl ⟨hh_at2 976 (by decide +kernel) (by decide +kernel), rfl⟩⟩, ?_⟩
      refine r_astore_n (lv' := [(3, .ref q), (0, .ref (hh_ad B e0 a0)), (1, .int x1), (2, .ref (hh_ad B e0 a2))]) C dL_result_12 rfl (by decide) rfl ?_
      refine r_iconst C dL_result_13 (v := 1) (by decide) ?_
      exact r_ireturn C E dL_result_14 (by decide) (by decide) hf
    rw [if_neg c0] at hf
    cases hf
theorem c_La_result (B e0 F : Nat) (a0 : Nat) (x1 : Int32) (a2 : Nat) (h : hh_H) (rr : Int32 × hh_H) (hf : f_La_result F a0 x1 a2 h = some rr) : hh_MetH yL_result cL_result 4 (some .int) hs_La_result rm_La_result mc_La_result ms_La_result B e0 [.ref (hh_ad B e0 a0), .int x1, .ref (hh_ad B e0 a2)] h (.returned (some (.int rr.1))) rr.2 :=
  hh_metH (by decide) (Nat.le_of_ble_eq_true rfl) fun X C HT E => w_La_result C HT E F a0 x1 a2 h hf
def mc_La_score : Nat := 1
def ms_La_score : Nat := 6
def rm_La_score : Room := { frames := 7, cells := 1, slots := 6, locals := 121 }
abbrev hs_La_score : List (Nat × Nat × Nat × Nat) := [(0, 8, 11, 26), (0, 8, 14, 21)]
abbrev ok_La_score (X : hh_X) (B e0 : Nat) : Prop := hh_ok X B e0 cL_score RL 4 (some .int) "score" rm_La_score
set_option maxRecDepth 100000 in
set_option maxHeartbeats 4000000 in
theorem w_La_score {X : hh_X} {B e0 : Nat} {rr : Int32 × hh_H} (C : ok_La_score X B e0) (HT : hh_HT X hs_La_score) (E : hh_End X B e0 (.returned (some (.int rr.1))) rr.2 mc_La_score ms_La_score) (F : Nat) (a0 : Nat) (x1 : Int32) (a2 : Nat) (h : hh_H)
    (hf : f_La_score F a0 x1 a2 h = some rr) : hh_W X 0 0 0 [(0, .ref (hh_ad B e0 a0)), (1, .int x1), (2, .ref (hh_ad B e0 a2))] [] h := by
  unfold f_La_score at hf
  obtain ⟨_, e1, hf⟩ := hp_bind hf
  obtain ⟨g1, e1⟩ := hp_is_of e1
  obtain ⟨r, e2, hf⟩ := hp_bind hf
  refine r_aload_n C dL_score_0 rfl 2 rfl ?_
  refine r_iconst C dL_score_1 (v := 0) (by decide) ?_
  refine r_aload_n C dL_score_2 rfl 0 rfl ?_
  refine r_iload_n C dL_score_3 rfl 1 rfl ?_
  refine r_callVT C HT dL_score_4 cs_RL_45 rfl e1 (c_IB_score B e0 F a0 x1 h _ e2) rfl rfl rfl ⟨by decide, by decide⟩ ⟨by decide, by decide⟩ (Nat.le_of_ble_eq_true rfl) rfl (fun v hv => ?_) (fun ci q hv => ?_)
  · simp only [hv] at hf
    obtain ⟨h2, e3, hf⟩ := hp_bind hf
    refine r_sd C dL_score_7 e3 ?_
    refine r_goto C dL_score_8 (tgt := 17) (by decide) ?_
    refine r_iconst C dL_score_17 (v := 0) (by decide) ?_
    exact r_ireturn C E dL_score_18 (by decide) (by decide) hf
  · simp only [hv] at hf
    by_cases c0 : ci = 14
    · subst c0
      rw [if_pos rfl] at hf
      refine ⟨"java/util/NoSuchElementException", 11, rfl, ⟨by decide, by decide, by decide, "java/util/NoSuchElementException", hh_at 968 (by decide +kernel) (by decide +kernel), Or.inl ⟨hh_at2 976 (by decide +kernel) (by decide +kernel), rfl⟩⟩, ?_⟩
      refine r_astore_n (lv' := [(3, .ref q), (0, .ref (hh_ad B e0 a0)), (1, .int x1), (2, .ref (hh_ad B e0 a2))]) C dL_score_11 rfl (by decide) rfl ?_
      refine r_iconst C dL_score_12 (v := 1) (by decide) ?_
      exact r_ireturn C E dL_score_13 (by decide) (by decide) hf
    by_cases c1 : ci = 13
    · subst c1
      rw [if_neg (by decide)] at hf; rw [if_pos rfl] at hf
      refine ⟨"java/lang/UnsupportedOperationException", 14, rfl, ⟨by decide, by decide, by decide, "java/util/NoSuchElementException", hh_at 968 (by decide +kernel) (by decide +kernel), Or.inr ⟨by decide +kernel, ⟨by decide, by decide, by decide, "java/lang/UnsupportedOperationException", hh_at 433 (by decide +kernel) (by decide +kernel), Or.inl ⟨hh_at2 945 (by decide +kernel) (by decide +kernel), rfl⟩⟩⟩⟩, ?_⟩
      refine r_astore_n (lv' := [(3, .ref q), (0, .ref (hh_ad B e0 a0)), (1, .int x1), (2, .ref (hh_ad B e0 a2))]) C dL_score_14 rfl (by decide) rfl ?_
      refine r_iconst C dL_score_15 (v := 2) (by decide) ?_
      exact r_ireturn C E dL_score_16 (by decide) (by decide) hf
    rw [if_neg c0, if_neg c1] at hf
    cases hf
theorem c_La_score (B e0 F : Nat) (a0 : Nat) (x1 : Int32) (a2 : Nat) (h : hh_H) (rr : Int32 × hh_H) (hf : f_La_score F a0 x1 a2 h = some rr) : hh_MetH yL_score cL_score 4 (some .int) hs_La_score rm_La_score mc_La_score ms_La_score B e0 [.ref (hh_ad B e0 a0), .int x1, .ref (hh_ad B e0 a2)] h (.returned (some (.int rr.1))) rr.2 :=
  hh_metH (by decide) (Nat.le_of_ble_eq_true rfl) fun X C HT E => w_La_score C HT E F a0 x1 a2 h hf
def mc_La_byteOf : Nat := 1
def ms_La_byteOf : Nat := 6
def rm_La_byteOf : Room := { frames := 7, cells := 1, slots := 6, locals := 122 }
abbrev hs_La_byteOf : List (Nat × Nat × Nat × Nat) := [(0, 10, 13, 52)]
abbrev ok_La_byteOf (X : hh_X) (B e0 : Nat) : Prop := hh_ok X B e0 cL_byteOf RL 5 (some .int) "byteOf" rm_La_byteOf
set_option maxRecDepth 100000 in
set_option maxHeartbeats 4000000 in
theorem w_La_byteOf {X : hh_X} {B e0 : Nat} {rr : Int32 × hh_H} (C : ok_La_byteOf X B e0) (HT : hh_HT X hs_La_byteOf) (E : hh_End X B e0 (.returned (some (.int rr.1))) rr.2 mc_La_byteOf ms_La_byteOf) (F : Nat) (a0 : Nat) (x1 : Int32) (x2 : Int32) (a3 : Nat) (h : hh_H)
    (hf : f_La_byteOf F a0 x1 x2 a3 h = some rr) : hh_W X 0 0 0 [(0, .ref (hh_ad B e0 a0)), (1, .int x1), (2, .int x2), (3, .ref (hh_ad B e0 a3))] [] h := by
  unfold f_La_byteOf at hf
  obtain ⟨_, e1, hf⟩ := hp_bind hf
  obtain ⟨g1, e1⟩ := hp_is_of e1
  obtain ⟨r, e2, hf⟩ := hp_bind hf
  refine r_aload_n C dL_byteOf_0 rfl 3 rfl ?_
  refine r_iconst C dL_byteOf_1 (v := 0) (by decide) ?_
  refine r_aload_n C dL_byteOf_2 rfl 0 rfl ?_
  refine r_iload_n C dL_byteOf_3 rfl 1 rfl ?_
  refine r_iload_n C dL_byteOf_4 rfl 2 rfl ?_
  refine r_callVT C HT dL_byteOf_5 cs_RL_49 rfl e1 (c_IB_byteOf B e0 F a0 x1 x2 h _ e2) rfl rfl rfl ⟨by decide, by decide⟩ ⟨by decide, by decide⟩ (Nat.le_of_ble_eq_true rfl) rfl (fun v hv => ?_) (fun ci q hv => ?_)
  · simp only [hv] at hf
    obtain ⟨h2, e3, hf⟩ := hp_bind hf
    refine r_i2l C dL_byteOf_8 ?_
    refine r_sj C dL_byteOf_9 e3 ?_
    refine r_goto C dL_byteOf_10 (tgt := 17) (by decide) ?_
    refine r_iconst C dL_byteOf_17 (v := 0) (by decide) ?_
    exact r_ireturn C E dL_byteOf_18 (by decide) (by decide) hf
  · simp only [hv] at hf
    by_cases c0 : ci = 15
    · subst c0
      rw [if_pos rfl] at hf
      refine ⟨"java/lang/IndexOutOfBoundsException", 13, rfl, ⟨by decide, by decide, by decide, "java/lang/IndexOutOfBoundsException", hh_at 1126 (by decide +kernel) (by decide +kernel), Or.inl ⟨hh_at2 558 (by decide +kernel) (by decide +kernel), rfl⟩⟩, ?_⟩
      refine r_astore (lv' := [(4, .ref q), (0, .ref (hh_ad B e0 a0)), (1, .int x1), (2, .int x2), (3, .ref (hh_ad B e0 a3))]) C dL_byteOf_13 (by decide) rfl ?_
      refine r_iconst C dL_byteOf_15 (v := 1) (by decide) ?_
      exact r_ireturn C E dL_byteOf_16 (by decide) (by decide) hf
    rw [if_neg c0] at hf
    cases hf
theorem c_La_byteOf (B e0 F : Nat) (a0 : Nat) (x1 : Int32) (x2 : Int32) (a3 : Nat) (h : hh_H) (rr : Int32 × hh_H) (hf : f_La_byteOf F a0 x1 x2 a3 h = some rr) : hh_MetH yL_byteOf cL_byteOf 5 (some .int) hs_La_byteOf rm_La_byteOf mc_La_byteOf ms_La_byteOf B e0 [.ref (hh_ad B e0 a0), .int x1, .int x2, .ref (hh_ad B e0 a3)] h (.returned (some (.int rr.1))) rr.2 :=
  hh_metH (by decide) (Nat.le_of_ble_eq_true rfl) fun X C HT E => w_La_byteOf C HT E F a0 x1 x2 a3 h hf
def mc_La_run : Nat := 1
def ms_La_run : Nat := 6
def rm_La_run : Room := { frames := 7, cells := 1, slots := 6, locals := 128 }
abbrev hs_La_run : List (Nat × Nat × Nat × Nat) := [(0, 10, 13, 26), (0, 10, 17, 13)]
abbrev ok_La_run (X : hh_X) (B e0 : Nat) : Prop := hh_ok X B e0 cL_run RL 5 (some .int) "run" rm_La_run
set_option maxRecDepth 100000 in
set_option maxHeartbeats 4000000 in
theorem w_La_run {X : hh_X} {B e0 : Nat} {rr : Int32 × hh_H} (C : ok_La_run X B e0) (HT : hh_HT X hs_La_run) (E : hh_End X B e0 (.returned (some (.int rr.1))) rr.2 mc_La_run ms_La_run) (F : Nat) (a0 : Nat) (x1 : Int32) (x2 : Int32) (a3 : Nat) (h : hh_H)
    (hf : f_La_run F a0 x1 x2 a3 h = some rr) : hh_W X 0 0 0 [(0, .ref (hh_ad B e0 a0)), (1, .int x1), (2, .int x2), (3, .ref (hh_ad B e0 a3))] [] h := by
  unfold f_La_run at hf
  obtain ⟨_, e1, hf⟩ := hp_bind hf
  obtain ⟨g1, e1⟩ := hp_is_of e1
  obtain ⟨r, e2, hf⟩ := hp_bind hf
  refine r_aload_n C dL_run_0 rfl 3 rfl ?_
  refine r_iconst C dL_run_1 (v := 0) (by decide) ?_
  refine r_aload_n C dL_run_2 rfl 0 rfl ?_
  refine r_iload_n C dL_run_3 rfl 1 rfl ?_
  refine r_iload_n C dL_run_4 rfl 2 rfl ?_
  refine r_callVT C HT dL_run_5 cs_RL_54 rfl e1 (c_IB_run B e0 F a0 x1 x2 h _ e2) rfl rfl rfl ⟨by decide, by decide⟩ ⟨by decide, by decide⟩ (Nat.le_of_ble_eq_true rfl) rfl (fun v hv => ?_) (fun ci q hv => ?_)
  · simp only [hv] at hf
    obtain ⟨h2, e3, hf⟩ := hp_bind hf
    refine r_i2l C dL_run_8 ?_
    refine r_sj C dL_run_9 e3 ?_
    refine r_goto C dL_run_10 (tgt := 21) (by decide) ?_
    refine r_iconst C dL_run_21 (v := 0) (by decide) ?_
    exact r_ireturn C E dL_run_22 (by decide) (by decide) hf
  · simp only [hv] at hf
    by_cases c0 : ci = 14
    · subst c0
      rw [if_pos rfl] at hf
      refine ⟨"java/util/NoSuchElementException", 13, rfl, ⟨by decide, by decide, by decide, "java/util/NoSuchElementException", hh_at 968 (by decide +kernel) (by decide +kernel), Or.inl ⟨hh_at2 976 (by decide +kernel) (by decide +kernel), rfl⟩⟩, ?_⟩
      refine r_astore (lv' := [(4, .ref q), (0, .ref (hh_ad B e0 a0)), (1, .int x1), (2, .int x2), (3, .ref (hh_ad B e0 a3))]) C dL_run_13 (by decide) rfl ?_
      refine r_iconst C dL_run_15 (v := 1) (by decide) ?_
      exact r_ireturn C E dL_run_16 (by decide) (by decide) hf
    by_cases c1 : ci = 11
    · subst c1
      rw [if_neg (by decide)] at hf; rw [if_pos rfl] at hf
      refine ⟨"java/lang/IllegalArgumentException", 17, rfl, ⟨by decide, by decide, by decide, "java/util/NoSuchElementException", hh_at 968 (by decide +kernel) (by decide +kernel), Or.inr ⟨by decide +kernel, ⟨by decide, by decide, by decide, "java/lang/IllegalArgumentException", hh_at 335 (by decide +kernel) (by decide +kernel), Or.inl ⟨hh_at2 346 (by decide +kernel) (by decide +kernel), rfl⟩⟩⟩⟩, ?_⟩
      refine r_astore (lv' := [(4, .ref q), (0, .ref (hh_ad B e0 a0)), (1, .int x1), (2, .int x2), (3, .ref (hh_ad B e0 a3))]) C dL_run_17 (by decide) rfl ?_
      refine r_iconst C dL_run_19 (v := 2) (by decide) ?_
      exact r_ireturn C E dL_run_20 (by decide) (by decide) hf
    rw [if_neg c0, if_neg c1] at hf
    cases hf
theorem c_La_run (B e0 F : Nat) (a0 : Nat) (x1 : Int32) (x2 : Int32) (a3 : Nat) (h : hh_H) (rr : Int32 × hh_H) (hf : f_La_run F a0 x1 x2 a3 h = some rr) : hh_MetH yL_run cL_run 5 (some .int) hs_La_run rm_La_run mc_La_run ms_La_run B e0 [.ref (hh_ad B e0 a0), .int x1, .int x2, .ref (hh_ad B e0 a3)] h (.returned (some (.int rr.1))) rr.2 :=
  hh_metH (by decide) (Nat.le_of_ble_eq_true rfl) fun X C HT E => w_La_run C HT E F a0 x1 x2 a3 h hf
