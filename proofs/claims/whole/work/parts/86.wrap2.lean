-- the law's wrappers
def zz_l1c (x : Int64) : hh_C := .inl (3, .inr (.inr (.inl [x])))
def zz_d1c (y : UInt64) : hh_C := .inl (2, .inr (.inl [y]))
section Wraps
variable {h h1 : hh_H} {F : Nat} {fs : List hh_V} {x1 x2 x3 : Int32}
theorem la_word_ok {v : Int32} {y : Int64} (hc : h[1]? = some (.inr (8, fs))) (hG : f_IB_word F 1 x1 h = some (.inl v, h1)) (ho : h1[36]? = some (zz_l1c y)) : f_La_word F 1 x1 36 h = some (0, h1.set 36 (zz_l1c v.toInt64)) := by
  unfold f_La_word
  rw [q_is hc]
  show ((f_IB_word F 1 x1 h).bind _) = _
  rw [hG]
  show ((hp_sj h1 36 (nI 0) v.toInt64).bind _) = _
  rw [q_sj (l := [y]) ho (Nat.zero_lt_one) (by decide)]
  rfl
theorem la_word_t11 (hc : h[1]? = some (.inr (8, fs))) (hG : f_IB_word F 1 x1 h = some (.inr 11, h1)) : f_La_word F 1 x1 36 h = some (1, h1) := by
  unfold f_La_word
  rw [q_is hc]
  show ((f_IB_word F 1 x1 h).bind _) = _
  rw [hG]
  rfl
theorem la_word_t12 (hc : h[1]? = some (.inr (8, fs))) (hG : f_IB_word F 1 x1 h = some (.inr 12, h1)) : f_La_word F 1 x1 36 h = some (2, h1) := by
  unfold f_La_word
  rw [q_is hc]
  show ((f_IB_word F 1 x1 h).bind _) = _
  rw [hG]
  rfl
theorem la_close_ok {v : Int32} {y : Int64} (hc : h[1]? = some (.inr (8, fs))) (hG : f_IB_close F 1 h = some (.inl v, h1)) (ho : h1[36]? = some (zz_l1c y)) : f_La_close F 1 36 h = some (0, h1.set 36 (zz_l1c v.toInt64)) := by
  unfold f_La_close
  rw [q_is hc]
  show ((f_IB_close F 1 h).bind _) = _
  rw [hG]
  show ((hp_sj h1 36 (nI 0) v.toInt64).bind _) = _
  rw [q_sj (l := [y]) ho (Nat.zero_lt_one) (by decide)]
  rfl
theorem la_close_t12 (hc : h[1]? = some (.inr (8, fs))) (hG : f_IB_close F 1 h = some (.inr 12, h1)) : f_La_close F 1 36 h = some (1, h1) := by
  unfold f_La_close
  rw [q_is hc]
  show ((f_IB_close F 1 h).bind _) = _
  rw [hG]
  rfl
theorem la_close_t13 (hc : h[1]? = some (.inr (8, fs))) (hG : f_IB_close F 1 h = some (.inr 13, h1)) : f_La_close F 1 36 h = some (2, h1) := by
  unfold f_La_close
  rw [q_is hc]
  show ((f_IB_close F 1 h).bind _) = _
  rw [hG]
  rfl
theorem la_drop_ok {v : Int32} {y : Int64} (hc : h[1]? = some (.inr (8, fs))) (hG : f_IB_drop F 1 x1 h = some (.inl v, h1)) (ho : h1[36]? = some (zz_l1c y)) : f_La_drop F 1 x1 36 h = some (0, h1.set 36 (zz_l1c v.toInt64)) := by
  unfold f_La_drop
  rw [q_is hc]
  show ((f_IB_drop F 1 x1 h).bind _) = _
  rw [hG]
  show ((hp_sj h1 36 (nI 0) v.toInt64).bind _) = _
  rw [q_sj (l := [y]) ho (Nat.zero_lt_one) (by decide)]
  rfl
theorem la_drop_t14 (hc : h[1]? = some (.inr (8, fs))) (hG : f_IB_drop F 1 x1 h = some (.inr 14, h1)) : f_La_drop F 1 x1 36 h = some (1, h1) := by
  unfold f_La_drop
  rw [q_is hc]
  show ((f_IB_drop F 1 x1 h).bind _) = _
  rw [hG]
  rfl
theorem la_flush_ok {v : Int32} {y : Int64} (hc : h[1]? = some (.inr (8, fs))) (hG : f_IB_flush F 1 h = some (.inl v, h1)) (ho : h1[36]? = some (zz_l1c y)) : f_La_flush F 1 36 h = some (0, h1.set 36 (zz_l1c v.toInt64)) := by
  unfold f_La_flush
  rw [q_is hc]
  show ((f_IB_flush F 1 h).bind _) = _
  rw [hG]
  show ((hp_sj h1 36 (nI 0) v.toInt64).bind _) = _
  rw [q_sj (l := [y]) ho (Nat.zero_lt_one) (by decide)]
  rfl
theorem la_flush_t13 (hc : h[1]? = some (.inr (8, fs))) (hG : f_IB_flush F 1 h = some (.inr 13, h1)) : f_La_flush F 1 36 h = some (1, h1) := by
  unfold f_La_flush
  rw [q_is hc]
  show ((f_IB_flush F 1 h).bind _) = _
  rw [hG]
  rfl
theorem la_finish_ok {v : Int32} {y : Int64} (hc : h[1]? = some (.inr (8, fs))) (hG : f_IB_finish F 1 h = some (.inl v, h1)) (ho : h1[36]? = some (zz_l1c y)) : f_La_finish F 1 36 h = some (0, h1.set 36 (zz_l1c v.toInt64)) := by
  unfold f_La_finish
  rw [q_is hc]
  show ((f_IB_finish F 1 h).bind _) = _
  rw [hG]
  show ((hp_sj h1 36 (nI 0) v.toInt64).bind _) = _
  rw [q_sj (l := [y]) ho (Nat.zero_lt_one) (by decide)]
  rfl
theorem la_finish_t13 (hc : h[1]? = some (.inr (8, fs))) (hG : f_IB_finish F 1 h = some (.inr 13, h1)) : f_La_finish F 1 36 h = some (1, h1) := by
  unfold f_La_finish
  rw [q_is hc]
  show ((f_IB_finish F 1 h).bind _) = _
  rw [hG]
  rfl
theorem la_find_ok {v : Int32} {y : Int64} (hc : h[1]? = some (.inr (8, fs))) (hG : f_IB_find F 1 x1 x2 x3 h = some (.inl v, h1)) (ho : h1[36]? = some (zz_l1c y)) : f_La_find F 1 x1 x2 x3 36 h = some (0, h1.set 36 (zz_l1c v.toInt64)) := by
  unfold f_La_find
  rw [q_is hc]
  show ((f_IB_find F 1 x1 x2 x3 h).bind _) = _
  rw [hG]
  show ((hp_sj h1 36 (nI 0) v.toInt64).bind _) = _
  rw [q_sj (l := [y]) ho (Nat.zero_lt_one) (by decide)]
  rfl
theorem la_find_t11 (hc : h[1]? = some (.inr (8, fs))) (hG : f_IB_find F 1 x1 x2 x3 h = some (.inr 11, h1)) : f_La_find F 1 x1 x2 x3 36 h = some (1, h1) := by
  unfold f_La_find
  rw [q_is hc]
  show ((f_IB_find F 1 x1 x2 x3 h).bind _) = _
  rw [hG]
  rfl
theorem la_rank_ok {v : Int32} {y : Int64} (hc : h[1]? = some (.inr (8, fs))) (hG : f_IB_rank F 1 x1 x2 h = some (.inl v, h1)) (ho : h1[36]? = some (zz_l1c y)) : f_La_rank F 1 x1 x2 36 h = some (0, h1.set 36 (zz_l1c v.toInt64)) := by
  unfold f_La_rank
  rw [q_is hc]
  show ((f_IB_rank F 1 x1 x2 h).bind _) = _
  rw [hG]
  show ((hp_sj h1 36 (nI 0) v.toInt64).bind _) = _
  rw [q_sj (l := [y]) ho (Nat.zero_lt_one) (by decide)]
  rfl
theorem la_rank_t11 (hc : h[1]? = some (.inr (8, fs))) (hG : f_IB_rank F 1 x1 x2 h = some (.inr 11, h1)) : f_La_rank F 1 x1 x2 36 h = some (1, h1) := by
  unfold f_La_rank
  rw [q_is hc]
  show ((f_IB_rank F 1 x1 x2 h).bind _) = _
  rw [hG]
  rfl
theorem la_result_ok {v : Int32} {y : Int64} (hc : h[1]? = some (.inr (8, fs))) (hG : f_IB_result F 1 x1 h = some (.inl v, h1)) (ho : h1[36]? = some (zz_l1c y)) : f_La_result F 1 x1 36 h = some (0, h1.set 36 (zz_l1c v.toInt64)) := by
  unfold f_La_result
  rw [q_is hc]
  show ((f_IB_result F 1 x1 h).bind _) = _
  rw [hG]
  show ((hp_sj h1 36 (nI 0) v.toInt64).bind _) = _
  rw [q_sj (l := [y]) ho (Nat.zero_lt_one) (by decide)]
  rfl
theorem la_result_t14 (hc : h[1]? = some (.inr (8, fs))) (hG : f_IB_result F 1 x1 h = some (.inr 14, h1)) : f_La_result F 1 x1 36 h = some (1, h1) := by
  unfold f_La_result
  rw [q_is hc]
  show ((f_IB_result F 1 x1 h).bind _) = _
  rw [hG]
  rfl
theorem la_score_ok {v y : UInt64} (hc : h[1]? = some (.inr (8, fs))) (hG : f_IB_score F 1 x1 h = some (.inl v, h1)) (ho : h1[37]? = some (zz_d1c y)) : f_La_score F 1 x1 37 h = some (0, h1.set 37 (zz_d1c v)) := by
  unfold f_La_score
  rw [q_is hc]
  show ((f_IB_score F 1 x1 h).bind _) = _
  rw [hG]
  show ((hp_sd h1 37 (nI 0) v).bind _) = _
  rw [q_sd (l := [y]) ho (Nat.zero_lt_one) (by decide)]
  rfl
theorem la_score_t14 (hc : h[1]? = some (.inr (8, fs))) (hG : f_IB_score F 1 x1 h = some (.inr 14, h1)) : f_La_score F 1 x1 37 h = some (1, h1) := by
  unfold f_La_score
  rw [q_is hc]
  show ((f_IB_score F 1 x1 h).bind _) = _
  rw [hG]
  rfl
theorem la_score_t13 (hc : h[1]? = some (.inr (8, fs))) (hG : f_IB_score F 1 x1 h = some (.inr 13, h1)) : f_La_score F 1 x1 37 h = some (2, h1) := by
  unfold f_La_score
  rw [q_is hc]
  show ((f_IB_score F 1 x1 h).bind _) = _
  rw [hG]
  rfl
theorem la_byteOf_ok {v : Int32} {y : Int64} (hc : h[1]? = some (.inr (8, fs))) (hG : f_IB_byteOf F 1 x1 x2 h = some (.inl v, h1)) (ho : h1[36]? = some (zz_l1c y)) : f_La_byteOf F 1 x1 x2 36 h = some (0, h1.set 36 (zz_l1c v.toInt64)) := by
  unfold f_La_byteOf
  rw [q_is hc]
  show ((f_IB_byteOf F 1 x1 x2 h).bind _) = _
  rw [hG]
  show ((hp_sj h1 36 (nI 0) v.toInt64).bind _) = _
  rw [q_sj (l := [y]) ho (Nat.zero_lt_one) (by decide)]
  rfl
theorem la_byteOf_t15 (hc : h[1]? = some (.inr (8, fs))) (hG : f_IB_byteOf F 1 x1 x2 h = some (.inr 15, h1)) : f_La_byteOf F 1 x1 x2 36 h = some (1, h1) := by
  unfold f_La_byteOf
  rw [q_is hc]
  show ((f_IB_byteOf F 1 x1 x2 h).bind _) = _
  rw [hG]
  rfl
theorem la_run_ok {v : Int32} {y : Int64} (hc : h[1]? = some (.inr (8, fs))) (hG : f_IB_run F 1 x1 x2 h = some (.inl v, h1)) (ho : h1[36]? = some (zz_l1c y)) : f_La_run F 1 x1 x2 36 h = some (0, h1.set 36 (zz_l1c v.toInt64)) := by
  unfold f_La_run
  rw [q_is hc]
  show ((f_IB_run F 1 x1 x2 h).bind _) = _
  rw [hG]
  show ((hp_sj h1 36 (nI 0) v.toInt64).bind _) = _
  rw [q_sj (l := [y]) ho (Nat.zero_lt_one) (by decide)]
  rfl
theorem la_run_t14 (hc : h[1]? = some (.inr (8, fs))) (hG : f_IB_run F 1 x1 x2 h = some (.inr 14, h1)) : f_La_run F 1 x1 x2 36 h = some (1, h1) := by
  unfold f_La_run
  rw [q_is hc]
  show ((f_IB_run F 1 x1 x2 h).bind _) = _
  rw [hG]
  rfl
theorem la_run_t11 (hc : h[1]? = some (.inr (8, fs))) (hG : f_IB_run F 1 x1 x2 h = some (.inr 11, h1)) : f_La_run F 1 x1 x2 36 h = some (2, h1) := by
  unfold f_La_run
  rw [q_is hc]
  show ((f_IB_run F 1 x1 x2 h).bind _) = _
  rw [hG]
  rfl
end Wraps
