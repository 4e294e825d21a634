-- result, score, byteOf, run, count
section Rest
variable {h : hh_H} {F mem fan nb wt lvb : Nat} {op : List Nat} {T : List (List Nat)} {dr : List Bool} {s : List (Nat × Nat × Nat) × Int32 × Int32 × Int32 × Int32} {res : List (Nat × UInt64)} {rk : Int32}
theorem s_result_in {k : Nat} (hk : k < res.length) (hr : res.length ≤ 40) (H : zC h mem fan nb op T dr wt s res rk) : f_IB_result F 1 (nI k) h = some (.inl (nI (res[k]).1), h) := by
  obtain ⟨c1, c2, c3, c4, c5, c6, c7, c8⟩ := H
  unfold f_IB_result
  rw [if_neg (nI_pos (by omega)), q_ga c1 rfl]
  show ((hp_is h 22 0).bind _) = _
  rw [q_is c8.1]
  show hp_cb (f_Answer_size F 22 h) _ = _
  rw [s_Answer_size c8, q_cb, if_pos (nI_lt hk (by omega)), q_ga c1 rfl]
  show ((hp_is h 22 0).bind _) = _
  rw [q_is c8.1]
  show hp_cb (f_Answer_documentAt F 22 (nI k) h) _ = _
  rw [s_documentAt c8 hk, q_cb]
theorem s_result_out {x : Int32} (hx : x < 0 ∨ nI res.length ≤ x) (H : zC h mem fan nb op T dr wt s res rk) : f_IB_result F 1 x h = some (.inr 14, h ++ [.inr (14, [])]) := by
  obtain ⟨c1, c2, c3, c4, c5, c6, c7, c8⟩ := H
  unfold f_IB_result
  by_cases h1 : x < 0
  · rw [if_pos h1]
  · rw [if_neg h1, q_ga c1 rfl]
    show ((hp_is h 22 0).bind _) = _
    rw [q_is c8.1]
    show hp_cb (f_Answer_size F 22 h) _ = _
    rw [s_Answer_size c8, q_cb]
    rcases hx with hx | hx
    · exact absurd hx h1
    · rw [if_neg (Int32.not_lt.mpr hx)]
theorem s_score_in {k : Nat} (hk : k < res.length) (hr : res.length ≤ 40) (hrk : rk = 1) (H : zC h mem fan nb op T dr wt s res rk) : f_IB_score F 1 (nI k) h = some (.inl (res[k]).2, h) := by
  obtain ⟨c1, c2, c3, c4, c5, c6, c7, c8⟩ := H
  unfold f_IB_score
  rw [if_neg (nI_pos (by omega)), q_ga c1 rfl]
  show ((hp_is h 22 0).bind _) = _
  rw [q_is c8.1]
  show hp_cb (f_Answer_size F 22 h) _ = _
  rw [s_Answer_size c8, q_cb, if_pos (nI_lt hk (by omega)), q_ga c1 rfl]
  show ((hp_is h 22 0).bind _) = _
  rw [q_is c8.1]
  show hp_cb (f_Answer_isRanked F 22 h) _ = _
  rw [s_isRanked (Or.inr hrk) c8, q_cb, hrk, if_neg (by decide), q_ga c1 rfl]
  show ((hp_is h 22 0).bind _) = _
  rw [q_is c8.1]
  show hp_cb (f_Answer_scoreAt F 22 (nI k) h) _ = _
  rw [s_scoreAt c8 hk, q_cb]
theorem s_score_no {k : Nat} (hk : k < res.length) (hr : res.length ≤ 40) (hrk : rk = 0) (H : zC h mem fan nb op T dr wt s res rk) : f_IB_score F 1 (nI k) h = some (.inr 13, h ++ [.inr (13, [])]) := by
  obtain ⟨c1, c2, c3, c4, c5, c6, c7, c8⟩ := H
  unfold f_IB_score
  rw [if_neg (nI_pos (by omega)), q_ga c1 rfl]
  show ((hp_is h 22 0).bind _) = _
  rw [q_is c8.1]
  show hp_cb (f_Answer_size F 22 h) _ = _
  rw [s_Answer_size c8, q_cb, if_pos (nI_lt hk (by omega)), q_ga c1 rfl]
  show ((hp_is h 22 0).bind _) = _
  rw [q_is c8.1]
  show hp_cb (f_Answer_isRanked F 22 h) _ = _
  rw [s_isRanked (Or.inl hrk) c8, q_cb, hrk, if_pos rfl]
theorem s_score_out {x : Int32} (hx : x < 0 ∨ nI res.length ≤ x) (H : zC h mem fan nb op T dr wt s res rk) : f_IB_score F 1 x h = some (.inr 14, h ++ [.inr (14, [])]) := by
  obtain ⟨c1, c2, c3, c4, c5, c6, c7, c8⟩ := H
  unfold f_IB_score
  by_cases h1 : x < 0
  · rw [if_pos h1]
  · rw [if_neg h1, q_ga c1 rfl]
    show ((hp_is h 22 0).bind _) = _
    rw [q_is c8.1]
    show hp_cb (f_Answer_size F 22 h) _ = _
    rw [s_Answer_size c8, q_cb]
    rcases hx with hx | hx
    · exact absurd hx h1
    · rw [if_neg (Int32.not_lt.mpr hx)]
theorem zX.kis {R : List (Nat × Nat × Nat)} {rd wr mg fl : Int32} (H : zX h T dr nb fan R rd wr mg fl) : ∃ fs, h[7]? = some (.inr (2, fs)) := by
  obtain ⟨_, _, ⟨f, hK, _⟩, _⟩ := H
  exact ⟨_, hK.1⟩
theorem s_byteOf_in {b i : Nat} (hnb : nb ≤ 60) (hb : b < nb) (hi : i < 16) (H : zC h mem fan nb op T dr wt s res rk) : ∃ v, f_IB_byteOf F 1 (nI b) (nI i) h = some (.inl (nI v), h) ∧ zz_cell T s.1 b i v := by
  obtain ⟨c1, c2, c3, c4, c5, c6, c7, c8⟩ := H
  have X : zX h T dr nb fan s.1 s.2.1 s.2.2.1 s.2.2.2.1 s.2.2.2.2 := c4
  obtain ⟨fs, hfs⟩ := X.kis
  obtain ⟨v, hv, hc⟩ := s_cellAt (F := F) hnb X.2.2.1 hb hi
  refine ⟨v, ?_, hc⟩
  unfold f_IB_byteOf
  rw [q_ga c1 rfl]
  show ((hp_is h 10 7).bind _) = _
  rw [q_is X.2.2.2.2]
  have e1 : f_RunRow_hasByte F 10 (nI b) (nI i) h = some (1, h) := by
    unfold f_RunRow_hasByte
    rw [q_ga X.2.2.2.2 rfl]
    show ((hp_is h 7 2).bind _) = _
    rw [q_is hfs]
    show hp_cb (f_Disk_has F 7 (nI b) (nI i) h) _ = _
    rw [s_has_in hnb X.2.2.1 hb hi, q_cb]
    rfl
  show hp_cb (f_RunRow_hasByte F 10 (nI b) (nI i) h) _ = _
  rw [e1, q_cb, if_neg (by decide), q_ga c1 rfl]
  show ((hp_is h 10 7).bind _) = _
  rw [q_is X.2.2.2.2]
  show hp_cb (f_RunRow_byteAt F 10 (nI b) (nI i) h) _ = _
  unfold f_RunRow_byteAt
  rw [q_ga X.2.2.2.2 rfl]
  show hp_cb ((hp_is h 7 2).bind _) _ = _
  rw [q_is hfs]
  show hp_cb (hp_cb (f_Disk_cellAt F 7 (nI b) (nI i) h) _) _ = _
  rw [hv, q_cb, q_cb]
theorem s_byteOf_out {x y : Int32} (hq : x < 0 ∨ nI nb ≤ x ∨ y < 0 ∨ 16 ≤ y) (H : zC h mem fan nb op T dr wt s res rk) : f_IB_byteOf F 1 x y h = some (.inr 15, h ++ [.inr (15, [])]) := by
  obtain ⟨c1, c2, c3, c4, c5, c6, c7, c8⟩ := H
  have X : zX h T dr nb fan s.1 s.2.1 s.2.2.1 s.2.2.2.1 s.2.2.2.2 := c4
  obtain ⟨fs, hfs⟩ := X.kis
  unfold f_IB_byteOf
  rw [q_ga c1 rfl]
  show ((hp_is h 10 7).bind _) = _
  rw [q_is X.2.2.2.2]
  have e1 : f_RunRow_hasByte F 10 x y h = some (0, h) := by
    unfold f_RunRow_hasByte
    rw [q_ga X.2.2.2.2 rfl]
    show ((hp_is h 7 2).bind _) = _
    rw [q_is hfs]
    show hp_cb (f_Disk_has F 7 x y h) _ = _
    rw [s_has_out X.2.2.1 hq, q_cb]
    rfl
  show hp_cb (f_RunRow_hasByte F 10 x y h) _ = _
  rw [e1, q_cb, if_pos rfl]
theorem s_RR_has {R : List (Nat × Nat × Nat)} {rd wr mg fl : Int32} (hR : R.length ≤ 60) {k : Nat} (hk : k < R.length) (X : zX h T dr nb fan R rd wr mg fl) : f_RunRow_has F 10 (nI k) h = some (1, h) := by
  unfold f_RunRow_has
  rw [if_neg (nI_pos (by omega)), q_ga X.2.2.2.2 rfl]
  obtain ⟨fs, hfs⟩ := X.2.2.2.1.is
  show ((hp_is h 11 10).bind _) = _
  rw [q_is hfs]
  show hp_cb (f_ArrayList_size F 11 h) _ = _
  rw [s_AL_size X.2.2.2.1, q_cb, if_neg (nI_ge hk (by omega))]
/-- what run answers of a run -/
def zz_runv (T : List (List Nat)) (r : Nat × Nat × Nat) (what : Nat) : Nat := if what = 0 then r.1 else if what = 1 then (zz_bl r.2.1).length else if what = 2 then (zz_bl r.2.1).headD 0 else (zz_enc T r.2.2).length
theorem s_run_in {k what : Nat} {r : Nat × Nat × Nat} (hnb : nb ≤ 60) (hk : s.1[k]? = some r) (hw : what ≤ 3) (H : zC h mem fan nb op T dr wt s res rk) : f_IB_run F 1 (nI k) (nI what) h = some (.inl (nI (zz_runv T r what)), h) := by
  obtain ⟨c1, c2, c3, c4, c5, c6, c7, c8⟩ := H
  have X : zX h T dr nb fan s.1 s.2.1 s.2.2.1 s.2.2.2.1 s.2.2.2.2 := c4
  have hlen := X.len hnb
  have hlt := (List.getElem?_eq_some_iff.mp hk).1
  have hB := (X.okB.1 r (List.mem_of_getElem? hk)).2
  have hpos := zz_nd_pos T r.2.2
  obtain ⟨p, hg, hp⟩ := s_AL_get (F := F) X.2.2.2.1 (by omega) hk
  obtain ⟨hp38, q, hq38, hc, hd⟩ := hp
  obtain ⟨fs, hfs⟩ := X.2.2.2.1.is
  have hbl : ∃ b0 bs, zz_bl r.2.1 = b0 :: bs := by
    cases hq : zz_bl r.2.1 with
    | nil => rw [hq] at hB; simp at hB; omega
    | cons b0 bs => exact ⟨b0, bs, rfl⟩
  obtain ⟨b0, bs, hbl⟩ := hbl
  have hb60 : (zz_bl r.2.1).length ≤ 60 := by
    unfold zz_bl
    exact Nat.le_trans (List.length_filter_le _ _) (by simp)
  have e0 : f_RunRow_levelOf F 10 (nI k) h = some (nI r.1, h) := by
    unfold f_RunRow_levelOf
    rw [q_is X.2.2.2.2]
    show hp_cb (f_RunRow_has F 10 (nI k) h) _ = _
    rw [s_RR_has (by omega) hlt X, q_cb, if_neg (by decide), q_ga X.2.2.2.2 rfl]
    show ((hp_is h 11 10).bind _) = _
    rw [q_is hfs]
    show hp_cb (f_ArrayList_get F 11 (nI k) h) _ = _
    rw [hg, q_cb, q_is hc]
    show ((hp_gi h p 6 0).bind _) = _
    rw [q_gi hc rfl]
    rfl
  have e1 : f_RunRow_blocksOf F 10 (nI k) h = some (nI (zz_bl r.2.1).length, h) := by
    unfold f_RunRow_blocksOf
    rw [q_is X.2.2.2.2]
    show hp_cb (f_RunRow_has F 10 (nI k) h) _ = _
    rw [s_RR_has (by omega) hlt X, q_cb, if_neg (by decide), q_ga X.2.2.2.2 rfl]
    show ((hp_is h 11 10).bind _) = _
    rw [q_is hfs]
    show hp_cb (f_ArrayList_get F 11 (nI k) h) _ = _
    rw [hg, q_cb, q_is hc]
    show ((hp_ga h p 6 1).bind _) = _
    rw [q_ga hc rfl]
    show ((hp_len h q).bind _) = _
    rw [q_len hd (by decide), List.length_map]
    rfl
  have e2 : f_RunRow_firstBlockOf F 10 (nI k) h = some (nI b0, h) := by
    unfold f_RunRow_firstBlockOf
    rw [q_is X.2.2.2.2]
    show hp_cb (f_RunRow_blocksOf F 10 (nI k) h) _ = _
    rw [e1, q_cb, if_neg (nI_nle (by rw [hbl]; simp) (by omega)), q_ga X.2.2.2.2 rfl]
    show ((hp_is h 11 10).bind _) = _
    rw [q_is hfs]
    show hp_cb (f_ArrayList_get F 11 (nI k) h) _ = _
    rw [hg, q_cb, q_is hc]
    show ((hp_ga h p 6 1).bind _) = _
    rw [q_ga hc rfl]
    show ((hp_ai h q (nI 0)).bind _) = _
    rw [q_ai hd (by decide) (x := nI b0) (by rw [hbl]; rfl)]
    rfl
  have e3 : f_RunRow_bytesOf F 10 (nI k) h = some (nI (zz_enc T r.2.2).length, h) := by
    unfold f_RunRow_bytesOf
    rw [q_is X.2.2.2.2]
    show hp_cb (f_RunRow_has F 10 (nI k) h) _ = _
    rw [s_RR_has (by omega) hlt X, q_cb, if_neg (by decide), q_ga X.2.2.2.2 rfl]
    show ((hp_is h 11 10).bind _) = _
    rw [q_is hfs]
    show hp_cb (f_ArrayList_get F 11 (nI k) h) _ = _
    rw [hg, q_cb, q_is hc]
    show ((hp_gi h p 6 2).bind _) = _
    rw [q_gi hc rfl]
    rfl
  unfold f_IB_run
  rw [if_neg (nI_pos (by omega)), q_ga c1 rfl]
  show ((hp_is h 10 7).bind _) = _
  rw [q_is X.2.2.2.2]
  show hp_cb (f_RunRow_size F 10 h) _ = _
  rw [s_RunRow_size X, q_cb, if_pos (nI_lt hlt (by omega))]
  have hcase : what = 0 ∨ what = 1 ∨ what = 2 ∨ what = 3 := by omega
  unfold zz_runv
  rcases hcase with rfl | rfl | rfl | rfl
  · rw [if_pos (show nI 0 = 0 from rfl), if_pos rfl, q_ga c1 rfl]
    show ((hp_is h 10 7).bind _) = _
    rw [q_is X.2.2.2.2]
    show hp_cb (f_RunRow_levelOf F 10 (nI k) h) _ = _
    rw [e0, q_cb]
  · rw [if_neg (show ¬ nI 1 = 0 by decide), if_pos (show nI 1 = 1 from rfl), if_neg (by decide), if_pos rfl, q_ga c1 rfl]
    show ((hp_is h 10 7).bind _) = _
    rw [q_is X.2.2.2.2]
    show hp_cb (f_RunRow_blocksOf F 10 (nI k) h) _ = _
    rw [e1, q_cb]
  · rw [if_neg (show ¬ nI 2 = 0 by decide), if_neg (show ¬ nI 2 = 1 by decide), if_pos (show nI 2 = 2 from rfl), if_neg (by decide), if_neg (by decide), if_pos rfl, q_ga c1 rfl]
    show ((hp_is h 10 7).bind _) = _
    rw [q_is X.2.2.2.2]
    show hp_cb (f_RunRow_firstBlockOf F 10 (nI k) h) _ = _
    rw [e2, q_cb, hbl]
    rfl
  · rw [if_neg (show ¬ nI 3 = 0 by decide), if_neg (show ¬ nI 3 = 1 by decide), if_neg (show ¬ nI 3 = 2 by decide), if_pos (show nI 3 = 3 from rfl), if_neg (by decide), if_neg (by decide), if_neg (by decide), q_ga c1 rfl]
    show ((hp_is h 10 7).bind _) = _
    rw [q_is X.2.2.2.2]
    show hp_cb (f_RunRow_bytesOf F 10 (nI k) h) _ = _
    rw [e3, q_cb]
theorem s_run_what {k : Nat} {y : Int32} (hnb : nb ≤ 60) (hk : k < s.1.length) (hy : ¬ y = 0 ∧ ¬ y = 1 ∧ ¬ y = 2 ∧ ¬ y = 3) (H : zC h mem fan nb op T dr wt s res rk) : f_IB_run F 1 (nI k) y h = some (.inr 11, h ++ [.inr (11, [])]) := by
  obtain ⟨c1, c2, c3, c4, c5, c6, c7, c8⟩ := H
  have X : zX h T dr nb fan s.1 s.2.1 s.2.2.1 s.2.2.2.1 s.2.2.2.2 := c4
  have hlen := X.len hnb
  unfold f_IB_run
  rw [if_neg (nI_pos (by omega)), q_ga c1 rfl]
  show ((hp_is h 10 7).bind _) = _
  rw [q_is X.2.2.2.2]
  show hp_cb (f_RunRow_size F 10 h) _ = _
  rw [s_RunRow_size X, q_cb, if_pos (nI_lt hk (by omega)), if_neg hy.1, if_neg hy.2.1, if_neg hy.2.2.1, if_neg hy.2.2.2]
theorem s_run_out {x y : Int32} (hx : x < 0 ∨ nI s.1.length ≤ x) (H : zC h mem fan nb op T dr wt s res rk) : f_IB_run F 1 x y h = some (.inr 14, h ++ [.inr (14, [])]) := by
  obtain ⟨c1, c2, c3, c4, c5, c6, c7, c8⟩ := H
  have X : zX h T dr nb fan s.1 s.2.1 s.2.2.1 s.2.2.2.1 s.2.2.2.2 := c4
  unfold f_IB_run
  by_cases h1 : x < 0
  · rw [if_pos h1]
  · rw [if_neg h1, q_ga c1 rfl]
    show ((hp_is h 10 7).bind _) = _
    rw [q_is X.2.2.2.2]
    show hp_cb (f_RunRow_size F 10 h) _ = _
    rw [s_RunRow_size X, q_cb]
    rcases hx with hx | hx
    · exact absurd hx h1
    · rw [if_neg (Int32.not_lt.mpr hx)]
/-- what count answers -/
def zz_cntv (nb wt : Nat) (op : List Nat) (T : List (List Nat)) (dr : List Bool) (s : List (Nat × Nat × Nat) × Int32 × Int32 × Int32 × Int32) (x : Int32) : Int32 :=
  if x = 0 then nI T.length else if x = 1 then nI (dr.filter (fun x => !x)).length else if x = 2 then nI (zz_bf T wt) else if x = 3 then nI s.1.length else if x = 4 then nI (zz_free nb (zz_ub s.1)).length else if x = 5 then s.2.1 else if x = 6 then s.2.2.1 else if x = 7 then s.2.2.2.1 else if x = 8 then s.2.2.2.2 else if x = 9 then nI op.length else -1
theorem s_count {x : Int32} (HI : zz_I mem fan nb op T dr wt lvb s res rk) (H : zC h mem fan nb op T dr wt s res rk) : f_IB_count F 1 x h = some (zz_cntv nb wt op T dr s x, h) := by
  obtain ⟨i1, i2, i3, i4, i5, i6, i7, i8, i9, i10, i11, i12, i13, i14⟩ := HI
  obtain ⟨c1, c2, c3, c4, c5, c6, c7, c8⟩ := H
  have X : zX h T dr nb fan s.1 s.2.1 s.2.2.1 s.2.2.2.1 s.2.2.2.2 := c4
  obtain ⟨fs, hfs⟩ := X.kis
  unfold f_IB_count zz_cntv
  by_cases h0 : x = 0
  · rw [if_pos h0, if_pos h0, q_ga c1 rfl]
    show ((hp_is h 3 3).bind _) = _
    rw [q_is X.2.1.2.1]
    show hp_cb (f_Documents_size F 3 h) _ = _
    rw [s_Documents_size X.2.1, q_cb, i6]
  rw [if_neg h0, if_neg h0]
  by_cases h1 : x = 1
  · rw [if_pos h1, if_pos h1, q_ga c1 rfl]
    show ((hp_is h 3 3).bind _) = _
    rw [q_is X.2.1.2.1]
    show hp_cb (f_Documents_live F 3 h) _ = _
    rw [s_Documents_live X.2.1, q_cb]
  rw [if_neg h1, if_neg h1]
  by_cases h2 : x = 2
  · rw [if_pos h2, if_pos h2, q_ga c1 rfl]
    show ((hp_is h 5 5).bind _) = _
    rw [q_is c3.1]
    show hp_cb (f_Postings_size F 5 h) _ = _
    rw [s_Postings_size c3, q_cb, i11]
  rw [if_neg h2, if_neg h2]
  by_cases h3 : x = 3
  · rw [if_pos h3, if_pos h3, q_ga c1 rfl]
    show ((hp_is h 10 7).bind _) = _
    rw [q_is X.2.2.2.2]
    show hp_cb (f_RunRow_size F 10 h) _ = _
    rw [s_RunRow_size X, q_cb]
  rw [if_neg h3, if_neg h3]
  by_cases h4 : x = 4
  · rw [if_pos h4, if_pos h4, q_ga c1 rfl]
    show ((hp_is h 10 7).bind _) = _
    rw [q_is X.2.2.2.2]
    show hp_cb (f_RunRow_freeBlocks F 10 h) _ = _
    unfold f_RunRow_freeBlocks
    rw [q_ga X.2.2.2.2 rfl]
    show hp_cb ((hp_is h 7 2).bind _) _ = _
    rw [q_is hfs]
    show hp_cb (hp_cb (f_Disk_free F 7 h) _) _ = _
    rw [s_Disk_free X.2.2.1, q_cb, q_cb]
  rw [if_neg h4, if_neg h4]
  by_cases h5 : x = 5
  · rw [if_pos h5, if_pos h5, q_ga c1 rfl]
    show ((hp_is h 10 7).bind _) = _
    rw [q_is X.2.2.2.2]
    show hp_cb (f_RunRow_blocksRead F 10 h) _ = _
    unfold f_RunRow_blocksRead
    rw [q_gi X.2.2.2.2 rfl]
    rfl
  rw [if_neg h5, if_neg h5]
  by_cases h6 : x = 6
  · rw [if_pos h6, if_pos h6, q_ga c1 rfl]
    show ((hp_is h 10 7).bind _) = _
    rw [q_is X.2.2.2.2]
    show hp_cb (f_RunRow_blocksWritten F 10 h) _ = _
    unfold f_RunRow_blocksWritten
    rw [q_gi X.2.2.2.2 rfl]
    rfl
  rw [if_neg h6, if_neg h6]
  by_cases h7 : x = 7
  · rw [if_pos h7, if_pos h7, q_ga c1 rfl]
    show ((hp_is h 10 7).bind _) = _
    rw [q_is X.2.2.2.2]
    show hp_cb (f_RunRow_mergesDone F 10 h) _ = _
    unfold f_RunRow_mergesDone
    rw [q_gi X.2.2.2.2 rfl]
    rfl
  rw [if_neg h7, if_neg h7]
  by_cases h8 : x = 8
  · rw [if_pos h8, if_pos h8, q_ga c1 rfl]
    show ((hp_is h 10 7).bind _) = _
    rw [q_is X.2.2.2.2]
    show hp_cb (f_RunRow_mergesWithoutRoom F 10 h) _ = _
    unfold f_RunRow_mergesWithoutRoom
    rw [q_gi X.2.2.2.2 rfl]
    rfl
  rw [if_neg h8, if_neg h8]
  by_cases h9 : x = 9
  · rw [if_pos h9, if_pos h9, q_gi c1 rfl]
    rfl
  rw [if_neg h9, if_neg h9]
end Rest
