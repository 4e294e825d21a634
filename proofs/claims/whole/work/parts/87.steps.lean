-- one call of the law
/-- the class and the reference stand at the same numbers -/
def zZ (h : hh_H) (mem fan nb b : Nat) : Prop := ∃ (op : List Nat) (T : List (List Nat)) (dr : List Bool) (wt lvb : Nat) (s : List (Nat × Nat × Nat) × Int32 × Int32 × Int32 × Int32) (res : List (Nat × UInt64)) (rk th : Int32), zC h mem fan nb op T dr wt s res rk ∧ zM h th mem fan nb op T dr wt s res rk ∧ zz_I mem fan nb op T dr wt lvb s res rk ∧ lvb ≤ b ∧ (∃ x, h[36]? = some (zz_l1c x)) ∧ ∃ y, h[37]? = some (zz_d1c y)
/-- how the law compares -/
def zz_tl (F : Nat) (K : hh_H → Option (Int32 × hh_H)) (q7 q12 : Int32) (h13 : hh_H) : Option (Int32 × hh_H) :=
  (hp_is h13 25 9).bind fun _ => hp_cb (f_Mo_thrown F 25 h13) fun q17 h18 => if q17 = q7 then if q7 = 0 then (hp_aj h18 36 0).bind fun v24 => if (lg_cmp v24 q12.toInt64) = 0 then K h18 else some (0, h18) else K h18 else some (0, h18)
section Steps
variable {h h1 : hh_H} {F mem fan nb wt lvb wt' lvb' b' : Nat} {op op' : List Nat} {T T' : List (List Nat)} {dr dr' : List Bool} {s s' : List (Nat × Nat × Nat) × Int32 × Int32 × Int32 × Int32} {res res' : List (Nat × UInt64)} {rk rk' th : Int32} {Q : Int32 × hh_H → Prop} {K : hh_H → Option (Int32 × hh_H)}
theorem go_ok {Mop : hh_H → Option (Int32 × hh_H)} {W1 W3 : List Nat} {v : Int32} (M : zM h th mem fan nb op T dr wt s res rk) (o36 : ∃ x, h[36]? = some (zz_l1c x)) (o37 : ∃ y, h[37]? = some (zz_d1c y)) (C1 : zC h1 mem fan nb op' T' dr' wt' s' res' rk') (f1 : zz_fx W1 h h1) (hW1 : ∀ x ∈ W1, x < 25)
    (hm : ∀ h2 th, zM h2 th mem fan nb op T dr wt s res rk → zw (Mop h2) (fun x => x.1 = v ∧ zM x.2 0 mem fan nb op' T' dr' wt' s' res' rk' ∧ zz_fr W3 h2 x.2)) (hW3 : ∀ x ∈ W3, 25 ≤ x ∧ x < 36) (I3 : zz_I mem fan nb op' T' dr' wt' lvb' s' res' rk') (hb : lvb' ≤ b') (kk : ∀ h', zZ h' mem fan nb b' → zw (K h') Q) :
    zw ((hp_is (h1.set 36 (zz_l1c v.toInt64)) 25 9).bind fun _ => hp_cb (Mop (h1.set 36 (zz_l1c v.toInt64))) fun q12 h13 => zz_tl F K 0 q12 h13) Q := by
  obtain ⟨x, o36⟩ := o36
  obtain ⟨y, o37⟩ := o37
  have hn36 : 36 ∉ W1 := fun q => by have := hW1 _ q; omega
  have hn37 : 37 ∉ W1 := fun q => by have := hW1 _ q; omega
  have p36 := f1.at o36 (by decide) hn36
  have p37 := f1.at o37 (by decide) hn37
  have s2 := zz_st.of (c := zz_l1c v.toInt64) p36
  revert s2
  generalize h1.set 36 (zz_l1c v.toInt64) = h2
  intro s2
  have f2 : zz_fr [36] h1 h2 := s2.fr (by simp)
  have M1 := M.fx f1 (fun x hx => Or.inl (hW1 x hx))
  have M2 := M1.fr f2 (by decide)
  have C2 := C1.fr f2 (by decide)
  obtain ⟨fs, hfs⟩ := M2.cell
  refine zw.is hfs ?_
  refine zw.cb (hm h2 th M2) ?_
  rintro q h3 ⟨g1, g2, g3⟩
  have g1 : q = v := g1
  have g2 : zM h3 0 mem fan nb op' T' dr' wt' s' res' rk' := g2
  have C3 := C2.fr g3 (fun x hx => by have := hW3 x hx; omega)
  have hm36 : 36 ∉ W3 := fun q => by have := hW3 _ q; omega
  have hm37 : 37 ∉ W3 := fun q => by have := hW3 _ q; omega
  have q36 := g3.at s2.1 hm36
  have q37 := g3.at (f2.at p37 (by decide)) hm37
  unfold zz_tl
  obtain ⟨fs3, hfs3⟩ := g2.cell
  refine zw.is hfs3 ?_
  refine zw.cbe (s_thrown g2) ?_
  refine zw.ifp rfl ?_
  refine zw.ifp rfl ?_
  refine zw.aj (l := [v.toInt64]) (w := v.toInt64) q36 0 rfl (by decide) rfl ?_
  refine zw.ifp (by rw [g1, lg_cmp_eq]) ?_
  exact kk h3 ⟨op', T', dr', wt', lvb', s', res', rk', 0, C3, g2, I3, hb, ⟨_, q36⟩, ⟨y, q37⟩⟩
theorem go_bad {Mop : hh_H → Option (Int32 × hh_H)} {W1 W3 : List Nat} {code : Int32} (hcode : code ≠ 0) (M : zM h th mem fan nb op T dr wt s res rk) (o36 : ∃ x, h[36]? = some (zz_l1c x)) (o37 : ∃ y, h[37]? = some (zz_d1c y)) (C1 : zC h1 mem fan nb op' T' dr' wt' s' res' rk') (f1 : zz_fx W1 h h1) (hW1 : ∀ x ∈ W1, x < 25)
    (hm : ∀ h2 th, zM h2 th mem fan nb op T dr wt s res rk → zw (Mop h2) (fun x => zM x.2 code mem fan nb op' T' dr' wt' s' res' rk' ∧ zz_fr W3 h2 x.2)) (hW3 : ∀ x ∈ W3, 25 ≤ x ∧ x < 36) (I3 : zz_I mem fan nb op' T' dr' wt' lvb' s' res' rk') (hb : lvb' ≤ b') (kk : ∀ h', zZ h' mem fan nb b' → zw (K h') Q) :
    zw ((hp_is h1 25 9).bind fun _ => hp_cb (Mop h1) fun q12 h13 => zz_tl F K code q12 h13) Q := by
  obtain ⟨x, o36⟩ := o36
  obtain ⟨y, o37⟩ := o37
  have hn36 : 36 ∉ W1 := fun q => by have := hW1 _ q; omega
  have hn37 : 37 ∉ W1 := fun q => by have := hW1 _ q; omega
  have p36 := f1.at o36 (by decide) hn36
  have p37 := f1.at o37 (by decide) hn37
  have M1 := M.fx f1 (fun x hx => Or.inl (hW1 x hx))
  obtain ⟨fs, hfs⟩ := M1.cell
  refine zw.is hfs ?_
  refine zw.cb (hm h1 th M1) ?_
  rintro q h3 ⟨g2, g3⟩
  have g2 : zM h3 code mem fan nb op' T' dr' wt' s' res' rk' := g2
  have C3 := C1.fr g3 (fun x hx => by have := hW3 x hx; omega)
  have hm36 : 36 ∉ W3 := fun q => by have := hW3 _ q; omega
  have hm37 : 37 ∉ W3 := fun q => by have := hW3 _ q; omega
  unfold zz_tl
  obtain ⟨fs3, hfs3⟩ := g2.cell
  refine zw.is hfs3 ?_
  refine zw.cbe (s_thrown g2) ?_
  refine zw.ifp rfl ?_
  refine zw.ifn hcode ?_
  exact kk h3 ⟨op', T', dr', wt', lvb', s', res', rk', code, C3, g2, I3, hb, ⟨_, g3.at p36 hm36⟩, ⟨y, g3.at p37 hm37⟩⟩
theorem zz_thr (C : zC h mem fan nb op T dr wt s res rk) (n : Nat) : zC (h ++ [.inr (n, [])]) mem fan nb op T dr wt s res rk ∧ zz_fx [] h (h ++ [.inr (n, [])]) := ⟨C.fr (W := []) zz_fr.app (by simp), (zz_fr.app (W := [])).fx C.2.2.2.1.1⟩
theorem zz_word_in {x : Int32} (hx : ¬ (x < 0 ∨ 100 ≤ x)) : ∃ v, v < 100 ∧ x = nI v := by
  obtain ⟨v, hv, rfl⟩ := nI_of (fun q => hx (Or.inl q))
  refine ⟨v, ?_, rfl⟩
  rcases Nat.lt_or_ge v 100 with q | q
  · exact q
  · exact absurd (Or.inr (nI_le (a := 100) q hv)) hx
theorem st_word {b : Nat} (HZ : zZ h mem fan nb b) (x : Int32) (hb : b ≤ b') (kk : ∀ h', zZ h' mem fan nb b' → zw (K h') Q) :
    zw (hp_cb (f_La_word F 1 x 36 h) fun q7 h8 => (hp_is h8 25 9).bind fun _ => hp_cb (f_Mo_word F 25 x h8) fun q12 h13 => zz_tl F K q7 q12 h13) Q := by
  obtain ⟨op, T, dr, wt, lvb, s, res, rk, th, C, M, I, hl, o36, o37⟩ := HZ
  have h38 := C.2.2.2.1.1
  by_cases hx : x < 0 ∨ 100 ≤ x
  · obtain ⟨C1, f1⟩ := zz_thr C 11
    refine zw.cbe (la_word_t11 C.1 (s_word_bad hx)) ?_
    exact go_bad (by decide) M o36 o37 C1 f1 (by simp) (fun h2 th H => m_word_bad hx H) (by decide) I (Nat.le_trans hl hb) kk
  · obtain ⟨v, hv, rfl⟩ := zz_word_in hx
    by_cases ho : op.length < 20
    · obtain ⟨⟨r1, h1⟩, hr, e1, C1, f1⟩ := s_word_in (F := F) hv ho C
      have e1 : r1 = _ := e1
      subst e1
      obtain ⟨y, o36'⟩ := o36
      have fx1 : zz_fx [1, 2] h h1 := f1.fx h38
      refine zw.cbe (la_word_ok C.1 hr (fx1.at o36' (by decide) (by decide))) ?_
      obtain ⟨i1, i2, i3, i4, i5⟩ := I
      refine go_ok M ⟨y, o36'⟩ o37 C1 fx1 (by decide) (fun h2 th H => m_word_in hv ho H) (by decide) ⟨i1, i2, i3, ⟨by simp; omega, fun w hw => ?_⟩, i5⟩ (Nat.le_trans hl hb) kk
      rcases List.mem_append.mp hw with hw | hw
      · exact i4.2 w hw
      · rw [List.mem_singleton.mp hw]
        exact hv
    · have ho : op.length = 20 := by have := I.2.2.2.1.1; omega
      obtain ⟨C1, f1⟩ := zz_thr C 12
      refine zw.cbe (la_word_t12 C.1 (s_word_full hv ho C)) ?_
      exact go_bad (by decide) M o36 o37 C1 f1 (by simp) (fun h2 th H => m_word_full hv ho H) (by decide) I (Nat.le_trans hl hb) kk
theorem st_close {b : Nat} (hF : 5000 < F) (HZ : zZ h mem fan nb b) (hb : b + 128 ≤ b') (hb2 : b' < 2 ^ 27) (kk : ∀ h', zZ h' mem fan nb b' → zw (K h') Q) :
    zw (hp_cb (f_La_close F 1 36 h) fun q7 h8 => (hp_is h8 25 9).bind fun _ => hp_cb (f_Mo_close F 25 h8) fun q12 h13 => zz_tl F K q7 q12 h13) Q := by
  obtain ⟨op, T, dr, wt, lvb, s, res, rk, th, C, M, I, hl, o36, o37⟩ := HZ
  by_cases hT : T.length < 40
  · obtain ⟨⟨r1, h1⟩, hr, hq⟩ := s_close (F := F) hF I (by omega) hT C
    have hm := fun h2 th (H : zM h2 th mem fan nb op T dr wt s res rk) => m_close (F := F) hF I (by omega) hT H
    cases hclo : (zz_clo T dr mem nb fan wt op s).1
    · rw [if_neg (by rw [hclo]; decide)] at hq
      obtain ⟨e1, C1, f1⟩ := hq
      have e1 : r1 = _ := e1
      subst e1
      refine zw.cbe (la_close_t13 C.1 hr) ?_
      refine go_bad (W3 := [25, 27, 28, 29, 30, 31, 32, 35]) (by decide) M o36 o37 C1 f1 (by decide) (fun h2 th H => ?_) (by decide) I (by omega) kk
      have := hm h2 th H
      rw [hclo] at this
      exact this
    · rw [if_pos hclo] at hq
      obtain ⟨e1, C1, I1, f1⟩ := hq
      have e1 : r1 = _ := e1
      subst e1
      obtain ⟨y, o36'⟩ := o36
      refine zw.cbe (la_close_ok C.1 hr (f1.at o36' (by decide) (by decide))) ?_
      refine go_ok (W3 := [25, 27, 28, 29, 30, 31, 32, 35]) M ⟨y, o36'⟩ o37 C1 f1 (by decide) (fun h2 th H => ?_) (by decide) I1 (by omega) kk
      have := hm h2 th H
      rw [hclo] at this
      exact this
  · have hT : T.length = 40 := by have := I.2.2.2.2.1; omega
    obtain ⟨C1, f1⟩ := zz_thr C 12
    refine zw.cbe (la_close_t12 C.1 (s_close_40 I hT C)) ?_
    exact go_bad (by decide) M o36 o37 C1 f1 (by simp) (fun h2 th H => m_close_40 hT H) (by decide) I (by omega) kk
theorem st_drop {b : Nat} (hF : 5000 < F) (HZ : zZ h mem fan nb b) (x : Int32) (hb : b ≤ b') (kk : ∀ h', zZ h' mem fan nb b' → zw (K h') Q) :
    zw (hp_cb (f_La_drop F 1 x 36 h) fun q7 h8 => (hp_is h8 25 9).bind fun _ => hp_cb (f_Mo_drop F 25 x h8) fun q12 h13 => zz_tl F K q7 q12 h13) Q := by
  obtain ⟨op, T, dr, wt, lvb, s, res, rk, th, C, M, I, hl, o36, o37⟩ := HZ
  have h38 := C.2.2.2.1.1
  by_cases hx : x < 0 ∨ ∃ d, d < 2 ^ 31 ∧ x = nI d ∧ ¬ dr[d]? = some false
  · obtain ⟨C1, f1⟩ := zz_thr C 14
    refine zw.cbe (la_drop_t14 C.1 (s_drop_out hx C)) ?_
    exact go_bad (by decide) M o36 o37 C1 f1 (by simp) (fun h2 th H => m_drop_out I.2.2.2.2.2.1 I.2.2.2.2.1 hx H) (by decide) I (Nat.le_trans hl hb) kk
  · have h0 : ¬ x < 0 := fun q => hx (Or.inl q)
    obtain ⟨d, hd31, rfl⟩ := nI_of h0
    have hd : dr[d]? = some false := by
      rcases Classical.em (dr[d]? = some false) with q | q
      · exact q
      · exact absurd (Or.inr ⟨d, hd31, rfl, q⟩) hx
    obtain ⟨⟨r1, h1⟩, hr, e1, C1, f1⟩ := s_drop_in (F := F) hd C
    have e1 : r1 = _ := e1
    subst e1
    obtain ⟨y, o36'⟩ := o36
    have fx1 : zz_fx [3, 4] h h1 := f1.fx h38
    refine zw.cbe (la_drop_ok C.1 hr (fx1.at o36' (by decide) (by decide))) ?_
    have hI := I
    obtain ⟨i1, i2, i3, i4, i5, i6, i7, i8, i9, i10⟩ := I
    exact go_ok M ⟨y, o36'⟩ o37 C1 fx1 (by decide) (fun h2 th H => m_drop_in i6 i5 hF hd H) (by decide) ⟨i1, i2, i3, i4, i5, by simp [i6], i7, i8, zz_J_drop i9, i10⟩ (Nat.le_trans hl hb) kk
theorem st_flush {b : Nat} (hF : 5000 < F) (HZ : zZ h mem fan nb b) (hb : b + 128 ≤ b') (hb2 : b' < 2 ^ 27) (kk : ∀ h', zZ h' mem fan nb b' → zw (K h') Q) :
    zw (hp_cb (f_La_flush F 1 36 h) fun q7 h8 => (hp_is h8 25 9).bind fun _ => hp_cb (f_Mo_flush F 25 h8) fun q12 h13 => zz_tl F K q7 q12 h13) Q := by
  obtain ⟨op, T, dr, wt, lvb, s, res, rk, th, C, M, I, hl, o36, o37⟩ := HZ
  obtain ⟨⟨r1, h1⟩, hr, e1, C1, f1⟩ := s_flush (F := F) hF I (by omega) C
  have e1 : r1 = _ := e1
  have hm := fun h2 th (H : zM h2 th mem fan nb op T dr wt s res rk) => m_flush (F := F) hF I (by omega) H
  have I1 := zz_I_flu I C1.okB
  cases hclo : (zz_flu T dr nb fan wt s).1
  · rw [if_neg (by rw [hclo]; decide)] at e1
    subst e1
    rw [zz_flu_no hclo] at C1
    refine zw.cbe (la_flush_t13 C.1 hr) ?_
    refine go_bad (W3 := [25, 30, 31, 32, 35]) (by decide) M o36 o37 C1 f1 (by decide) (fun h2 th H => ?_) (by decide) I (by omega) kk
    have := hm h2 th H
    rw [hclo] at this
    exact this
  · rw [if_pos hclo] at e1
    subst e1
    obtain ⟨y, o36'⟩ := o36
    refine zw.cbe (la_flush_ok C.1 hr (f1.at o36' (by decide) (by decide))) ?_
    refine go_ok (W3 := [25, 30, 31, 32, 35]) M ⟨y, o36'⟩ o37 C1 f1 (by decide) (fun h2 th H => ?_) (by decide) I1 (by omega) kk
    have := hm h2 th H
    rw [hclo] at this
    exact this
theorem zz_I_fin2 (hI : zz_I mem fan nb op T dr wt lvb s res rk) : zz_I mem fan nb op T dr wt (lvb + 1) (zz_fin2 T dr nb s).2 res rk := by
  obtain ⟨i1, i2, i3, i4, i5, i6, i7, i8, i9, i10, i11, i12, i13, i14⟩ := hI
  unfold zz_fin2
  split
  · exact ⟨i1, i2, i3, i4, i5, i6, i7, i8, i9.up (by omega), i10, i11, i12, i13, i14⟩
  · refine ⟨i1, i2, i3, i4, i5, i6, i7, i8, zz_mgS_J i9 ?_, i10, i11, i12, i13, zz_mgS_okB i3.2 i14⟩
    have := zz_top_lt s.1 0 lvb (Nat.zero_le _) i9.2.1
    unfold zz_top
    omega
theorem st_finish {b : Nat} (hF : 5000 < F) (HZ : zZ h mem fan nb b) (hb : b + 128 ≤ b') (hb2 : b' < 2 ^ 27) (kk : ∀ h', zZ h' mem fan nb b' → zw (K h') Q) :
    zw (hp_cb (f_La_finish F 1 36 h) fun q7 h8 => (hp_is h8 25 9).bind fun _ => hp_cb (f_Mo_finish F 25 h8) fun q12 h13 => zz_tl F K q7 q12 h13) Q := by
  obtain ⟨op, T, dr, wt, lvb, s, res, rk, th, C, M, I, hl, o36, o37⟩ := HZ
  obtain ⟨⟨r1, h1⟩, hr, hq⟩ := s_finish (F := F) hF I (by omega) C
  have hm := fun h2 th (H : zM h2 th mem fan nb op T dr wt s res rk) => m_finish (F := F) hF I (by omega) H
  cases hclo : (zz_flu T dr nb fan wt s).1
  · rw [if_neg (by rw [hclo]; decide)] at hq
    obtain ⟨e1, C1, f1⟩ := hq
    have e1 : r1 = _ := e1
    subst e1
    refine zw.cbe (la_finish_t13 C.1 hr) ?_
    refine go_bad (W3 := [25, 30, 31, 32, 35]) (by decide) M o36 o37 C1 f1 (by decide) (fun h2 th H => ?_) (by decide) I (by omega) kk
    have := hm h2 th H
    rw [hclo] at this
    exact this
  · rw [if_pos hclo] at hq
    obtain ⟨e1, C1, f1⟩ := hq
    have e1 : r1 = _ := e1
    have hB2 : zz_okB nb T (zz_flu T dr nb fan wt s).2.2.1 := by
      unfold zz_flu
      split
      · exact I.2.2.2.2.2.2.2.2.2.2.2.2.2
      · split
        · exact zz_fl_okB I.2.2.1.2 60 _ (zz_apS_okB I.2.2.1.2 I.2.2.2.2.2.2.2.2.2.2.2.2.2)
        · exact I.2.2.2.2.2.2.2.2.2.2.2.2.2
    have I1 := zz_I_fin2 (zz_I_flu I hB2)
    cases hfin : (zz_fin2 T dr nb (zz_flu T dr nb fan wt s).2.2).1
    · rw [if_neg (by rw [hfin]; decide)] at e1
      subst e1
      refine zw.cbe (la_finish_t13 C.1 hr) ?_
      refine go_bad (W3 := [25, 30, 31, 32, 35]) (by decide) M o36 o37 C1 f1 (by decide) (fun h2 th H => ?_) (by decide) I1 (by omega) kk
      have := hm h2 th H
      rw [hclo, hfin] at this
      exact this
    · rw [if_pos hfin] at e1
      subst e1
      obtain ⟨y, o36'⟩ := o36
      refine zw.cbe (la_finish_ok C.1 hr (f1.at o36' (by decide) (by decide))) ?_
      refine go_ok (W3 := [25, 30, 31, 32, 35]) M ⟨y, o36'⟩ o37 C1 f1 (by decide) (fun h2 th H => ?_) (by decide) I1 (by omega) kk
      have := hm h2 th H
      rw [hclo, hfin] at this
      refine this.mono ?_
      rintro x ⟨⟨q1, q2⟩, q3⟩
      exact ⟨q1, q2, q3⟩
theorem zz_fnd_len {v w how : Nat} : (zz_fnd T dr v w how).length ≤ T.length := by
  unfold zz_fnd
  rw [List.length_map]
  exact Nat.le_trans (List.length_filter_le _ _) (by simp)
theorem zz_rnk_len {v w : Nat} : (zz_rnk T dr v w).length ≤ T.length := by
  unfold zz_rnk
  rw [zz_fold_len]
  have : ((List.range T.length).filter (zz_fit T dr v w 1)).length ≤ T.length := Nat.le_trans (List.length_filter_le _ _) (by simp)
  simpa using this
theorem st_find {b : Nat} (hF : 5000 < F) (HZ : zZ h mem fan nb b) (x y z : Int32) (hb : b ≤ b') (kk : ∀ h', zZ h' mem fan nb b' → zw (K h') Q) :
    zw (hp_cb (f_La_find F 1 x y z 36 h) fun q7 h8 => (hp_is h8 25 9).bind fun _ => hp_cb (f_Mo_find F 25 x y z h8) fun q12 h13 => zz_tl F K q7 q12 h13) Q := by
  obtain ⟨op, T, dr, wt, lvb, s, res, rk, th, C, M, I, hl, o36, o37⟩ := HZ
  have h38 := C.2.2.2.1.1
  by_cases hx : x < 0 ∨ 100 ≤ x ∨ y < 0 ∨ 100 ≤ y ∨ z < 0 ∨ 3 < z
  · obtain ⟨C1, f1⟩ := zz_thr C 11
    refine zw.cbe (la_find_t11 C.1 (s_find_bad hx)) ?_
    exact go_bad (by decide) M o36 o37 C1 f1 (by simp) (fun h2 th H => m_find_bad hx H) (by decide) I (Nat.le_trans hl hb) kk
  · obtain ⟨v, hv, rfl⟩ := zz_word_in (x := x) (fun q => hx (by rcases q with q | q; exact Or.inl q; exact Or.inr (Or.inl q)))
    obtain ⟨w, hw, rfl⟩ := zz_word_in (x := y) (fun q => hx (by rcases q with q | q; exact Or.inr (Or.inr (Or.inl q)); exact Or.inr (Or.inr (Or.inr (Or.inl q)))))
    obtain ⟨how, hh31, rfl⟩ := nI_of (x := z) (fun q => hx (Or.inr (Or.inr (Or.inr (Or.inr (Or.inl q))))))
    have hh : how ≤ 3 := by
      rcases Nat.lt_or_ge 3 how with q | q
      · exact absurd (Or.inr (Or.inr (Or.inr (Or.inr (Or.inr (nI_lt (a := 3) q hh31)))))) hx
      · exact q
    obtain ⟨⟨r1, h1⟩, hr, e1, C1, f1⟩ := s_find_in (F := F) hF hv hw hh I C
    have e1 : r1 = _ := e1
    subst e1
    obtain ⟨y, o36'⟩ := o36
    have fx1 := f1.fx h38
    refine zw.cbe (la_find_ok C.1 hr (fx1.at o36' (by decide) (by decide))) ?_
    have hI := I
    obtain ⟨i1, i2, i3, i4, i5, i6, i7, i8, i9, i10, i11, i12, i13, i14⟩ := I
    exact go_ok M ⟨y, o36'⟩ o37 C1 fx1 (by decide) (fun h2 th H => m_find_in hF hv hw hh hI H) (by decide) ⟨i1, i2, i3, i4, i5, i6, i7, i8, i9, i10, i11, Nat.le_trans zz_fnd_len i5, Or.inl rfl, i14⟩ (Nat.le_trans hl hb) kk
theorem st_rank {b : Nat} (hF : 5000 < F) (HZ : zZ h mem fan nb b) (x y : Int32) (hb : b ≤ b') (kk : ∀ h', zZ h' mem fan nb b' → zw (K h') Q) :
    zw (hp_cb (f_La_rank F 1 x y 36 h) fun q7 h8 => (hp_is h8 25 9).bind fun _ => hp_cb (f_Mo_rank F 25 x y h8) fun q12 h13 => zz_tl F K q7 q12 h13) Q := by
  obtain ⟨op, T, dr, wt, lvb, s, res, rk, th, C, M, I, hl, o36, o37⟩ := HZ
  have h38 := C.2.2.2.1.1
  by_cases hx : x < 0 ∨ 100 ≤ x ∨ y < 0 ∨ 100 ≤ y
  · obtain ⟨C1, f1⟩ := zz_thr C 11
    refine zw.cbe (la_rank_t11 C.1 (s_rank_bad hx)) ?_
    exact go_bad (by decide) M o36 o37 C1 f1 (by simp) (fun h2 th H => m_rank_bad hx H) (by decide) I (Nat.le_trans hl hb) kk
  · obtain ⟨v, hv, rfl⟩ := zz_word_in (x := x) (fun q => hx (by rcases q with q | q; exact Or.inl q; exact Or.inr (Or.inl q)))
    obtain ⟨w, hw, rfl⟩ := zz_word_in (x := y) (fun q => hx (Or.inr (Or.inr q)))
    obtain ⟨⟨r1, h1⟩, hr, e1, C1, f1⟩ := s_rank_in (F := F) hF hv hw I C
    have e1 : r1 = _ := e1
    subst e1
    obtain ⟨y, o36'⟩ := o36
    have fx1 := f1.fx h38
    refine zw.cbe (la_rank_ok C.1 hr (fx1.at o36' (by decide) (by decide))) ?_
    have hI := I
    obtain ⟨i1, i2, i3, i4, i5, i6, i7, i8, i9, i10, i11, i12, i13, i14⟩ := I
    exact go_ok M ⟨y, o36'⟩ o37 C1 fx1 (by decide) (fun h2 th H => m_rank_in hF hv hw hI H) (by decide) ⟨i1, i2, i3, i4, i5, i6, i7, i8, i9, i10, i11, Nat.le_trans zz_rnk_len i5, Or.inr rfl, i14⟩ (Nat.le_trans hl hb) kk
theorem zz_idx_in {x : Int32} {n : Nat} (hn : n < 2 ^ 31) (hx : ¬ (x < 0 ∨ nI n ≤ x)) : ∃ k, k < n ∧ x = nI k := by
  obtain ⟨k, hk, rfl⟩ := nI_of (fun q => hx (Or.inl q))
  refine ⟨k, ?_, rfl⟩
  rcases Nat.lt_or_ge k n with q | q
  · exact q
  · exact absurd (Or.inr (nI_le q hk)) hx
theorem st_result {b : Nat} (HZ : zZ h mem fan nb b) (x : Int32) (hb : b ≤ b') (kk : ∀ h', zZ h' mem fan nb b' → zw (K h') Q) :
    zw (hp_cb (f_La_result F 1 x 36 h) fun q7 h8 => (hp_is h8 25 9).bind fun _ => hp_cb (f_Mo_result F 25 x h8) fun q12 h13 => zz_tl F K q7 q12 h13) Q := by
  obtain ⟨op, T, dr, wt, lvb, s, res, rk, th, C, M, I, hl, o36, o37⟩ := HZ
  have hr40 := I.2.2.2.2.2.2.2.2.2.2.2.1
  by_cases hx : x < 0 ∨ nI res.length ≤ x
  · obtain ⟨C1, f1⟩ := zz_thr C 14
    refine zw.cbe (la_result_t14 C.1 (s_result_out hx C)) ?_
    exact go_bad (by decide) M o36 o37 C1 f1 (by simp) (fun h2 th H => m_result_out hx H) (by decide) I (Nat.le_trans hl hb) kk
  · obtain ⟨k, hk, rfl⟩ := zz_idx_in (by omega) hx
    obtain ⟨y, o36'⟩ := o36
    refine zw.cbe (la_result_ok C.1 (s_result_in hk hr40 C) o36') ?_
    exact go_ok (W1 := []) M ⟨y, o36'⟩ o37 C (zz_fx.rf _ _) (by simp) (fun h2 th H => m_result_in hk hr40 H) (by decide) I (Nat.le_trans hl hb) kk
theorem st_byteOf {b : Nat} (hF : 5000 < F) (HZ : zZ h mem fan nb b) (x y : Int32) (hb : b ≤ b') (kk : ∀ h', zZ h' mem fan nb b' → zw (K h') Q) :
    zw (hp_cb (f_La_byteOf F 1 x y 36 h) fun q7 h8 => (hp_is h8 25 9).bind fun _ => hp_cb (f_Mo_byteOf F 25 x y h8) fun q12 h13 => zz_tl F K q7 q12 h13) Q := by
  obtain ⟨op, T, dr, wt, lvb, s, res, rk, th, C, M, I, hl, o36, o37⟩ := HZ
  have hnb := I.2.2.1.2
  by_cases hx : x < 0 ∨ nI nb ≤ x ∨ y < 0 ∨ 16 ≤ y
  · obtain ⟨C1, f1⟩ := zz_thr C 15
    refine zw.cbe (la_byteOf_t15 C.1 (s_byteOf_out hx C)) ?_
    exact go_bad (by decide) M o36 o37 C1 f1 (by simp) (fun h2 th H => m_byteOf_out hx H) (by decide) I (Nat.le_trans hl hb) kk
  · obtain ⟨k, hk, rfl⟩ := zz_idx_in (x := x) (n := nb) (by omega) (fun q => hx (by rcases q with q | q; exact Or.inl q; exact Or.inr (Or.inl q)))
    obtain ⟨i, hi, rfl⟩ := zz_idx_in (x := y) (n := 16) (by decide) (fun q => hx (Or.inr (Or.inr q)))
    obtain ⟨vv, hv, hcell⟩ := s_byteOf_in (F := F) hnb hk hi C
    obtain ⟨y, o36'⟩ := o36
    refine zw.cbe (la_byteOf_ok C.1 hv o36') ?_
    exact go_ok (W1 := []) M ⟨y, o36'⟩ o37 C (zz_fx.rf _ _) (by simp) (fun h2 th H => m_byteOf_in hF I hk hi hcell H) (by decide) I (Nat.le_trans hl hb) kk
theorem st_run {b : Nat} (hF : 5000 < F) (HZ : zZ h mem fan nb b) (x y : Int32) (hb : b ≤ b') (kk : ∀ h', zZ h' mem fan nb b' → zw (K h') Q) :
    zw (hp_cb (f_La_run F 1 x y 36 h) fun q7 h8 => (hp_is h8 25 9).bind fun _ => hp_cb (f_Mo_run F 25 x y h8) fun q12 h13 => zz_tl F K q7 q12 h13) Q := by
  obtain ⟨op, T, dr, wt, lvb, s, res, rk, th, C, M, I, hl, o36, o37⟩ := HZ
  have hnb := I.2.2.1.2
  have hB := I.2.2.2.2.2.2.2.2.2.2.2.2.2
  have hlen := zz_row_len hnb hB
  by_cases hx : x < 0 ∨ nI s.1.length ≤ x
  · obtain ⟨C1, f1⟩ := zz_thr C 14
    refine zw.cbe (la_run_t14 C.1 (s_run_out hx C)) ?_
    exact go_bad (by decide) M o36 o37 C1 f1 (by simp) (fun h2 th H => m_run_out hx H) (by decide) I (Nat.le_trans hl hb) kk
  · obtain ⟨k, hk, rfl⟩ := zz_idx_in (by omega) hx
    by_cases hy : y < 0 ∨ nI 4 ≤ y
    · have hy4 : ¬ y = 0 ∧ ¬ y = 1 ∧ ¬ y = 2 ∧ ¬ y = 3 := by
        refine ⟨fun q => ?_, fun q => ?_, fun q => ?_, fun q => ?_⟩ <;> subst q <;> revert hy <;> decide
      have hy3 : y < 0 ∨ 3 < y := by
        rcases hy with hy | hy
        · exact Or.inl hy
        · refine Or.inr (Int32.lt_iff_toInt_lt.mpr ?_)
          have h1 := Int32.le_iff_toInt_le.mp hy
          have e1 : (nI 4).toInt = 4 := by decide
          have e2 : (3 : Int32).toInt = 3 := by decide
          omega
      obtain ⟨C1, f1⟩ := zz_thr C 11
      refine zw.cbe (la_run_t11 C.1 (s_run_what hnb hk hy4 C)) ?_
      exact go_bad (by decide) M o36 o37 C1 f1 (by simp) (fun h2 th H => m_run_what hnb hB hk hy3 H) (by decide) I (Nat.le_trans hl hb) kk
    · obtain ⟨what, hw, rfl⟩ := zz_idx_in (x := y) (n := 4) (by decide) hy
      have hr : s.1[k]? = some s.1[k] := List.getElem?_eq_getElem hk
      obtain ⟨y, o36'⟩ := o36
      refine zw.cbe (la_run_ok C.1 (s_run_in hnb hr (by omega) C) o36') ?_
      exact go_ok (W1 := []) M ⟨y, o36'⟩ o37 C (zz_fx.rf _ _) (by simp) (fun h2 th H => m_run_in hF I hr (by omega) H) (by decide) I (Nat.le_trans hl hb) kk
end Steps
