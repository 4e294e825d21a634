-- the law's loop
def zz_tlD (F : Nat) (K : hh_H → Option (Int32 × hh_H)) (q191 : Int32) (q196 : UInt64) (h197 : hh_H) : Option (Int32 × hh_H) :=
  (hp_is h197 25 9).bind fun _ => hp_cb (f_Mo_thrown F 25 h197) fun q201 h202 => if q201 = q191 then if q191 = 0 then (hp_ad h202 37 0).bind fun v208 => if (Op.cmpValue (FP.dcmp v208 q196) .l) = 0 then K h202 else (hp_ad h202 37 0).bind fun v211 => (hp_ad h202 37 0).bind fun v213 => if (Op.cmpValue (FP.dcmp v211 v213) .l) = 0 then some (0, h202) else if (Op.cmpValue (FP.dcmp q196 q196) .l) = 0 then some (0, h202) else K h202 else K h202 else some (0, h202)
section Law2
variable {h : hh_H} {F mem fan nb b' : Nat} {Q : Int32 × hh_H → Prop} {K : hh_H → Option (Int32 × hh_H)}
theorem st_score {b : Nat} (HZ : zZ h mem fan nb b) (x : Int32) (hb : b ≤ b') (kk : ∀ h', zZ h' mem fan nb b' → zw (K h') Q) :
    zw (hp_cb (f_La_score F 1 x 37 h) fun q7 h8 => (hp_is h8 25 9).bind fun _ => hp_cb (f_Mo_score F 25 x h8) fun q12 h13 => zz_tlD F K q7 q12 h13) Q := by
  obtain ⟨op, T, dr, wt, lvb, s, res, rk, th, C, M, I, hl, o36, o37⟩ := HZ
  have hr40 := I.2.2.2.2.2.2.2.2.2.2.2.1
  have hrk := I.2.2.2.2.2.2.2.2.2.2.2.2.1
  obtain ⟨y36, o36⟩ := o36
  obtain ⟨y37, o37⟩ := o37
  have bad : ∀ (code : Int32) (h1 : hh_H), code ≠ 0 → zC h1 mem fan nb op T dr wt s res rk → zz_fx [] h h1 → (∀ h2 th, zM h2 th mem fan nb op T dr wt s res rk → zw (f_Mo_score F 25 x h2) (fun x => zM x.2 code mem fan nb op T dr wt s res rk ∧ zz_fr [25] h2 x.2)) → zw ((hp_is h1 25 9).bind fun _ => hp_cb (f_Mo_score F 25 x h1) fun q12 h13 => zz_tlD F K code q12 h13) Q := by
    intro code h1 hcode C1 f1 hm
    have M1 := M.fx f1 (by simp)
    obtain ⟨fs, hfs⟩ := M1.cell
    refine zw.is hfs ?_
    refine zw.cb (hm h1 th M1) ?_
    rintro q h3 ⟨g2, g3⟩
    have g2 : zM h3 code mem fan nb op T dr wt s res rk := g2
    have C3 := C1.fr g3 (by decide)
    unfold zz_tlD
    obtain ⟨fs3, hfs3⟩ := g2.cell
    refine zw.is hfs3 ?_
    refine zw.cbe (s_thrown g2) ?_
    refine zw.ifp rfl ?_
    refine zw.ifn hcode ?_
    exact kk h3 ⟨op, T, dr, wt, lvb, s, res, rk, code, C3, g2, I, Nat.le_trans hl hb, ⟨_, g3.at (f1.at o36 (by decide) (by simp)) (by decide)⟩, ⟨_, g3.at (f1.at o37 (by decide) (by simp)) (by decide)⟩⟩
  by_cases hx : x < 0 ∨ nI res.length ≤ x
  · obtain ⟨C1, f1⟩ := zz_thr C 14
    refine zw.cbe (la_score_t14 C.1 (s_score_out hx C)) ?_
    exact bad 1 _ (by decide) C1 f1 (fun h2 th H => m_score_out hx H)
  · obtain ⟨k, hk, rfl⟩ := zz_idx_in (by omega) hx
    rcases hrk with hrk | hrk
    · obtain ⟨C1, f1⟩ := zz_thr C 13
      refine zw.cbe (la_score_t13 C.1 (s_score_no hk hr40 hrk C)) ?_
      exact bad 2 _ (by decide) C1 f1 (fun h2 th H => m_score_no hk hr40 hrk H)
    · refine zw.cbe (la_score_ok C.1 (s_score_in hk hr40 hrk C) o37) ?_
      have s2 := zz_st.of (c := zz_d1c (res[k]).2) o37
      revert s2
      generalize h.set 37 (zz_d1c (res[k]).2) = h2
      intro s2
      have f2 : zz_fr [37] h h2 := s2.fr (by simp)
      have M2 := M.fr f2 (by decide)
      have C2 := C.fr f2 (by decide)
      obtain ⟨fs, hfs⟩ := M2.cell
      refine zw.is hfs ?_
      refine zw.cb (m_score_in hk hr40 hrk M2) ?_
      rintro q h3 ⟨g1, g2, g3⟩
      have g1 : q = (res[k]).2 := g1
      have g2 : zM h3 0 mem fan nb op T dr wt s res rk := g2
      have C3 := C2.fr g3 (by decide)
      have q37 := g3.at s2.1 (by decide)
      have fin : zw (K h3) Q := kk h3 ⟨op, T, dr, wt, lvb, s, res, rk, 0, C3, g2, I, Nat.le_trans hl hb, ⟨_, g3.at (f2.at o36 (by decide)) (by decide)⟩, ⟨_, q37⟩⟩
      unfold zz_tlD
      obtain ⟨fs3, hfs3⟩ := g2.cell
      refine zw.is hfs3 ?_
      refine zw.cbe (s_thrown g2) ?_
      refine zw.ifp rfl ?_
      refine zw.ifp rfl ?_
      refine zw.ad (l := [(res[k]).2]) (w := (res[k]).2) q37 0 rfl (by decide) rfl ?_
      rw [g1]
      by_cases hc : Op.cmpValue (FP.dcmp (res[k]).2 (res[k]).2) .l = 0
      · exact zw.ifp hc fin
      · refine zw.ifn hc ?_
        refine zw.ad (l := [(res[k]).2]) (w := (res[k]).2) q37 0 rfl (by decide) rfl ?_
        refine zw.ad (l := [(res[k]).2]) (w := (res[k]).2) q37 0 rfl (by decide) rfl ?_
        exact zw.ifn hc (zw.ifn hc fin)
theorem st_count {b : Nat} (hF : 5000 < F) (HZ : zZ h mem fan nb b) (x : Int32) (hb : b ≤ b') (kk : ∀ h', zZ h' mem fan nb b' → zw (K h') Q) :
    zw ((hp_is h 1 8).bind fun _ => hp_cb (f_IB_count F 1 x h) fun q7 h8 => (hp_is h8 25 9).bind fun _ => hp_cb (f_Mo_count F 25 x h8) fun q12 h13 => if q7 = q12 then K h13 else some (0, h13)) Q := by
  obtain ⟨op, T, dr, wt, lvb, s, res, rk, th, C, M, I, hl, ⟨y36, o36⟩, ⟨y37, o37⟩⟩ := HZ
  refine zw.is C.1 ?_
  refine zw.cbe (s_count I C) ?_
  obtain ⟨fs, hfs⟩ := M.cell
  refine zw.is hfs ?_
  refine zw.cb (m_count hF I M) ?_
  rintro q h3 ⟨g1, g2, g3⟩
  have g1 : q = _ := g1
  refine zw.ifp g1.symm ?_
  exact kk h3 ⟨op, T, dr, wt, lvb, s, res, rk, 0, C.fr g3 (by decide), g2, I, Nat.le_trans hl hb, ⟨_, g3.at o36 (by decide)⟩, ⟨_, g3.at o37 (by decide)⟩⟩
theorem zz_sc_at {L i : Nat} {xs : Nat → Int32} (hi : i < L) (hL : L ≤ 2051) : hp_sc L xs (nI i) = some (xs i) := by
  unfold hp_sc
  rw [nI_clamp (by omega), if_neg]
  rintro (q | q)
  · exact nI_pos (by omega) q
  · omega
theorem zw.sc {σ : Type} {Q : σ → Prop} {f : Int32 → Option σ} {L i : Nat} {xs : Nat → Int32} {x : Int32} (hx : x = nI i) (hi : i < L) (hL : L ≤ 2051) (kk : zw (f (xs i)) Q) : zw ((hp_sc L xs x).bind f) Q := by
  rw [hx, zz_sc_at hi hL]
  exact kk
theorem zz_end {L i : Nat} (hL : L ≤ 2051) (hi : i < 2 ^ 30) : Int32.ofNat L - 4 < nI i ↔ L < i + 4 := by
  rw [Int32.lt_iff_toInt_lt]
  have e1 : (Int32.ofNat L - 4).toInt = (L : Int) - 4 := pk_sub_toInt (a := L) (b := 4) (by omega) (by decide)
  rw [e1, nI_toInt (by omega)]
  omega
theorem law_loop {L : Nat} {xs : Nat → Int32} (hL : L ≤ 2051) (hF : 5000 < F) : ∀ (n i b : Nat) (h : hh_H), L < i + 4 * (n + 1) → i < 2 ^ 29 → zZ h mem fan nb b → b + 128 * n < 2 ^ 26 →
    zw (hp_it (fun _ _ _ _ _ _ => none) (f_La_law_58 F L xs) (n + 1) 1 25 36 37 (nI i) h) (fun x => x.1 = 1) := by
  intro n
  induction n with
  | zero =>
    intro i b h hi hi2 HZ hb
    rw [hp_it_s, f_La_law_58]
    refine zw.ifp ((zz_end hL (by omega)).mpr (by omega)) ?_
    exact zw.ret rfl
  | succ n ih =>
    intro i b h hi hi2 HZ hb
    by_cases hend : L < i + 4
    · rw [hp_it_s, f_La_law_58]
      refine zw.ifp ((zz_end hL (by omega)).mpr hend) ?_
      exact zw.ret rfl
    · have e1 : nI i + 1 = nI (i + 1) := nI_1 i
      have e2 : nI i + 2 = nI (i + 2) := nI_add i 2
      have e3 : nI i + 3 = nI (i + 3) := nI_add i 3
      have e4 : nI i + 4 = nI (i + 4) := nI_add i 4
      have sc1 : hp_sc L xs (nI (i + 1)) = some (xs (i + 1)) := zz_sc_at (by omega) hL
      have sc2 : hp_sc L xs (nI (i + 2)) = some (xs (i + 2)) := zz_sc_at (by omega) hL
      have sc3 : hp_sc L xs (nI (i + 3)) = some (xs (i + 3)) := zz_sc_at (by omega) hL
      have kk : ∀ h', zZ h' mem fan nb (b + 128) → zw (hp_it (fun _ _ _ _ _ _ => none) (f_La_law_58 F L xs) (n + 1) 1 25 36 37 (nI (i + 4)) h') (fun x => x.1 = 1) := fun h' H' => ih (i + 4) (b + 128) h' (by omega) (by omega) H' (by omega)
      rw [hp_it_s, f_La_law_58]
      refine zw.ifn (fun q => hend ((zz_end hL (by omega)).mp q)) ?_
      refine zw.sc rfl (by omega) hL ?_
      obtain ⟨j, hj, ej⟩ := pk_andE (xs i) (m := 15) 4 (by decide)
      have hj : j < 16 := hj
      have hne : ∀ k, k < 16 → j ≠ k → ¬ nI j = nI k := fun k hk hq q => hq ((nI_eq (by omega) (by omega)).mp q)
      rw [ej, e1, e2, e3, e4]
      by_cases h0 : j = 0
      · refine zw.ifp (by rw [h0]; rfl) ?_
        simp only [sc1, Option.bind_some]
        exact st_word HZ (xs (i + 1)) (by omega) kk
      refine zw.ifn (hne 0 (by decide) h0) ?_
      by_cases h1 : j = 1
      · refine zw.ifp (by rw [h1]; rfl) ?_
        exact st_close hF HZ (Nat.le_refl _) (by omega) kk
      refine zw.ifn (hne 1 (by decide) h1) ?_
      by_cases h2 : j = 2
      · refine zw.ifp (by rw [h2]; rfl) ?_
        simp only [sc1, Option.bind_some]
        exact st_drop hF HZ (xs (i + 1)) (by omega) kk
      refine zw.ifn (hne 2 (by decide) h2) ?_
      by_cases h3 : j = 3
      · refine zw.ifp (by rw [h3]; rfl) ?_
        exact st_flush hF HZ (Nat.le_refl _) (by omega) kk
      refine zw.ifn (hne 3 (by decide) h3) ?_
      by_cases h4 : j = 4
      · refine zw.ifp (by rw [h4]; rfl) ?_
        exact st_finish hF HZ (Nat.le_refl _) (by omega) kk
      refine zw.ifn (hne 4 (by decide) h4) ?_
      by_cases h5 : j = 5
      · refine zw.ifp (by rw [h5]; rfl) ?_
        simp only [sc1, sc2, sc3, Option.bind_some]
        exact st_find hF HZ (xs (i + 1)) (xs (i + 2)) (xs (i + 3)) (by omega) kk
      refine zw.ifn (hne 5 (by decide) h5) ?_
      by_cases h6 : j = 6
      · refine zw.ifp (by rw [h6]; rfl) ?_
        simp only [sc1, sc2, Option.bind_some]
        exact st_rank hF HZ (xs (i + 1)) (xs (i + 2)) (by omega) kk
      refine zw.ifn (hne 6 (by decide) h6) ?_
      by_cases h7 : j = 7
      · refine zw.ifp (by rw [h7]; rfl) ?_
        simp only [sc1, Option.bind_some]
        exact st_result HZ (xs (i + 1)) (by omega) kk
      refine zw.ifn (hne 7 (by decide) h7) ?_
      by_cases h8 : j = 8
      · refine zw.ifp (by rw [h8]; rfl) ?_
        simp only [sc1, Option.bind_some]
        exact st_score HZ (xs (i + 1)) (by omega) kk
      refine zw.ifn (hne 8 (by decide) h8) ?_
      by_cases h9 : j = 9
      · refine zw.ifp (by rw [h9]; rfl) ?_
        simp only [sc1, sc2, Option.bind_some]
        exact st_byteOf hF HZ (xs (i + 1)) (xs (i + 2)) (by omega) kk
      refine zw.ifn (hne 9 (by decide) h9) ?_
      by_cases h10 : j = 10
      · refine zw.ifp (by rw [h10]; rfl) ?_
        simp only [sc1, sc2, Option.bind_some]
        exact st_run hF HZ (xs (i + 1)) (xs (i + 2)) (by omega) kk
      refine zw.ifn (hne 10 (by decide) h10) ?_
      by_cases h11 : j = 11
      · refine zw.ifp (by rw [h11]; rfl) ?_
        simp only [sc1, Option.bind_some]
        exact st_count hF HZ (xs (i + 1)) (by omega) kk
      refine zw.ifn (hne 11 (by decide) h11) ?_
      obtain ⟨op, T, dr, wt, lvb, s, res, rk, th, C, M, I, hl, o36, o37⟩ := HZ
      exact kk h ⟨op, T, dr, wt, lvb, s, res, rk, th, C, M, I, by omega, o36, o37⟩
/-- the law's function answers 1 on every script -/
theorem law_good (L : Nat) (xs : Nat → Int32) (hL : L ≤ 2051) : zw (f_La_law 6000 L xs [hh_nil]) (fun x => x.1 = 1) := by
  have cell : ∀ (k : Nat) (h : hh_H), k < 3 → f_La_cell 6000 L xs (nI k) h = some (if L ≤ k then 0 else xs k, h) := by
    intro k h hk
    unfold f_La_cell
    by_cases hq : L ≤ k
    · rw [if_pos (show Int32.ofNat L ≤ nI k from nI_le hq (by omega)), if_pos hq]
    · rw [if_neg (show ¬ Int32.ofNat L ≤ nI k from nI_ge (by omega) (by omega)), if_neg hq, zz_sc_at (by omega) hL]
      rfl
  obtain ⟨mem, m1, m2, m3, m4⟩ := i_clamp (F := 6000) (if L ≤ 0 then 0 else xs 0) (lo := 20) (hi := 48) (by decide) (by decide)
  obtain ⟨fan, n1, n2, n3, n4⟩ := i_clamp (F := 6000) (if L ≤ 1 then 0 else xs 1) (lo := 2) (hi := 4) (by decide) (by decide)
  obtain ⟨nb, p1, p2, p3, p4⟩ := i_clamp (F := 6000) (if L ≤ 2 then 0 else xs 2) (lo := 8) (hi := 60) (by decide) (by decide)
  unfold f_La_law
  refine zw.new ?_
  refine zw.cbe (cell 0 _ (by decide)) ?_
  refine zw.cbe (cell 1 _ (by decide)) ?_
  refine zw.cbe (cell 2 _ (by decide)) ?_
  refine zw.cb (i_IB (mem := mem) (fan := fan) (nb := nb) m2 p2 m3 n3 p3 rfl rfl rfl) ?_
  rintro _ h1 ⟨C0, l1⟩
  have l1 : h1.length = 25 := l1
  refine zw.new ?_
  rw [l1]
  refine zw.cbe (cell 0 _ (by decide)) ?_
  refine zw.cbe (cell 1 _ (by decide)) ?_
  refine zw.cbe (cell 2 _ (by decide)) ?_
  refine zw.cb (i_Mo (mem := mem) (fan := fan) (nb := nb) m4 n4 p4 (by simp [l1]) (by rw [← l1]; exact q_new)) ?_
  rintro _ h2 ⟨M2, f2, l2⟩
  have l2 : h2.length = 36 := l2
  have fq : zz_fr [25] h1 h2 := zz_fr.app.tr f2
  refine zw.na 1 rfl (by decide) (by decide) ?_
  rw [l2]
  have z36 : (h2 ++ [(.inl (3, hp_zero 3 1) : hh_C)])[36]? = some (.inl (3, hp_zero 3 1)) := by rw [← l2]; exact q_new
  have l3 : (h2 ++ [(.inl (3, hp_zero 3 1) : hh_C)]).length = 37 := by simp [l2]
  have g3 : zz_fr [] h2 (h2 ++ [(.inl (3, hp_zero 3 1) : hh_C)]) := zz_fr.app
  revert z36 l3 g3
  generalize h2 ++ [(.inl (3, hp_zero 3 1) : hh_C)] = h3
  intro z36 l3 g3
  refine zw.na 1 rfl (by decide) (by decide) ?_
  rw [l3]
  have z37 : (h3 ++ [(.inl (2, hp_zero 2 1) : hh_C)])[37]? = some (.inl (2, hp_zero 2 1)) := by rw [← l3]; exact q_new
  have l4 : (h3 ++ [(.inl (2, hp_zero 2 1) : hh_C)]).length = 38 := by simp [l3]
  have g4 : zz_fr [] h3 (h3 ++ [(.inl (2, hp_zero 2 1) : hh_C)]) := zz_fr.app
  revert z37 l4 g4
  generalize h3 ++ [(.inl (2, hp_zero 2 1) : hh_C)] = h4
  intro z37 l4 g4
  have C4 : zC0 h4 mem fan nb := C0.fr (fq.tr ((g3.mono (by simp)).tr (g4.mono (by simp))))
  have M4 := (M2.fr g3 (by simp)).fr g4 (by simp)
  unfold l_La_law_58
  exact law_loop hL (by decide) 512 3 0 h4 (by omega) (by decide) ⟨[], [], [], 0, 0, ([], 0, 0, 0, 0), [], 0, 0, zC_start (by omega) C4, M4, zz_I_start ⟨m1, m2⟩ ⟨n1, n2⟩ ⟨p1, p2⟩, Nat.le_refl _, ⟨0, g4.at z36 (by simp)⟩, ⟨0, z37⟩⟩ (by decide)
end Law2
