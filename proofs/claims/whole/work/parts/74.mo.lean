-- the reference: its object at 25, its rows at 26 .. 35
def zz_mf (th me fa bl ol dc wa : Int32) (dn : Int64) (rn : Int32) (us : Int64) (rd wr mg fl fo rk si : Int32) (sh : Int64) : List hh_V :=
  [.inl th, .inl me, .inl fa, .inl bl, .inr (.inl (some 26)), .inl ol, .inr (.inl (some 27)), .inr (.inl (some 28)), .inr (.inl (some 29)), .inl dc, .inl wa, .inr (.inr (.inr dn)), .inr (.inl (some 30)), .inr (.inl (some 31)), .inr (.inl (some 32)), .inl rn, .inr (.inr (.inr us)), .inl rd, .inl wr, .inl mg, .inl fl, .inr (.inl (some 33)), .inr (.inl (some 34)), .inl fo, .inl rk, .inr (.inl (some 35)), .inl si, .inr (.inr (.inr sh))]
/-- the texts: words at 27, lengths at 28, how often each word stands in each at 29 -/
def zT (h : hh_H) (T : List (List Nat)) : Prop :=
  (∃ f1, h[27]? = some (.inl (0, .inl (zz_row 800 f1))) ∧ ∀ d p w, (zz_tx T d)[p]? = some w → f1 (20 * d + p) = nI w) ∧ (∃ f2, h[28]? = some (.inl (0, .inl (zz_row 40 f2))) ∧ ∀ d, d < T.length → f2 d = nI (zz_tx T d).length) ∧ h[29]? = some (.inl (0, .inl (zz_row 4000 (fun j => nI (zz_pl (zz_tx T (j / 100)) (j % 100)).length))))
def zE (h : hh_H) (out : List Nat) : Prop := ∃ bs : List Int32, h[35]? = some (.inl (5, .inl bs)) ∧ bs.length = 4001 ∧ ∀ i, i < out.length → bs[i]? = (out[i]?).map nI
theorem zT.fr {h h' : hh_H} {T : List (List Nat)} {W : List Nat} (H : zT h T) (f : zz_fr W h h') (h1 : 27 ∉ W) (h2 : 28 ∉ W) (h3 : 29 ∉ W) : zT h' T := by
  obtain ⟨⟨f1, a1, a2⟩, ⟨f2, b1, b2⟩, c⟩ := H
  exact ⟨⟨f1, f.at a1 h1, a2⟩, ⟨f2, f.at b1 h2, b2⟩, f.at c h3⟩
theorem zE.fr {h h' : hh_H} {out : List Nat} {W : List Nat} (H : zE h out) (f : zz_fr W h h') (h1 : 35 ∉ W) : zE h' out := by
  obtain ⟨bs, a1, a2⟩ := H
  exact ⟨bs, f.at a1 h1, a2⟩
section Mo
variable {h : hh_H} {F : Nat} {T : List (List Nat)} {fs : List hh_V} {out : List Nat}
theorem zz_nar8 : ∀ n, n < 128 → vp_nar .byte (nI n).toInt8.toInt32 = nI n := by decide +kernel
theorem s_Mo_put {n : Nat} (hn : n < 128) (hout : out.length < 4001) (hc : h[25]? = some (.inr (9, fs))) (h35 : fs[25]? = some (.inr (.inl (some 35)))) (h26 : fs[26]? = some (.inl (nI out.length))) (HE : zE h out) :
    zw (f_Mo_put F 25 (nI n) h) (fun x => x.2[25]? = some (.inr (9, fs.set 26 (.inl (nI (out.length + 1))))) ∧ zE x.2 (out ++ [n]) ∧ zz_fr [25, 35] h x.2 ∧ x.2.length = h.length) := by
  obtain ⟨bs, a1, a2, a3⟩ := HE
  have hfl : 26 < fs.length := (List.getElem?_eq_some_iff.mp h26).1
  unfold f_Mo_put
  refine zw.ga hc h35 ?_
  refine zw.gi hc h26 ?_
  refine zw.sb a1 out.length rfl (by omega) (by omega) fun h1 s1 => ?_
  rw [zz_nar8 n hn] at s1
  have c1 := s1.at hc (by decide)
  refine zw.gi c1 h26 ?_
  refine zw.pi c1 hfl fun h2 s2 => ?_
  rw [nI_1] at s2
  refine zw.ret ⟨s2.1, ⟨bs.set out.length (nI n), s2.at s1.1 (by decide), by simp; exact a2, fun i hi => ?_⟩, (s1.fr (by simp)).tr (s2.fr (by simp)), by rw [s2.2.2, s1.2.2]⟩
  rw [List.getElem?_set]
  by_cases hq : out.length = i
  · subst hq
    rw [if_pos rfl, if_pos (by omega)]
    simp
  · rw [if_neg hq]
    simp only [List.length_append, List.length_cons, List.length_nil] at hi
    rw [a3 i (by omega), List.getElem?_append_left (by omega)]
theorem s_Mo_often {d w : Nat} (hd : d < 40) (hw : w < 100) (hc : h[25]? = some (.inr (9, fs))) (h8 : fs[8]? = some (.inr (.inl (some 29)))) (HT : zT h T) : f_Mo_often F 25 (nI d) (nI w) h = some (nI (zz_pl (zz_tx T d) w).length, h) := by
  obtain ⟨_, _, c⟩ := HT
  unfold f_Mo_often
  rw [q_ga hc h8]
  show ((hp_ai h 29 (100 * nI d + nI w)).bind _) = _
  have e : 100 * nI d + nI w = nI (100 * d + w) := by
    rw [show 100 * nI d = nI (100 * d) from pk_mul 100 d, nI_add]
  rw [e, q_ai c (by omega) (zz_row_get (by omega))]
  rw [show (100 * d + w) / 100 = d by omega, show (100 * d + w) % 100 = w by omega]
  rfl
theorem zz_pl_range {t : List Nat} (ht : t.length ≤ 20) (w : Nat) : zz_pl t w = (List.range' 0 t.length).filter (fun p => t[p]? == some w) := by
  refine zz_ext (zz_up_filter (zz_up_range 20) _) (by rw [← List.range_eq_range']; exact zz_up_filter (zz_up_range _) _) (fun p => ?_)
  show p ∈ zz_pl t w ↔ _
  rw [zz_pl_mem, ← List.range_eq_range']
  simp
  intro h2
  have := (List.getElem?_eq_some_iff.mp h2).1
  omega
theorem zz_ds_range (hT : T.length ≤ 40) (ms w : Nat) : zz_ds T ms w = (List.range' 0 T.length).filter (zz_has T ms w) := by
  refine zz_ext (zz_up_filter (zz_up_range 40) _) (by rw [← List.range_eq_range']; exact zz_up_filter (zz_up_range _) _) (fun d => ?_)
  show d ∈ zz_ds T ms w ↔ _
  unfold zz_ds
  rw [← List.range_eq_range', List.mem_filter, List.mem_filter, List.mem_range, List.mem_range]
  constructor
  · rintro ⟨h1, h2⟩
    refine ⟨?_, h2⟩
    rcases Nat.lt_or_ge d T.length with q | q
    · exact q
    · exfalso
      unfold zz_has zz_tx at h2
      rw [List.getD_eq_getElem?_getD, List.getElem?_eq_none q] at h2
      simp [zz_pl] at h2
  · rintro ⟨h1, h2⟩
    exact ⟨by omega, h2⟩
/-- the places of one word in one document -/
theorem s_pw67 {Q : Unit × hh_H → Prop} {r6 : Nat → Int64 → Int32 → Int32 → Int32 → hh_H → Option (Unit × hh_H)} {z : Int64} {w d : Nat} {x4 : Int32} {t : List Nat} (htx : zz_tx T d = t) (hd : d < T.length) (hT : T.length ≤ 40) (ht : t.length ≤ 20) (hw : w < 2 ^ 31) (htw : ∀ x ∈ t, x < 2 ^ 31) (h6 : fs[6]? = some (.inr (.inl (some 27)))) (h7 : fs[7]? = some (.inr (.inl (some 28)))) (h35 : fs[25]? = some (.inr (.inl (some 35)))) (hfl : 26 < fs.length) : ∀ (k n p last : Nat) (out : List Nat) (h1 : hh_H), p + k = t.length → k < n → last ≤ p → out.length + k ≤ 4001 → h1[25]? = some (.inr (9, fs.set 26 (.inl (nI out.length)))) → zT h1 T → zE h1 out →
    (∀ h2, h2[25]? = some (.inr (9, fs.set 26 (.inl (nI (out ++ zz_eP last ((List.range' p k).filter (fun p => t[p]? == some w))).length)))) → zT h2 T → zE h2 (out ++ zz_eP last ((List.range' p k).filter (fun p => t[p]? == some w))) → zz_fr [25, 35] h1 h2 → h2.length = h1.length → zw (r6 25 z (nI w) x4 (nI (d + 1)) h2) Q) →
    zw (hp_it (fun _ _ _ _ _ _ _ _ => none) (f_Mo_putWord_67 F r6) n 25 z (nI w) x4 (nI d) (nI last) (nI p) h1) Q := by
  intro k
  induction k with
  | zero =>
    intro n p last out h1 hp hn hl ho c1 HT HE kk
    obtain ⟨n, rfl⟩ : ∃ m, n = m + 1 := ⟨n - 1, by omega⟩
    obtain ⟨_, ⟨f2, b1, b2⟩, _⟩ := id HT
    rw [hp_it_s, f_Mo_putWord_67]
    refine zw.ga c1 (by rw [List.getElem?_set, if_neg (by decide)]; exact h7) ?_
    refine zw.ai b1 d rfl (by omega) (zz_row_get (by omega)) ?_
    rw [b2 d hd, htx]
    refine zw.ifp (nI_le (by omega) (by omega)) ?_
    rw [nI_1]
    exact kk h1 (by simpa [zz_eP] using c1) HT (by simpa [zz_eP] using HE) (zz_fr.rf _ _) rfl
  | succ k ih =>
    intro n p last out h1 hp hn hl ho c1 HT HE kk
    obtain ⟨n, rfl⟩ : ∃ m, n = m + 1 := ⟨n - 1, by omega⟩
    obtain ⟨⟨f1, a1, a2⟩, ⟨f2, b1, b2⟩, _⟩ := id HT
    have hpt : p < t.length := by omega
    rw [hp_it_s, f_Mo_putWord_67]
    refine zw.ga c1 (by rw [List.getElem?_set, if_neg (by decide)]; exact h7) ?_
    refine zw.ai b1 d rfl (by omega) (zz_row_get (by omega)) ?_
    rw [b2 d hd, htx]
    refine zw.ifn (nI_ge (by omega) (by omega)) ?_
    refine zw.ga c1 (by rw [List.getElem?_set, if_neg (by decide)]; exact h6) ?_
    have e : 20 * nI d + nI p = nI (20 * d + p) := by
      rw [show 20 * nI d = nI (20 * d) from pk_mul 20 d, nI_add]
    rw [e]
    refine zw.ai a1 (20 * d + p) rfl (by omega) (zz_row_get (by omega)) ?_
    have htp : (zz_tx T d)[p]? = some t[p] := by rw [htx]; exact List.getElem?_eq_getElem hpt
    rw [a2 d p _ htp]
    have hx := htw t[p] (List.getElem_mem hpt)
    rw [List.range'_succ, List.filter_cons] at kk
    by_cases hq : t[p] = w
    · refine zw.ifp (by rw [hq]) ?_
      refine zw.is c1 ?_
      have e2 : nI p - nI last = nI (p - last) := pk_sub hl
      rw [e2]
      refine zw.cb (s_Mo_put (fs := fs.set 26 (.inl (nI out.length))) (by omega) (by omega) c1 (by rw [List.getElem?_set, if_neg (by decide)]; exact h35) (by rw [List.getElem?_set, if_pos rfl, if_pos hfl]) HE) ?_
      rintro _ h2 ⟨g1, g2, g3, g4⟩
      rw [List.set_set] at g1
      have hif : (if (t[p]? == some w) = true then p :: (List.range' (p + 1) k).filter (fun p => t[p]? == some w) else (List.range' (p + 1) k).filter (fun p => t[p]? == some w)) = p :: (List.range' (p + 1) k).filter (fun p => t[p]? == some w) := by
        rw [if_pos (by rw [List.getElem?_eq_getElem hpt, hq]; simp)]
      rw [hif] at kk
      have hlen2 : out.length + 1 = (out ++ [p - last]).length := by simp
      rw [hlen2] at g1
      rw [nI_1]
      refine ih n (p + 1) p (out ++ [p - last]) h2 (by omega) (by omega) (by omega) (by simp; omega) g1 (HT.fr g3 (by decide) (by decide) (by decide)) g2 ?_
      intro h3 d1 d2 d3 d4 d5
      refine kk h3 ?_ d2 ?_ (g3.tr d4) (by rw [d5, g4])
      · simpa [zz_eP] using d1
      · simpa [zz_eP] using d3
    · refine zw.ifn (fun q => hq ((nI_eq hx hw).mp q)) ?_
      have hif : (if (t[p]? == some w) = true then p :: (List.range' (p + 1) k).filter (fun p => t[p]? == some w) else (List.range' (p + 1) k).filter (fun p => t[p]? == some w)) = (List.range' (p + 1) k).filter (fun p => t[p]? == some w) := by
        rw [if_neg (by rw [List.getElem?_eq_getElem hpt]; simpa using hq)]
      rw [hif] at kk
      rw [nI_1]
      exact ih n (p + 1) last out h1 (by omega) (by omega) (by omega) (by omega) c1 HT HE kk
theorem zz_eP_all (prev : Nat) (l : List Nat) : (zz_eP prev l).length = l.length := zz_eP_len l prev
/-- one word in all documents of the set -/
theorem s_pw6 {ms w : Nat} (hms : ms < 2 ^ 60) (hw : w < 100) (hT : T.length ≤ 40) (ht : ∀ d, (zz_tx T d).length ≤ 20 ∧ ∀ x ∈ zz_tx T d, x < 100) (hF : 5000 < F) (h6 : fs[6]? = some (.inr (.inl (some 27)))) (h7 : fs[7]? = some (.inr (.inl (some 28)))) (h8 : fs[8]? = some (.inr (.inl (some 29)))) (h9 : fs[9]? = some (.inl (nI T.length))) (h35 : fs[25]? = some (.inr (.inl (some 35)))) (hfl : 26 < fs.length) : ∀ (k n i prev : Nat) (out : List Nat) (h1 : hh_H), i + k = T.length → k < n → prev ≤ i → out.length + (zz_eD T w prev ((List.range' i k).filter (zz_has T ms w))).length + 20 ≤ 4001 → h1[25]? = some (.inr (9, fs.set 26 (.inl (nI out.length)))) → zT h1 T → zE h1 out →
    zw (hp_it (fun _ _ _ _ _ _ => none) (f_Mo_putWord_6 F) n 25 (lN ms) (nI w) (nI prev) (nI i) h1) (fun x => x.2[25]? = some (.inr (9, fs.set 26 (.inl (nI (out ++ zz_eD T w prev ((List.range' i k).filter (zz_has T ms w))).length)))) ∧ zT x.2 T ∧ zE x.2 (out ++ zz_eD T w prev ((List.range' i k).filter (zz_has T ms w))) ∧ zz_fr [25, 35] h1 x.2 ∧ x.2.length = h1.length) := by
  have hset : ∀ (j : Nat) (x y : hh_V), j ≠ 26 → fs[j]? = some y → (fs.set 26 x)[j]? = some y := fun j x y hj hq => by rw [List.getElem?_set, if_neg (Ne.symm hj)]; exact hq
  intro k
  induction k with
  | zero =>
    intro n i prev out h1 hi hn hp ho c1 HT HE
    obtain ⟨n, rfl⟩ : ∃ m, n = m + 1 := ⟨n - 1, by omega⟩
    rw [hp_it_s, f_Mo_putWord_6]
    refine zw.gi c1 (hset 9 _ _ (by decide) h9) ?_
    refine zw.ifp (nI_le (by omega) (by omega)) ?_
    exact zw.ret ⟨by simpa [zz_eD] using c1, HT, by simpa [zz_eD] using HE, zz_fr.rf _ _, rfl⟩
  | succ k ih =>
    intro n i prev out h1 hi hn hp ho c1 HT HE
    obtain ⟨n, rfl⟩ : ∃ m, n = m + 1 := ⟨n - 1, by omega⟩
    rw [hp_it_s, f_Mo_putWord_6]
    refine zw.gi c1 (hset 9 _ _ (by decide) h9) ?_
    refine zw.ifn (nI_ge (by omega) (by omega)) ?_
    refine zw.cbe (s_Mo_in hms (by omega)) ?_
    rw [List.range'_succ, List.filter_cons] at ho ⊢
    have skip : zz_has T ms w i = false → out.length + (zz_eD T w prev ((List.range' (i + 1) k).filter (zz_has T ms w))).length + 20 ≤ 4001 → zw (hp_it (fun _ _ _ _ _ _ => none) (f_Mo_putWord_6 F) n 25 (lN ms) (nI w) (nI prev) (nI i + 1) h1) (fun x => x.2[25]? = some (.inr (9, fs.set 26 (.inl (nI (out ++ zz_eD T w prev (if zz_has T ms w i = true then i :: (List.range' (i + 1) k).filter (zz_has T ms w) else (List.range' (i + 1) k).filter (zz_has T ms w))).length)))) ∧ zT x.2 T ∧ zE x.2 (out ++ zz_eD T w prev (if zz_has T ms w i = true then i :: (List.range' (i + 1) k).filter (zz_has T ms w) else (List.range' (i + 1) k).filter (zz_has T ms w))) ∧ zz_fr [25, 35] h1 x.2 ∧ x.2.length = h1.length) := by
      intro hh ho2
      rw [nI_1, hh]
      simp only [Bool.false_eq_true, if_false]
      exact ih n (i + 1) prev out h1 (by omega) (by omega) (by omega) ho2 c1 HT HE
    cases hb : ms.testBit i
    · have hh : zz_has T ms w i = false := by unfold zz_has; rw [hb]; rfl
      refine zw.ifp rfl ?_
      exact skip hh (by rw [hh] at ho; simpa using ho)
    · refine zw.ifn (by decide) ?_
      refine zw.is c1 ?_
      have hoft := s_Mo_often (F := F) (d := i) (w := w) (T := T) (by omega) hw c1 (hset 8 _ _ (by decide) h8) HT
      refine zw.cbe hoft ?_
      have hpl := zz_pl_len (zz_tx T i) w
      by_cases h0 : zz_pl (zz_tx T i) w = []
      · have hh : zz_has T ms w i = false := by unfold zz_has; rw [h0]; simp
        refine zw.ifp (by rw [h0]; rfl) ?_
        exact skip hh (by rw [hh] at ho; simpa using ho)
      · have hh : zz_has T ms w i = true := by unfold zz_has; rw [hb]; simpa using h0
        have hpos := List.length_pos_iff.mpr h0
        rw [hh] at ho ⊢
        simp only [if_true] at ho ⊢
        simp only [zz_eD, List.length_cons, List.length_append, zz_eP_all] at ho
        refine zw.ifn (nI_ne0 hpos (by omega)) ?_
        refine zw.is c1 ?_
        rw [pk_sub hp]
        refine zw.cb (s_Mo_put (fs := fs.set 26 (.inl (nI out.length))) (by omega) (by omega) c1 (hset 25 _ _ (by decide) h35) (by rw [List.getElem?_set, if_pos rfl, if_pos hfl]) HE) ?_
        rintro _ h2 ⟨g1, g2, g3, g4⟩
        rw [List.set_set, show out.length + 1 = (out ++ [i - prev]).length by simp] at g1
        have HT2 := HT.fr g3 (by decide) (by decide) (by decide)
        refine zw.is g1 ?_
        refine zw.cbe (s_Mo_often (F := F) (d := i) (w := w) (T := T) (by omega) hw g1 (hset 8 _ _ (by decide) h8) HT2) ?_
        refine zw.is g1 ?_
        refine zw.cb (s_Mo_put (fs := fs.set 26 (.inl (nI (out ++ [i - prev]).length))) (by omega) (by simp; omega) g1 (hset 25 _ _ (by decide) h35) (by rw [List.getElem?_set, if_pos rfl, if_pos hfl]) g2) ?_
        rintro _ h3 ⟨k1, k2, k3, k4⟩
        rw [List.set_set, show (out ++ [i - prev]).length + 1 = (out ++ [i - prev] ++ [(zz_pl (zz_tx T i) w).length]).length by simp] at k1
        have HT3 := HT2.fr k3 (by decide) (by decide) (by decide)
        unfold l_Mo_putWord_67
        have hti := ht i
        refine s_pw67 (T := T) (fs := fs) (t := zz_tx T i) rfl (by omega) hT hti.1 (by omega) (fun x hx => by have := hti.2 x hx; omega) h6 h7 h35 hfl (zz_tx T i).length F 0 0 (out ++ [i - prev] ++ [(zz_pl (zz_tx T i) w).length]) h3 (by omega) (by omega) (by omega) (by simp; omega) k1 HT3 k2 ?_
        intro h4 m1 m2 m3 m4 m5
        rw [← zz_pl_range hti.1] at m1 m3
        have e9 : out ++ [i - prev] ++ [(zz_pl (zz_tx T i) w).length] ++ zz_eP 0 (zz_pl (zz_tx T i) w) ++ zz_eD T w i ((List.range' (i + 1) k).filter (zz_has T ms w)) = out ++ zz_eD T w prev (i :: (List.range' (i + 1) k).filter (zz_has T ms w)) := by
          simp [zz_eD]
        refine (ih n (i + 1) i _ h4 (by omega) (by omega) (by omega) (by simp only [List.length_append, List.length_cons, List.length_nil, zz_eP_all]; omega) m1 m2 m3).mono ?_
        rintro x ⟨q1, q2, q3, q4, q5⟩
        rw [e9] at q1 q3
        exact ⟨q1, q2, q3, (g3.tr k3).tr (m4.tr q4), by rw [q5, m5, k4, g4]⟩
theorem zz_eW_len2 {T : List (List Nat)} {ms : Nat} : ∀ (ws : List Nat) (prev : Nat), (zz_eW T ms prev ws).length ≤ 2 * ws.length + 3 * (ws.flatMap (zz_pw T ms)).length := by
  intro ws
  induction ws with
  | nil => intro _; simp [zz_eW]
  | cons w ws ih =>
    intro prev
    have h1 := ih w
    have h3 := zz_eD_len (T := T) (w := w) (zz_ds T ms w) 0 (fun d hd => by
      obtain ⟨p, hp⟩ := (zz_ds_mem.mp hd).2.2
      exact List.ne_nil_of_mem hp)
    simp only [zz_eW, List.length_cons, List.length_append, List.flatMap_cons]
    have h4 : (zz_pw T ms w) = (zz_ds T ms w).flatMap (zz_pd T w) := rfl
    rw [← h4] at h3
    omega
theorem zz_enc_2601 (T : List (List Nat)) (ms : Nat) : (zz_enc T ms).length ≤ 2601 := by
  have h1 := zz_eW_len2 (T := T) (ms := ms) (zz_ws T ms) 0
  have h2 := zz_posts_len T ms
  have h3 : (zz_ws T ms).length ≤ 100 := by
    unfold zz_ws
    exact Nat.le_trans (List.length_filter_le _ _) (by simp)
  unfold zz_posts at h2
  unfold zz_enc
  rw [List.length_append]
  simp only [List.length_cons, List.length_nil]
  omega
theorem zz_ws_range (T : List (List Nat)) (ms : Nat) : zz_ws T ms = (List.range' 0 100).filter (fun w => !(zz_ds T ms w).isEmpty) := by
  rw [← List.range_eq_range']
  rfl
theorem s_Mo_putWord {ms w : Nat} (hms : ms < 2 ^ 60) (hw : w < 100) (hT : T.length ≤ 40) (ht : ∀ d, (zz_tx T d).length ≤ 20 ∧ ∀ x ∈ zz_tx T d, x < 100) (hF : 5000 < F) (h6 : fs[6]? = some (.inr (.inl (some 27)))) (h7 : fs[7]? = some (.inr (.inl (some 28)))) (h8 : fs[8]? = some (.inr (.inl (some 29)))) (h9 : fs[9]? = some (.inl (nI T.length))) (h35 : fs[25]? = some (.inr (.inl (some 35)))) (hfl : 26 < fs.length) (ho : out.length + (zz_eD T w 0 (zz_ds T ms w)).length + 20 ≤ 4001) (c1 : h[25]? = some (.inr (9, fs.set 26 (.inl (nI out.length))))) (HT : zT h T) (HE : zE h out) :
    zw (f_Mo_putWord F 25 (lN ms) (nI w) h) (fun x => x.2[25]? = some (.inr (9, fs.set 26 (.inl (nI (out ++ zz_eD T w 0 (zz_ds T ms w)).length)))) ∧ zT x.2 T ∧ zE x.2 (out ++ zz_eD T w 0 (zz_ds T ms w)) ∧ zz_fr [25, 35] h x.2 ∧ x.2.length = h.length) := by
  unfold f_Mo_putWord l_Mo_putWord_6
  rw [zz_ds_range hT] at ho ⊢
  exact s_pw6 (T := T) (fs := fs) hms hw hT ht hF h6 h7 h8 h9 h35 hfl T.length F 0 0 out h (by omega) (by omega) (by omega) ho c1 HT HE
/-- counting the documents that have the word -/
theorem s_en38 {Q : Unit × hh_H → Prop} {r25 : Nat → Int64 → Int32 → Int32 → hh_H → Option (Unit × hh_H)} {ms w : Nat} {x3 : Int32} (hms : ms < 2 ^ 60) (hw : w < 100) (hT : T.length ≤ 40) (hc : h[25]? = some (.inr (9, fs))) (h8 : fs[8]? = some (.inr (.inl (some 29)))) (h9 : fs[9]? = some (.inl (nI T.length))) (HT : zT h T) : ∀ (k n i c : Nat), i + k = T.length → k < n →
    zw (f_Mo_encode_76 F r25 25 (lN ms) x3 (nI w) (nI (c + ((List.range' i k).filter (zz_has T ms w)).length)) h) Q →
    zw (hp_it (fun _ _ _ _ _ _ _ => none) (f_Mo_encode_38 F r25) n 25 (lN ms) x3 (nI w) (nI c) (nI i) h) Q := by
  intro k
  induction k with
  | zero =>
    intro n i c hi hn kk
    obtain ⟨n, rfl⟩ : ∃ m, n = m + 1 := ⟨n - 1, by omega⟩
    rw [hp_it_s, f_Mo_encode_38]
    refine zw.gi hc h9 ?_
    refine zw.ifp (nI_le (by omega) (by omega)) ?_
    simpa using kk
  | succ k ih =>
    intro n i c hi hn kk
    obtain ⟨n, rfl⟩ : ∃ m, n = m + 1 := ⟨n - 1, by omega⟩
    rw [hp_it_s, f_Mo_encode_38]
    refine zw.gi hc h9 ?_
    refine zw.ifn (nI_ge (by omega) (by omega)) ?_
    refine zw.cbe (s_Mo_in hms (by omega)) ?_
    rw [List.range'_succ, List.filter_cons] at kk
    rw [nI_1]
    cases hb : ms.testBit i
    · have hh : zz_has T ms w i = false := by unfold zz_has; rw [hb]; rfl
      refine zw.ifp rfl ?_
      exact ih n (i + 1) c (by omega) (by omega) (by simpa [hh] using kk)
    · refine zw.ifn (by decide) ?_
      refine zw.is hc ?_
      refine zw.cbe (s_Mo_often (F := F) (d := i) (w := w) (T := T) (by omega) hw hc h8 HT) ?_
      have hpl := zz_pl_len (zz_tx T i) w
      by_cases h0 : zz_pl (zz_tx T i) w = []
      · have hh : zz_has T ms w i = false := by unfold zz_has; rw [h0]; simp
        refine zw.ifp (by rw [h0]; decide) ?_
        exact ih n (i + 1) c (by omega) (by omega) (by simpa [hh] using kk)
      · have hh : zz_has T ms w i = true := by unfold zz_has; rw [hb]; simpa using h0
        have hpos := List.length_pos_iff.mpr h0
        refine zw.ifn (nI_nle hpos (by omega)) ?_
        rw [nI_1]
        refine ih n (i + 1) (c + 1) (by omega) (by omega) ?_
        rw [hh] at kk
        simp only [if_true, List.length_cons] at kk
        rw [show c + 1 + ((List.range' (i + 1) k).filter (zz_has T ms w)).length = c + (((List.range' (i + 1) k).filter (zz_has T ms w)).length + 1) by omega]
        exact kk
/-- all words -/
theorem s_en25 {ms : Nat} (hms : ms < 2 ^ 60) (hT : T.length ≤ 40) (ht : ∀ d, (zz_tx T d).length ≤ 20 ∧ ∀ x ∈ zz_tx T d, x < 100) (hF : 5000 < F) (h6 : fs[6]? = some (.inr (.inl (some 27)))) (h7 : fs[7]? = some (.inr (.inl (some 28)))) (h8 : fs[8]? = some (.inr (.inl (some 29)))) (h9 : fs[9]? = some (.inl (nI T.length))) (h35 : fs[25]? = some (.inr (.inl (some 35)))) (hfl : 26 < fs.length) : ∀ (k n i prev : Nat) (out : List Nat) (h1 : hh_H), i + k = 100 → k < n → prev ≤ i → out.length + (zz_eW T ms prev ((List.range' i k).filter (fun w => !(zz_ds T ms w).isEmpty))).length ≤ 2700 → h1[25]? = some (.inr (9, fs.set 26 (.inl (nI out.length)))) → zT h1 T → zE h1 out →
    zw (hp_it (fun _ _ _ _ _ => none) (f_Mo_encode_25 F) n 25 (lN ms) (nI prev) (nI i) h1) (fun x => x.2[25]? = some (.inr (9, fs.set 26 (.inl (nI (out ++ (zz_eW T ms prev ((List.range' i k).filter (fun w => !(zz_ds T ms w).isEmpty)) ++ [127])).length)))) ∧ zT x.2 T ∧ zE x.2 (out ++ (zz_eW T ms prev ((List.range' i k).filter (fun w => !(zz_ds T ms w).isEmpty)) ++ [127])) ∧ zz_fr [25, 35] h1 x.2 ∧ x.2.length = h1.length) := by
  have hset : ∀ (j : Nat) (x y : hh_V), j ≠ 26 → fs[j]? = some y → (fs.set 26 x)[j]? = some y := fun j x y hj hq => by rw [List.getElem?_set, if_neg (Ne.symm hj)]; exact hq
  intro k
  induction k with
  | zero =>
    intro n i prev out h1 hi hn hp ho c1 HT HE
    obtain ⟨n, rfl⟩ : ∃ m, n = m + 1 := ⟨n - 1, by omega⟩
    rw [hp_it_s, f_Mo_encode_25]
    refine zw.ifp (nI_le (a := 100) (by omega) (by omega)) ?_
    refine zw.is c1 ?_
    refine zw.cb (s_Mo_put (n := 127) (fs := fs.set 26 (.inl (nI out.length))) (by omega) (by omega) c1 (hset 25 _ _ (by decide) h35) (by rw [List.getElem?_set, if_pos rfl, if_pos hfl]) HE) ?_
    rintro _ h2 ⟨g1, g2, g3, g4⟩
    rw [List.set_set] at g1
    exact zw.ret ⟨by simpa [zz_eW] using g1, HT.fr g3 (by decide) (by decide) (by decide), by simpa [zz_eW] using g2, g3, g4⟩
  | succ k ih =>
    intro n i prev out h1 hi hn hp ho c1 HT HE
    obtain ⟨n, rfl⟩ : ∃ m, n = m + 1 := ⟨n - 1, by omega⟩
    rw [hp_it_s, f_Mo_encode_25]
    refine zw.ifn (show ¬ (100 : Int32) ≤ nI i from nI_ge (b := 100) (by omega) (by decide)) ?_
    unfold l_Mo_encode_38
    refine s_en38 (F := F) (T := T) hms (by omega) hT c1 (hset 8 _ _ (by decide) h8) (hset 9 _ _ (by decide) h9) HT T.length F 0 0 (by omega) (by omega) ?_
    rw [← zz_ds_range hT, Nat.zero_add, f_Mo_encode_76]
    rw [List.range'_succ, List.filter_cons] at ho ⊢
    have hdl := zz_ds_len T ms i
    by_cases h0 : zz_ds T ms i = []
    · refine zw.ifp (by rw [h0]; rfl) ?_
      rw [nI_1]
      have hif : (!(zz_ds T ms i).isEmpty) = false := by rw [h0]; rfl
      rw [hif] at ho ⊢
      simp only [Bool.false_eq_true, if_false] at ho ⊢
      exact ih n (i + 1) prev out h1 (by omega) (by omega) (by omega) ho c1 HT HE
    · have hpos := List.length_pos_iff.mpr h0
      have hif : (!(zz_ds T ms i).isEmpty) = true := by simpa using h0
      rw [hif] at ho ⊢
      simp only [if_true] at ho ⊢
      simp only [zz_eW, List.length_cons, List.length_append] at ho
      refine zw.ifn (nI_ne0 hpos (by omega)) ?_
      refine zw.is c1 ?_
      rw [pk_sub hp]
      refine zw.cb (s_Mo_put (fs := fs.set 26 (.inl (nI out.length))) (by omega) (by omega) c1 (hset 25 _ _ (by decide) h35) (by rw [List.getElem?_set, if_pos rfl, if_pos hfl]) HE) ?_
      rintro _ h2 ⟨g1, g2, g3, g4⟩
      rw [List.set_set, show out.length + 1 = (out ++ [i - prev]).length by simp] at g1
      have HT2 := HT.fr g3 (by decide) (by decide) (by decide)
      refine zw.is g1 ?_
      refine zw.cb (s_Mo_put (fs := fs.set 26 (.inl (nI (out ++ [i - prev]).length))) (by omega) (by simp; omega) g1 (hset 25 _ _ (by decide) h35) (by rw [List.getElem?_set, if_pos rfl, if_pos hfl]) g2) ?_
      rintro _ h3 ⟨k1, k2, k3, k4⟩
      rw [List.set_set, show (out ++ [i - prev]).length + 1 = (out ++ [i - prev] ++ [(zz_ds T ms i).length]).length by simp] at k1
      have HT3 := HT2.fr k3 (by decide) (by decide) (by decide)
      refine zw.is k1 ?_
      refine zw.cb (s_Mo_putWord (T := T) (fs := fs) hms (by omega) hT ht hF h6 h7 h8 h9 h35 hfl (by simp; omega) k1 HT3 k2) ?_
      rintro _ h4 ⟨m1, m2, m3, m4, m5⟩
      rw [nI_1]
      refine (ih n (i + 1) i _ h4 (by omega) (by omega) (by omega) (by simp; omega) m1 m2 m3).mono ?_
      rintro x ⟨q1, q2, q3, q4, q5⟩
      have e9 : out ++ [i - prev] ++ [(zz_ds T ms i).length] ++ zz_eD T i 0 (zz_ds T ms i) ++ (zz_eW T ms i ((List.range' (i + 1) k).filter (fun w => !(zz_ds T ms w).isEmpty)) ++ [127]) = out ++ (zz_eW T ms prev (i :: (List.range' (i + 1) k).filter (fun w => !(zz_ds T ms w).isEmpty)) ++ [127]) := by
        simp [zz_eW]
      rw [e9] at q1 q3
      exact ⟨q1, q2, q3, (g3.tr k3).tr (m4.tr q4), by rw [q5, m5, k4, g4]⟩
/-- what the bytes at 35 stand for: the set sn -/
def zS (h : hh_H) (T : List (List Nat)) (sn sz : Nat) : Prop := sn < 2 ^ 60 ∧ (sn = 0 ∨ (sz = (zz_enc T sn).length ∧ zE h (zz_enc T sn) ∧ ∀ d, sn.testBit d = true → d < T.length)) ∧ ∃ o, zE h o
theorem s_Mo_encode {ms sn sz : Nat} (hms : ms < 2 ^ 60) (hm0 : ms ≠ 0) (hmT : ∀ d, ms.testBit d = true → d < T.length) (hT : T.length ≤ 40) (ht : ∀ d, (zz_tx T d).length ≤ 20 ∧ ∀ x ∈ zz_tx T d, x < 100) (hF : 5000 < F) (hc : h[25]? = some (.inr (9, fs))) (h6 : fs[6]? = some (.inr (.inl (some 27)))) (h7 : fs[7]? = some (.inr (.inl (some 28)))) (h8 : fs[8]? = some (.inr (.inl (some 29)))) (h9 : fs[9]? = some (.inl (nI T.length))) (h35 : fs[25]? = some (.inr (.inl (some 35)))) (h26 : fs[26]? = some (.inl (nI sz))) (h27 : fs[27]? = some (.inr (.inr (.inr (lN sn))))) (HT : zT h T) (HS : zS h T sn sz) :
    zw (f_Mo_encode F 25 (lN ms) h) (fun x => x.2[25]? = some (.inr (9, (fs.set 27 (.inr (.inr (.inr (lN ms))))).set 26 (.inl (nI (zz_enc T ms).length)))) ∧ zE x.2 (zz_enc T ms) ∧ zT x.2 T ∧ zz_fr [25, 35] h x.2 ∧ x.2.length = h.length) := by
  have hfl : 27 < fs.length := (List.getElem?_eq_some_iff.mp h27).1
  obtain ⟨s1, s2, ⟨o, s3⟩⟩ := HS
  unfold f_Mo_encode
  refine zw.gj hc h27 ?_
  have hcmp := zz_lcmp (a := ms) (b := sn) (Nat.lt_trans hms (by decide)) (Nat.lt_trans s1 (by decide))
  by_cases he : ms = sn
  · refine zw.ifp (hcmp.mpr he) ?_
    subst he
    rcases s2 with s2 | ⟨a1, a2, a3⟩
    · exact absurd s2 hm0
    · refine zw.ret ⟨?_, a2, HT, zz_fr.rf _ _, rfl⟩
      rw [hc]
      congr 3
      rw [← a1]
      apply List.ext_getElem?
      intro j
      rw [List.getElem?_set, List.getElem?_set, List.length_set]
      by_cases hj : 26 = j
      · subst hj
        rw [if_pos rfl, if_pos (by omega), h26]
      · rw [if_neg hj]
        by_cases hj2 : 27 = j
        · subst hj2
          rw [if_pos rfl, if_pos hfl, h27]
        · rw [if_neg hj2]
  · refine zw.ifn (fun q => he (hcmp.mp q)) ?_
    refine zw.pj hc hfl fun h1 s4 => ?_
    refine zw.pi s4.1 (by rw [List.length_set]; omega) fun h2 s5 => ?_
    have f2 : zz_fr [25] h h2 := (s4.fr (by simp)).tr (s5.fr (by simp))
    unfold l_Mo_encode_25
    have hset : ∀ (j : Nat) (x y : hh_V), j ≠ 27 → fs[j]? = some y → (fs.set 27 x)[j]? = some y := fun j x y hj hq => by rw [List.getElem?_set, if_neg (Ne.symm hj)]; exact hq
    have hb := zz_enc_2601 T ms
    have E0 : zE h2 [] := by
      obtain ⟨bs, b1, b2, _⟩ := s3
      exact ⟨bs, f2.at b1 (by decide), b2, fun i hi => by simp at hi⟩
    have hlen : (zz_eW T ms 0 ((List.range' 0 100).filter (fun w => !(zz_ds T ms w).isEmpty))).length ≤ 2601 := by
      rw [← zz_ws_range]
      unfold zz_enc at hb
      rw [List.length_append] at hb
      omega
    refine (s_en25 (T := T) (fs := fs.set 27 (.inr (.inr (.inr (lN ms))))) hms hT ht hF (hset 6 _ _ (by decide) h6) (hset 7 _ _ (by decide) h7) (hset 8 _ _ (by decide) h8) (hset 9 _ _ (by decide) h9) (hset 25 _ _ (by decide) h35) (by rw [List.length_set]; omega) 100 F 0 0 [] h2 (by omega) (by omega) (by omega) (by simp only [List.length_nil]; omega) s5.1 (HT.fr f2 (by decide) (by decide) (by decide)) E0).mono ?_
    rintro x ⟨q1, q2, q3, q4, q5⟩
    rw [← zz_ws_range, List.nil_append] at q1 q3
    exact ⟨q1, q3, q2, (f2.mono (by simp)).tr q4, by rw [q5, s5.2.2, s4.2.2]⟩
end Mo
