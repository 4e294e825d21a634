-- what stays true of the row
def zz_cov (T : List (List Nat)) (dr : List Bool) (wt : Nat) (R : List (Nat × Nat × Nat)) : Prop := ∀ d, d < wt → dr[d]? = some false → zz_tx T d ≠ [] → ∃ r ∈ R, r.2.2.testBit d = true
def zz_J (T : List (List Nat)) (dr : List Bool) (wt lvb : Nat) (R : List (Nat × Nat × Nat)) : Prop := zz_okM wt T R ∧ (∀ r ∈ R, r.1 ≤ lvb) ∧ zz_cov T dr wt R
theorem zz_pw_all {α : Type} {S : α → α → Prop} (hs : ∀ x y, S x y → S y x) : ∀ {l : List α}, l.Pairwise S → ∀ x ∈ l, ∀ y ∈ l, x ≠ y → S x y
  | [], _, x, hx, _, _, _ => by cases hx
  | a :: l, h, x, hx, y, hy, hne => by
    obtain ⟨h1, h2⟩ := List.pairwise_cons.mp h
    rcases List.mem_cons.mp hx with hx2 | hx2
    · rcases List.mem_cons.mp hy with hy2 | hy2
      · exact absurd (hx2.trans hy2.symm) hne
      · rw [hx2]
        exact h1 y hy2
    · rcases List.mem_cons.mp hy with hy2 | hy2
      · rw [hy2]
        exact hs _ _ (h1 x hx2)
      · exact zz_pw_all hs h2 x hx2 y hy2 hne
theorem zz_mset_bit {dr : List Bool} {sel : Nat × Nat × Nat → Bool} {R : List (Nat × Nat × Nat)} {i : Nat} : (zz_mset dr sel R).testBit i = true ↔ (∃ r ∈ R, sel r = true ∧ r.2.2.testBit i = true) ∧ ¬ dr[i]? = some true := by
  unfold zz_mset
  rw [zz_an_bit, Bool.and_eq_true, zz_um_bit]
  constructor
  · rintro ⟨⟨r, hr, hb⟩, h2⟩
    refine ⟨⟨r, (List.mem_filter.mp hr).1, (List.mem_filter.mp hr).2, hb⟩, fun q => ?_⟩
    rw [(zz_dn_bit dr i).mpr q] at h2
    cases h2
  · rintro ⟨⟨r, hr, hs, hb⟩, h2⟩
    refine ⟨⟨r, List.mem_filter.mpr ⟨hr, hs⟩, hb⟩, ?_⟩
    cases hq : (zz_dn dr).testBit i
    · rfl
    · exact absurd ((zz_dn_bit dr i).mp hq) h2
theorem zz_tail_sub {sel : Nat × Nat × Nat → Bool} {R : List (Nat × Nat × Nat)} : R.takeWhile (fun r => !sel r) ++ (R.dropWhile (fun r => !sel r)).filter (fun r => !sel r) = R.filter (fun r => !sel r) := by
  have e := List.takeWhile_append_dropWhile (p := fun r => !sel r) (l := R)
  conv => rhs; arg 2; rw [← e]
  rw [List.filter_append]
  congr 1
  symm
  rw [List.filter_eq_self]
  intro a ha
  exact List.all_eq_true.mp List.all_takeWhile a ha
theorem zz_mgR_J {T : List (List Nat)} {dr : List Bool} {nb wt lvb lv w : Nat} {sel : Nat × Nat × Nat → Bool} {R R' : List (Nat × Nat × Nat)} (hJ : zz_J T dr wt lvb R) (hl : lv ≤ lvb + 1) (h : zz_mgR T dr nb sel lv R = some (R', w)) : zz_J T dr wt (lvb + 1) R' := by
  obtain ⟨hM, hL, hC⟩ := hJ
  unfold zz_mgR at h
  split at h
  · rename_i h0
    cases h
    refine ⟨⟨fun r hr => hM.1 r (List.mem_filter.mp hr).1, List.Pairwise.filter _ hM.2⟩, fun r hr => Nat.le_succ_of_le (hL r (List.mem_filter.mp hr).1), fun d hd hdr ht => ?_⟩
    obtain ⟨r, hr, hb⟩ := hC d hd hdr ht
    refine ⟨r, List.mem_filter.mpr ⟨hr, ?_⟩, hb⟩
    cases hs : sel r
    · rfl
    · have := zz_mset_bit.mpr ⟨⟨r, hr, hs, hb⟩, by rw [hdr]; simp⟩
      rw [h0] at this
      simp at this
  · rename_i h0
    split at h
    · cases h
      have hmem : ∀ x, x ∈ R.takeWhile (fun r => !sel r) ++ (lv, zz_at nb (zz_ub R) (zz_nd T (zz_mset dr sel R)), zz_mset dr sel R) :: (R.dropWhile (fun r => !sel r)).filter (fun r => !sel r) ↔ x = (lv, zz_at nb (zz_ub R) (zz_nd T (zz_mset dr sel R)), zz_mset dr sel R) ∨ (x ∈ R ∧ sel x = false) := by
        intro x
        rw [← zz_mem_mid, zz_tail_sub, List.mem_cons, List.mem_filter]
        simp
      refine ⟨⟨fun r hr => ?_, ?_⟩, fun r hr => ?_, fun d hd hdr ht => ?_⟩
      · rcases (hmem r).mp hr with rfl | ⟨hr, _⟩
        · refine ⟨h0, fun d hd => ?_⟩
          obtain ⟨⟨r, hr, _, hb⟩, _⟩ := zz_mset_bit.mp hd
          exact (hM.1 r hr).2 d hb
        · exact hM.1 r hr
      · rw [← zz_pw_mid (fun x y h => zz_djM.symm h), zz_tail_sub]
        refine List.pairwise_cons.mpr ⟨fun x hx i q => ?_, List.Pairwise.filter _ hM.2⟩
        obtain ⟨⟨r, hr, hs, hb⟩, _⟩ := zz_mset_bit.mp q.1
        obtain ⟨hx1, hx2⟩ := List.mem_filter.mp hx
        refine zz_pw_all (fun x y h => zz_djM.symm h) hM.2 r hr x hx1 (fun e => ?_) i ⟨hb, q.2⟩
        subst e
        rw [hs] at hx2
        cases hx2
      · rcases (hmem r).mp hr with rfl | ⟨hr, _⟩
        · exact hl
        · exact Nat.le_succ_of_le (hL r hr)
      · obtain ⟨r, hr, hb⟩ := hC d hd hdr ht
        cases hs : sel r
        · exact ⟨r, (hmem r).mpr (Or.inr ⟨hr, hs⟩), hb⟩
        · exact ⟨_, (hmem _).mpr (Or.inl rfl), zz_mset_bit.mpr ⟨⟨r, hr, hs, hb⟩, by rw [hdr]; simp⟩⟩
    · cases h
theorem zz_J.up {T : List (List Nat)} {dr : List Bool} {wt lvb lvc : Nat} {R : List (Nat × Nat × Nat)} (hJ : zz_J T dr wt lvb R) (h : lvb ≤ lvc) : zz_J T dr wt lvc R := ⟨hJ.1, fun r hr => Nat.le_trans (hJ.2.1 r hr) h, hJ.2.2⟩
theorem zz_mgS_J {T : List (List Nat)} {dr : List Bool} {nb wt lvb lv : Nat} {sel : Nat × Nat × Nat → Bool} {s : List (Nat × Nat × Nat) × Int32 × Int32 × Int32 × Int32} (hJ : zz_J T dr wt lvb s.1) (hl : lv ≤ lvb + 1) : zz_J T dr wt (lvb + 1) (zz_mgS T dr nb sel lv s).2.1 := by
  unfold zz_mgS
  split
  · exact hJ.up (Nat.le_succ _)
  · rename_i R' w he
    exact zz_mgR_J hJ hl he
theorem zz_mgS_len {T : List (List Nat)} {dr : List Bool} {nb lv : Nat} {sel : Nat × Nat × Nat → Bool} {s s' : List (Nat × Nat × Nat) × Int32 × Int32 × Int32 × Int32} (h2 : 2 ≤ (s.1.filter sel).length) (he : zz_mgS T dr nb sel lv s = (true, s')) : s'.1.length < s.1.length := by
  have hc : (s.1.filter sel).length + (s.1.filter (fun r => !sel r)).length = s.1.length := by
    generalize s.1 = l
    induction l with
    | nil => rfl
    | cons x l ih =>
      rw [List.filter_cons, List.filter_cons]
      cases sel x <;> simp <;> omega
  unfold zz_mgS at he
  split at he
  · cases he
  · rename_i R' w hr
    cases he
    show R'.length < _
    unfold zz_mgR at hr
    split at hr
    · cases hr
      omega
    · split at hr
      · cases hr
        have := congrArg List.length (zz_tail_sub (sel := sel) (R := s.1))
        simp only [List.length_append, List.length_cons] at this ⊢
        omega
      · cases hr
theorem zz_ff_of {fan : Nat} {R : List (Nat × Nat × Nat)} {l : Nat} (h : zz_ff fan R = some l) : fan ≤ zz_cntL R l ∧ ∃ r ∈ R, r.1 = l := by
  have key : ∀ (B : List (Nat × Nat × Nat)) (best : Option Nat), (∀ r ∈ B, r ∈ R) → (∀ b, best = some b → fan ≤ zz_cntL R b ∧ ∃ r ∈ R, r.1 = b) → ∀ b, B.foldl (zz_ffs fan R) best = some b → fan ≤ zz_cntL R b ∧ ∃ r ∈ R, r.1 = b := by
    intro B
    induction B with
    | nil => intro best _ hb b he; exact hb b he
    | cons r B ih =>
      intro best hB hb b he
      refine ih (zz_ffs fan R best r) (fun x hx => hB x (List.mem_cons_of_mem _ hx)) (fun c hc => ?_) b he
      unfold zz_ffs at hc
      split at hc
      · rename_i hq
        cases hc
        exact ⟨hq.1, r, hB r List.mem_cons_self, rfl⟩
      · exact hb c hc
  exact key R none (fun _ h => h) (fun b hb => by cases hb) l h
theorem zz_sel_ll {l : Nat} {r : Nat × Nat × Nat} : zz_sel l l r = (r.1 == l) := by
  unfold zz_sel
  rw [Bool.eq_iff_iff]
  simp
  omega
theorem zz_sel_cnt {l : Nat} {R : List (Nat × Nat × Nat)} : (R.filter (zz_sel l l)).length = zz_cntL R l := by
  unfold zz_cntL
  congr 2
  funext r
  exact zz_sel_ll
theorem zz_fl_more {T : List (List Nat)} {dr : List Bool} {nb fan : Nat} (hfan : 2 ≤ fan) : ∀ (n : Nat) (s : List (Nat × Nat × Nat) × Int32 × Int32 × Int32 × Int32), s.1.length ≤ n → zz_fl T dr nb fan (n + 1) s = zz_fl T dr nb fan n s := by
  intro n
  induction n with
  | zero =>
    intro s hs
    have h1 : s.1 = [] := List.length_eq_zero_iff.mp (by omega)
    have h2 : zz_ff fan s.1 = none := by rw [h1]; rfl
    show (match zz_ff fan s.1 with
      | none => s
      | some l => _) = s
    rw [h2]
  | succ n ih =>
    intro s hs
    rw [zz_fl, zz_fl]
    cases hf : zz_ff fan s.1 with
    | none => rfl
    | some l =>
      show (match zz_mgS T dr nb (zz_sel l l) (l + 1) s with
        | (false, s') => s'
        | (true, s') => zz_fl T dr nb fan (n + 1) s') = (match zz_mgS T dr nb (zz_sel l l) (l + 1) s with
        | (false, s') => s'
        | (true, s') => zz_fl T dr nb fan n s')
      split
      · rfl
      · rename_i s' he
        have h1 := (zz_ff_of hf).1
        have h2 := zz_mgS_len (by rw [zz_sel_cnt]; omega) he
        exact ih s' (by omega)
theorem zz_fl_60 {T : List (List Nat)} {dr : List Bool} {nb fan : Nat} (hfan : 2 ≤ fan) {s : List (Nat × Nat × Nat) × Int32 × Int32 × Int32 × Int32} (hs : s.1.length ≤ 60) : zz_fl T dr nb fan 64 s = zz_fl T dr nb fan 60 s := by
  rw [zz_fl_more hfan 63 s (by omega), zz_fl_more hfan 62 s (by omega), zz_fl_more hfan 61 s (by omega), zz_fl_more hfan 60 s (by omega)]
theorem zz_fl_J {T : List (List Nat)} {dr : List Bool} {nb fan wt : Nat} : ∀ (n lvb : Nat) (s : List (Nat × Nat × Nat) × Int32 × Int32 × Int32 × Int32), zz_J T dr wt lvb s.1 → zz_J T dr wt (lvb + n) (zz_fl T dr nb fan n s).1 := by
  intro n
  induction n with
  | zero => intro lvb s hJ; exact hJ
  | succ n ih =>
    intro lvb s hJ
    rw [zz_fl]
    split
    · exact hJ.up (by omega)
    · rename_i l hf
      obtain ⟨_, r, hr, rfl⟩ := zz_ff_of hf
      have h1 := zz_mgS_J (nb := nb) (sel := zz_sel r.1 r.1) (lv := r.1 + 1) hJ (by have := hJ.2.1 r hr; omega)
      split
      · rename_i s' he
        rw [he] at h1
        exact h1.up (by omega)
      · rename_i s' he
        rw [he] at h1
        have := ih (lvb + 1) s' h1
        rw [show lvb + (n + 1) = lvb + 1 + n by omega]
        exact this
section Flush
variable {h : hh_H} {F nb fan wt lvb : Nat} {T : List (List Nat)} {dr : List Bool} {s : List (Nat × Nat × Nat) × Int32 × Int32 × Int32 × Int32}
theorem s_mergeFull_loop (hnb : nb ≤ 60) (hF : 5000 < F) (hfan : fan < 2 ^ 30) (hwt : wt ≤ T.length) (hT : T.length ≤ 40) (hdr : dr.length = T.length) (hw : ∀ t ∈ T, t.length ≤ 20 ∧ ∀ w ∈ t, w < 100) : ∀ (k m lvb : Nat) (s : List (Nat × Nat × Nat) × Int32 × Int32 × Int32 × Int32) (h1 : hh_H), k ≤ 60 → k < m → zXs h1 T dr nb fan s → zY h1 nb → zz_J T dr wt lvb s.1 → lvb + k < 2 ^ 29 →
    zw (hp_it (fun _ _ _ => none) (f_RunRow_mergeFullLevels_2 F) m 10 (nI (60 - k)) h1) (fun x => zXs x.2 T dr nb fan (zz_fl T dr nb fan k s) ∧ zY x.2 nb ∧ zz_fx [7, 8, 9, 10, 11, 12, 13, 14, 15, 16, 17] h1 x.2) := by
  intro k
  induction k with
  | zero =>
    intro m lvb s h1 hk hm H HY hJ hb
    obtain ⟨m, rfl⟩ : ∃ n, m = n + 1 := ⟨m - 1, by omega⟩
    rw [hp_it_s, f_RunRow_mergeFullLevels_2]
    refine zw.ifp (by decide) ?_
    exact zw.ret ⟨H, HY, zz_fx.rf _ _⟩
  | succ k ih =>
    intro m lvb s h1 hk hm H HY hJ hb
    obtain ⟨m, rfl⟩ : ∃ n, m = n + 1 := ⟨m - 1, by omega⟩
    obtain ⟨R, rd, wr, mg, fl⟩ := s
    have H' : zX h1 T dr nb fan R rd wr mg fl := H
    have hJ' : zz_J T dr wt lvb R := hJ
    rw [hp_it_s, f_RunRow_mergeFullLevels_2]
    refine zw.ifn (show ¬ (60 : Int32) ≤ nI (60 - (k + 1)) from nI_ge (b := 60) (by omega) (by decide)) ?_
    refine zw.is H'.2.2.2.2 ?_
    refine zw.cbe (s_least hnb hF hfan (fun r hr => by have := hJ'.2.1 r hr; omega) H') ?_
    rw [zz_fl]
    show zw _ (fun x : Unit × hh_H => zXs x.2 T dr nb fan (match zz_ff fan R with
      | none => (R, rd, wr, mg, fl)
      | some l => _) ∧ _)
    cases hf : zz_ff fan R with
    | none =>
      refine zw.ifp (by decide) ?_
      exact zw.ret ⟨H, HY, zz_fx.rf _ _⟩
    | some l =>
      obtain ⟨_, r, hr, hrl⟩ := zz_ff_of hf
      have hl := hJ'.2.1 r hr
      rw [hrl] at hl
      refine zw.ifn (show ¬ nI l < 0 from nI_pos (by omega)) ?_
      refine zw.is H'.2.2.2.2 ?_
      refine zw.cb (s_mergeLevels hnb hF (lo := l) (hi := l) (by omega) (by omega) (fun r hr => by have := hJ'.2.1 r hr; omega) hJ'.1 hwt hT hdr hw H' HY) ?_
      rintro v h2 ⟨g1, g2, g3, g4⟩
      have g1 : v = _ := g1
      have hJ2 := zz_mgS_J (nb := nb) (sel := zz_sel l l) (lv := l + 1) hJ (by omega)
      show zw _ (fun x : Unit × hh_H => zXs x.2 T dr nb fan (match zz_mgS T dr nb (zz_sel l l) (l + 1) (R, rd, wr, mg, fl) with
        | (false, s') => s'
        | (true, s') => zz_fl T dr nb fan k s') ∧ _)
      revert g1 g2 hJ2
      rcases zz_mgS T dr nb (zz_sel l l) (l + 1) (R, rd, wr, mg, fl) with ⟨b, s'⟩
      intro g2 g1 hJ2
      cases b
      · rw [g1]
        refine zw.ifp rfl ?_
        exact zw.ret ⟨g2, g3, g4⟩
      · rw [g1]
        refine zw.ifn (show ¬ (1 : Int32) = 0 by decide) ?_
        have e1 : nI (60 - (k + 1)) + 1 = nI (60 - k) := by
          rw [nI_1]
          congr 1
          omega
        rw [e1]
        refine (ih m (lvb + 1) s' h2 (by omega) (by omega) g2 g3 hJ2 (by omega)).mono ?_
        rintro x ⟨q1, q2, q3⟩
        exact ⟨q1, q2, g4.tr q3⟩
theorem s_mergeFull (hnb : nb ≤ 60) (hF : 5000 < F) (hfan : fan < 2 ^ 30) (hwt : wt ≤ T.length) (hT : T.length ≤ 40) (hdr : dr.length = T.length) (hw : ∀ t ∈ T, t.length ≤ 20 ∧ ∀ w ∈ t, w < 100) (H : zXs h T dr nb fan s) (HY : zY h nb) (hJ : zz_J T dr wt lvb s.1) (hb : lvb + 60 < 2 ^ 29) :
    zw (f_RunRow_mergeFullLevels F 10 h) (fun x => zXs x.2 T dr nb fan (zz_fl T dr nb fan 60 s) ∧ zY x.2 nb ∧ zz_fx [7, 8, 9, 10, 11, 12, 13, 14, 15, 16, 17] h x.2) := by
  unfold f_RunRow_mergeFullLevels l_RunRow_mergeFullLevels_2
  exact s_mergeFull_loop hnb hF hfan hwt hT hdr hw 60 61 lvb s h (by omega) (by omega) H HY hJ hb
-- all
def zz_top (R : List (Nat × Nat × Nat)) : Nat := R.foldl (fun m r => max m r.1) 0
theorem zz_top_le : ∀ (B : List (Nat × Nat × Nat)) (m : Nat), m ≤ B.foldl (fun m r => max m r.1) m ∧ ∀ r ∈ B, r.1 ≤ B.foldl (fun m r => max m r.1) m
  | [], m => ⟨Nat.le_refl _, fun r hr => by cases hr⟩
  | b :: B, m => by
    obtain ⟨h1, h2⟩ := zz_top_le B (max m b.1)
    rw [List.foldl_cons]
    refine ⟨by omega, fun r hr => ?_⟩
    rcases List.mem_cons.mp hr with rfl | hr
    · omega
    · exact h2 r hr
theorem zz_top_lt : ∀ (B : List (Nat × Nat × Nat)) (m n : Nat), m ≤ n → (∀ r ∈ B, r.1 ≤ n) → B.foldl (fun m r => max m r.1) m ≤ n
  | [], m, n, h, _ => h
  | b :: B, m, n, h, hB => by
    rw [List.foldl_cons]
    exact zz_top_lt B _ n (by have := hB b List.mem_cons_self; omega) (fun r hr => hB r (List.mem_cons_of_mem _ hr))
theorem s_mergeAll_loop {Q : Int32 × hh_H → Prop} {R : List (Nat × Nat × Nat)} {rd wr mg fl : Int32} (hnb : nb ≤ 60) (H : zX h T dr nb fan R rd wr mg fl) (hlv : ∀ r ∈ R, r.1 < 2 ^ 29) : ∀ (B : List (Nat × Nat × Nat)) (n : Nat) (A : List (Nat × Nat × Nat)) (m : Nat), R = A ++ B → B.length < n → m < 2 ^ 29 →
    zw (f_RunRow_mergeAll_52 F 10 (nI (B.foldl (fun m r => max m r.1) m)) h) Q →
    zw (hp_it (fun _ _ _ _ => none) (f_RunRow_mergeAll_16 F) n 10 (nI m) (nI A.length) h) Q := by
  intro B
  induction B with
  | nil =>
    intro n A m hAB hn hm kk
    obtain ⟨n, rfl⟩ : ∃ m, n = m + 1 := ⟨n - 1, by omega⟩
    have hlen := H.len hnb
    rw [hp_it_s, f_RunRow_mergeAll_16]
    refine zw.ga H.2.2.2.2 rfl ?_
    obtain ⟨fs, hfs⟩ := H.2.2.2.1.is
    refine zw.is hfs ?_
    refine zw.cbe (s_AL_size H.2.2.2.1) ?_
    refine zw.ifp (nI_le (by simp [hAB]) (by simp [hAB] at hlen; omega)) ?_
    exact kk
  | cons r B ih =>
    intro n A m hAB hn hm kk
    obtain ⟨n, rfl⟩ : ∃ m, n = m + 1 := ⟨n - 1, by omega⟩
    have hlen := H.len hnb
    have hlR : R.length = A.length + B.length + 1 := by simp [hAB]; omega
    obtain ⟨p, hg, hp⟩ := s_AL_get (F := F) H.2.2.2.1 (by omega) (i := A.length) (r := r) (by rw [hAB]; simp)
    obtain ⟨hp38, q, hq38, hc, hd⟩ := hp
    have hr := hlv r (by rw [hAB]; simp)
    rw [hp_it_s, f_RunRow_mergeAll_16]
    refine zw.ga H.2.2.2.2 rfl ?_
    obtain ⟨fs, hfs⟩ := H.2.2.2.1.is
    refine zw.is hfs ?_
    refine zw.cbe (s_AL_size H.2.2.2.1) ?_
    refine zw.ifn (nI_ge (by omega) (by omega)) ?_
    refine zw.ga H.2.2.2.2 rfl ?_
    refine zw.is hfs ?_
    refine zw.cbe hg ?_
    refine zw.is hc ?_
    refine zw.gi hc rfl ?_
    have e1 : nI A.length + 1 = nI (A ++ [r]).length := by rw [nI_1]; simp
    have e2 : (if nI m < nI r.1 then nI r.1 else nI m) = nI (max m r.1) := by
      by_cases hq : m < r.1
      · rw [if_pos (nI_lt hq (by omega)), Nat.max_eq_right (by omega)]
      · rw [if_neg (nI_nlt (by omega) (by omega)), Nat.max_eq_left (by omega)]
    rw [e1, e2]
    exact ih n (A ++ [r]) (max m r.1) (by simp [hAB]) (by simp at hn; omega) (by omega) kk
theorem s_mergeAll {R : List (Nat × Nat × Nat)} {rd wr mg fl : Int32} (hnb : nb ≤ 60) (hF : 5000 < F) (hwt : wt ≤ T.length) (hT : T.length ≤ 40) (hdr : dr.length = T.length) (hw : ∀ t ∈ T, t.length ≤ 20 ∧ ∀ w ∈ t, w < 100) (H : zX h T dr nb fan R rd wr mg fl) (HY : zY h nb) (hJ : zz_J T dr wt lvb R) (hb : lvb < 2 ^ 28) (hne : R ≠ []) :
    zw (f_RunRow_mergeAll F 10 h) (fun x => x.1 = (if (zz_mgS T dr nb (zz_sel 0 (zz_top R)) (zz_top R + 1) (R, rd, wr, mg, fl)).1 = true then 1 else 0) ∧ zXs x.2 T dr nb fan (zz_mgS T dr nb (zz_sel 0 (zz_top R)) (zz_top R + 1) (R, rd, wr, mg, fl)).2 ∧ zY x.2 nb ∧ zz_fx [7, 8, 9, 10, 11, 12, 13, 14, 15, 16, 17] h x.2) := by
  have hlen := H.len hnb
  have hlv : ∀ r ∈ R, r.1 < 2 ^ 29 := fun r hr => by have := hJ.2.1 r hr; omega
  have htop : zz_top R ≤ lvb := zz_top_lt R 0 lvb (Nat.zero_le _) hJ.2.1
  unfold f_RunRow_mergeAll
  refine zw.ga H.2.2.2.2 rfl ?_
  obtain ⟨fs, hfs⟩ := H.2.2.2.1.is
  refine zw.is hfs ?_
  refine zw.cbe (s_AL_isEmpty H.2.2.2.1 (by omega)) ?_
  rw [if_neg hne]
  refine zw.ifp rfl ?_
  unfold l_RunRow_mergeAll_16
  refine s_mergeAll_loop (F := F) hnb H hlv R F [] 0 rfl (by omega) (by decide) ?_
  rw [f_RunRow_mergeAll_52]
  refine zw.is H.2.2.2.2 ?_
  refine zw.cb (s_mergeLevels hnb hF (lo := 0) (hi := zz_top R) (by omega) (by omega) hlv hJ.1 hwt hT hdr hw H HY) ?_
  rintro v h2 ⟨g1, g2, g3, g4⟩
  have g1 : v = _ := g1
  refine zw.zb (by rw [g1]; split <;> simp) ?_
  exact zw.ret ⟨g1, g2, g3, g4⟩
-- append
def zz_apS (T : List (List Nat)) (dr : List Bool) (nb ms : Nat) (s : List (Nat × Nat × Nat) × Int32 × Int32 × Int32 × Int32) : Bool × List (Nat × Nat × Nat) × Int32 × Int32 × Int32 × Int32 :=
  if zz_an ms (zz_dn dr) = 0 then (true, s)
  else if zz_nd T (zz_an ms (zz_dn dr)) ≤ (zz_free nb (zz_ub s.1)).length then (true, s.1 ++ [(0, zz_at nb (zz_ub s.1) (zz_nd T (zz_an ms (zz_dn dr))), zz_an ms (zz_dn dr))], s.2.1, s.2.2.1 + nI (zz_nd T (zz_an ms (zz_dn dr))), s.2.2.2.1, s.2.2.2.2)
  else (false, s)
theorem s_append0 {R : List (Nat × Nat × Nat)} {rd wr mg fl : Int32} {ms mem : Nat} (hnb : nb ≤ 60) (hF : 5000 < F) (hT : T.length ≤ 40) (hdr : dr.length = T.length) (hw : ∀ t ∈ T, t.length ≤ 20 ∧ ∀ w ∈ t, w < 100) (hms : ∀ d, ms.testBit d = true → d < T.length ∧ zz_tx T d ≠ []) (hmem : mem < 2 ^ 30) (HU : zP h 5 6 mem (zz_posts T ms)) (H : zX h T dr nb fan R rd wr mg fl) (HY : zY h nb) :
    zw (f_RunRow_append F 10 5 h) (fun x => x.1 = (if (zz_apS T dr nb ms (R, rd, wr, mg, fl)).1 = true then 1 else 0) ∧ zXs x.2 T dr nb fan (zz_apS T dr nb ms (R, rd, wr, mg, fl)).2 ∧ zY x.2 nb ∧ zz_fx [7, 8, 9, 10, 11, 12, 13, 14, 15, 16, 17] h x.2) := by
  obtain ⟨⟨l1, HP⟩, ⟨l2, HQ⟩, ⟨o1, n1, HB⟩⟩ := HY
  have hl := H.1
  have hlen := H.len hnb
  unfold f_RunRow_append
  refine zw.ga H.2.2.2.2 rfl ?_
  refine zw.is HP.1 ?_
  refine zw.cb (s_Postings_clear (by decide) HP) ?_
  rintro _ h1 ⟨g1, g2, g3⟩
  have X1 := H.fr g2 (by decide)
  have HU1 := HU.fr g2 (by decide) (by decide)
  refine zw.ga X1.2.2.2.2 rfl ?_
  refine zw.is g1.1 ?_
  refine zw.cb (s_mergeIn (by decide) (by decide) (by decide) g1 HU1 (by decide) hmem (by omega) (by simpa using zz_posts_len T ms) (by simp [zz_up]) (zz_posts_up _ _) (by simp) (by simp) (fun y hy => by have := zz_posts_lt hy; omega)) ?_
  rintro _ h2 ⟨l', k1, k2, k3, -, k4, k5⟩
  have e4 : l' = zz_posts T ms := zz_ext k2 (zz_posts_up _ _) (fun x => by rw [k3 x]; simp)
  subst e4
  have X2 := X1.fr k4 (by decide)
  have HB2 := (HB.fr g2 (by decide) (by decide)).fr k4 (by decide) (by decide)
  refine zw.is X2.2.2.2.2 ?_
  refine zw.cb (s_fits hnb hF (fun d hd => by rw [hdr]; exact (hms d hd).1) X2 k1 HB2) ?_
  rintro v h3 ⟨m1, m2, ⟨l3, m3⟩, m4, m5⟩
  have m1 : v = _ := m1
  have HQ3 := ((HQ.fr g2 (by decide) (by decide)).fr k4 (by decide) (by decide)).fr m5 (by decide) (by decide)
  have fx3 : zz_fx [7, 8, 9, 10, 11, 12, 13, 14, 15, 16, 17] h h3 := ((g2.fx hl).mono (by simp)).tr (((k4.fx X1.1).mono (by simp)).tr ((m5.fx X2.1).mono (by simp)))
  by_cases h0 : zz_an ms (zz_dn dr) = 0
  · have e : zz_apS T dr nb ms (R, rd, wr, mg, fl) = (true, R, rd, wr, mg, fl) := by
      unfold zz_apS
      rw [if_pos h0]
    rw [h0, zz_bytes_0] at m1 m4
    have m1 : v = 1 := m1.trans (if_pos (Nat.zero_le _))
    rw [e, m1]
    refine zw.ifn (by decide) ?_
    refine zw.ga m2.2.2.2.2 rfl ?_
    obtain ⟨fs, hfs⟩ := m2.2.2.2.1.is
    refine zw.is hfs ?_
    refine zw.cbe (s_AL_size m2.2.2.2.1) ?_
    refine zw.is m2.2.2.2.2 ?_
    refine zw.cbe (s_writeNo m2 m4) ?_
    exact zw.ret ⟨rfl, m2, ⟨⟨l3, m3⟩, ⟨l2, HQ3⟩, ⟨_, _, m4⟩⟩, fx3⟩
  · have hb := zz_bytes_ne (T := T) (ms := zz_an ms (zz_dn dr)) hw hT (fun d hd => hms d (by
      rw [zz_an_bit, Bool.and_eq_true] at hd
      exact hd.1)) h0
    rw [hb] at m1 m4
    have e0 : ((zz_enc T (zz_an ms (zz_dn dr))).length + 15) / 16 = zz_nd T (zz_an ms (zz_dn dr)) := rfl
    rw [e0] at m1
    by_cases hr : zz_nd T (zz_an ms (zz_dn dr)) ≤ (zz_free nb (zz_ub R)).length
    · have e : zz_apS T dr nb ms (R, rd, wr, mg, fl) = (true, R ++ [(0, zz_at nb (zz_ub R) (zz_nd T (zz_an ms (zz_dn dr))), zz_an ms (zz_dn dr))], rd, wr + nI (zz_nd T (zz_an ms (zz_dn dr))), mg, fl) := by
        unfold zz_apS
        rw [if_neg h0, if_pos hr]
      have m1 : v = 1 := m1.trans (if_pos hr)
      rw [e, m1]
      refine zw.ifn (by decide) ?_
      refine zw.ga m2.2.2.2.2 rfl ?_
      obtain ⟨fs, hfs⟩ := m2.2.2.2.1.is
      refine zw.is hfs ?_
      refine zw.cbe (s_AL_size m2.2.2.2.1) ?_
      refine zw.is m2.2.2.2.2 ?_
      refine zw.cb (s_writeAt (lv := 0) hnb hF (Nat.le_refl _) m2 m4 hr) ?_
      rintro _ h4 ⟨w1, w2⟩
      rw [List.take_length, List.drop_length] at w1
      exact zw.ret ⟨rfl, w1, ⟨⟨l3, m3.keep (w2.2 12 (by decide) (by decide)) (w2.2 13 (by decide) (by decide))⟩, ⟨l2, HQ3.keep (w2.2 14 (by decide) (by decide)) (w2.2 15 (by decide) (by decide))⟩, ⟨_, _, m4.keep (w2.2 16 (by decide) (by decide)) (w2.2 17 (by decide) (by decide))⟩⟩, fx3.tr (w2.mono (by simp))⟩
    · have e : zz_apS T dr nb ms (R, rd, wr, mg, fl) = (false, R, rd, wr, mg, fl) := by
        unfold zz_apS
        rw [if_neg h0, if_neg hr]
      have m1 : v = 0 := m1.trans (if_neg hr)
      rw [e, m1]
      refine zw.ifp rfl ?_
      exact zw.ret ⟨rfl, m2, ⟨⟨l3, m3⟩, ⟨l2, HQ3⟩, ⟨_, _, m4⟩⟩, fx3⟩
end Flush
