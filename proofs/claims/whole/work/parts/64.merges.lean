-- merging, as numbers
def zz_nbs (S : List (Nat × Nat × Nat)) : Nat := (S.map (fun r => (zz_bl r.2.1).length)).sum
def zz_mset (dr : List Bool) (sel : Nat × Nat × Nat → Bool) (R : List (Nat × Nat × Nat)) : Nat := zz_an (zz_um (R.filter sel)) (zz_dn dr)
def zz_mgR (T : List (List Nat)) (dr : List Bool) (nb : Nat) (sel : Nat × Nat × Nat → Bool) (lv : Nat) (R : List (Nat × Nat × Nat)) : Option (List (Nat × Nat × Nat) × Nat) :=
  if zz_mset dr sel R = 0 then some (R.filter (fun r => !sel r), 0)
  else if zz_nd T (zz_mset dr sel R) ≤ (zz_free nb (zz_ub R)).length then some (R.takeWhile (fun r => !sel r) ++ (lv, zz_at nb (zz_ub R) (zz_nd T (zz_mset dr sel R)), zz_mset dr sel R) :: (R.dropWhile (fun r => !sel r)).filter (fun r => !sel r), zz_nd T (zz_mset dr sel R))
  else none
def zz_mgS (T : List (List Nat)) (dr : List Bool) (nb : Nat) (sel : Nat × Nat × Nat → Bool) (lv : Nat) (s : List (Nat × Nat × Nat) × Int32 × Int32 × Int32 × Int32) : Bool × List (Nat × Nat × Nat) × Int32 × Int32 × Int32 × Int32 :=
  match zz_mgR T dr nb sel lv s.1 with
  | none => (false, s.1, s.2.1 + nI (zz_nbs (s.1.filter sel)), s.2.2.1, s.2.2.2.1, s.2.2.2.2 + 1)
  | some (R', w) => (true, R', s.2.1 + nI (zz_nbs (s.1.filter sel)), s.2.2.1 + nI w, s.2.2.2.1 + 1, s.2.2.2.2)
def zz_fl (T : List (List Nat)) (dr : List Bool) (nb fan : Nat) : Nat → List (Nat × Nat × Nat) × Int32 × Int32 × Int32 × Int32 → List (Nat × Nat × Nat) × Int32 × Int32 × Int32 × Int32
  | 0, s => s
  | n + 1, s => match zz_ff fan s.1 with
    | none => s
    | some l => match zz_mgS T dr nb (zz_sel l l) (l + 1) s with
      | (false, s') => s'
      | (true, s') => zz_fl T dr nb fan n s'
def zXs (h : hh_H) (T : List (List Nat)) (dr : List Bool) (nb fan : Nat) (s : List (Nat × Nat × Nat) × Int32 × Int32 × Int32 × Int32) : Prop := zX h T dr nb fan s.1 s.2.1 s.2.2.1 s.2.2.2.1 s.2.2.2.2
def zY (h : hh_H) (nb : Nat) : Prop := (∃ l, zP h 12 13 800 l) ∧ (∃ l, zP h 14 15 800 l) ∧ ∃ o n, zB h 16 17 (16 * nb) o n
theorem zz_um_app {A : List (Nat × Nat × Nat)} {r : Nat × Nat × Nat} : zz_um (A ++ [r]) = zz_um A ||| r.2.2 := zz_seq (fun i => by
  rw [Nat.testBit_or, Bool.or_eq_true, zz_um_bit, zz_um_bit]
  constructor
  · rintro ⟨x, hx, hb⟩
    rcases List.mem_append.mp hx with hx | hx
    · exact Or.inl ⟨x, hx, hb⟩
    · rw [List.mem_singleton.mp hx] at hb
      exact Or.inr hb
  · rintro (⟨x, hx, hb⟩ | hb)
    · exact ⟨x, List.mem_append_left _ hx, hb⟩
    · exact ⟨r, by simp, hb⟩)
theorem zz_nbs_app {A : List (Nat × Nat × Nat)} {r : Nat × Nat × Nat} : zz_nbs (A ++ [r]) = zz_nbs A + (zz_bl r.2.1).length := by simp [zz_nbs]
/-- where the first of the chosen runs stands -/
def zz_fst (sel : Nat × Nat × Nat → Bool) (A : List (Nat × Nat × Nat)) (n : Nat) : Nat := if A.any sel = true then (A.takeWhile (fun r => !sel r)).length else n
theorem zz_tw_all {sel : Nat × Nat × Nat → Bool} {A : List (Nat × Nat × Nat)} (h : A.any sel = false) (B : List (Nat × Nat × Nat)) : (A ++ B).takeWhile (fun r => !sel r) = A ++ B.takeWhile (fun r => !sel r) := by
  rw [List.takeWhile_append_of_pos]
  intro a ha
  rw [List.any_eq_false] at h
  simpa using h a ha
theorem zz_tw_any {sel : Nat × Nat × Nat → Bool} : ∀ {A : List (Nat × Nat × Nat)}, A.any sel = true → ∀ (B : List (Nat × Nat × Nat)), (A ++ B).takeWhile (fun r => !sel r) = A.takeWhile (fun r => !sel r) ∧ (A.takeWhile (fun r => !sel r)).length < A.length
  | [], h, _ => by simp at h
  | a :: A, h, B => by
    cases hs : sel a
    · have h' : A.any sel = true := by simpa [hs] using h
      obtain ⟨h1, h2⟩ := zz_tw_any h' B
      simp [hs, h1]
      exact h2
    · simp [hs]
theorem zz_fst_end {sel : Nat × Nat × Nat → Bool} {R : List (Nat × Nat × Nat)} : zz_fst sel R R.length = (R.takeWhile (fun r => !sel r)).length := by
  unfold zz_fst
  split
  · rfl
  · rename_i h
    have h : R.any sel = false := by simpa using h
    have := zz_tw_all h []
    simp at this
    rw [this]
section Merges
variable {h : hh_H} {F nb fan : Nat} {T : List (List Nat)} {dr : List Bool} {R : List (Nat × Nat × Nat)} {rd wr mg fl : Int32}
theorem s_gather {Q : Int32 × hh_H → Prop} (hnb : nb ≤ 60) (hF : 5000 < F) {lo hi : Nat} (hlo : lo < 2 ^ 31) (hhi : hi < 2 ^ 31) (hlv : ∀ r ∈ R, r.1 < 2 ^ 30) (hM : R.Pairwise zz_djM) : ∀ (B : List (Nat × Nat × Nat)) (n : Nat) (A : List (Nat × Nat × Nat)) (h1 : hh_H), R = A ++ B → B.length < n → zX h1 T dr nb fan R (rd + nI (zz_nbs (A.filter (zz_sel lo hi)))) wr mg fl → zP h1 12 13 800 (zz_posts T (zz_um (A.filter (zz_sel lo hi)))) → (∃ l, zP h1 14 15 800 l) → (∃ o n, zB h1 16 17 (16 * nb) o n) →
    (∀ h2, zX h2 T dr nb fan R (rd + nI (zz_nbs (R.filter (zz_sel lo hi)))) wr mg fl → zP h2 12 13 800 (zz_posts T (zz_um (R.filter (zz_sel lo hi)))) → (∃ l, zP h2 14 15 800 l) → (∃ o n, zB h2 16 17 (16 * nb) o n) → zz_fr [10, 12, 13, 14, 15, 16, 17] h1 h2 → zw (f_RunRow_mergeLevels_84 F 10 (nI lo) (nI hi) (nI (R.takeWhile (fun r => !zz_sel lo hi r)).length) h2) Q) →
    zw (hp_it (fun _ _ _ _ _ _ => none) (f_RunRow_mergeLevels_18 F) n 10 (nI lo) (nI hi) (nI (zz_fst (zz_sel lo hi) A R.length)) (nI A.length) h1) Q := by
  intro B
  induction B with
  | nil =>
    intro n A h1 hAB hn H HP HQ HB kk
    obtain ⟨n, rfl⟩ : ∃ m, n = m + 1 := ⟨n - 1, by omega⟩
    have hlen := H.len hnb
    rw [List.append_nil] at hAB
    subst hAB
    rw [hp_it_s, f_RunRow_mergeLevels_18]
    refine zw.ga H.2.2.2.2 rfl ?_
    obtain ⟨fs, hfs⟩ := H.2.2.2.1.is
    refine zw.is hfs ?_
    refine zw.cbe (s_AL_size H.2.2.2.1) ?_
    refine zw.ifp (nI_le (Nat.le_refl _) (by omega)) ?_
    rw [zz_fst_end]
    exact kk h1 H HP HQ HB (zz_fr.rf _ _)
  | cons r B ih =>
    intro n A h1 hAB hn H HP HQ HB kk
    obtain ⟨n, rfl⟩ : ∃ m, n = m + 1 := ⟨n - 1, by omega⟩
    have hlen := H.len hnb
    have hlR : R.length = A.length + B.length + 1 := by simp [hAB]; omega
    have hrR : r ∈ R := by rw [hAB]; simp
    obtain ⟨p, hg, hp⟩ := s_AL_get (F := F) H.2.2.2.1 (by omega) (i := A.length) (r := r) (by rw [hAB]; simp)
    have hp' := hp
    obtain ⟨hp38, q, hq38, hc, hd⟩ := hp'
    rw [hp_it_s, f_RunRow_mergeLevels_18]
    refine zw.ga H.2.2.2.2 rfl ?_
    obtain ⟨fs, hfs⟩ := H.2.2.2.1.is
    refine zw.is hfs ?_
    refine zw.cbe (s_AL_size H.2.2.2.1) ?_
    refine zw.ifn (nI_ge (by omega) (by omega)) ?_
    refine zw.ga H.2.2.2.2 rfl ?_
    refine zw.is hfs ?_
    refine zw.cbe hg ?_
    refine zw.is hc ?_
    refine zw.is hc ?_
    refine zw.cbe (s_between hp (hlv r hrR) hlo hhi) ?_
    have e1 : nI A.length + 1 = nI (A ++ [r]).length := by rw [nI_1]; simp
    cases hs : zz_sel lo hi r
    · refine zw.ifp rfl ?_
      rw [e1]
      have e2 : (A ++ [r]).filter (zz_sel lo hi) = A.filter (zz_sel lo hi) := by simp [hs]
      have e3 : zz_fst (zz_sel lo hi) (A ++ [r]) R.length = zz_fst (zz_sel lo hi) A R.length := by
        unfold zz_fst
        cases ha : A.any (zz_sel lo hi)
        · simp [ha, hs]
        · have : (A ++ [r]).any (zz_sel lo hi) = true := by simp [ha]
          rw [if_pos this, if_pos rfl, (zz_tw_any ha [r]).1]
      rw [← e3]
      exact ih n (A ++ [r]) h1 (by simp [hAB]) (by simp at hn; omega) (by rw [e2]; exact H) (by rw [e2]; exact HP) HQ HB kk
    · refine zw.ifn (by decide) ?_
      refine zw.is H.2.2.2.2 ?_
      obtain ⟨l0, HQ⟩ := HQ
      obtain ⟨o0, n0, HB⟩ := HB
      refine zw.cb (s_readPart hnb hF hrR H hp HQ HB) ?_
      rintro _ h3 ⟨g1, g2, g3, g4⟩
      have HP3 := HP.fr g4 (by decide) (by decide)
      refine zw.ga g1.2.2.2.2 rfl ?_
      refine zw.ga g1.2.2.2.2 rfl ?_
      refine zw.is HP3.1 ?_
      have hdj : ∀ i, ¬ ((zz_um (A.filter (zz_sel lo hi))).testBit i = true ∧ r.2.2.testBit i = true) := by
        rintro i ⟨q1, q2⟩
        obtain ⟨x, hx, hb⟩ := zz_um_bit.mp q1
        rw [hAB] at hM
        exact (List.pairwise_append.mp hM).2.2 x (List.mem_filter.mp hx).1 r List.mem_cons_self i ⟨hb, q2⟩
      refine zw.cb (s_mergeIn (by decide) (by decide) (by decide) HP3 g2 (by decide) (by decide) (by omega) (zz_posts_or_len hdj) (zz_posts_up _ _) (zz_posts_up _ _) (zz_posts_dj hdj) (fun y hy => by have := zz_posts_lt hy; omega) (fun y hy => by have := zz_posts_lt hy; omega)) ?_
      rintro _ h5 ⟨l', k1, k2, k3, -, k4, k5⟩
      have e2 : (A ++ [r]).filter (zz_sel lo hi) = A.filter (zz_sel lo hi) ++ [r] := by simp [hs]
      have e4 : l' = zz_posts T (zz_um ((A ++ [r]).filter (zz_sel lo hi))) := by
        rw [e2, zz_um_app]
        exact zz_ext k2 (zz_posts_up _ _) (fun x => by rw [zz_posts_or]; exact k3 x)
      subst e4
      have e3 : (if nI A.length < nI (zz_fst (zz_sel lo hi) A R.length) then nI A.length else nI (zz_fst (zz_sel lo hi) A R.length)) = nI (zz_fst (zz_sel lo hi) (A ++ [r]) R.length) := by
        have hany : (A ++ [r]).any (zz_sel lo hi) = true := by simp [hs]
        unfold zz_fst
        rw [if_pos hany]
        cases ha : A.any (zz_sel lo hi)
        · rw [zz_tw_all ha]
          simp [hs]
          intro q
          exact absurd q (fun q => nI_ge (a := A.length) (b := R.length) (by omega) (by omega) (by simpa using q))
        · obtain ⟨t1, t2⟩ := zz_tw_any ha [r]
          rw [t1, if_pos rfl, if_neg (nI_nlt (by omega) (by omega))]
      rw [e1, e3]
      have X5 := g1.fr k4 (by decide)
      have e5 : rd + nI (zz_nbs (A.filter (zz_sel lo hi))) + nI (zz_bl r.2.1).length = rd + nI (zz_nbs ((A ++ [r]).filter (zz_sel lo hi))) := by
        rw [e2, zz_nbs_app, ← nI_add, Int32.add_assoc]
      rw [e5] at X5
      refine ih n (A ++ [r]) h5 (by simp [hAB]) (by simp at hn; omega) X5 k1 ⟨_, g2.fr k4 (by decide) (by decide)⟩ ?_ ?_
      · obtain ⟨o, n, hB⟩ := g3
        exact ⟨o, n, hB.fr k4 (by decide) (by decide)⟩
      · intro h6 a1 a2 a3 a4 a5
        exact kk h6 a1 a2 a3 a4 (((g4.mono (by simp)).tr (k4.mono (by simp))).tr a5)
theorem zz_filter_ins {sel : Nat × Nat × Nat → Bool} {R : List (Nat × Nat × Nat)} {x : Nat × Nat × Nat} (hx : sel x = false) : (R.take (R.takeWhile (fun r => !sel r)).length ++ x :: R.drop (R.takeWhile (fun r => !sel r)).length).filter (fun r => !sel r) = R.takeWhile (fun r => !sel r) ++ x :: (R.dropWhile (fun r => !sel r)).filter (fun r => !sel r) := by
  have e := List.takeWhile_append_dropWhile (p := fun r => !sel r) (l := R)
  have e1 : R.take (R.takeWhile (fun r => !sel r)).length = R.takeWhile (fun r => !sel r) := by
    conv => lhs; arg 2; rw [← e]
    rw [List.take_left]
  have e2 : R.drop (R.takeWhile (fun r => !sel r)).length = R.dropWhile (fun r => !sel r) := by
    conv => lhs; arg 2; rw [← e]
    rw [List.drop_left]
  rw [e1, e2, List.filter_append, List.filter_cons, hx]
  simp only [Bool.not_false, if_true]
  congr 1
  rw [List.filter_eq_self]
  intro a ha
  exact List.all_eq_true.mp List.all_takeWhile a ha
theorem zz_tw_le {sel : Nat × Nat × Nat → Bool} {R : List (Nat × Nat × Nat)} : (R.takeWhile (fun r => !sel r)).length ≤ R.length := (List.takeWhile_sublist _).length_le
theorem s_mergeLevels (hnb : nb ≤ 60) (hF : 5000 < F) {lo hi wt : Nat} (hlo : lo < 2 ^ 29) (hhi : hi < 2 ^ 29) (hlv : ∀ r ∈ R, r.1 < 2 ^ 29) (hM : zz_okM wt T R) (hwt : wt ≤ T.length) (hT : T.length ≤ 40) (hdr : dr.length = T.length) (hw : ∀ t ∈ T, t.length ≤ 20 ∧ ∀ w ∈ t, w < 100) (H : zX h T dr nb fan R rd wr mg fl) (HY : zY h nb) :
    zw (f_RunRow_mergeLevels F 10 (nI lo) (nI hi) h) (fun x => x.1 = (if (zz_mgS T dr nb (zz_sel lo hi) (hi + 1) (R, rd, wr, mg, fl)).1 = true then 1 else 0) ∧ zXs x.2 T dr nb fan (zz_mgS T dr nb (zz_sel lo hi) (hi + 1) (R, rd, wr, mg, fl)).2 ∧ zY x.2 nb ∧ zz_fx [7, 8, 9, 10, 11, 12, 13, 14, 15, 16, 17] h x.2) := by
  obtain ⟨⟨l1, HP⟩, HQ, HB⟩ := HY
  have hl := H.1
  unfold f_RunRow_mergeLevels
  refine zw.ga H.2.2.2.2 rfl ?_
  refine zw.is HP.1 ?_
  refine zw.cb (s_Postings_clear (by decide) HP) ?_
  rintro _ h1 ⟨g1, g2, g3⟩
  have X1 := H.fr g2 (by decide)
  refine zw.ga X1.2.2.2.2 rfl ?_
  obtain ⟨fs, hfs⟩ := X1.2.2.2.1.is
  refine zw.is hfs ?_
  refine zw.cbe (s_AL_size X1.2.2.2.1) ?_
  unfold l_RunRow_mergeLevels_18
  have hlen := H.len hnb
  have hp0 : zz_posts T 0 = [] := by
    rw [zz_posts_nil]
    intro d w _ _ h
    simp at h
  have hr0 : rd + nI (zz_nbs ([].filter (zz_sel lo hi))) = rd := by
    show rd + 0 = rd
    exact Int32.add_zero rd
  have hf0 : zz_fst (zz_sel lo hi) [] R.length = R.length := rfl
  have hgo := s_gather (F := F) (T := T) (dr := dr) (fan := fan) (R := R) (rd := rd) (wr := wr) (mg := mg) (fl := fl) hnb hF (lo := lo) (hi := hi) (by omega) (by omega) (fun r hr => by have := hlv r hr; omega) hM.2 R F [] h1 rfl (by omega) (by rw [hr0]; exact X1) (by show zP h1 12 13 800 (zz_posts T 0); rw [hp0]; exact g1) (by
      obtain ⟨l, hq⟩ := HQ
      exact ⟨l, hq.fr g2 (by decide) (by decide)⟩) (by
      obtain ⟨o, n, hq⟩ := HB
      exact ⟨o, n, hq.fr g2 (by decide) (by decide)⟩)
      (Q := fun x => x.1 = (if (zz_mgS T dr nb (zz_sel lo hi) (hi + 1) (R, rd, wr, mg, fl)).1 = true then 1 else 0) ∧ zXs x.2 T dr nb fan (zz_mgS T dr nb (zz_sel lo hi) (hi + 1) (R, rd, wr, mg, fl)).2 ∧ zY x.2 nb ∧ zz_fx [7, 8, 9, 10, 11, 12, 13, 14, 15, 16, 17] h x.2)
  rw [hf0] at hgo
  refine hgo ?_
  intro h2 X2 HP2 HQ2 HB2 f2
  obtain ⟨o2, n2, HB2⟩ := HB2
  obtain ⟨l2, HQ2⟩ := HQ2
  have fx2 : zz_fx [7, 8, 9, 10, 11, 12, 13, 14, 15, 16, 17] h h2 := ((g2.fx hl).mono (by simp)).tr ((f2.fx X1.1).mono (by simp))
  rw [f_RunRow_mergeLevels_84]
  refine zw.is X2.2.2.2.2 ?_
  have hmem : ∀ d, (zz_um (R.filter (zz_sel lo hi))).testBit d = true → d < T.length ∧ zz_tx T d ≠ [] := by
    intro d hd
    obtain ⟨r, hr, hb⟩ := zz_um_bit.mp hd
    have := (hM.1 r (List.mem_filter.mp hr).1).2 d hb
    exact ⟨by omega, this.2⟩
  refine zw.cb (s_fits hnb hF (fun d hd => by rw [hdr]; exact (hmem d hd).1) X2 HP2 HB2) ?_
  rintro v h3 ⟨k1, k2, ⟨l3, k3⟩, k4, k5⟩
  have k1 : v = _ := k1
  have HQ3 := HQ2.fr k5 (by decide) (by decide)
  have fx3 := fx2.tr ((k5.fx X2.1).mono (W := [12, 13, 16, 17]) (by simp))
  have hset : zz_an (zz_um (R.filter (zz_sel lo hi))) (zz_dn dr) = zz_mset dr (zz_sel lo hi) R := rfl
  rw [hset] at k1 k4
  by_cases h0 : zz_mset dr (zz_sel lo hi) R = 0
  · rw [h0, zz_bytes_0] at k1 k4
    have e : zz_mgS T dr nb (zz_sel lo hi) (hi + 1) (R, rd, wr, mg, fl) = (true, R.filter (fun r => !zz_sel lo hi r), rd + nI (zz_nbs (R.filter (zz_sel lo hi))), wr + nI 0, mg + 1, fl) := by
      unfold zz_mgS zz_mgR
      rw [if_pos h0]
    rw [e]
    have k1 : v = 1 := k1.trans (if_pos (Nat.zero_le _))
    rw [k1]
    refine zw.ifn (by decide) ?_
    refine zw.is k2.2.2.2.2 ?_
    refine zw.cbe (s_writeNo k2 k4) ?_
    refine zw.is k2.2.2.2.2 ?_
    refine zw.cb (s_removeLevels hnb hF (by omega) (by omega) (fun r hr => by have := hlv r hr; omega) k2) ?_
    rintro _ h4 ⟨m1, m2⟩
    refine zw.gi m1.2.2.2.2 rfl ?_
    refine zw.pi m1.2.2.2.2 (Nat.le_of_ble_eq_true rfl) fun h5 s5 => ?_
    have f5 : zz_fr [10] h4 h5 := s5.fr (by simp)
    have fx5 := (f5.fx m1.1)
    refine zw.ret ⟨rfl, ?_, ⟨⟨l3, ?_⟩, ⟨l2, ?_⟩, ⟨[], 0, ?_⟩⟩, fx3.tr ((m2.mono (by simp)).tr (fx5.mono (by simp)))⟩
    · show zX h5 T dr nb fan _ _ (wr + 0) (mg + 1) fl
      rw [Int32.add_zero]
      exact ⟨by rw [s5.2.2]; exact m1.1, m1.2.1.fr f5 (by decide) (by decide), m1.2.2.1.fr f5 (by decide) (by decide) (by decide), m1.2.2.2.1.fr f5 (by decide), s5.1⟩
    · exact (k3.keep (m2.2 12 (by decide) (by decide)) (m2.2 13 (by decide) (by decide))).fr f5 (by decide) (by decide)
    · exact (HQ3.keep (m2.2 14 (by decide) (by decide)) (m2.2 15 (by decide) (by decide))).fr f5 (by decide) (by decide)
    · exact (k4.keep (m2.2 16 (by decide) (by decide)) (m2.2 17 (by decide) (by decide))).fr f5 (by decide) (by decide)
  · have hb := zz_bytes_ne (T := T) (ms := zz_mset dr (zz_sel lo hi) R) hw hT (fun d hd => hmem d (by
      unfold zz_mset at hd
      rw [zz_an_bit, Bool.and_eq_true] at hd
      exact hd.1)) h0
    rw [hb] at k1 k4
    have e0 : ((zz_enc T (zz_mset dr (zz_sel lo hi) R)).length + 15) / 16 = zz_nd T (zz_mset dr (zz_sel lo hi) R) := rfl
    rw [e0] at k1
    by_cases hr : zz_nd T (zz_mset dr (zz_sel lo hi) R) ≤ (zz_free nb (zz_ub R)).length
    · have e : zz_mgS T dr nb (zz_sel lo hi) (hi + 1) (R, rd, wr, mg, fl) = (true, R.takeWhile (fun r => !zz_sel lo hi r) ++ (hi + 1, zz_at nb (zz_ub R) (zz_nd T (zz_mset dr (zz_sel lo hi) R)), zz_mset dr (zz_sel lo hi) R) :: (R.dropWhile (fun r => !zz_sel lo hi r)).filter (fun r => !zz_sel lo hi r), rd + nI (zz_nbs (R.filter (zz_sel lo hi))), wr + nI (zz_nd T (zz_mset dr (zz_sel lo hi) R)), mg + 1, fl) := by
        unfold zz_mgS zz_mgR
        rw [if_neg h0, if_pos hr]
      rw [e]
      have k1 : v = 1 := k1.trans (if_pos hr)
      rw [k1]
      refine zw.ifn (by decide) ?_
      refine zw.is k2.2.2.2.2 ?_
      rw [nI_1]
      refine zw.cb (s_writeAt hnb hF zz_tw_le k2 k4 hr) ?_
      rintro _ h4 ⟨w1, w2⟩
      refine zw.is w1.2.2.2.2 ?_
      refine zw.cb (s_removeLevels hnb hF (by omega) (by omega) (fun r hr2 => by
        rcases List.mem_cons.mp (zz_mem_mid.mpr hr2) with rfl | hr2
        · show hi + 1 < 2 ^ 30
          omega
        · rw [List.take_append_drop] at hr2
          have := hlv r hr2
          omega) w1) ?_
      rintro _ h5 ⟨m1, m2⟩
      rw [zz_filter_ins (by simp [zz_sel])] at m1
      refine zw.gi m1.2.2.2.2 rfl ?_
      refine zw.pi m1.2.2.2.2 (Nat.le_of_ble_eq_true rfl) fun h6 s6 => ?_
      have f6 : zz_fr [10] h5 h6 := s6.fr (by simp)
      have fx6 := (f6.fx m1.1)
      refine zw.ret ⟨rfl, ?_, ⟨⟨l3, ?_⟩, ⟨l2, ?_⟩, ⟨zz_enc T (zz_mset dr (zz_sel lo hi) R), 0, ?_⟩⟩, fx3.tr ((w2.mono (by simp)).tr ((m2.mono (by simp)).tr (fx6.mono (by simp))))⟩
      · exact ⟨by rw [s6.2.2]; exact m1.1, m1.2.1.fr f6 (by decide) (by decide), m1.2.2.1.fr f6 (by decide) (by decide) (by decide), m1.2.2.2.1.fr f6 (by decide), s6.1⟩
      · exact ((k3.keep (w2.2 12 (by decide) (by decide)) (w2.2 13 (by decide) (by decide))).keep (m2.2 12 (by decide) (by decide)) (m2.2 13 (by decide) (by decide))).fr f6 (by decide) (by decide)
      · exact ((HQ3.keep (w2.2 14 (by decide) (by decide)) (w2.2 15 (by decide) (by decide))).keep (m2.2 14 (by decide) (by decide)) (m2.2 15 (by decide) (by decide))).fr f6 (by decide) (by decide)
      · exact ((k4.keep (w2.2 16 (by decide) (by decide)) (w2.2 17 (by decide) (by decide))).keep (m2.2 16 (by decide) (by decide)) (m2.2 17 (by decide) (by decide))).fr f6 (by decide) (by decide)
    · have e : zz_mgS T dr nb (zz_sel lo hi) (hi + 1) (R, rd, wr, mg, fl) = (false, R, rd + nI (zz_nbs (R.filter (zz_sel lo hi))), wr, mg, fl + 1) := by
        unfold zz_mgS zz_mgR
        rw [if_neg h0, if_neg hr]
      rw [e]
      have k1 : v = 0 := k1.trans (if_neg hr)
      rw [k1]
      refine zw.ifp rfl ?_
      refine zw.gi k2.2.2.2.2 rfl ?_
      refine zw.pi k2.2.2.2.2 (Nat.le_of_ble_eq_true rfl) fun h4 s4 => ?_
      have f4 : zz_fr [10] h3 h4 := s4.fr (by simp)
      refine zw.ret ⟨rfl, ⟨by rw [s4.2.2]; exact k2.1, k2.2.1.fr f4 (by decide) (by decide), k2.2.2.1.fr f4 (by decide) (by decide) (by decide), k2.2.2.2.1.fr f4 (by decide), s4.1⟩, ⟨⟨l3, k3.fr f4 (by decide) (by decide)⟩, ⟨l2, HQ3.fr f4 (by decide) (by decide)⟩, ⟨_, 0, k4.fr f4 (by decide) (by decide)⟩⟩, fx3.tr ((f4.fx k2.1).mono (by simp))⟩
end Merges
