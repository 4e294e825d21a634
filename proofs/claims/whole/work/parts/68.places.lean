-- Places at a, its bits at b
def zQ (h : hh_H) (a b w : Nat) (g : Nat → Nat) : Prop := h[a]? = some (.inr (4, [.inr (.inl (some b)), .inl (nI w)])) ∧ h[b]? = some (.inl (0, .inl (zz_row 40 (fun d => nI (g d)))))
def zQ0 (h : hh_H) (a b : Nat) : Prop := (∃ x, h[a]? = some (.inr (4, [.inr (.inl (some b)), .inl x]))) ∧ ∃ f, h[b]? = some (.inl (0, .inl (zz_row 40 f)))
section Places
variable {h : hh_H} {F a b w nb fan : Nat} {g : Nat → Nat} {T : List (List Nat)} {dr : List Bool} {R : List (Nat × Nat × Nat)} {rd wr mg fl : Int32}
theorem zQ.fr {W : List Nat} {h' : hh_H} (H : zQ h a b w g) (f : zz_fr W h h') (ha : a ∉ W) (hb : b ∉ W) : zQ h' a b w g := ⟨f.at H.1 ha, f.at H.2 hb⟩
theorem zQ0.fr {W : List Nat} {h' : hh_H} (H : zQ0 h a b) (f : zz_fr W h h') (ha : a ∉ W) (hb : b ∉ W) : zQ0 h' a b := by
  obtain ⟨⟨x, h1⟩, ⟨y, h2⟩⟩ := H
  exact ⟨⟨x, f.at h1 ha⟩, ⟨y, f.at h2 hb⟩⟩
theorem zQ0.keep {h' : hh_H} (H : zQ0 h a b) (ha : h'[a]? = h[a]?) (hb : h'[b]? = h[b]?) : zQ0 h' a b := by
  obtain ⟨⟨x, h1⟩, ⟨y, h2⟩⟩ := H
  exact ⟨⟨x, ha.trans h1⟩, ⟨y, hb.trans h2⟩⟩
theorem zQ.q0 (H : zQ h a b w g) : zQ0 h a b := ⟨⟨_, H.1⟩, ⟨_, H.2⟩⟩
theorem s_fill_loop : ∀ (k n i : Nat) (f : Nat → Int32) (h1 : hh_H), i + k = 40 → k < n → h1[b]? = some (.inl (0, .inl (zz_row 40 f))) →
    zw (hp_it (fun _ _ _ _ _ => none) (f_Arrays_fill_5 F) n b 0 (nI i) (nI 40) h1) (fun x => (∃ f2 : Nat → Int32, (∀ j, i ≤ j → j < 40 → f2 j = 0) ∧ (∀ j, j < i → f2 j = f j) ∧ x.2[b]? = some (.inl (0, .inl (zz_row 40 f2)))) ∧ zz_fr [b] h1 x.2 ∧ x.2.length = h1.length) := by
  intro k
  induction k with
  | zero =>
    intro n i f h1 hi hn hc
    obtain ⟨n, rfl⟩ : ∃ m, n = m + 1 := ⟨n - 1, by omega⟩
    rw [hp_it_s, f_Arrays_fill_5]
    refine zw.ifp (nI_le (by omega) (by omega)) ?_
    exact zw.ret ⟨⟨f, fun j h1 h2 => by omega, fun j _ => rfl, hc⟩, zz_fr.rf _ _, rfl⟩
  | succ k ih =>
    intro n i f h1 hi hn hc
    obtain ⟨n, rfl⟩ : ∃ m, n = m + 1 := ⟨n - 1, by omega⟩
    rw [hp_it_s, f_Arrays_fill_5]
    refine zw.ifn (nI_ge (by omega) (by omega)) ?_
    refine zw.si hc i rfl (by rw [zz_row_len']; omega) (by omega) fun h2 s2 => ?_
    rw [nI_1]
    have c2 := s2.1
    rw [zz_row_set] at c2
    refine (ih n (i + 1) _ h2 (by omega) (by omega) c2).mono ?_
    rintro x ⟨⟨f2, q1, q2, q3⟩, q4, q5⟩
    refine ⟨⟨f2, fun j h1 h2 => ?_, fun j hj => ?_, q3⟩, (s2.fr (by simp)).tr q4, by rw [q5, s2.2.2]⟩
    · by_cases hj : j = i
      · rw [q2 j (by omega), if_pos hj]
      · exact q1 j (by omega) h2
    · rw [q2 j (by omega), if_neg (by omega)]
theorem s_Places_begin (hab : a ≠ b) (hF : 5000 < F) (H : zQ0 h a b) : zw (f_Places_begin F a (nI w) h) (fun x => zQ x.2 a b w (fun _ => 0) ∧ zz_fr [a, b] h x.2 ∧ x.2.length = h.length) := by
  obtain ⟨⟨x, h1⟩, ⟨f, h2⟩⟩ := H
  unfold f_Places_begin
  refine zw.pi h1 (Nat.le_of_ble_eq_true rfl) fun h3 s3 => ?_
  refine zw.ga s3.1 rfl ?_
  have c2 := s3.at h2 (Ne.symm hab)
  unfold f_Arrays_fill l_Arrays_fill_5
  have main : zw ((hp_len h3 b).bind fun v4 => hp_it (fun _ _ _ _ _ => none) (f_Arrays_fill_5 F) F b 0 0 v4 h3) (fun x => zQ x.2 a b w (fun _ => 0) ∧ zz_fr [a, b] h x.2 ∧ x.2.length = h.length) := by
    refine zw.len c2 (by decide) ?_
    rw [zz_row_len']
    refine (s_fill_loop (F := F) 40 F 0 f h3 (by omega) (by omega) c2).mono ?_
    rintro x ⟨⟨f2, q1, q2, q3⟩, q4, q5⟩
    refine ⟨⟨q4.at s3.1 (by simp [hab]), ?_⟩, (s3.fr (by simp)).tr (q4.mono (by simp)), by rw [q5, s3.2.2]⟩
    rw [q3]
    congr 4
    exact zz_row_eq (fun k hk => by rw [q1 k (Nat.zero_le _) hk]; rfl)
  refine zw.cb main ?_
  rintro q h4 hq
  exact zw.ret hq
theorem zz_sh1 : ∀ p, p < 32 → (1 : Int32) <<< (nI p &&& 31) = nI (2 ^ p) := by decide +kernel
/-- the bit p of document d that the postings l give -/
def zz_kb (dr : List Bool) (w : Nat) (l : List Nat) (d p : Nat) : Prop := ∃ k ∈ l, k / 800 = w ∧ k / 20 % 40 = d ∧ k % 20 = p ∧ dr[d]? = some false
theorem s_take_loopP {p pk cap : Nat} {l : List Nat} (hb : a ≠ b) (hpb : p ≠ b) (hkb : pk ≠ b) (h3b : 3 ≠ b) (h4b : 4 ≠ b) (hcap : cap < 2 ^ 30) (hw : w < 2 ^ 31) (hl : ∀ y ∈ l, y < 2 ^ 31) : ∀ (B : List Nat) (n : Nat) (A : List Nat) (g : Nat → Nat) (h1 : hh_H), l = A ++ B → B.length < n → zP h1 p pk cap l → zD h1 3 4 dr → zQ h1 a b w g → (∀ d, g d < 2 ^ 20) →
    zw (hp_it (fun _ _ _ _ _ => none) (f_Places_take_2 F) n a p 3 (nI A.length) h1) (fun x => ∃ g' : Nat → Nat, zQ x.2 a b w g' ∧ (∀ d, g' d < 2 ^ 20) ∧ (∀ d, d < 40 → ∀ q, (g' d).testBit q = true ↔ (g d).testBit q = true ∨ zz_kb dr w B d q) ∧ zz_fr [b] h1 x.2 ∧ x.2.length = h1.length) := by
  intro B
  induction B with
  | nil =>
    intro n A g h1 hAB hn HP HD HQ hg
    obtain ⟨n, rfl⟩ : ∃ m, n = m + 1 := ⟨n - 1, by omega⟩
    obtain ⟨_, js, _, hjs⟩ := id HP
    rw [hp_it_s, f_Places_take_2]
    refine zw.is HP.1 ?_
    refine zw.cbe (s_Postings_size HP) ?_
    refine zw.ifp (nI_le (by simp [hAB]) (by simp [hAB] at hjs; omega)) ?_
    refine zw.ret ⟨g, HQ, hg, fun d _ q => ⟨Or.inl, fun h => ?_⟩, zz_fr.rf _ _, rfl⟩
    rcases h with h | ⟨k, hk, _⟩
    · exact h
    · cases hk
  | cons k B ih =>
    intro n A g h1 hAB hn HP HD HQ hg
    obtain ⟨n, rfl⟩ : ∃ m, n = m + 1 := ⟨n - 1, by omega⟩
    obtain ⟨_, js, _, hjs⟩ := id HP
    have hll : l.length = A.length + B.length + 1 := by simp [hAB]; omega
    have hk : k < 2 ^ 31 := hl k (by rw [hAB]; simp)
    have hget : l[A.length]'(by omega) = k := by
      have : l[A.length]? = some k := by rw [hAB]; simp
      rw [List.getElem?_eq_getElem (by omega)] at this
      exact Option.some.inj this
    rw [hp_it_s, f_Places_take_2]
    refine zw.is HP.1 ?_
    refine zw.cbe (s_Postings_size HP) ?_
    refine zw.ifn (nI_ge (by omega) (by omega)) ?_
    refine zw.is HP.1 ?_
    refine zw.cbe (s_keyAt HP (by omega) (by omega)) ?_
    rw [hget]
    refine zw.cbe (s_documentOf hk) ?_
    refine zw.cbe (s_wordOf hk) ?_
    refine zw.gi HQ.1 rfl ?_
    have e1 : nI A.length + 1 = nI (A ++ [k]).length := by rw [nI_1]; simp
    rw [e1]
    have skip : (∀ d q, ¬ (k / 800 = w ∧ k / 20 % 40 = d ∧ k % 20 = q ∧ dr[d]? = some false)) → zw (hp_it (fun _ _ _ _ _ => none) (f_Places_take_2 F) n a p 3 (nI (A ++ [k]).length) h1) (fun x => ∃ g' : Nat → Nat, zQ x.2 a b w g' ∧ (∀ d, g' d < 2 ^ 20) ∧ (∀ d, d < 40 → ∀ q, (g' d).testBit q = true ↔ (g d).testBit q = true ∨ zz_kb dr w (k :: B) d q) ∧ zz_fr [b] h1 x.2 ∧ x.2.length = h1.length) := by
      intro hno
      refine (ih n (A ++ [k]) g h1 (by simp [hAB]) (by simp at hn; omega) HP HD HQ hg).mono ?_
      rintro x ⟨g', q1, q2, q3, q4⟩
      refine ⟨g', q1, q2, fun d hd q => ?_, q4⟩
      rw [q3 d hd q]
      constructor
      · rintro (h | ⟨j, hj, hh⟩)
        · exact Or.inl h
        · exact Or.inr ⟨j, List.mem_cons_of_mem _ hj, hh⟩
      · rintro (h | ⟨j, hj, hh⟩)
        · exact Or.inl h
        · rcases List.mem_cons.mp hj with rfl | hj
          · exact absurd hh (hno d q)
          · exact Or.inr ⟨j, hj, hh⟩
    by_cases hwk : k / 800 = w
    · refine zw.ifp (by rw [hwk]) ?_
      refine zw.is HD.2.1 ?_
      refine zw.cbe (s_Documents_isLive HD _ (by omega)) ?_
      by_cases hlv : dr[k / 20 % 40]? = some false
      · rw [if_pos hlv]
        refine zw.ifn (by decide) ?_
        refine zw.ga HQ.1 rfl ?_
        refine zw.ai HQ.2 (k / 20 % 40) rfl (by omega) (zz_row_get (by omega)) ?_
        refine zw.cbe (s_placeOf hk) ?_
        rw [zz_sh1 _ (by omega), zz_nor]
        refine zw.si HQ.2 (k / 20 % 40) rfl (by rw [zz_row_len']; omega) (by omega) fun h2 s2 => ?_
        have f2 : zz_fr [b] h1 h2 := s2.fr (by simp)
        have HQ2 : zQ h2 a b w (fun d => if d = k / 20 % 40 then g (k / 20 % 40) ||| 2 ^ (k % 20) else g d) := by
          refine ⟨s2.at HQ.1 hb, s2.1.trans ?_⟩
          rw [zz_row_set]
          congr 4
          refine zz_row_eq (fun j _ => ?_)
          show (if j = k / 20 % 40 then _ else _) = nI (if j = k / 20 % 40 then _ else _)
          split <;> rfl
        have hg2 : ∀ d, (if d = k / 20 % 40 then g (k / 20 % 40) ||| 2 ^ (k % 20) else g d) < 2 ^ 20 := by
          intro d
          split
          · exact Nat.or_lt_two_pow (hg _) (Nat.pow_lt_pow_right (by decide) (Nat.mod_lt _ (by decide)))
          · exact hg d
        refine (ih n (A ++ [k]) _ h2 (by simp [hAB]) (by simp at hn; omega) (HP.fr f2 (by simp [hpb]) (by simp [hkb])) (HD.fr f2 (by simp; omega) (by simp; omega)) HQ2 hg2).mono ?_
        rintro x ⟨g', q1, q2, q3, q4, q5⟩
        refine ⟨g', q1, q2, fun d hd q => ?_, f2.tr q4, by rw [q5, s2.2.2]⟩
        rw [q3 d hd q]
        have hbit : (if d = k / 20 % 40 then g (k / 20 % 40) ||| 2 ^ (k % 20) else g d).testBit q = true ↔ (g d).testBit q = true ∨ (k / 20 % 40 = d ∧ k % 20 = q) := by
          by_cases hd2 : d = k / 20 % 40
          · rw [if_pos hd2, Nat.testBit_or, Nat.testBit_two_pow, Bool.or_eq_true]
            subst hd2
            simp
          · rw [if_neg hd2]
            constructor
            · exact Or.inl
            · rintro (h | h)
              · exact h
              · exact absurd h.1.symm hd2
        rw [hbit]
        constructor
        · rintro ((h | h) | ⟨j, hj, hh⟩)
          · exact Or.inl h
          · exact Or.inr ⟨k, List.mem_cons_self, hwk, h.1, h.2, by rw [← h.1]; exact hlv⟩
          · exact Or.inr ⟨j, List.mem_cons_of_mem _ hj, hh⟩
        · rintro (h | ⟨j, hj, hh⟩)
          · exact Or.inl (Or.inl h)
          · rcases List.mem_cons.mp hj with rfl | hj
            · exact Or.inl (Or.inr ⟨hh.2.1, hh.2.2.1⟩)
            · exact Or.inr ⟨j, hj, hh⟩
      · rw [if_neg hlv]
        refine zw.ifp rfl ?_
        exact skip (fun d q hh => hlv (by rw [hh.2.1]; exact hh.2.2.2))
    · refine zw.ifn (fun q => hwk ((nI_eq (by omega) hw).mp q)) ?_
      exact skip (fun d q hh => hwk hh.1)
/-- the places of word w in the documents of ms that are not dropped -/
def zz_G (T : List (List Nat)) (dr : List Bool) (w ms d p : Nat) : Prop := dr[d]? = some false ∧ ms.testBit d = true ∧ p < 20 ∧ (zz_tx T d)[p]? = some w
theorem zz_kb_posts {ms d p : Nat} (hw : w < 100) (hd : d < 40) : zz_kb dr w (zz_posts T ms) d p ↔ zz_G T dr w ms d p := by
  constructor
  · rintro ⟨k, hk, h1, h2, h3, h4⟩
    obtain ⟨w', d', p', hw', hd', hp', hm, ht, rfl⟩ := zz_posts_mem.mp hk
    rw [zz_key_w hd' hp'] at h1
    rw [zz_key_d hd' hp'] at h2
    rw [zz_key_p hp'] at h3
    subst h1 h2 h3
    exact ⟨h4, hm, hp', ht⟩
  · rintro ⟨h1, h2, h3, h4⟩
    exact ⟨zz_key w d p, zz_posts_mem.mpr ⟨w, d, p, hw, hd, h3, h2, h4, rfl⟩, zz_key_w hd h3, zz_key_d hd h3, zz_key_p h3, h1⟩
theorem s_Places_take {p pk cap ms : Nat} (hF : 5000 < F) (hb : a ≠ b) (hpb : p ≠ b) (hkb : pk ≠ b) (h3b : 3 ≠ b) (h4b : 4 ≠ b) (hcap : cap < 2 ^ 30) (hw : w < 100) (HP : zP h p pk cap (zz_posts T ms)) (HD : zD h 3 4 dr) (HQ : zQ h a b w g) (hg : ∀ d, g d < 2 ^ 20) :
    zw (f_Places_take F a p 3 h) (fun x => ∃ g' : Nat → Nat, zQ x.2 a b w g' ∧ (∀ d, g' d < 2 ^ 20) ∧ (∀ d, d < 40 → ∀ q, (g' d).testBit q = true ↔ (g d).testBit q = true ∨ zz_G T dr w ms d q) ∧ zz_fr [b] h x.2 ∧ x.2.length = h.length) := by
  unfold f_Places_take l_Places_take_2
  have hlen := zz_posts_len T ms
  refine (s_take_loopP (F := F) hb hpb hkb h3b h4b hcap (by omega) (fun y hy => by have := zz_posts_lt hy; omega) (zz_posts T ms) F [] g h rfl (by omega) HP HD HQ hg).mono ?_
  rintro x ⟨g', q1, q2, q3, q4⟩
  exact ⟨g', q1, q2, fun d hd q => by rw [q3 d hd q, zz_kb_posts hw hd], q4⟩
-- all runs
theorem zz_G_um {A : List (Nat × Nat × Nat)} {r : Nat × Nat × Nat} {d p : Nat} : zz_G T dr w (zz_um (A ++ [r])) d p ↔ zz_G T dr w (zz_um A) d p ∨ zz_G T dr w r.2.2 d p := by
  rw [zz_um_app]
  unfold zz_G
  rw [Nat.testBit_or, Bool.or_eq_true]
  constructor
  · rintro ⟨h1, h2 | h2, h3⟩
    · exact Or.inl ⟨h1, h2, h3⟩
    · exact Or.inr ⟨h1, h2, h3⟩
  · rintro (⟨h1, h2, h3⟩ | ⟨h1, h2, h3⟩)
    · exact ⟨h1, Or.inl h2, h3⟩
    · exact ⟨h1, Or.inr h2, h3⟩
theorem s_readAll_loop {v : Nat} (hnb : nb ≤ 60) (hF : 5000 < F) (hv : v < 100) (hw : w < 100) : ∀ (B : List (Nat × Nat × Nat)) (n : Nat) (A : List (Nat × Nat × Nat)) (g1 g2 : Nat → Nat) (h1 : hh_H), R = A ++ B → B.length < n → zX h1 T dr nb fan R (rd + nI (zz_nbs A)) wr mg fl → (∃ l, zP h1 14 15 800 l) → (∃ o n, zB h1 16 17 (16 * nb) o n) → zQ h1 18 19 v g1 → zQ h1 20 21 w g2 → (∀ d, g1 d < 2 ^ 20) → (∀ d, g2 d < 2 ^ 20) → (∀ d, d < 40 → ∀ q, (g1 d).testBit q = true ↔ zz_G T dr v (zz_um A) d q) → (∀ d, d < 40 → ∀ q, (g2 d).testBit q = true ↔ zz_G T dr w (zz_um A) d q) →
    zw (hp_it (fun _ _ _ _ _ => none) (f_RunRow_readAll_2 F) n 10 18 20 (nI A.length) h1) (fun x => ∃ g1' g2' : Nat → Nat, zX x.2 T dr nb fan R (rd + nI (zz_nbs R)) wr mg fl ∧ (∃ l, zP x.2 14 15 800 l) ∧ (∃ o n, zB x.2 16 17 (16 * nb) o n) ∧ zQ x.2 18 19 v g1' ∧ zQ x.2 20 21 w g2' ∧ (∀ d, g1' d < 2 ^ 20) ∧ (∀ d, g2' d < 2 ^ 20) ∧ (∀ d, d < 40 → ∀ q, (g1' d).testBit q = true ↔ zz_G T dr v (zz_um R) d q) ∧ (∀ d, d < 40 → ∀ q, (g2' d).testBit q = true ↔ zz_G T dr w (zz_um R) d q) ∧ zz_fr [10, 14, 15, 16, 17, 19, 21] h1 x.2) := by
  intro B
  induction B with
  | nil =>
    intro n A g1 g2 h1 hAB hn H HP HB H1 H2 l1 l2 b1 b2
    obtain ⟨n, rfl⟩ : ∃ m, n = m + 1 := ⟨n - 1, by omega⟩
    have hlen := H.len hnb
    rw [List.append_nil] at hAB
    subst hAB
    rw [hp_it_s, f_RunRow_readAll_2]
    refine zw.ga H.2.2.2.2 rfl ?_
    obtain ⟨fs, hfs⟩ := H.2.2.2.1.is
    refine zw.is hfs ?_
    refine zw.cbe (s_AL_size H.2.2.2.1) ?_
    refine zw.ifp (nI_le (Nat.le_refl _) (by omega)) ?_
    exact zw.ret ⟨g1, g2, H, HP, HB, H1, H2, l1, l2, b1, b2, zz_fr.rf _ _⟩
  | cons r B ih =>
    intro n A g1 g2 h1 hAB hn H HP HB H1 H2 l1 l2 b1 b2
    obtain ⟨n, rfl⟩ : ∃ m, n = m + 1 := ⟨n - 1, by omega⟩
    have hlen := H.len hnb
    have hlR : R.length = A.length + B.length + 1 := by simp [hAB]; omega
    have hrR : r ∈ R := by rw [hAB]; simp
    obtain ⟨p, hg, hp⟩ := s_AL_get (F := F) H.2.2.2.1 (by omega) (i := A.length) (r := r) (by rw [hAB]; simp)
    have hp' := hp
    obtain ⟨hp38, q, hq38, hc, hd⟩ := hp'
    rw [hp_it_s, f_RunRow_readAll_2]
    refine zw.ga H.2.2.2.2 rfl ?_
    obtain ⟨fs, hfs⟩ := H.2.2.2.1.is
    refine zw.is hfs ?_
    refine zw.cbe (s_AL_size H.2.2.2.1) ?_
    refine zw.ifn (nI_ge (by omega) (by omega)) ?_
    refine zw.ga H.2.2.2.2 rfl ?_
    refine zw.is hfs ?_
    refine zw.cbe hg ?_
    refine zw.is hc ?_
    refine zw.is H.2.2.2.2 ?_
    obtain ⟨l0, HP⟩ := HP
    obtain ⟨o0, n0, HB⟩ := HB
    refine zw.cb (s_readPart hnb hF hrR H hp HP HB) ?_
    rintro _ h3 ⟨k1, k2, ⟨o3, n3, k3⟩, k4⟩
    refine zw.ga k1.2.2.2.2 rfl ?_
    refine zw.ga k1.2.2.2.2 rfl ?_
    have H13 := H1.fr k4 (by decide) (by decide)
    have H23 := H2.fr k4 (by decide) (by decide)
    refine zw.is H13.1 ?_
    refine zw.cb (s_Places_take hF (by decide) (by decide) (by decide) (by decide) (by decide) (by decide) hv k2 k1.2.1 H13 l1) ?_
    rintro _ h4 ⟨g1', t1, t2, t3, t4, t5⟩
    have X4 := k1.fr t4 (by decide)
    have P4 := k2.fr t4 (by decide) (by decide)
    have H24 := H23.fr t4 (by decide) (by decide)
    refine zw.ga X4.2.2.2.2 rfl ?_
    refine zw.ga X4.2.2.2.2 rfl ?_
    refine zw.is H24.1 ?_
    refine zw.cb (s_Places_take hF (by decide) (by decide) (by decide) (by decide) (by decide) (by decide) hw P4 X4.2.1 H24 l2) ?_
    rintro _ h5 ⟨g2', u1, u2, u3, u4, u5⟩
    have X5 := X4.fr u4 (by decide)
    have e1 : nI A.length + 1 = nI (A ++ [r]).length := by rw [nI_1]; simp
    have e5 : rd + nI (zz_nbs A) + nI (zz_bl r.2.1).length = rd + nI (zz_nbs (A ++ [r])) := by
      rw [zz_nbs_app, ← nI_add, Int32.add_assoc]
    rw [e5] at X5
    rw [e1]
    refine (ih n (A ++ [r]) g1' g2' h5 (by simp [hAB]) (by simp at hn; omega) X5 ⟨_, P4.fr u4 (by decide) (by decide)⟩ ⟨_, _, (k3.fr t4 (by decide) (by decide)).fr u4 (by decide) (by decide)⟩ (t1.fr u4 (by decide) (by decide)) u1 t2 u2 (fun d hd q => by rw [t3 d hd q, b1 d hd q, zz_G_um]) (fun d hd q => by rw [u3 d hd q, b2 d hd q, zz_G_um])).mono ?_
    rintro x ⟨g1'', g2'', q1, q2, q3, q4, q5, q6, q7, q8, q9, q10⟩
    exact ⟨g1'', g2'', q1, q2, q3, q4, q5, q6, q7, q8, q9, ((k4.mono (by simp)).tr (t4.mono (by simp))).tr ((u4.mono (by simp)).tr q10)⟩
theorem s_readAll {v : Nat} (hnb : nb ≤ 60) (hF : 5000 < F) (hv : v < 100) (hw : w < 100) (H : zX h T dr nb fan R rd wr mg fl) (HP : ∃ l, zP h 14 15 800 l) (HB : ∃ o n, zB h 16 17 (16 * nb) o n) (H1 : zQ h 18 19 v (fun _ => 0)) (H2 : zQ h 20 21 w (fun _ => 0)) :
    zw (f_RunRow_readAll F 10 18 20 h) (fun x => ∃ g1' g2' : Nat → Nat, zX x.2 T dr nb fan R (rd + nI (zz_nbs R)) wr mg fl ∧ (∃ l, zP x.2 14 15 800 l) ∧ (∃ o n, zB x.2 16 17 (16 * nb) o n) ∧ zQ x.2 18 19 v g1' ∧ zQ x.2 20 21 w g2' ∧ (∀ d, g1' d < 2 ^ 20) ∧ (∀ d, g2' d < 2 ^ 20) ∧ (∀ d, d < 40 → ∀ q, (g1' d).testBit q = true ↔ zz_G T dr v (zz_um R) d q) ∧ (∀ d, d < 40 → ∀ q, (g2' d).testBit q = true ↔ zz_G T dr w (zz_um R) d q) ∧ zz_fr [10, 14, 15, 16, 17, 19, 21] h x.2) := by
  unfold f_RunRow_readAll l_RunRow_readAll_2
  have hlen := H.len hnb
  have hr0 : rd + nI (zz_nbs []) = rd := by
    show rd + 0 = rd
    exact Int32.add_zero rd
  have hz : ∀ (u : Nat) (d : Nat), d < 40 → ∀ q, ((fun _ => 0 : Nat → Nat) d).testBit q = true ↔ zz_G T dr u (zz_um []) d q := by
    intro u d _ q
    simp [zz_G, zz_um]
  exact s_readAll_loop (F := F) (v := v) (rd := rd) hnb hF hv hw R F [] (fun _ => 0) (fun _ => 0) h rfl (by omega) (by rw [hr0]; exact H) HP HB H1 H2 (fun _ => by decide) (fun _ => by decide) (hz v) (hz w)
-- reading the bits
theorem s_bitsOf (H : zQ h a b w g) {d : Nat} (hd : d < 40) : f_Places_bitsOf F a (nI d) h = some (nI (g d), h) := by
  unfold f_Places_bitsOf
  rw [if_neg (nI_pos (by omega)), q_ga H.1 rfl]
  show ((hp_len h b).bind _) = _
  rw [q_len H.2 (by decide), zz_row_len']
  show (if nI 40 ≤ nI d then _ else ((some b).bind _)) = _
  rw [if_neg (nI_ge hd (by decide))]
  show ((hp_ai h b (nI d)).bind _) = _
  rw [q_ai H.2 (by omega) (zz_row_get hd)]
  rfl
theorem s_freq_loop (hg : ∀ d, g d < 2 ^ 20) (H : zQ h a b w g) : ∀ (k n i c : Nat), i + k = 40 → k < n → hp_it (fun _ _ _ _ _ => none) (f_Places_frequency_13 F) n (nI c) b (nI 40) (nI i) h = some (nI (c + ((List.range' i k).filter (fun d => decide (g d ≠ 0))).length), h) := by
  intro k
  induction k with
  | zero =>
    intro n i c hi hn
    obtain ⟨n, rfl⟩ : ∃ m, n = m + 1 := ⟨n - 1, by omega⟩
    rw [hp_it_s, f_Places_frequency_13, if_pos (nI_le (by omega) (by omega))]
    simp
  | succ k ih =>
    intro n i c hi hn
    obtain ⟨n, rfl⟩ : ∃ m, n = m + 1 := ⟨n - 1, by omega⟩
    rw [hp_it_s, f_Places_frequency_13, if_neg (nI_ge (by omega) (by omega)), q_ai H.2 (by omega) (zz_row_get (by omega))]
    show (if nI (g i) = 0 then _ else _) = _
    have := hg i
    rw [List.range'_succ, List.filter_cons, nI_1]
    by_cases h0 : g i = 0
    · rw [if_pos (by rw [h0]; rfl), ih n (i + 1) c (by omega) (by omega)]
      simp [h0]
    · rw [if_neg (nI_ne0 (by omega) (by omega)), nI_1, ih n (i + 1) (c + 1) (by omega) (by omega)]
      simp only [h0, ne_eq, not_false_eq_true, decide_true, if_true, List.length_cons]
      congr 3
      omega
theorem s_frequency (hF : 5000 < F) (hg : ∀ d, g d < 2 ^ 20) (H : zQ h a b w g) : f_Places_frequency F a h = some (nI ((List.range 40).filter (fun d => decide (g d ≠ 0))).length, h) := by
  unfold f_Places_frequency l_Places_frequency_13
  rw [q_ga H.1 rfl]
  show ((hp_len h b).bind _) = _
  rw [q_len H.2 (by decide), zz_row_len']
  have := s_freq_loop (F := F) hg H 40 F 0 0 (by omega) (by omega)
  rw [Nat.zero_add, ← List.range_eq_range'] at this
  exact this
theorem s_share {d fq : Nat} (hd : d < 40) (hg : ∀ d, g d < 2 ^ 20) (hf : fq ≤ 40) (H : zQ h a b w g) : f_Places_share F a (nI d) (nI fq) h = some (zz_sh (zz_pc (g d)) fq, h) := by
  have hpc : zz_pc (g d) ≤ 20 := by
    unfold zz_pc
    exact Nat.le_trans (List.length_filter_le _ _) (by simp)
  unfold f_Places_share
  rw [q_is H.1]
  show hp_cb (f_Places_bitsOf F a (nI d) h) _ = _
  rw [s_bitsOf H hd, q_cb, s_bitCount (hg d), q_cb]
  unfold zz_sh
  by_cases h1 : zz_pc (g d) = 0
  · rw [h1, if_pos (Or.inl rfl)]
    rfl
  · rw [if_neg (nI_ne0 (by omega) (by omega))]
    by_cases h2 : fq = 0
    · rw [h2, if_pos (Or.inr rfl)]
      rfl
    · rw [if_neg (nI_ne0 (by omega) (by omega)), if_neg (by omega), (zz_ddiv hpc (by omega) hf).2]
      rfl
end Places
