-- close, flush, finish
section Close
variable {h : hh_H} {F mem fan nb wt lvb : Nat} {op : List Nat} {T : List (List Nat)} {dr : List Bool} {s : List (Nat × Nat × Nat) × Int32 × Int32 × Int32 × Int32} {res : List (Nat × UInt64)} {rk : Int32}
theorem s_close_loop {d bn : Nat} {base : List Nat} {js : List Int32} {q0 q1 q2 q3 q4 q5 : hh_V} (hF : 5000 < F) (hmem : mem ≤ 48) (hd : d < 40) (hop : op.length ≤ 20) (hw : ∀ w ∈ op, w < 100) (hbn : bn + op.length ≤ mem) (hbase : ∀ k ∈ base, k / 20 % 40 ≠ d) : ∀ (k n i : Nat) (l : List Nat) (h1 : hh_H), i + k = op.length → k < n → h1[1]? = some (.inr (8, [q0, .inr (.inl (some 2)), .inl (nI op.length), q1, .inr (.inl (some 5)), q2, q3, q4, q5])) → h1[2]? = some (.inl (0, .inl (op.map nI ++ js))) → zP h1 5 6 mem l → zz_up l → (∀ x, x ∈ l ↔ x ∈ base ∨ ∃ p w, p < i ∧ op[p]? = some w ∧ x = zz_key w d p) → l.length = bn + i → (∀ y ∈ l, y < 80000) →
    zw (hp_it (fun _ _ _ _ => none) (f_IB_close_68 F) n 1 (nI d) (nI i) h1) (fun x => x.1 = .inl (nI d) ∧ (∃ l', zP x.2 5 6 mem l' ∧ zz_up l' ∧ (∀ x, x ∈ l' ↔ x ∈ base ∨ ∃ p w, p < op.length ∧ op[p]? = some w ∧ x = zz_key w d p) ∧ l'.length = bn + op.length) ∧ x.2[1]? = some (.inr (8, [q0, .inr (.inl (some 2)), .inl 0, q1, .inr (.inl (some 5)), q2, q3, q4, q5])) ∧ zz_fr [1, 5, 6] h1 x.2 ∧ x.2.length = h1.length) := by
  intro k
  induction k with
  | zero =>
    intro n i l h1 hi hn c1 c2 HP hu hl hlen hlt
    obtain ⟨n, rfl⟩ : ∃ m, n = m + 1 := ⟨n - 1, by omega⟩
    have hi' : i = op.length := by omega
    subst hi'
    rw [hp_it_s, f_IB_close_68]
    refine zw.gi c1 rfl ?_
    refine zw.ifp (nI_le (Nat.le_refl _) (by omega)) ?_
    unfold f_IB_close_100
    refine zw.pi c1 (Nat.le_of_ble_eq_true rfl) fun h2 s2 => ?_
    have f2 : zz_fr [1] h1 h2 := s2.fr (by simp)
    exact zw.ret ⟨rfl, ⟨l, HP.fr f2 (by decide) (by decide), hu, hl, hlen⟩, s2.1, f2.mono (by simp), s2.2.2⟩
  | succ k ih =>
    intro n i l h1 hi hn c1 c2 HP hu hl hlen hlt
    obtain ⟨n, rfl⟩ : ∃ m, n = m + 1 := ⟨n - 1, by omega⟩
    have hio : i < op.length := by omega
    have hwi := hw op[i] (List.getElem_mem hio)
    rw [hp_it_s, f_IB_close_68]
    refine zw.gi c1 rfl ?_
    refine zw.ifn (nI_ge (by omega) (by omega)) ?_
    refine zw.ga c1 rfl ?_
    refine zw.ga c1 rfl ?_
    refine zw.ai (w := nI op[i]) c2 i rfl (by omega) (by rw [List.getElem?_append_left (by simp; exact hio)]; simp [hio]) ?_
    refine zw.cbe (s_keyOf op[i] d i) ?_
    refine zw.is HP.1 ?_
    have hk8 : zz_key op[i] d i < 80000 := by
      unfold zz_key
      omega
    have hnot : zz_key op[i] d i ∉ l := by
      intro hm
      rcases (hl _).mp hm with hb | ⟨p, w, hp, _, he⟩
      · exact hbase _ hb (zz_key_d hd (by omega))
      · have h1 := zz_key_p (w := op[i]) (d := d) (p := i) (by omega)
        rw [he, zz_key_p (by omega)] at h1
        omega
    refine zw.cb (s_insert (by decide) (by omega) HP (by omega) (by omega) (by omega) hu (fun y hy => by have := hlt y hy; omega) hnot) ?_
    rintro _ h2 ⟨l', g1, g2, g3, g4, g5, g6⟩
    rw [nI_1]
    refine (ih n (i + 1) l' h2 (by omega) (by omega) (g5.at c1 (by decide)) (g5.at c2 (by decide)) g1 g2 (fun x => ?_) (by omega) (fun y hy => ?_)).mono ?_
    · rw [g3 x, hl x]
      constructor
      · rintro (rfl | hb | ⟨p, w, hp, hq, he⟩)
        · exact Or.inr ⟨i, op[i], by omega, List.getElem?_eq_getElem hio, rfl⟩
        · exact Or.inl hb
        · exact Or.inr ⟨p, w, by omega, hq, he⟩
      · rintro (hb | ⟨p, w, hp, hq, he⟩)
        · exact Or.inr (Or.inl hb)
        · by_cases hpi : p = i
          · subst hpi
            rw [List.getElem?_eq_getElem hio] at hq
            cases hq
            exact Or.inl he
          · exact Or.inr (Or.inr ⟨p, w, by omega, hq, he⟩)
    · rcases (g3 y).mp hy with rfl | hy
      · exact hk8
      · exact hlt y hy
    · rintro x ⟨q1, q2, q3, q4, q5⟩
      exact ⟨q1, q2, q3, (g5.mono (by simp)).tr q4, by rw [q5, g6]⟩
theorem zz_tx_new {t : List Nat} : zz_tx (T ++ [t]) T.length = t := by
  unfold zz_tx
  simp
theorem zz_bf_app {t : List Nat} (hwt : wt ≤ T.length) : zz_bf (T ++ [t]) wt = zz_bf T wt + t.length := by
  unfold zz_bf
  rw [List.drop_append_of_le_length hwt]
  simp
theorem zz_close_posts {l : List Nat} (hu : zz_up l) (hT : T.length < 40) (hop : op.length ≤ 20) (hw : ∀ w ∈ op, w < 100) (hwt : wt ≤ T.length) (hl : ∀ x, x ∈ l ↔ x ∈ zz_posts T (zz_wm T wt) ∨ ∃ p w, p < op.length ∧ op[p]? = some w ∧ x = zz_key w T.length p) : l = zz_posts (T ++ [op]) (zz_wm (T ++ [op]) wt) := by
  refine zz_ext hu (zz_posts_up _ _) (fun x => ?_)
  rw [hl x, zz_posts_mem, zz_posts_mem]
  constructor
  · rintro (⟨w, d, p, h1, h2, h3, h4, h5, h6⟩ | ⟨p, w, hp, hq, he⟩)
    · have := zz_wm_bit.mp h4
      refine ⟨w, d, p, h1, h2, h3, zz_wm_bit.mpr ⟨this.1, by simp; omega, ?_⟩, ?_, h6⟩
      · rw [zz_tx_app this.2.1]
        exact this.2.2
      · rw [zz_tx_app this.2.1]
        exact h5
    · refine ⟨w, T.length, p, hw w (List.mem_of_getElem? hq), hT, by omega, zz_wm_bit.mpr ⟨hwt, by simp, ?_⟩, ?_, he⟩
      · rw [zz_tx_new]
        exact List.ne_nil_of_mem (List.mem_of_getElem? hq)
      · rw [zz_tx_new]
        exact hq
  · rintro ⟨w, d, p, h1, h2, h3, h4, h5, h6⟩
    have := zz_wm_bit.mp h4
    simp only [List.length_append, List.length_cons, List.length_nil] at this
    by_cases hd : d < T.length
    · rw [zz_tx_app hd] at h5 this
      exact Or.inl ⟨w, d, p, h1, h2, h3, zz_wm_bit.mpr ⟨this.1, hd, this.2.2⟩, h5, h6⟩
    · have hd : d = T.length := by omega
      subst hd
      rw [zz_tx_new] at h5
      exact Or.inr ⟨p, w, (List.getElem?_eq_some_iff.mp h5).1, h5, h6⟩
theorem zz_okB_app {t : List Nat} {R : List (Nat × Nat × Nat)} (hB : zz_okB nb T R) (hm : ∀ r ∈ R, ∀ d, r.2.2.testBit d = true → d < T.length) : zz_okB nb (T ++ [t]) R := by
  refine ⟨fun r hr => ⟨(hB.1 r hr).1, ?_⟩, hB.2⟩
  rw [(hB.1 r hr).2]
  unfold zz_nd
  rw [zz_enc_app (hm r hr)]
/-- the numbers after a close that had room -/
theorem zz_I_close (HI : zz_I mem fan nb op T dr wt lvb s res rk) (hT : T.length < 40) (hroom : zz_bf T wt + op.length ≤ mem) (hp : (zz_posts (T ++ [op]) (zz_wm (T ++ [op]) wt)).length = zz_bf T wt + op.length) : zz_I mem fan nb [] (T ++ [op]) (dr ++ [false]) wt lvb s res rk := by
  obtain ⟨i1, i2, i3, i4, i5, i6, i7, i8, i9, i10, i11, i12, i13, i14⟩ := HI
  have hm : ∀ r ∈ s.1, ∀ d, r.2.2.testBit d = true → d < T.length := fun r hr d hd => by
    have := ((i9.1.1 r hr).2 d hd).1
    omega
  refine ⟨i1, i2, i3, ⟨by simp, by simp⟩, by simp; omega, by simp [i6], fun t ht => ?_, by simp; omega, ⟨⟨fun r hr => ⟨(i9.1.1 r hr).1, fun d hd => ?_⟩, i9.1.2⟩, i9.2.1, fun d hd hdr ht => ?_⟩, by rw [zz_bf_app i8]; exact hroom, by rw [zz_bf_app i8]; exact hp, i12, i13, zz_okB_app i14 hm⟩
  · rcases List.mem_append.mp ht with ht | ht
    · exact i7 t ht
    · rw [List.mem_singleton.mp ht]
      exact i4
  · have := (i9.1.1 r hr).2 d hd
    rw [zz_tx_app (by omega)]
    exact this
  · rw [zz_tx_app (by omega)] at ht
    rw [List.getElem?_append_left (by omega)] at hdr
    exact i9.2.2 d hd hdr ht
theorem s_close58 (hF : 5000 < F) (HI : zz_I mem fan nb op T dr wt lvb s res rk) (hT : T.length < 40) (hroom : zz_bf T wt + op.length ≤ mem) (H : zC h mem fan nb op T dr wt s res rk) :
    zw (f_IB_close_58 F 1 h) (fun x => x.1 = .inl (nI T.length) ∧ zC x.2 mem fan nb [] (T ++ [op]) (dr ++ [false]) wt s res rk ∧ (zz_posts (T ++ [op]) (zz_wm (T ++ [op]) wt)).length = zz_bf T wt + op.length ∧ zz_fr [1, 3, 5, 6] h x.2) := by
  obtain ⟨i1, i2, i3, i4, i5, i6, i7, i8, i9, i10, i11, i12, i13, i14⟩ := HI
  obtain ⟨c1, ⟨js, c2, c2'⟩, c3, c4, ⟨⟨l1, y1⟩, ⟨l2, y2⟩, ⟨o, n, y3⟩⟩, c6, c7, c8⟩ := H
  have X : zX h T dr nb fan s.1 s.2.1 s.2.2.1 s.2.2.2.1 s.2.2.2.2 := c4
  have hm : ∀ r ∈ s.1, ∀ d, r.2.2.testBit d = true → d < T.length := fun r hr d hd => by
    have := ((i9.1.1 r hr).2 d hd).1
    omega
  unfold f_IB_close_58
  refine zw.ga c1 rfl ?_
  refine zw.is X.2.1.2.1 ?_
  refine zw.cb (s_Documents_addNext (by decide) X.2.1 (by omega)) ?_
  rintro q h1 ⟨g1, g2, g3, g4⟩
  have g1 : q = _ := g1
  rw [g1, i6]
  unfold l_IB_close_68
  refine (s_close_loop (F := F) (d := T.length) (bn := zz_bf T wt) (base := zz_posts T (zz_wm T wt)) (js := js) hF i1.2 hT i4.1 i4.2 hroom (fun k hk => ?_) op.length F 0 (zz_posts T (zz_wm T wt)) h1 (by omega) (by omega) (g3.at c1 (by decide)) (g3.at c2 (by decide)) (c3.fr g3 (by decide) (by decide)) (zz_posts_up _ _) (fun x => ⟨Or.inl, fun hx => ?_⟩) (by rw [i11]; omega) (fun y hy => zz_posts_lt hy)).mono ?_
  · obtain ⟨w, d, p, h1, h2, h3, h4, h5, rfl⟩ := zz_posts_mem.mp hk
    rw [zz_key_d h2 h3]
    have := zz_wm_bit.mp h4
    omega
  · rcases hx with hx | ⟨p, w, hp, _⟩
    · exact hx
    · omega
  · rintro x ⟨q1, ⟨l', q2, q3, q4, q5⟩, q6, q7, q8⟩
    have e := zz_close_posts q3 hT i4.1 i4.2 i8 q4
    subst e
    have f : zz_fr [1, 3, 5, 6] h x.2 := (g3.mono (by simp)).tr (q7.mono (by simp))
    refine ⟨q1, ⟨q6, ⟨op.map nI ++ js, f.at c2 (by decide), by simp; omega⟩, q2, ⟨by rw [q8, g4]; exact X.1, g2.fr q7 (by decide) (by decide), (X.2.2.1.fr f (by decide) (by decide) (by decide)).app hm, (X.2.2.2.1.fr f (by decide)).app hm, f.at X.2.2.2.2 (by decide)⟩, ⟨⟨l1, y1.fr f (by decide) (by decide)⟩, ⟨l2, y2.fr f (by decide) (by decide)⟩, ⟨o, n, y3.fr f (by decide) (by decide)⟩⟩, c6.fr f (by decide) (by decide), c7.fr f (by decide) (by decide), c8.fr f (by decide) (by decide) (by decide)⟩, q5, f⟩
/-- close, as numbers: what is thrown, or the new waiting and row -/
def zz_clo (T : List (List Nat)) (dr : List Bool) (mem nb fan wt : Nat) (op : List Nat) (s : List (Nat × Nat × Nat) × Int32 × Int32 × Int32 × Int32) : Bool × Nat × List (Nat × Nat × Nat) × Int32 × Int32 × Int32 × Int32 :=
  if zz_bf T wt + op.length ≤ mem then (true, wt, s) else zz_flu T dr nb fan wt s
theorem zz_flu_bf {T : List (List Nat)} {dr : List Bool} {nb fan wt : Nat} {s : List (Nat × Nat × Nat) × Int32 × Int32 × Int32 × Int32} (h : (zz_flu T dr nb fan wt s).1 = true) : zz_bf T (zz_flu T dr nb fan wt s).2.1 = 0 := by
  revert h
  unfold zz_flu
  split
  · rename_i h0
    intro _
    exact h0
  · split
    · intro _
      exact zz_bf_0
    · intro h
      cases h
theorem zC.okB (H : zC h mem fan nb op T dr wt s res rk) : zz_okB nb T s.1 := zX.okB H.2.2.2.1
theorem s_close (hF : 5000 < F) (HI : zz_I mem fan nb op T dr wt lvb s res rk) (hlvb : lvb + 60 < 2 ^ 28) (hT : T.length < 40) (H : zC h mem fan nb op T dr wt s res rk) :
    zw (f_IB_close F 1 h) (fun x => if (zz_clo T dr mem nb fan wt op s).1 = true then x.1 = .inl (nI T.length) ∧ zC x.2 mem fan nb [] (T ++ [op]) (dr ++ [false]) (zz_clo T dr mem nb fan wt op s).2.1 (zz_clo T dr mem nb fan wt op s).2.2 res rk ∧ zz_I mem fan nb [] (T ++ [op]) (dr ++ [false]) (zz_clo T dr mem nb fan wt op s).2.1 (lvb + 60) (zz_clo T dr mem nb fan wt op s).2.2 res rk ∧ zz_fx [1, 3, 5, 6, 7, 8, 9, 10, 11, 12, 13, 14, 15, 16, 17] h x.2
      else x.1 = .inr 13 ∧ zC x.2 mem fan nb op T dr wt s res rk ∧ zz_fx [1, 3, 5, 6, 7, 8, 9, 10, 11, 12, 13, 14, 15, 16, 17] h x.2) := by
  have hI := HI
  have hC := H
  obtain ⟨i1, i2, i3, i4, i5, i6, i7, i8, i9, i10, i11, i12, i13, i14⟩ := HI
  obtain ⟨c1, c2, c3, c4, c5, c6, c7, c8⟩ := H
  have X : zX h T dr nb fan s.1 s.2.1 s.2.2.1 s.2.2.2.1 s.2.2.2.2 := c4
  unfold f_IB_close
  refine zw.ga c1 rfl ?_
  refine zw.is X.2.1.2.1 ?_
  refine zw.cbe (s_Documents_size X.2.1) ?_
  rw [i6]
  refine zw.ifp (nI_lt (b := 40) hT (by decide)) ?_
  refine zw.ga c1 rfl ?_
  refine zw.is c3.1 ?_
  refine zw.cbe (s_Postings_size c3) ?_
  refine zw.gi c1 rfl ?_
  refine zw.gi c1 rfl ?_
  rw [i11, nI_add]
  unfold zz_clo
  by_cases hr : zz_bf T wt + op.length ≤ mem
  · rw [if_pos hr]
    refine zw.ifp (nI_le hr (by omega)) ?_
    refine (s_close58 hF hI hT hr hC).mono ?_
    rintro x ⟨q1, q2, q3, q4⟩
    have := zz_I_close hI hT hr q3
    rw [if_pos rfl]
    obtain ⟨j1, j2, j3, j4, j5, j6, j7, j8, j9, j10⟩ := this
    exact ⟨q1, q2, ⟨j1, j2, j3, j4, j5, j6, j7, j8, j9.up (by omega), j10⟩, (q4.fx X.1).mono (by simp)⟩
  · rw [if_neg hr]
    refine zw.ifn (nI_ge (by omega) (by omega)) ?_
    refine zw.is c1 ?_
    refine zw.cb (s_flushBuffer hF hI hlvb hC) ?_
    rintro v h1 ⟨g1, g2, g3⟩
    have g1 : v = _ := g1
    by_cases ht : (zz_flu T dr nb fan wt s).1 = true
    · rw [if_pos ht] at g1
      rw [g1]
      simp only [ht, if_true]
      refine zw.ifn (by decide) ?_
      have hI2 := zz_I_flu hI g2.okB
      have hbf := zz_flu_bf ht
      refine (s_close58 hF hI2 hT (by rw [hbf]; omega) g2).mono ?_
      rintro x ⟨q1, q2, q3, q4⟩
      have := zz_I_close hI2 hT (by rw [hbf]; omega) q3
      exact ⟨q1, q2, this, (g3.mono (by simp)).tr ((q4.fx (zX.okB g2.2.2.2.1 |> fun _ => g2.2.2.2.1.1)).mono (by simp))⟩
    · rw [if_neg ht] at g1
      rw [g1]
      have hft : (zz_flu T dr nb fan wt s).1 = false := by simpa using ht
      simp only [hft]
      refine zw.ifp trivial ?_
      have hst : (zz_flu T dr nb fan wt s).2 = (wt, s) := by
        revert hft
        unfold zz_flu
        split
        · intro q
          cases q
        · split
          · intro q
            cases q
          · intro _
            rfl
      rw [hst] at g2
      refine zw.ret ⟨rfl, g2.fr (W := []) zz_fr.app (by simp), (g3.mono (by simp)).tr ⟨by simp, fun i hi _ => ?_⟩⟩
      exact List.getElem?_append_left (Nat.lt_of_lt_of_le hi g2.2.2.2.1.1)
theorem s_close_40 (HI : zz_I mem fan nb op T dr wt lvb s res rk) (hT : T.length = 40) (H : zC h mem fan nb op T dr wt s res rk) : f_IB_close F 1 h = some (.inr 12, h ++ [.inr (12, [])]) := by
  obtain ⟨c1, c2, c3, c4, c5, c6, c7, c8⟩ := H
  have X : zX h T dr nb fan s.1 s.2.1 s.2.2.1 s.2.2.2.1 s.2.2.2.2 := c4
  unfold f_IB_close
  rw [q_ga c1 rfl]
  show ((hp_is h 3 3).bind _) = _
  rw [q_is X.2.1.2.1]
  show hp_cb (f_Documents_size F 3 h) _ = _
  rw [s_Documents_size X.2.1, q_cb, HI.2.2.2.2.2.1, hT]
  rfl
theorem s_RunRow_size {R : List (Nat × Nat × Nat)} {rd wr mg fl : Int32} (H : zX h T dr nb fan R rd wr mg fl) : f_RunRow_size F 10 h = some (nI R.length, h) := by
  unfold f_RunRow_size
  rw [q_ga H.2.2.2.2 rfl]
  obtain ⟨fs, hfs⟩ := H.2.2.2.1.is
  show ((hp_is h 11 10).bind _) = _
  rw [q_is hfs]
  show hp_cb (f_ArrayList_size F 11 h) _ = _
  rw [s_AL_size H.2.2.2.1, q_cb]
theorem zz_flu_no {T : List (List Nat)} {dr : List Bool} {nb fan wt : Nat} {s : List (Nat × Nat × Nat) × Int32 × Int32 × Int32 × Int32} (h : (zz_flu T dr nb fan wt s).1 = false) : (zz_flu T dr nb fan wt s).2 = (wt, s) := by
  revert h
  unfold zz_flu
  split
  · intro q
    cases q
  · split
    · intro q
      cases q
    · intro _
      rfl
theorem s_flush (hF : 5000 < F) (HI : zz_I mem fan nb op T dr wt lvb s res rk) (hlvb : lvb + 60 < 2 ^ 28) (H : zC h mem fan nb op T dr wt s res rk) :
    zw (f_IB_flush F 1 h) (fun x => x.1 = (if (zz_flu T dr nb fan wt s).1 = true then .inl (nI (zz_flu T dr nb fan wt s).2.2.1.length) else .inr 13) ∧ zC x.2 mem fan nb op T dr (zz_flu T dr nb fan wt s).2.1 (zz_flu T dr nb fan wt s).2.2 res rk ∧ zz_fx [5, 7, 8, 9, 10, 11, 12, 13, 14, 15, 16, 17] h x.2) := by
  unfold f_IB_flush
  refine zw.is H.1 ?_
  refine zw.cb (s_flushBuffer hF HI hlvb H) ?_
  rintro v h1 ⟨g1, g2, g3⟩
  have g1 : v = _ := g1
  cases ht : (zz_flu T dr nb fan wt s).1
  · rw [ht] at g1
    rw [g1]
    refine zw.ifp rfl ?_
    refine zw.ret ⟨rfl, g2.fr (W := []) zz_fr.app (by simp), g3.tr ⟨by simp, fun i hi _ => ?_⟩⟩
    exact List.getElem?_append_left (Nat.lt_of_lt_of_le hi g2.2.2.2.1.1)
  · rw [ht] at g1
    rw [g1]
    refine zw.ifn (show ¬ (1 : Int32) = 0 by decide) ?_
    refine zw.ga g2.1 rfl ?_
    have X := g2.2.2.2.1
    refine zw.is X.2.2.2.2 ?_
    refine zw.cbe (s_RunRow_size X) ?_
    exact zw.ret ⟨rfl, g2, g3⟩
/-- finish, as numbers -/
def zz_fin2 (T : List (List Nat)) (dr : List Bool) (nb : Nat) (s : List (Nat × Nat × Nat) × Int32 × Int32 × Int32 × Int32) : Bool × List (Nat × Nat × Nat) × Int32 × Int32 × Int32 × Int32 := if s.1 = [] then (true, s) else zz_mgS T dr nb (zz_sel 0 (zz_top s.1)) (zz_top s.1 + 1) s
theorem s_finish (hF : 5000 < F) (HI : zz_I mem fan nb op T dr wt lvb s res rk) (hlvb : lvb + 61 < 2 ^ 28) (H : zC h mem fan nb op T dr wt s res rk) :
    zw (f_IB_finish F 1 h) (fun x => if (zz_flu T dr nb fan wt s).1 = true then x.1 = (if (zz_fin2 T dr nb (zz_flu T dr nb fan wt s).2.2).1 = true then .inl (nI (zz_fin2 T dr nb (zz_flu T dr nb fan wt s).2.2).2.1.length) else .inr 13) ∧ zC x.2 mem fan nb op T dr (zz_flu T dr nb fan wt s).2.1 (zz_fin2 T dr nb (zz_flu T dr nb fan wt s).2.2).2 res rk ∧ zz_fx [5, 7, 8, 9, 10, 11, 12, 13, 14, 15, 16, 17] h x.2
      else x.1 = .inr 13 ∧ zC x.2 mem fan nb op T dr wt s res rk ∧ zz_fx [5, 7, 8, 9, 10, 11, 12, 13, 14, 15, 16, 17] h x.2) := by
  have hI := HI
  obtain ⟨i1, i2, i3, i4, i5, i6, i7, i8, i9, i10, i11, i12, i13, i14⟩ := HI
  unfold f_IB_finish
  refine zw.is H.1 ?_
  refine zw.cb (s_flushBuffer hF hI (by omega) H) ?_
  rintro v h1 ⟨g1, g2, g3⟩
  have g1 : v = _ := g1
  cases ht : (zz_flu T dr nb fan wt s).1
  · rw [ht] at g1
    rw [g1]
    refine zw.ifp rfl ?_
    rw [zz_flu_no ht] at g2
    refine zw.ret ⟨rfl, g2.fr (W := []) zz_fr.app (by simp), g3.tr ⟨by simp, fun i hi _ => ?_⟩⟩
    exact List.getElem?_append_left (Nat.lt_of_lt_of_le hi g2.2.2.2.1.1)
  · rw [ht] at g1
    rw [g1]
    refine zw.ifn (show ¬ (1 : Int32) = 0 by decide) ?_
    have hI2 := zz_I_flu hI g2.okB
    revert g2 hI2
    rcases (zz_flu T dr nb fan wt s).2 with ⟨wt', R, rd, wr, mg, fl⟩
    intro g2 hI2
    obtain ⟨j1, j2, j3, j4, j5, j6, j7, j8, j9, j10, j11, j12, j13, j14⟩ := hI2
    obtain ⟨d1, ⟨js, d2, d2'⟩, d3, d4, d5, d6, d7, d8⟩ := id g2
    have X : zX h1 T dr nb fan R rd wr mg fl := d4
    refine zw.ga d1 rfl ?_
    refine zw.is X.2.2.2.2 ?_
    by_cases hne : R = []
    · have e : zz_fin2 T dr nb (R, rd, wr, mg, fl) = (true, R, rd, wr, mg, fl) := by
        unfold zz_fin2
        rw [if_pos hne]
      have e2 : f_RunRow_mergeAll F 10 h1 = some (1, h1) := by
        unfold f_RunRow_mergeAll
        rw [q_ga X.2.2.2.2 rfl]
        obtain ⟨fs, hfs⟩ := X.2.2.2.1.is
        show ((hp_is h1 11 10).bind _) = _
        rw [q_is hfs]
        show hp_cb (f_ArrayList_isEmpty F 11 h1) _ = _
        rw [s_AL_isEmpty X.2.2.2.1 (by rw [hne]; simp), if_pos hne, q_cb, if_neg (by decide)]
      refine zw.cbe e2 ?_
      refine zw.ifn (by decide) ?_
      refine zw.ga d1 rfl ?_
      refine zw.is X.2.2.2.2 ?_
      refine zw.cbe (s_RunRow_size X) ?_
      show zw _ (fun x : (Int32 ⊕ Nat) × hh_H => x.1 = (if (zz_fin2 T dr nb (R, rd, wr, mg, fl)).1 = true then .inl (nI (zz_fin2 T dr nb (R, rd, wr, mg, fl)).2.1.length) else .inr 13) ∧ zC x.2 mem fan nb op T dr wt' (zz_fin2 T dr nb (R, rd, wr, mg, fl)).2 res rk ∧ _)
      rw [e]
      exact zw.ret ⟨rfl, g2, g3⟩
    · refine zw.cb (s_mergeAll (wt := wt') (lvb := lvb + 60) j3.2 hF j8 j5 j6 j7 X d5 j9 (by omega) hne) ?_
      rintro u h2 ⟨k1, k2, k3, k4⟩
      have k1 : u = _ := k1
      have e : zz_fin2 T dr nb (R, rd, wr, mg, fl) = zz_mgS T dr nb (zz_sel 0 (zz_top R)) (zz_top R + 1) (R, rd, wr, mg, fl) := by
        unfold zz_fin2
        rw [if_neg hne]
      rw [← e] at k1 k2
      have C2 : zC h2 mem fan nb op T dr wt' (zz_fin2 T dr nb (R, rd, wr, mg, fl)).2 res rk := ⟨k4.at d1 (by decide) (by decide), ⟨js, k4.at d2 (by decide) (by decide), d2'⟩, d3.keep (k4.2 5 (by decide) (by decide)) (k4.2 6 (by decide) (by decide)), k2, k3, d6.keep (k4.2 18 (by decide) (by decide)) (k4.2 19 (by decide) (by decide)), d7.keep (k4.2 20 (by decide) (by decide)) (k4.2 21 (by decide) (by decide)), d8.keep (k4.2 22 (by decide) (by decide)) (k4.2 23 (by decide) (by decide)) (k4.2 24 (by decide) (by decide))⟩
      show zw _ (fun x : (Int32 ⊕ Nat) × hh_H => x.1 = (if (zz_fin2 T dr nb (R, rd, wr, mg, fl)).1 = true then .inl (nI (zz_fin2 T dr nb (R, rd, wr, mg, fl)).2.1.length) else .inr 13) ∧ zC x.2 mem fan nb op T dr wt' (zz_fin2 T dr nb (R, rd, wr, mg, fl)).2 res rk ∧ _)
      cases hb : (zz_fin2 T dr nb (R, rd, wr, mg, fl)).1
      · rw [hb] at k1
        rw [k1]
        refine zw.ifp rfl ?_
        refine zw.ret ⟨rfl, C2.fr (W := []) zz_fr.app (by simp), g3.tr ((k4.mono (by simp)).tr ⟨by simp, fun i hi _ => ?_⟩)⟩
        exact List.getElem?_append_left (Nat.lt_of_lt_of_le hi C2.2.2.2.1.1)
      · rw [hb] at k1
        rw [k1]
        refine zw.ifn (show ¬ (1 : Int32) = 0 by decide) ?_
        refine zw.ga C2.1 rfl ?_
        have X2 := C2.2.2.2.1
        refine zw.is X2.2.2.2.2 ?_
        refine zw.cbe (s_RunRow_size X2) ?_
        exact zw.ret ⟨rfl, C2, g3.tr (k4.mono (by simp))⟩
end Close
