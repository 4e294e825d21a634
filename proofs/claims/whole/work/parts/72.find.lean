-- find and rank
def zz_gb (T : List (List Nat)) (dr : List Bool) (v d : Nat) : Nat := if dr[d]? = some false then zz_bs (zz_pl (zz_tx T d) v) else 0
def zz_adj (t : List Nat) (v w : Nat) : Bool := (List.range 20).any (fun p => t[p]? == some v && t[p + 1]? == some w)
def zz_fit0 (t : List Nat) (v w how : Nat) : Bool := if how = 0 then !(zz_pl t v).isEmpty && !(zz_pl t w).isEmpty else if how = 1 then !(zz_pl t v).isEmpty || !(zz_pl t w).isEmpty else if how = 2 then zz_adj t v w else !(zz_pl t v).isEmpty && (zz_pl t w).isEmpty
def zz_fit (T : List (List Nat)) (dr : List Bool) (v w how d : Nat) : Bool := dr[d]? == some false && zz_fit0 (zz_tx T d) v w how
def zz_fq (T : List (List Nat)) (dr : List Bool) (v : Nat) : Nat := ((List.range T.length).filter (fun d => dr[d]? == some false && !(zz_pl (zz_tx T d) v).isEmpty)).length
def zz_sc (T : List (List Nat)) (dr : List Bool) (v w d : Nat) : UInt64 := FP.dadd (zz_sh (zz_pl (zz_tx T d) v).length (zz_fq T dr v)) (zz_sh (zz_pl (zz_tx T d) w).length (zz_fq T dr w))
def zz_fnd (T : List (List Nat)) (dr : List Bool) (v w how : Nat) : List (Nat × UInt64) := ((List.range T.length).filter (zz_fit T dr v w how)).map (fun d => (d, FP.dconst0))
def zz_rnk (T : List (List Nat)) (dr : List Bool) (v w : Nat) : List (Nat × UInt64) := ((List.range T.length).filter (zz_fit T dr v w 1)).foldl (fun r d => zz_put (d, zz_sc T dr v w d) r) []
theorem zz_bs_lt20 {t : List Nat} {v : Nat} : zz_bs (zz_pl t v) < 2 ^ 20 := zz_lt (fun i hi => by
  rw [zz_bs_bit] at hi
  exact (zz_pl_mem.mp (of_decide_eq_true hi)).1)
theorem zz_gb_lt {T : List (List Nat)} {dr : List Bool} {v d : Nat} : zz_gb T dr v d < 2 ^ 20 := by
  unfold zz_gb
  split
  · exact zz_bs_lt20
  · decide
theorem zz_bs_0 {l : List Nat} : zz_bs l = 0 ↔ l = [] := by
  constructor
  · intro h
    cases l with
    | nil => rfl
    | cons x l =>
      have := zz_bs_bit (x :: l) x
      rw [h] at this
      simp at this
  · intro h
    rw [h]
    rfl
theorem zz_pc_bs {t : List Nat} {v : Nat} : zz_pc (zz_bs (zz_pl t v)) = (zz_pl t v).length := by
  unfold zz_pc
  congr 1
  refine zz_ext (zz_up_filter (zz_up_range 20) _) (zz_up_filter (zz_up_range 20) _) (fun x => ?_)
  show x ∈ (List.range 20).filter (zz_bs (zz_pl t v)).testBit ↔ x ∈ zz_pl t v
  rw [List.mem_filter, zz_bs_bit]
  simp
  intro h
  exact (zz_pl_mem.mp h).1
theorem zz_put_0 (d : Nat) (L : List Nat) : zz_put (d, FP.dconst0) (L.map (fun d => (d, FP.dconst0))) = (L ++ [d]).map (fun d => (d, FP.dconst0)) := by
  have h0 : ∀ a : Nat, zz_less (a, FP.dconst0) FP.dconst0 = false := fun a => by
    show (!decide (0 ≤ Op.cmpValue (FP.dcmp FP.dconst0 FP.dconst0) .g)) = false
    decide +kernel
  unfold zz_put
  rw [← List.map_reverse]
  cases hq : L.reverse with
  | nil =>
    have : L = [] := by simpa using hq
    rw [this]
    rfl
  | cons a A =>
    have hL : L = (a :: A).reverse := by rw [← hq, List.reverse_reverse]
    rw [List.map_cons, zz_gr, if_neg (by rw [h0]; decide), hL]
    simp
theorem zz_adj_bits {t : List Nat} {v w : Nat} (ht : t.length ≤ 20) : ((zz_bs (zz_pl t v) * 2) &&& zz_bs (zz_pl t w)) = 0 ↔ zz_adj t v w = false := by
  have hb : ∀ i, ((zz_bs (zz_pl t v) * 2) &&& zz_bs (zz_pl t w)).testBit i = true ↔ ∃ p, i = p + 1 ∧ t[p]? = some v ∧ t[p + 1]? = some w := by
    intro i
    have e : zz_bs (zz_pl t v) * 2 = zz_bs (zz_pl t v) <<< 1 := by rw [Nat.shiftLeft_eq]
    rw [e, Nat.testBit_and, Nat.testBit_shiftLeft, zz_bs_bit, zz_bs_bit]
    simp only [Bool.and_eq_true, decide_eq_true_eq, zz_pl_mem]
    constructor
    · rintro ⟨⟨h1, h2, h3⟩, h4, h5⟩
      exact ⟨i - 1, by omega, h3, by rw [show i - 1 + 1 = i by omega]; exact h5⟩
    · rintro ⟨p, rfl, h1, h2⟩
      have := (List.getElem?_eq_some_iff.mp h2).1
      exact ⟨⟨by omega, by omega, by simpa using h1⟩, by omega, h2⟩
  constructor
  · intro h0
    cases ha : zz_adj t v w
    · rfl
    · unfold zz_adj at ha
      rw [List.any_eq_true] at ha
      obtain ⟨p, _, hp⟩ := ha
      simp at hp
      have := (hb (p + 1)).mpr ⟨p, rfl, hp.1, hp.2⟩
      rw [h0] at this
      simp at this
  · intro ha
    rw [zz_s0]
    intro i
    cases hq : ((zz_bs (zz_pl t v) * 2) &&& zz_bs (zz_pl t w)).testBit i
    · rfl
    · obtain ⟨p, rfl, h1, h2⟩ := (hb i).mp hq
      unfold zz_adj at ha
      rw [List.any_eq_false] at ha
      have hlt := (List.getElem?_eq_some_iff.mp h1).1
      have := ha p (List.mem_range.mpr (by omega))
      simp [h1, h2] at this
section Find
variable {h : hh_H} {F mem fan nb wt lvb : Nat} {op : List Nat} {T : List (List Nat)} {dr : List Bool} {s : List (Nat × Nat × Nat) × Int32 × Int32 × Int32 × Int32} {res : List (Nat × UInt64)} {rk : Int32} {v w : Nat}
def zz_rds (s : List (Nat × Nat × Nat) × Int32 × Int32 × Int32 × Int32) : List (Nat × Nat × Nat) × Int32 × Int32 × Int32 × Int32 := (s.1, s.2.1 + nI (zz_nbs s.1), s.2.2)
theorem zz_gbits {g : Nat → Nat} (HI : zz_I mem fan nb op T dr wt lvb s res rk) (hg : ∀ d, d < 40 → ∀ q, (g d).testBit q = true ↔ zz_G T dr v (zz_um s.1) d q ∨ zz_G T dr v (zz_wm T wt) d q) : ∀ d, d < 40 → g d = zz_gb T dr v d := by
  obtain ⟨i1, i2, i3, i4, i5, i6, i7, i8, i9, i10, i11, i12, i13, i14⟩ := HI
  intro d hd
  refine zz_seq (fun q => ?_)
  rw [hg d hd q]
  unfold zz_gb zz_G
  by_cases hl : dr[d]? = some false
  · rw [if_pos hl, zz_bs_bit]
    simp only [decide_eq_true_eq, zz_pl_mem]
    constructor
    · rintro (⟨_, _, h3, h4⟩ | ⟨_, _, h3, h4⟩)
      · exact ⟨h3, h4⟩
      · exact ⟨h3, h4⟩
    · rintro ⟨h3, h4⟩
      have hne : zz_tx T d ≠ [] := List.ne_nil_of_mem (List.mem_of_getElem? h4)
      have hdl : d < T.length := by
        have := (List.getElem?_eq_some_iff.mp hl).1
        omega
      by_cases hdw : d < wt
      · obtain ⟨r, hr, hb⟩ := i9.2.2 d hdw hl hne
        exact Or.inl ⟨hl, zz_um_bit.mpr ⟨r, hr, hb⟩, h3, h4⟩
      · exact Or.inr ⟨hl, zz_wm_bit.mpr ⟨by omega, hdl, hne⟩, h3, h4⟩
  · rw [if_neg hl]
    constructor
    · rintro (⟨h, _⟩ | ⟨h, _⟩)
      · exact absurd h hl
      · exact absurd h hl
    · intro h
      simp at h
theorem s_lookUp (hF : 5000 < F) (hv : v < 100) (hw : w < 100) (HI : zz_I mem fan nb op T dr wt lvb s res rk) (H : zC h mem fan nb op T dr wt s res rk) :
    zw (f_IB_lookUp F 1 (nI v) (nI w) h) (fun x => zQ x.2 18 19 v (zz_gb T dr v) ∧ zQ x.2 20 21 w (zz_gb T dr w) ∧ zC x.2 mem fan nb op T dr wt (zz_rds s) res rk ∧ zz_fr [10, 14, 15, 16, 17, 18, 19, 20, 21] h x.2) := by
  have hI := HI
  obtain ⟨i1, i2, i3, i4, i5, i6, i7, i8, i9, i10, i11, i12, i13, i14⟩ := HI
  obtain ⟨c1, ⟨js, c2, c2'⟩, c3, c4, ⟨⟨l1, y1⟩, ⟨l2, y2⟩, ⟨o, n, y3⟩⟩, c6, c7, c8⟩ := H
  have X : zX h T dr nb fan s.1 s.2.1 s.2.2.1 s.2.2.2.1 s.2.2.2.2 := c4
  unfold f_IB_lookUp
  refine zw.ga c1 rfl ?_
  obtain ⟨⟨x6, c6a⟩, c6b⟩ := id c6
  obtain ⟨⟨x7, c7a⟩, c7b⟩ := id c7
  refine zw.is c6a ?_
  refine zw.cb (s_Places_begin (w := v) (by decide) hF c6) ?_
  rintro _ h1 ⟨a1, a2, a3⟩
  refine zw.ga (a2.at c1 (by decide)) rfl ?_
  refine zw.is (a2.at c7a (by decide)) ?_
  refine zw.cb (s_Places_begin (w := w) (by decide) hF (c7.fr a2 (by decide) (by decide))) ?_
  rintro _ h2 ⟨b1, b2, b3⟩
  have d1 := b2.at (a2.at c1 (by decide)) (by decide)
  refine zw.ga d1 rfl ?_
  refine zw.ga d1 rfl ?_
  refine zw.ga d1 rfl ?_
  have X2 := (X.fr a2 (by decide)).fr b2 (by decide)
  refine zw.is X2.2.2.2.2 ?_
  refine zw.cb (s_readAll i3.2 hF hv hw X2 ⟨l2, (y2.fr a2 (by decide) (by decide)).fr b2 (by decide) (by decide)⟩ ⟨o, n, (y3.fr a2 (by decide) (by decide)).fr b2 (by decide) (by decide)⟩ (a1.fr b2 (by decide) (by decide)) b1) ?_
  rintro _ h3 ⟨g1, g2, e1, e2, e3, e4, e5, e6, e7, e8, e9, e10⟩
  have d3 := e10.at d1 (by decide)
  refine zw.ga d3 rfl ?_
  refine zw.ga d3 rfl ?_
  refine zw.ga d3 rfl ?_
  refine zw.is e4.1 ?_
  have P3 := ((c3.fr a2 (by decide) (by decide)).fr b2 (by decide) (by decide)).fr e10 (by decide) (by decide)
  refine zw.cb (s_Places_take hF (by decide) (by decide) (by decide) (by decide) (by decide) (by omega) hv P3 e1.2.1 e4 e6) ?_
  rintro _ h4 ⟨g1', t1, t2, t3, t4, t5⟩
  have d4 := t4.at d3 (by decide)
  refine zw.ga d4 rfl ?_
  refine zw.ga d4 rfl ?_
  refine zw.ga d4 rfl ?_
  have Q4 := e5.fr t4 (by decide) (by decide)
  have X4 := e1.fr t4 (by decide)
  refine zw.is Q4.1 ?_
  refine zw.cb (s_Places_take hF (by decide) (by decide) (by decide) (by decide) (by decide) (by omega) hw (P3.fr t4 (by decide) (by decide)) X4.2.1 Q4 e7) ?_
  rintro _ h5 ⟨g2', u1, u2, u3, u4, u5⟩
  have f : zz_fr [10, 14, 15, 16, 17, 18, 19, 20, 21] h h5 := (a2.mono (by simp)).tr ((b2.mono (by simp)).tr ((e10.mono (by simp)).tr ((t4.mono (by simp)).tr (u4.mono (by simp)))))
  have hg1 := zz_gbits (g := g1') hI (fun d hd q => by rw [t3 d hd q, e8 d hd q])
  have hg2 := zz_gbits (g := g2') hI (fun d hd q => by rw [u3 d hd q, e9 d hd q])
  have q1 := t1.fr u4 (by decide) (by decide)
  have r1 : zQ h5 18 19 v (zz_gb T dr v) := ⟨q1.1, by rw [q1.2]; congr 4; exact zz_row_eq (fun d hd => by rw [hg1 d hd])⟩
  have r2 : zQ h5 20 21 w (zz_gb T dr w) := ⟨u1.1, by rw [u1.2]; congr 4; exact zz_row_eq (fun d hd => by rw [hg2 d hd])⟩
  refine zw.ret ⟨r1, r2, ⟨f.at c1 (by decide), ⟨js, f.at c2 (by decide), c2'⟩, c3.fr f (by decide) (by decide), X4.fr u4 (by decide), ⟨⟨l1, y1.fr f (by decide) (by decide)⟩, ?_, ?_⟩, r1.q0, r2.q0, c8.fr f (by decide) (by decide) (by decide)⟩, f⟩
  · obtain ⟨l, hl⟩ := e2
    exact ⟨l, (hl.fr t4 (by decide) (by decide)).fr u4 (by decide) (by decide)⟩
  · obtain ⟨o, n, hl⟩ := e3
    exact ⟨o, n, (hl.fr t4 (by decide) (by decide)).fr u4 (by decide) (by decide)⟩
theorem s_fits_class {d how : Nat} (hd : d < 40) (hh : how ≤ 3) (ht : (zz_tx T d).length ≤ 20) (c1 : ∃ q0 q1 q2 q3 q4 q5 q6, h[1]? = some (.inr (8, [q0, q1, q2, q3, q4, q5, .inr (.inl (some 18)), .inr (.inl (some 20)), q6]))) (H1 : zQ h 18 19 v (zz_gb T dr v)) (H2 : zQ h 20 21 w (zz_gb T dr w)) : f_IB_fits F 1 (nI d) (nI how) h = some (if zz_fit T dr v w how d = true then 1 else 0, h) := by
  obtain ⟨q0, q1, q2, q3, q4, q5, q6, c1⟩ := c1
  unfold f_IB_fits
  rw [q_ga c1 rfl]
  show ((hp_is h 18 4).bind _) = _
  rw [q_is H1.1]
  show hp_cb (f_Places_bitsOf F 18 (nI d) h) _ = _
  rw [s_bitsOf H1 hd, q_cb, q_ga c1 rfl]
  show ((hp_is h 20 4).bind _) = _
  rw [q_is H2.1]
  show hp_cb (f_Places_bitsOf F 20 (nI d) h) _ = _
  rw [s_bitsOf H2 hd, q_cb]
  have b1 := zz_gb_lt (T := T) (dr := dr) (v := v) (d := d)
  have b2 := zz_gb_lt (T := T) (dr := dr) (v := w) (d := d)
  have n0 : ∀ m, m < 2 ^ 20 → (nI m = 0 ↔ m = 0) := fun m hm => nI_eq (b := 0) (by omega) (by decide)
  have e3 : (nI (zz_gb T dr v d) <<< (1 &&& 31)) &&& nI (zz_gb T dr w d) = nI ((zz_gb T dr v d * 2) &&& zz_gb T dr w d) := by
    rw [pk_shlN (1 &&& 31) 1 (by decide) (by omega), zz_nand]
  have e4 : (zz_gb T dr v d * 2) &&& zz_gb T dr w d < 2 ^ 20 := Nat.lt_of_le_of_lt Nat.and_le_right b2
  simp only [n0 _ b1, n0 _ b2, e3, n0 _ e4]
  unfold zz_fit
  by_cases hl : dr[d]? = some false
  · have g1 : zz_gb T dr v d = zz_bs (zz_pl (zz_tx T d) v) := by unfold zz_gb; rw [if_pos hl]
    have g2 : zz_gb T dr w d = zz_bs (zz_pl (zz_tx T d) w) := by unfold zz_gb; rw [if_pos hl]
    rw [g1, g2]
    simp only [zz_bs_0, zz_adj_bits ht, hl]
    unfold zz_fit0
    have hcase : how = 0 ∨ how = 1 ∨ how = 2 ∨ how = 3 := by omega
    rcases hcase with rfl | rfl | rfl | rfl
    · rw [if_pos (show nI 0 = 0 from rfl)]
      cases zz_pl (zz_tx T d) v <;> cases zz_pl (zz_tx T d) w <;> rfl
    · rw [if_neg (show ¬ nI 1 = 0 by decide), if_pos (show nI 1 = 1 from rfl)]
      cases zz_pl (zz_tx T d) v <;> cases zz_pl (zz_tx T d) w <;> rfl
    · rw [if_neg (show ¬ nI 2 = 0 by decide), if_neg (show ¬ nI 2 = 1 by decide), if_pos (show nI 2 = 2 from rfl)]
      cases zz_adj (zz_tx T d) v w <;> rfl
    · rw [if_neg (show ¬ nI 3 = 0 by decide), if_neg (show ¬ nI 3 = 1 by decide), if_neg (show ¬ nI 3 = 2 by decide), if_pos (show nI 3 = 3 from rfl)]
      cases zz_pl (zz_tx T d) v <;> cases zz_pl (zz_tx T d) w <;> rfl
  · have g1 : zz_gb T dr v d = 0 := by unfold zz_gb; rw [if_neg hl]
    have g2 : zz_gb T dr w d = 0 := by unfold zz_gb; rw [if_neg hl]
    rw [g1, g2]
    have hl2 : (dr[d]? == some false) = false := by simpa using hl
    rw [hl2]
    have hcase : how = 0 ∨ how = 1 ∨ how = 2 ∨ how = 3 := by omega
    rcases hcase with rfl | rfl | rfl | rfl <;> rfl
theorem zz_tx_len (HI : zz_I mem fan nb op T dr wt lvb s res rk) (d : Nat) : (zz_tx T d).length ≤ 20 := by
  unfold zz_tx
  rw [List.getD_eq_getElem?_getD]
  cases hq : T[d]? with
  | none => simp
  | some t => exact (HI.2.2.2.2.2.2.1 t (List.mem_of_getElem? hq)).1
theorem s_find_loop {how : Nat} {q0 q1 q2 q3 q4 : hh_V} (hF : 5000 < F) (hh : how ≤ 3) (ht : ∀ d, (zz_tx T d).length ≤ 20) (hT : T.length ≤ 40) (hdr : dr.length = T.length) : ∀ (k n i : Nat) (L : List Nat) (h1 : hh_H), i + k = T.length → k < n → L.length ≤ i → h1[1]? = some (.inr (8, [q0, q1, q2, .inr (.inl (some 3)), q3, q4, .inr (.inl (some 18)), .inr (.inl (some 20)), .inr (.inl (some 22))])) → zD h1 3 4 dr → zQ h1 18 19 v (zz_gb T dr v) → zQ h1 20 21 w (zz_gb T dr w) → zA h1 (L.map (fun d => (d, FP.dconst0))) 0 →
    zw (hp_it (fun _ _ _ _ => none) (f_IB_find_50 F) n 1 (nI how) (nI i) h1) (fun x => x.1 = .inl (nI (L ++ (List.range' i k).filter (zz_fit T dr v w how)).length) ∧ zA x.2 ((L ++ (List.range' i k).filter (zz_fit T dr v w how)).map (fun d => (d, FP.dconst0))) 0 ∧ zz_fr [22, 23, 24] h1 x.2) := by
  intro k
  induction k with
  | zero =>
    intro n i L h1 hi hn hL c1 HD H1 H2 HA
    obtain ⟨n, rfl⟩ : ∃ m, n = m + 1 := ⟨n - 1, by omega⟩
    rw [hp_it_s, f_IB_find_50]
    refine zw.ga c1 rfl ?_
    refine zw.is HD.2.1 ?_
    refine zw.cbe (s_Documents_size HD) ?_
    refine zw.ifp (nI_le (by omega) (by omega)) ?_
    refine zw.ga c1 rfl ?_
    refine zw.is HA.1 ?_
    refine zw.cbe (s_Answer_size HA) ?_
    refine zw.ret ⟨by simp, by simpa using HA, zz_fr.rf _ _⟩
  | succ k ih =>
    intro n i L h1 hi hn hL c1 HD H1 H2 HA
    obtain ⟨n, rfl⟩ : ∃ m, n = m + 1 := ⟨n - 1, by omega⟩
    rw [hp_it_s, f_IB_find_50]
    refine zw.ga c1 rfl ?_
    refine zw.is HD.2.1 ?_
    refine zw.cbe (s_Documents_size HD) ?_
    refine zw.ifn (nI_ge (by omega) (by omega)) ?_
    refine zw.is c1 ?_
    refine zw.cbe (s_fits_class (by omega) hh (ht i) ⟨_, _, _, _, _, _, _, c1⟩ H1 H2) ?_
    rw [List.range'_succ, List.filter_cons, nI_1]
    cases hq : zz_fit T dr v w how i
    · refine zw.ifp rfl ?_
      refine (ih n (i + 1) L h1 (by omega) (by omega) (by omega) c1 HD H1 H2 HA).mono ?_
      rintro x hx
      simpa using hx
    · refine zw.ifn (by decide) ?_
      refine zw.ga c1 rfl ?_
      refine zw.is HA.1 ?_
      refine zw.cb (s_Answer_put hF (by simp; omega) HA) ?_
      rintro _ h2 ⟨g1, g2, g3⟩
      rw [zz_put_0] at g1
      refine (ih n (i + 1) (L ++ [i]) h2 (by omega) (by omega) (by simp; omega) (g2.at c1 (by decide)) (HD.fr g2 (by decide) (by decide)) (H1.fr g2 (by decide) (by decide)) (H2.fr g2 (by decide) (by decide)) g1).mono ?_
      rintro x ⟨r1, r2, r3⟩
      refine ⟨?_, ?_, g2.tr r3⟩
      · rw [r1]
        simp
      · simpa using r2
theorem zC.ans {h' : hh_H} {res' : List (Nat × UInt64)} {rk' : Int32} (H : zC h mem fan nb op T dr wt s res rk) (f : zz_fr [22, 23, 24] h h') (HA : zA h' res' rk') : zC h' mem fan nb op T dr wt s res' rk' := by
  obtain ⟨c1, ⟨js, c2, c2'⟩, c3, c4, ⟨⟨l1, y1⟩, ⟨l2, y2⟩, ⟨o, n, y3⟩⟩, c6, c7, c8⟩ := H
  exact ⟨f.at c1 (by decide), ⟨js, f.at c2 (by decide), c2'⟩, c3.fr f (by decide) (by decide), zX.fr c4 f (by decide), ⟨⟨l1, y1.fr f (by decide) (by decide)⟩, ⟨l2, y2.fr f (by decide) (by decide)⟩, ⟨o, n, y3.fr f (by decide) (by decide)⟩⟩, c6.fr f (by decide) (by decide), c7.fr f (by decide) (by decide), HA⟩
theorem s_find_in {how : Nat} (hF : 5000 < F) (hv : v < 100) (hw : w < 100) (hh : how ≤ 3) (HI : zz_I mem fan nb op T dr wt lvb s res rk) (H : zC h mem fan nb op T dr wt s res rk) :
    zw (f_IB_find F 1 (nI v) (nI w) (nI how) h) (fun x => x.1 = .inl (nI (zz_fnd T dr v w how).length) ∧ zC x.2 mem fan nb op T dr wt (zz_rds s) (zz_fnd T dr v w how) 0 ∧ zz_fr [10, 14, 15, 16, 17, 18, 19, 20, 21, 22, 23, 24] h x.2) := by
  have hI := HI
  obtain ⟨i1, i2, i3, i4, i5, i6, i7, i8, i9, i10, i11, i12, i13, i14⟩ := HI
  unfold f_IB_find
  refine zw.cbe (s_isWord_in hv) ?_
  refine zw.ifn (by decide) ?_
  refine zw.cbe (s_isWord_in hw) ?_
  refine zw.ifn (by decide) ?_
  refine zw.ifn (nI_pos (by omega)) ?_
  refine zw.ifp (nI_le (b := 3) hh (by decide)) ?_
  refine zw.is H.1 ?_
  refine zw.cb (s_lookUp hF hv hw hI H) ?_
  rintro _ h1 ⟨a1, a2, a3, a4⟩
  refine zw.ga a3.1 rfl ?_
  have A1 := a3.2.2.2.2.2.2.2
  refine zw.is A1.1 ?_
  refine zw.cb (s_Answer_begin (Or.inl rfl) A1) ?_
  rintro _ h2 ⟨b1, b2, b3⟩
  unfold l_IB_find_50
  have X1 : zX h1 T dr nb fan (zz_rds s).1 (zz_rds s).2.1 (zz_rds s).2.2.1 (zz_rds s).2.2.2.1 (zz_rds s).2.2.2.2 := a3.2.2.2.1
  refine (s_find_loop (F := F) (v := v) (w := w) hF hh (zz_tx_len hI) i5 i6 T.length F 0 [] h2 (by omega) (by omega) (by simp) (b2.at a3.1 (by decide)) (X1.2.1.fr b2 (by decide) (by decide)) (a1.fr b2 (by decide) (by decide)) (a2.fr b2 (by decide) (by decide)) b1).mono ?_
  rintro x ⟨r1, r2, r3⟩
  rw [← List.range_eq_range', List.nil_append] at r1 r2
  refine ⟨by rw [r1]; simp [zz_fnd], a3.ans ((b2.mono (by simp)).tr r3) r2, (a4.mono (by simp)).tr ((b2.mono (by simp)).tr (r3.mono (by simp)))⟩
theorem s_find_bad {x y z : Int32} (hq : x < 0 ∨ 100 ≤ x ∨ y < 0 ∨ 100 ≤ y ∨ z < 0 ∨ 3 < z) : f_IB_find F 1 x y z h = some (.inr 11, h ++ [.inr (11, [])]) := by
  unfold f_IB_find
  by_cases h1 : x < 0 ∨ 100 ≤ x
  · rw [s_isWord_out h1, q_cb, if_pos rfl]
  · have hx : f_IB_isWord F x h = some (1, h) := by
      unfold f_IB_isWord
      rw [if_neg (fun q => h1 (Or.inl q)), if_neg (fun q => h1 (Or.inr q))]
    rw [hx, q_cb, if_neg (by decide)]
    by_cases h2 : y < 0 ∨ 100 ≤ y
    · rw [s_isWord_out h2, q_cb, if_pos rfl]
    · have hy : f_IB_isWord F y h = some (1, h) := by
        unfold f_IB_isWord
        rw [if_neg (fun q => h2 (Or.inl q)), if_neg (fun q => h2 (Or.inr q))]
      rw [hy, q_cb, if_neg (by decide)]
      by_cases h3 : z < 0
      · rw [if_pos h3]
      · rw [if_neg h3]
        rcases hq with hq | hq | hq | hq | hq | hq
        · exact absurd (Or.inl hq) h1
        · exact absurd (Or.inr hq) h1
        · exact absurd (Or.inl hq) h2
        · exact absurd (Or.inr hq) h2
        · exact absurd hq h3
        · rw [if_neg (Int32.not_le.mpr hq)]
-- rank
theorem zz_fq_le (T : List (List Nat)) (dr : List Bool) (v : Nat) : zz_fq T dr v ≤ T.length := by
  unfold zz_fq
  exact Nat.le_trans (List.length_filter_le _ _) (by simp)
theorem zz_fq_gb (hT : T.length ≤ 40) (hdr : dr.length = T.length) : ((List.range 40).filter (fun d => decide (zz_gb T dr v d ≠ 0))).length = zz_fq T dr v := by
  unfold zz_fq
  congr 1
  refine zz_ext (zz_up_filter (zz_up_range 40) _) (zz_up_filter (zz_up_range _) _) (fun d => ?_)
  simp only [List.mem_filter, List.mem_range, decide_eq_true_eq, Bool.and_eq_true, beq_iff_eq, Bool.not_eq_true']
  unfold zz_gb
  by_cases hl : dr[d]? = some false
  · have hlt := (List.getElem?_eq_some_iff.mp hl).1
    rw [if_pos hl]
    constructor
    · rintro ⟨h1, h2⟩
      refine ⟨by omega, hl, ?_⟩
      have : ¬ zz_pl (zz_tx T d) v = [] := fun q => h2 (zz_bs_0.mpr q)
      simpa using this
    · rintro ⟨h1, _, h2⟩
      refine ⟨by omega, fun q => ?_⟩
      rw [zz_bs_0.mp q] at h2
      simp at h2
  · rw [if_neg hl]
    constructor
    · rintro ⟨_, h2⟩
      exact absurd rfl h2
    · rintro ⟨_, h2, _⟩
      exact absurd h2 hl
theorem zz_fold_len {T : List (List Nat)} {dr : List Bool} {v w : Nat} : ∀ (L : List Nat) (r : List (Nat × UInt64)), (L.foldl (fun r d => zz_put (d, zz_sc T dr v w d) r) r).length = r.length + L.length := by
  intro L
  induction L with
  | nil => intro r; rfl
  | cons d L ih =>
    intro r
    rw [List.foldl_cons, ih, zz_put_len]
    simp
    omega
theorem s_rank_loop {q0 q1 q2 q3 q4 : hh_V} (hF : 5000 < F) (ht : ∀ d, (zz_tx T d).length ≤ 20) (hT : T.length ≤ 40) (hdr : dr.length = T.length) : ∀ (k n i : Nat) (r : List (Nat × UInt64)) (h1 : hh_H), i + k = T.length → k < n → r.length ≤ i → h1[1]? = some (.inr (8, [q0, q1, q2, .inr (.inl (some 3)), q3, q4, .inr (.inl (some 18)), .inr (.inl (some 20)), .inr (.inl (some 22))])) → zD h1 3 4 dr → zQ h1 18 19 v (zz_gb T dr v) → zQ h1 20 21 w (zz_gb T dr w) → zA h1 r 1 →
    zw (hp_it (fun _ _ _ _ _ => none) (f_IB_rank_58 F) n 1 (nI (zz_fq T dr v)) (nI (zz_fq T dr w)) (nI i) h1) (fun x => x.1 = .inl (nI (((List.range' i k).filter (zz_fit T dr v w 1)).foldl (fun r d => zz_put (d, zz_sc T dr v w d) r) r).length) ∧ zA x.2 (((List.range' i k).filter (zz_fit T dr v w 1)).foldl (fun r d => zz_put (d, zz_sc T dr v w d) r) r) 1 ∧ zz_fr [22, 23, 24] h1 x.2) := by
  intro k
  induction k with
  | zero =>
    intro n i L h1 hi hn hL c1 HD H1 H2 HA
    obtain ⟨n, rfl⟩ : ∃ m, n = m + 1 := ⟨n - 1, by omega⟩
    rw [hp_it_s, f_IB_rank_58]
    refine zw.ga c1 rfl ?_
    refine zw.is HD.2.1 ?_
    refine zw.cbe (s_Documents_size HD) ?_
    refine zw.ifp (nI_le (by omega) (by omega)) ?_
    refine zw.ga c1 rfl ?_
    refine zw.is HA.1 ?_
    refine zw.cbe (s_Answer_size HA) ?_
    refine zw.ret ⟨by simp, by simpa using HA, zz_fr.rf _ _⟩
  | succ k ih =>
    intro n i L h1 hi hn hL c1 HD H1 H2 HA
    obtain ⟨n, rfl⟩ : ∃ m, n = m + 1 := ⟨n - 1, by omega⟩
    rw [hp_it_s, f_IB_rank_58]
    refine zw.ga c1 rfl ?_
    refine zw.is HD.2.1 ?_
    refine zw.cbe (s_Documents_size HD) ?_
    refine zw.ifn (nI_ge (by omega) (by omega)) ?_
    refine zw.is c1 ?_
    refine zw.cbe (s_fits_class (how := 1) (by omega) (by decide) (ht i) ⟨_, _, _, _, _, _, _, c1⟩ H1 H2) ?_
    rw [List.range'_succ, List.filter_cons, nI_1]
    cases hq : zz_fit T dr v w 1 i
    · refine zw.ifp rfl ?_
      refine (ih n (i + 1) L h1 (by omega) (by omega) (by omega) c1 HD H1 H2 HA).mono ?_
      rintro x hx
      simpa using hx
    · refine zw.ifn (by decide) ?_
      have hlv : dr[i]? = some false := by
        unfold zz_fit at hq
        rw [Bool.and_eq_true] at hq
        simpa using hq.1
      have hgv : ∀ u, zz_pc (zz_gb T dr u i) = (zz_pl (zz_tx T i) u).length := by
        intro u
        unfold zz_gb
        rw [if_pos hlv, zz_pc_bs]
      have hf1 := zz_fq_le T dr v
      have hf2 := zz_fq_le T dr w
      refine zw.ga c1 rfl ?_
      refine zw.ga c1 rfl ?_
      refine zw.is H1.1 ?_
      refine zw.cbe (s_share (by omega) (fun d => zz_gb_lt) (by omega) H1) ?_
      refine zw.ga c1 rfl ?_
      refine zw.is H2.1 ?_
      refine zw.cbe (s_share (by omega) (fun d => zz_gb_lt) (by omega) H2) ?_
      rw [hgv v, hgv w]
      have hnn := zz_dadd (zz_sh_fin (zz_pl_len (zz_tx T i) v) (show zz_fq T dr v ≤ 40 by omega)) (zz_sh_fin (zz_pl_len (zz_tx T i) w) (show zz_fq T dr w ≤ 40 by omega))
      rw [hnn]
      refine zw.is HA.1 ?_
      refine zw.cb (s_Answer_put (d := i) (y := zz_sc T dr v w i) hF (by omega) HA) ?_
      rintro _ h2 ⟨g1, g2, g3⟩
      refine (ih n (i + 1) (zz_put (i, zz_sc T dr v w i) L) h2 (by omega) (by omega) (by rw [zz_put_len]; omega) (g2.at c1 (by decide)) (HD.fr g2 (by decide) (by decide)) (H1.fr g2 (by decide) (by decide)) (H2.fr g2 (by decide) (by decide)) g1).mono ?_
      rintro x ⟨r1, r2, r3⟩
      refine ⟨?_, ?_, g2.tr r3⟩
      · rw [r1]
        simp
      · simpa using r2
theorem s_rank_in (hF : 5000 < F) (hv : v < 100) (hw : w < 100) (HI : zz_I mem fan nb op T dr wt lvb s res rk) (H : zC h mem fan nb op T dr wt s res rk) :
    zw (f_IB_rank F 1 (nI v) (nI w) h) (fun x => x.1 = .inl (nI (zz_rnk T dr v w).length) ∧ zC x.2 mem fan nb op T dr wt (zz_rds s) (zz_rnk T dr v w) 1 ∧ zz_fr [10, 14, 15, 16, 17, 18, 19, 20, 21, 22, 23, 24] h x.2) := by
  have hI := HI
  obtain ⟨i1, i2, i3, i4, i5, i6, i7, i8, i9, i10, i11, i12, i13, i14⟩ := HI
  unfold f_IB_rank
  refine zw.cbe (s_isWord_in hv) ?_
  refine zw.ifn (by decide) ?_
  refine zw.cbe (s_isWord_in hw) ?_
  refine zw.ifn (by decide) ?_
  refine zw.is H.1 ?_
  refine zw.cb (s_lookUp hF hv hw hI H) ?_
  rintro _ h1 ⟨a1, a2, a3, a4⟩
  refine zw.ga a3.1 rfl ?_
  refine zw.is a1.1 ?_
  refine zw.cbe (s_frequency hF (fun d => zz_gb_lt) a1) ?_
  refine zw.ga a3.1 rfl ?_
  refine zw.is a2.1 ?_
  refine zw.cbe (s_frequency hF (fun d => zz_gb_lt) a2) ?_
  rw [zz_fq_gb i5 i6, zz_fq_gb i5 i6]
  refine zw.ga a3.1 rfl ?_
  have A1 := a3.2.2.2.2.2.2.2
  refine zw.is A1.1 ?_
  refine zw.cb (s_Answer_begin (Or.inr rfl) A1) ?_
  rintro _ h2 ⟨b1, b2, b3⟩
  unfold l_IB_rank_58
  have X1 : zX h1 T dr nb fan (zz_rds s).1 (zz_rds s).2.1 (zz_rds s).2.2.1 (zz_rds s).2.2.2.1 (zz_rds s).2.2.2.2 := a3.2.2.2.1
  refine (s_rank_loop (F := F) (v := v) (w := w) hF (zz_tx_len hI) i5 i6 T.length F 0 [] h2 (by omega) (by omega) (by simp) (b2.at a3.1 (by decide)) (X1.2.1.fr b2 (by decide) (by decide)) (a1.fr b2 (by decide) (by decide)) (a2.fr b2 (by decide) (by decide)) b1).mono ?_
  rintro x ⟨r1, r2, r3⟩
  rw [← List.range_eq_range'] at r1 r2
  exact ⟨r1, a3.ans ((b2.mono (by simp)).tr r3) r2, (a4.mono (by simp)).tr ((b2.mono (by simp)).tr (r3.mono (by simp)))⟩
theorem s_rank_bad {x y : Int32} (hq : x < 0 ∨ 100 ≤ x ∨ y < 0 ∨ 100 ≤ y) : f_IB_rank F 1 x y h = some (.inr 11, h ++ [.inr (11, [])]) := by
  unfold f_IB_rank
  by_cases h1 : x < 0 ∨ 100 ≤ x
  · rw [s_isWord_out h1, q_cb, if_pos rfl]
  · have hx : f_IB_isWord F x h = some (1, h) := by
      unfold f_IB_isWord
      rw [if_neg (fun q => h1 (Or.inl q)), if_neg (fun q => h1 (Or.inr q))]
    rw [hx, q_cb, if_neg (by decide)]
    rcases hq with hq | hq | hq | hq
    · exact absurd (Or.inl hq) h1
    · exact absurd (Or.inr hq) h1
    · rw [s_isWord_out (Or.inl hq), q_cb, if_pos rfl]
    · rw [s_isWord_out (Or.inr hq), q_cb, if_pos rfl]
end Find
