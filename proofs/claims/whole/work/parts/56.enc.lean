-- Bytes.encode: key by key as zz_ek
def zz_fin (o : List Nat) : List Nat := if o = [] then [] else o ++ [127]
abbrev zz_r20 : Type := Nat → Nat → Int32 → Int32 → Int32 → Int32 → Int32 → Int32 → hh_H → Option (Unit × hh_H)
theorem zz_raise_len (out : List Nat) (i : Nat) : (zz_raise out i).length = out.length := by simp [zz_raise]
section Enc
variable {h : hh_H} {a b a1 cap F next : Nat} {out : List Nat} {r20 : zz_r20} {Q : Unit × hh_H → Prop}
theorem s_e138 (hab : a ≠ b) (H : zB h a b cap out next) (hcap : cap < 2 ^ 30) (hout : out.length + 1 < 2 ^ 30) {k place pAt : Nat} {x2 x3 x5 x7 : Int32} (hk : k < 2 ^ 31) (hp : place ≤ k % 20) (hpa : pAt ≤ out.length)
    (kk : ∀ h2, zB h2 a b cap (zz_raise (out ++ [k % 20 - place]) pAt) next → zz_fr [a, b] h h2 → h2.length = h.length → zw (r20 a a1 x2 x3 (nI (k % 20)) x5 (nI pAt) (x7 + 1) h2) Q) :
    zw (f_Bytes_encode_138 F r20 a a1 x2 x3 (nI place) x5 (nI pAt) x7 (nI k) h) Q := by
  unfold f_Bytes_encode_138
  refine zw.cbe (s_placeOf hk) ?_
  refine zw.is H.1 ?_
  rw [pk_sub hp]
  refine zw.cb (s_Bytes_put hab H hcap (by omega) _) ?_
  rintro r h1 ⟨-, H1, f1, l1⟩
  refine zw.cbe (s_placeOf hk) ?_
  refine zw.is H1.1 ?_
  refine zw.cb (s_Bytes_raise hab H1 hcap (at_ := pAt) (by simp; omega) (by simp; omega)) ?_
  rintro r2 h2 ⟨H2, f2, l2⟩
  exact kk h2 H2 (f1.tr f2) (by rw [l2, l1])
theorem s_e104 (hab : a ≠ b) (H : zB h a b cap out next) (hcap : cap < 2 ^ 30) (hout : out.length + 3 < 2 ^ 30) {k doc dAt : Nat} {x2 x7 : Int32} (hk : k < 2 ^ 31) (hd : doc ≤ k / 20 % 40) (hda : dAt ≤ out.length)
    (kk : ∀ h2, zB h2 a b cap (zz_raise (zz_raise (out ++ [k / 20 % 40 - doc]) dAt ++ [0] ++ [k % 20 - 0]) (out.length + 1)) next → zz_fr [a, b] h h2 → h2.length = h.length → zw (r20 a a1 x2 (nI (k / 20 % 40)) (nI (k % 20)) (nI dAt) (nI (out.length + 1)) (x7 + 1) h2) Q) :
    zw (f_Bytes_encode_104 F r20 a a1 x2 (nI doc) (nI dAt) x7 (nI k) h) Q := by
  unfold f_Bytes_encode_104
  refine zw.cbe (s_documentOf hk) ?_
  refine zw.is H.1 ?_
  rw [pk_sub hd]
  refine zw.cb (s_Bytes_put hab H hcap (by omega) _) ?_
  rintro r h1 ⟨-, H1, f1, l1⟩
  refine zw.cbe (s_documentOf hk) ?_
  refine zw.is H1.1 ?_
  refine zw.cb (s_Bytes_raise hab H1 hcap (at_ := dAt) (by simp; omega) (by simp; omega)) ?_
  rintro r2 h2 ⟨H2, f2, l2⟩
  refine zw.is H2.1 ?_
  refine zw.cb (s_Bytes_put hab H2 hcap (by simp [zz_raise_len]; omega) 0) ?_
  rintro r3 h3 ⟨hr3, H3, f3, l3⟩
  have hr3' : r3 = nI (out.length + 1) := by
    refine hr3.trans ?_
    rw [zz_raise_len]
    simp
  rw [hr3']
  refine s_e138 hab H3 hcap (by simp [zz_raise_len]; omega) hk (place := 0) (Nat.zero_le _) (by simp [zz_raise_len]) fun h4 H4 f4 l4 => ?_
  exact kk h4 H4 (((f1.tr f2).tr f3).tr f4) (by rw [l4, l3, l2, l1])
/-- what holds between keys: nothing has come yet, or the last key stands before the others -/
def zz_eI (first : Bool) (out : List Nat) (word doc place dAt pAt : Nat) (R : List Nat) : Prop :=
  (first = true ∧ out = [] ∧ word = 0 ∧ doc = 0 ∧ place = 0) ∨ (first = false ∧ doc < 40 ∧ place < 20 ∧ (∀ k ∈ R, zz_key word doc place < k) ∧ dAt < out.length ∧ pAt < out.length)
theorem zz_split (k : Nat) : k = zz_key (k / 800) (k / 20 % 40) (k % 20) ∧ k / 20 % 40 < 40 ∧ k % 20 < 20 := by
  unfold zz_key
  omega
theorem zz_eI_step {first : Bool} {word doc place dAt pAt k : Nat} {R : List Nat} (hI : zz_eI first out word doc place dAt pAt (k :: R)) (hu : zz_up (k :: R)) :
    ∀ o w d p da pa, zz_ek first out word doc place dAt pAt k = (o, w, d, p, da, pa) → zz_eI false o w d p da pa R ∧ o.length ≤ out.length + 5 := by
  intro o w d p da pa he
  obtain ⟨h1, h2, h3⟩ := zz_split k
  unfold zz_ek at he
  simp only [Prod.mk.injEq] at he
  obtain ⟨e1, e2, e3, e4, e5, e6⟩ := he
  have hkey : ∀ x ∈ R, k < x := (List.pairwise_cons.mp hu).1
  have main : w = k / 800 ∧ d = k / 20 % 40 ∧ p = k % 20 ∧ da < o.length ∧ pa < o.length ∧ o.length ≤ out.length + 5 := by
    rcases hI with ⟨rfl, rfl, rfl, rfl, rfl⟩ | ⟨rfl, i1, i2, i3, i4, i5⟩
    · simp at e1 e2 e3 e4 e5 e6
      subst e1 e2 e3 e4 e5 e6
      simp [zz_raise_len]
    · by_cases hw : k / 800 = word
      · by_cases hd : k / 20 % 40 = doc
        · simp [hw, hd] at e1 e2 e3 e4 e5 e6
          subst e1 e2 e3 e4 e5 e6
          simp [zz_raise_len, hw, hd]
          omega
        · simp [hw, hd] at e1 e2 e3 e4 e5 e6
          subst e1 e2 e3 e4 e5 e6
          simp [zz_raise_len, hw]
          omega
      · simp [hw] at e1 e2 e3 e4 e5 e6
        subst e1 e2 e3 e4 e5 e6
        simp [zz_raise_len]
  obtain ⟨rfl, rfl, rfl, m4, m5, m6⟩ := main
  exact ⟨Or.inr ⟨rfl, h2, h3, fun x hx => by rw [← h1]; exact hkey x hx, m4, m5⟩, m6⟩
theorem s_enc_step {b1 cap1 : Nat} {P R : List Nat} {k : Nat} (hab : a ≠ b) (H : zB h a b cap out next) (HP : zP h a1 b1 cap1 (P ++ k :: R)) (hcap : cap < 2 ^ 30) (hcap1 : cap1 < 2 ^ 30) (hout : out.length + 5 < 2 ^ 30) (hk : k < 2 ^ 31) {word doc place dAt pAt : Nat} (hI : zz_eI (P.length == 0) out word doc place dAt pAt (k :: R)) (hword : word < 2 ^ 31)
    (kk : ∀ h2 o w d p da pa, zz_ek (P.length == 0) out word doc place dAt pAt k = (o, w, d, p, da, pa) → zB h2 a b cap o next → zz_fr [a, b] h h2 → h2.length = h.length → zw (r20 a a1 (nI w) (nI d) (nI p) (nI da) (nI pa) (nI (P.length + 1)) h2) Q) :
    zw (f_Bytes_encode_20 F r20 a a1 (nI word) (nI doc) (nI place) (nI dAt) (nI pAt) (nI P.length) h) Q := by
  obtain ⟨h1, h2, h3⟩ := zz_split k
  have hPl : (P ++ k :: R).length < 2 ^ 30 := by obtain ⟨-, js, -, g4⟩ := HP; omega
  have hPl' : P.length < (P ++ k :: R).length := by simp
  have hgt : (P ++ k :: R)[P.length] = k := by simp
  unfold f_Bytes_encode_20
  refine zw.is HP.1 ?_
  refine zw.cbe (s_Postings_size HP) ?_
  refine zw.ifn (nI_ge hPl' (by omega)) ?_
  refine zw.is HP.1 ?_
  refine zw.cbe (s_keyAt HP (by omega) hPl') ?_
  rw [hgt]
  have hdoc : doc < 2 ^ 31 := by
    rcases hI with ⟨-, -, -, rfl, -⟩ | ⟨-, i1, -⟩ <;> omega
  -- a new word
  have new : (P.length == 0 || k / 800 != word) = true → word ≤ k / 800 → zw (f_Bytes_encode_51 F r20 a a1 (nI word) (nI doc) (nI place) (nI dAt) (nI pAt) (nI P.length) (nI k) h) Q := by
    intro hnw hle
    unfold f_Bytes_encode_51 f_Bytes_encode_56
    refine zw.ifn (by decide) ?_
    refine zw.cbe (s_wordOf hk) ?_
    refine zw.is H.1 ?_
    rw [pk_sub hle]
    refine zw.cb (s_Bytes_put hab H hcap (by omega) _) ?_
    rintro r h1 ⟨-, H1, f1, l1⟩
    refine zw.cbe (s_wordOf hk) ?_
    refine zw.is H1.1 ?_
    refine zw.cb (s_Bytes_put hab H1 hcap (by simp; omega) 0) ?_
    rintro r3 h3 ⟨hr3, H3, f3, l3⟩
    have hr3' : r3 = nI (out.length + 1) := by
      refine hr3.trans ?_
      simp
    rw [hr3']
    unfold f_Bytes_encode_90
    refine zw.ifn (by decide) ?_
    refine s_e104 (doc := 0) hab H3 hcap (by simp; omega) hk (Nat.zero_le _) (by simp) fun h4 H4 f4 l4 => ?_
    have e9 : nI P.length + 1 = nI (P.length + 1) := nI_1 _
    rw [e9]
    refine kk h4 _ _ _ _ _ _ ?_ H4 ((f1.tr f3).tr f4) (by rw [l4, l3, l1])
    unfold zz_ek
    simp [hnw]
  rcases hI with ⟨hf, rfl, rfl, rfl, rfl⟩ | ⟨hf, i1, i2, i3, i4, i5⟩
  · have hP0 : P.length = 0 := by simpa using hf
    refine zw.ifp (by rw [hP0]; rfl) ?_
    exact new (by simp [hP0]) (Nat.zero_le _)
  · have hP0 : P.length ≠ 0 := by simpa using hf
    refine zw.ifn (nI_ne0 (by omega) (by omega)) ?_
    refine zw.cbe (s_wordOf hk) ?_
    have hlt := i3 k List.mem_cons_self
    have hcmp := (zz_key_lt i1 h2 i2 h3).mp (by rw [← h1]; exact hlt)
    by_cases hw : k / 800 = word
    · refine zw.ifp (by rw [hw]) ?_
      unfold f_Bytes_encode_56
      refine zw.ifp rfl ?_
      unfold f_Bytes_encode_90
      refine zw.ifp rfl ?_
      refine zw.cbe (s_documentOf hk) ?_
      have e9 : nI P.length + 1 = nI (P.length + 1) := nI_1 _
      by_cases hd : k / 20 % 40 = doc
      · refine zw.ifp (by rw [hd]) ?_
        refine s_e138 hab H hcap (by omega) hk (by omega) (Nat.le_of_lt i5) fun h4 H4 f4 l4 => ?_
        rw [e9]
        refine kk h4 _ _ _ _ _ _ ?_ H4 f4 l4
        unfold zz_ek
        simp [hw, hd, hf]
      · refine zw.ifn (fun q => hd ((nI_eq (by omega) hdoc).mp q)) ?_
        refine s_e104 hab H hcap (by omega) hk (by omega) (Nat.le_of_lt i4) fun h4 H4 f4 l4 => ?_
        rw [e9]
        refine kk h4 _ _ _ _ _ _ ?_ H4 f4 l4
        unfold zz_ek
        simp [hw, hd, hf]
    · refine zw.ifn (fun q => hw ((nI_eq (by omega) hword).mp q)) ?_
      exact new (by simp [hw]) (by omega)
theorem s_enc_loop {b1 cap1 : Nat} (hab : a ≠ b) (h1a : a1 ≠ a) (h1b : a1 ≠ b) (hba : b1 ≠ a) (hbb : b1 ≠ b) (hcap : cap < 2 ^ 30) (hcap1 : cap1 < 2 ^ 20) {l : List Nat} (hl : ∀ y ∈ l, y < 2 ^ 31) (hu : zz_up l) : ∀ (n : Nat) (P R : List Nat) (out : List Nat) (word doc place dAt pAt : Nat) (h1 : hh_H), R.length < n → l = P ++ R → out.length ≤ 5 * P.length → zz_eI (P.length == 0) out word doc place dAt pAt R → word < 2 ^ 31 → zB h1 a b cap out next → zP h1 a1 b1 cap1 l →
    zw (hp_it (fun _ _ _ _ _ _ _ _ _ => none) (f_Bytes_encode_20 F) n a a1 (nI word) (nI doc) (nI place) (nI dAt) (nI pAt) (nI P.length) h1) (fun r => zB r.2 a b cap (zz_fin (zz_ekL (P.length == 0) (out, word, doc, place, dAt, pAt) R).1) next ∧ zz_fr [a, b] h1 r.2 ∧ r.2.length = h1.length) := by
  intro n
  induction n with
  | zero => intro P R out word doc place dAt pAt h1 h; omega
  | succ n ih =>
    intro P R out word doc place dAt pAt h1 hn hlP hout hI hw HB HP
    have hll : l.length < 2 ^ 20 := by obtain ⟨-, js, -, g4⟩ := HP; omega
    have hP : P.length ≤ l.length := by rw [hlP]; simp
    rw [hp_it_s]
    cases R with
    | nil =>
      have hl0 : l = P := by simpa using hlP
      subst hl0
      unfold f_Bytes_encode_20
      refine zw.is HP.1 ?_
      refine zw.cbe (s_Postings_size HP) ?_
      refine zw.ifp (nI_le (Nat.le_refl _) (by omega)) ?_
      unfold f_Bytes_encode_170
      refine zw.gi HB.1 rfl ?_
      by_cases ho : out = []
      · subst ho
        refine zw.ifp (by decide) ?_
        exact zw.ret ⟨HB, zz_fr.rf _ _, rfl⟩
      · have hpos : 0 < out.length := List.length_pos_iff.mpr ho
        refine zw.ifn (nI_nle hpos (by omega)) ?_
        refine zw.is HB.1 ?_
        rw [q_lit 127]
        refine zw.cb (s_Bytes_put hab HB hcap (by omega) 127) ?_
        rintro r h2 ⟨-, H2, f2, l2⟩
        have e7 : zz_fin out = out ++ [127] := if_neg ho
        refine zw.ret ⟨?_, f2, l2⟩
        show zB h2 a b cap (zz_fin out) next
        rw [e7]
        exact H2
    | cons k R =>
      have hk : k < 2 ^ 31 := hl k (by rw [hlP]; simp)
      have huR : zz_up (k :: R) := (zz_up_app.mp (by rw [← hlP]; exact hu)).2.1
      rw [hlP] at HP
      refine s_enc_step hab HB HP hcap (by omega) (by omega) hk hI hw fun h2 o w d p da pa he H2 f2 l2 => ?_
      obtain ⟨hI2, hlen⟩ := zz_eI_step hI huR o w d p da pa he
      have hw2 : w < 2 ^ 31 := by
        unfold zz_ek at he
        simp only [Prod.mk.injEq] at he
        obtain ⟨-, e2, -⟩ := he
        rw [← e2]
        split
        · omega
        · exact hw
      have hPk : (P ++ [k]).length = P.length + 1 := by simp
      have hne : ((P ++ [k]).length == 0) = false := by simp
      have HP2 : zP h2 a1 b1 cap1 l := by
        rw [hlP]
        exact HP.fr f2 (zz_notin (by simp [h1a, h1b])) (zz_notin (by simp [hba, hbb]))
      have hi := ih (P ++ [k]) R o w d p da pa h2 (by simp at hn; omega) (by rw [hlP]; simp) (by rw [hPk]; omega) (by rw [hne]; exact hI2) hw2 H2 HP2
      rw [hPk] at hi
      have e3 : zz_ekL (P.length == 0) (out, word, doc, place, dAt, pAt) (k :: R) = zz_ekL false (o, w, d, p, da, pa) R := by
        show zz_ekL false (zz_ek (P.length == 0) out word doc place dAt pAt k) R = _
        rw [he]
      rw [e3]
      have e4 : ((P.length + 1) == 0) = false := by simp
      rw [e4] at hi
      refine hi.mono ?_
      rintro r ⟨q1, q2, q3⟩
      exact ⟨q1, f2.tr q2, by rw [q3, l2]⟩
theorem zz_ekL_nil (T : List (List Nat)) (ms : Nat) (h : zz_posts T ms ≠ []) : (zz_ekL true ([], 0, 0, 0, 0, 0) (zz_posts T ms)).1 ≠ [] := by
  intro q
  have h1 := zz_ekL_enc T ms
  rw [q] at h1
  have h2 : zz_ws T ms ≠ [] := by
    intro e
    apply h
    unfold zz_posts
    rw [e]
    rfl
  unfold zz_enc at h1
  cases hw : zz_ws T ms with
  | nil => exact h2 hw
  | cons w ws =>
    rw [hw] at h1
    simp [zz_eW] at h1
/-- the bytes of a set of documents: none if it has no postings -/
def zz_bytes (T : List (List Nat)) (ms : Nat) : List Nat := if zz_posts T ms = [] then [] else zz_enc T ms
theorem s_encode {b1 cap1 : Nat} (hab : a ≠ b) (h1a : a1 ≠ a) (h1b : a1 ≠ b) (hba : b1 ≠ a) (hbb : b1 ≠ b) (hcap : cap < 2 ^ 30) (hcap1 : cap1 < 2 ^ 20) (hF : cap1 < F) {T : List (List Nat)} {ms : Nat} (hl : ∀ y ∈ zz_posts T ms, y < 2 ^ 31) (H : zB h a b cap out next) (HP : zP h a1 b1 cap1 (zz_posts T ms)) :
    zw (f_Bytes_encode F a a1 h) (fun r => zB r.2 a b cap (zz_bytes T ms) 0 ∧ zz_fr [a, b] h r.2 ∧ r.2.length = h.length) := by
  unfold f_Bytes_encode
  refine zw.is H.1 ?_
  refine zw.cb (s_Bytes_clear hab H) ?_
  rintro r h1 ⟨H1, f1, l1⟩
  unfold l_Bytes_encode_20
  have hlen : (zz_posts T ms).length < F := by obtain ⟨-, js, -, g4⟩ := HP; omega
  have hi := s_enc_loop (F := F) (next := 0) hab h1a h1b hba hbb hcap hcap1 hl (zz_posts_up T ms) F [] (zz_posts T ms) [] 0 0 0 0 0 h1 hlen rfl (by simp) (Or.inl ⟨rfl, rfl, rfl, rfl, rfl⟩) (by decide) H1 (HP.fr f1 (zz_notin (by simp [h1a])) (zz_notin (by simp [hba])))
  refine hi.mono ?_
  rintro r ⟨q1, q2, q3⟩
  refine ⟨?_, (f1.mono (by simp)).tr q2, by rw [q3, l1]⟩
  have e : zz_bytes T ms = zz_fin (zz_ekL (([] : List Nat).length == 0) ([], 0, 0, 0, 0, 0) (zz_posts T ms)).1 := by
    unfold zz_bytes zz_fin
    by_cases hp : zz_posts T ms = []
    · rw [if_pos hp, hp]
      rfl
    · have := zz_ekL_nil T ms hp
      have e2 : (([] : List Nat).length == 0) = true := rfl
      rw [if_neg hp, e2, if_neg this, zz_ekL_enc]
  rw [e]
  exact q1
end Enc
