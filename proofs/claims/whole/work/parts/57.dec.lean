-- Bytes.decode: the postings come back
abbrev zz_r19 : Type := Nat → Nat → Int32 → Int32 → Int32 → hh_H → Option (Unit × hh_H)
abbrev zz_r48 : Type := Nat → Nat → Int32 → Int32 → Int32 → Int32 → Int32 → hh_H → Option (Unit × hh_H)
section Dec
variable {h : hh_H} {a b a1 b1 cap cap1 F : Nat} {out : List Nat} {Q : Unit × hh_H → Prop}
theorem s_append (hab : a ≠ b) {l : List Nat} {k : Nat} (hk : k < 2 ^ 31) (H : zP h a b cap l) (hcap : cap < 2 ^ 30) (hF : cap < F) (hl : l.length < cap) (hu : zz_up (l ++ [k])) (hlt : ∀ y ∈ l, y < 2 ^ 31) :
    zw (f_Postings_insert F a (nI k) h) (fun r => zP r.2 a b cap (l ++ [k]) ∧ zz_fr [a, b] h r.2 ∧ r.2.length = h.length) := by
  obtain ⟨u1, -, u3⟩ := zz_up_app.mp hu
  refine (s_insert hab hk H hcap hF hl u1 hlt (fun q => by have := u3 k q k (by simp); omega)).mono ?_
  rintro r ⟨l', q1, q2, q3, q4, q5, q6⟩
  have e : l' = l ++ [k] := zz_ext q2 hu (fun x => by rw [q3 x]; simp [or_comm])
  rw [e] at q1
  exact ⟨q1, q5, q6⟩
theorem s_dec76 (hab : a ≠ b) (h11 : a1 ≠ b1) (haa : a ≠ a1) (hab1 : a ≠ b1) (hba1 : b ≠ a1) (hbb : b ≠ b1) (hcap : cap < 2 ^ 30) (hcap1 : cap1 < 2 ^ 30) (hF : cap1 < F) (hout : out.length ≤ cap) {r19 : zz_r19} {r48 : zz_r48} {w d : Nat} (hd : d < 40) {x4 x5 x7 : Int32} : ∀ (n : Nat) (ps A R L : List Nat) (c prev : Nat) (h1 : hh_H), ps.length < n → out = A ++ (zz_eP prev ps ++ R) → (∀ p ∈ ps, prev ≤ p ∧ p < 20) → zz_up ps → zz_up (L ++ ps.map (zz_key w d)) → (∀ y ∈ L ++ ps.map (zz_key w d), y < 2 ^ 31) → (L ++ ps.map (zz_key w d)).length ≤ cap1 → c + ps.length < 2 ^ 31 →
    zB h1 a b cap out A.length → zP h1 a1 b1 cap1 L →
    (∀ h2, zB h2 a b cap out (A.length + ps.length) → zP h2 a1 b1 cap1 (L ++ ps.map (zz_key w d)) → zz_fr [a, a1, b1] h1 h2 → h2.length = h1.length → zw (r48 a a1 (nI w) x4 x5 (nI d) (x7 + 1) h2) Q) →
    zw (hp_it (fun _ _ _ _ _ _ _ _ _ _ _ => none) (f_Bytes_decode_76 F r19 r48) n a a1 (nI w) x4 x5 (nI d) x7 (nI (c + ps.length)) (nI prev) (nI c) h1) Q := by
  intro n
  induction n with
  | zero => intro ps A R L c prev h1 h; omega
  | succ n ih =>
    intro ps A R L c prev h1 hn ho hp hups hu hlt hlen hc HB HP kk
    rw [hp_it_s]
    unfold f_Bytes_decode_76
    cases ps with
    | nil =>
      refine zw.ifp (nI_le (by simp) (by omega)) ?_
      exact kk h1 (by simpa using HB) (by simpa using HP) (zz_fr.rf _ _) rfl
    | cons p ps =>
      simp only [List.length_cons] at hn hc ⊢
      refine zw.ifn (nI_ge (by omega) (by omega)) ?_
      refine zw.is HB.1 ?_
      refine zw.cb (s_Bytes_read hab HB hcap hout (x := p - prev) (by rw [ho]; simp [zz_eP])) ?_
      rintro q h2 ⟨hq, HB2, f2, l2⟩
      have hpp := hp p List.mem_cons_self
      have hq' : nI prev + q = nI p := by
        rw [show q = nI (p - prev) from hq, nI_add]
        congr 1
        omega
      rw [hq']
      refine zw.cbe (s_keyOf w d p) ?_
      have HP2 : zP h2 a1 b1 cap1 L := HP.fr f2 (zz_notin (by simp [Ne.symm haa])) (zz_notin (by simp [Ne.symm hab1]))
      refine zw.is HP2.1 ?_
      have hk : zz_key w d p < 2 ^ 31 := hlt _ (by simp)
      have huk : zz_up (L ++ [zz_key w d p]) := by
        have e : L ++ (p :: ps).map (zz_key w d) = (L ++ [zz_key w d p]) ++ ps.map (zz_key w d) := by simp
        rw [e] at hu
        exact (zz_up_app.mp hu).1
      refine zw.cb (s_append h11 hk HP2 hcap1 hF (by simp at hlen; omega) huk (fun y hy => hlt y (by simp [hy]))) ?_
      rintro u h3 ⟨HP3, f3, l3⟩
      have HB3 : zB h3 a b cap out (A ++ [p - prev]).length := by
        have := HB2.fr f3 (zz_notin (by simp [haa, hab1])) (zz_notin (by simp [hba1, hbb]))
        simpa using this
      have e1 : nI c + 1 = nI (c + 1) := nI_1 c
      rw [e1]
      have e2 : c + (ps.length + 1) = c + 1 + ps.length := by omega
      rw [e2]
      have hups2 := List.pairwise_cons.mp hups
      refine ih ps (A ++ [p - prev]) R (L ++ [zz_key w d p]) (c + 1) p h3 (by omega) (by rw [ho]; simp [zz_eP]) (fun z hz => ⟨Nat.le_of_lt (hups2.1 z hz), (hp z (List.mem_cons_of_mem _ hz)).2⟩) hups2.2 (by simpa using hu) (by simpa using hlt) (by simp at hlen ⊢; omega) (by omega) HB3 HP3 ?_
      intro h4 HB4 HP4 f4 l4
      refine kk h4 ?_ ?_ (((f2.mono (by simp)).tr (f3.mono (by simp))).tr f4) (by rw [l4, l3, l2])
      · simpa [Nat.add_assoc, Nat.add_comm, Nat.add_left_comm] using HB4
      · simpa using HP4
theorem s_dec48 (hab : a ≠ b) (h11 : a1 ≠ b1) (haa : a ≠ a1) (hab1 : a ≠ b1) (hba1 : b ≠ a1) (hbb : b ≠ b1) (hcap : cap < 2 ^ 30) (hcap1 : cap1 < 2 ^ 30) (hF : cap1 < F) (hF2 : 20 < F) (hout : out.length ≤ cap) {r19 : zz_r19} {T : List (List Nat)} {w st : Nat} {x4 : Int32} : ∀ (n : Nat) (ds A R L : List Nat) (c prev : Nat) (h1 : hh_H), ds.length < n → out = A ++ (zz_eD T w prev ds ++ st :: R) → (∀ d ∈ ds, prev ≤ d ∧ d < 40) → zz_up ds → zz_up (L ++ ds.flatMap (zz_pd T w)) → (∀ y ∈ L ++ ds.flatMap (zz_pd T w), y < 2 ^ 31) → (L ++ ds.flatMap (zz_pd T w)).length ≤ cap1 → c + ds.length < 2 ^ 31 →
    zB h1 a b cap out A.length → zP h1 a1 b1 cap1 L →
    (∀ h2, zB h2 a b cap out (A.length + (zz_eD T w prev ds).length + 1) → zP h2 a1 b1 cap1 (L ++ ds.flatMap (zz_pd T w)) → zz_fr [a, a1, b1] h1 h2 → h2.length = h1.length → zw (r19 a a1 (nI w) (nI st) (x4 + 1) h2) Q) →
    zw (hp_it (fun _ _ _ _ _ _ _ _ => none) (f_Bytes_decode_48 F r19) n a a1 (nI w) x4 (nI (c + ds.length)) (nI prev) (nI c) h1) Q := by
  intro n
  induction n with
  | zero => intro ds A R L c prev h1 h; omega
  | succ n ih =>
    intro ds A R L c prev h1 hn ho hp hups hu hlt hlen hc HB HP kk
    rw [hp_it_s]
    unfold f_Bytes_decode_48
    cases ds with
    | nil =>
      refine zw.ifp (nI_le (by simp) (by omega)) ?_
      unfold f_Bytes_decode_116
      refine zw.is HB.1 ?_
      refine zw.cb (s_Bytes_read hab HB hcap hout (x := st) (by rw [ho]; simp [zz_eD])) ?_
      rintro q h2 ⟨hq, HB2, f2, l2⟩
      rw [show q = nI st from hq]
      exact kk h2 (by simpa [zz_eD] using HB2) (by simpa using HP.fr f2 (zz_notin (by simp [Ne.symm haa])) (zz_notin (by simp [Ne.symm hab1]))) (f2.mono (by simp)) l2
    | cons d ds =>
      simp only [List.length_cons] at hn hc ⊢
      have hdd := hp d List.mem_cons_self
      refine zw.ifn (nI_ge (by omega) (by omega)) ?_
      refine zw.is HB.1 ?_
      refine zw.cb (s_Bytes_read hab HB hcap hout (x := d - prev) (by rw [ho]; simp [zz_eD])) ?_
      rintro q h2 ⟨hq, HB2, f2, l2⟩
      refine zw.is HB2.1 ?_
      refine zw.cb (s_Bytes_read hab HB2 hcap hout (x := (zz_pl (zz_tx T d) w).length) (by rw [ho]; simp [zz_eD])) ?_
      rintro q3 h3 ⟨hq3, HB3, f3, l3⟩
      have hq' : nI prev + q = nI d := by
        rw [show q = nI (d - prev) from hq, nI_add]
        congr 1
        omega
      rw [hq', show q3 = nI (zz_pl (zz_tx T d) w).length from hq3]
      unfold l_Bytes_decode_76
      have HP3 : zP h3 a1 b1 cap1 L := (HP.fr f2 (zz_notin (by simp [Ne.symm haa])) (zz_notin (by simp [Ne.symm hab1]))).fr f3 (zz_notin (by simp [Ne.symm haa])) (zz_notin (by simp [Ne.symm hab1]))
      have hpl : (zz_pl (zz_tx T d) w).length ≤ 20 := by
        unfold zz_pl
        exact Nat.le_trans (List.length_filter_le _ _) (by simp)
      have hc9 : (zz_pl (zz_tx T d) w).length = 0 + (zz_pl (zz_tx T d) w).length := by omega
      rw [hc9]
      have hupd : zz_pd T w d = (zz_pl (zz_tx T d) w).map (zz_key w d) := rfl
      have hu' : zz_up ((L ++ zz_pd T w d) ++ ds.flatMap (zz_pd T w)) := by simpa using hu
      have HB3' : zB h3 a b cap out (A ++ [d - prev, (zz_pl (zz_tx T d) w).length]).length := by simpa using HB3
      refine s_dec76 hab h11 haa hab1 hba1 hbb hcap hcap1 hF hout hdd.2 F (zz_pl (zz_tx T d) w) (A ++ [d - prev, (zz_pl (zz_tx T d) w).length]) (zz_eD T w d ds ++ st :: R) L 0 0 h3 (by omega) (by rw [ho]; simp [zz_eD]) (fun p hp => ⟨Nat.zero_le _, (zz_pl_mem.mp hp).1⟩) (zz_up_filter (zz_up_range 20) _) (zz_up_app.mp hu').1 (fun y hy => hlt y (by
          rw [List.flatMap_cons, ← List.append_assoc]
          exact List.mem_append_left _ hy)) (by rw [List.flatMap_cons, ← List.append_assoc, List.length_append] at hlen; rw [← hupd]; omega) (by omega) HB3' HP3 ?_
      intro h4 HB4 HP4 f4 l4
      have e1 : nI c + 1 = nI (c + 1) := nI_1 c
      rw [e1]
      have e2 : c + (ds.length + 1) = c + 1 + ds.length := by omega
      rw [e2]
      have hups2 := List.pairwise_cons.mp hups
      have hlA : (A ++ [d - prev, (zz_pl (zz_tx T d) w).length]).length + (zz_pl (zz_tx T d) w).length = (A ++ ((d - prev) :: (zz_pl (zz_tx T d) w).length :: zz_eP 0 (zz_pl (zz_tx T d) w))).length := by
        have : ∀ (l : List Nat) (q : Nat), (zz_eP q l).length = l.length := by
          intro l
          induction l with
          | nil => intro q; rfl
          | cons x l ih => intro q; simp [zz_eP, ih]
        simp [this]
        omega
      rw [hlA] at HB4
      refine ih ds (A ++ ((d - prev) :: (zz_pl (zz_tx T d) w).length :: zz_eP 0 (zz_pl (zz_tx T d) w))) R (L ++ zz_pd T w d) (c + 1) d h4 (by omega) (by rw [ho]; simp [zz_eD]) (fun z hz => ⟨Nat.le_of_lt (hups2.1 z hz), (hp z (List.mem_cons_of_mem _ hz)).2⟩) hups2.2 hu' (by simpa using hlt) (by simpa using hlen) (by omega) HB4 HP4 ?_
      intro h5 HB5 HP5 f5 l5
      refine kk h5 ?_ (by simpa using HP5) ((((f2.mono (by simp)).tr (f3.mono (by simp))).tr f4).tr f5) (by rw [l5, l4, l3, l2])
      simpa [zz_eD, Nat.add_assoc, Nat.add_comm, Nat.add_left_comm] using HB5
theorem s_dec19 (hab : a ≠ b) (h11 : a1 ≠ b1) (haa : a ≠ a1) (hab1 : a ≠ b1) (hba1 : b ≠ a1) (hbb : b ≠ b1) (hcap : cap < 2 ^ 30) (hcap1 : cap1 < 2 ^ 30) (hF : cap1 < F) (hF2 : 40 < F) (hout : out.length ≤ cap) {T : List (List Nat)} {ms : Nat} : ∀ (n : Nat) (ws A L : List Nat) (i prev st : Nat) (h1 : hh_H), ws.length < n → out = A ++ (zz_eW T ms prev ws ++ [127]) → (zz_eW T ms prev ws ++ [127])[0]? = some st → (∀ w ∈ ws, prev ≤ w ∧ w < 100) → zz_up ws → zz_up (L ++ ws.flatMap (zz_pw T ms)) → (∀ y ∈ L ++ ws.flatMap (zz_pw T ms), y < 2 ^ 31) → (L ++ ws.flatMap (zz_pw T ms)).length ≤ cap1 → i + ws.length ≤ 100 →
    zB h1 a b cap out (A.length + 1) → zP h1 a1 b1 cap1 L →
    zw (hp_it (fun _ _ _ _ _ _ => none) (f_Bytes_decode_19 F) n a a1 (nI prev) (nI st) (nI i) h1) (fun r => (∃ next, zB r.2 a b cap out next) ∧ zP r.2 a1 b1 cap1 (L ++ ws.flatMap (zz_pw T ms)) ∧ zz_fr [a, a1, b1] h1 r.2 ∧ r.2.length = h1.length) := by
  intro n
  induction n with
  | zero => intro ws A L i prev st h1 h; omega
  | succ n ih =>
    intro ws A L i prev st h1 hn ho hst hp hups hu hlt hlen hc HB HP
    rw [hp_it_s]
    unfold f_Bytes_decode_19
    cases ws with
    | nil =>
      simp [zz_eW] at hst
      subst hst
      have fin : zw (some ((), h1)) (fun r => (∃ next, zB r.2 a b cap out next) ∧ zP r.2 a1 b1 cap1 (L ++ ([] : List Nat).flatMap (zz_pw T ms)) ∧ zz_fr [a, a1, b1] h1 r.2 ∧ r.2.length = h1.length) := zw.ret ⟨⟨_, HB⟩, by simpa using HP, zz_fr.rf _ _, rfl⟩
      by_cases hi : 100 ≤ i
      · exact zw.ifp (nI_le (a := 100) hi (by omega)) fin
      · exact zw.ifn (nI_ge (b := 100) (by omega) (by decide)) (zw.ifp rfl fin)
    | cons w ws =>
      simp only [List.length_cons] at hn hc
      simp [zz_eW] at hst
      subst hst
      have hww := hp w List.mem_cons_self
      refine zw.ifn (nI_ge (b := 100) (by omega) (by decide)) ?_
      refine zw.ifn (fun q => by have := (nI_eq (a := w - prev) (b := 127) (by omega) (by decide)).mp q; omega) ?_
      refine zw.is HB.1 ?_
      refine zw.cb (s_Bytes_read hab HB hcap hout (x := (zz_ds T ms w).length) (by rw [ho]; simp [zz_eW])) ?_
      rintro q h2 ⟨hq, HB2, f2, l2⟩
      rw [show q = nI (zz_ds T ms w).length from hq]
      have hq' : nI prev + nI (w - prev) = nI w := by
        rw [nI_add]
        congr 1
        omega
      rw [hq']
      unfold l_Bytes_decode_48
      have hds : (zz_ds T ms w).length ≤ 40 := by
        unfold zz_ds
        exact Nat.le_trans (List.length_filter_le _ _) (by simp)
      have hc9 : (zz_ds T ms w).length = 0 + (zz_ds T ms w).length := by omega
      rw [hc9]
      have hu' : zz_up ((L ++ zz_pw T ms w) ++ ws.flatMap (zz_pw T ms)) := by simpa using hu
      have HP2 : zP h2 a1 b1 cap1 L := HP.fr f2 (zz_notin (by simp [Ne.symm haa])) (zz_notin (by simp [Ne.symm hab1]))
      have HB2' : zB h2 a b cap out (A ++ [w - prev, (zz_ds T ms w).length]).length := by simpa using HB2
      obtain ⟨st2, R2, hR2⟩ : ∃ st2 R2, zz_eW T ms w ws ++ [127] = st2 :: R2 := by
        cases hq : zz_eW T ms w ws ++ [127] with
        | nil => simp at hq
        | cons x y => exact ⟨x, y, rfl⟩
      have hupd : zz_pw T ms w = (zz_ds T ms w).flatMap (zz_pd T w) := rfl
      refine s_dec48 (st := st2) hab h11 haa hab1 hba1 hbb hcap hcap1 hF (by omega) hout F (zz_ds T ms w) (A ++ [w - prev, (zz_ds T ms w).length]) R2 L 0 0 h2 (by omega) (by rw [ho, ← hR2]; simp [zz_eW]) (fun d hd => ⟨Nat.zero_le _, (zz_ds_mem.mp hd).1⟩) (zz_up_filter (zz_up_range 40) _) (zz_up_app.mp hu').1 (fun y hy => hlt y (by
          rw [List.flatMap_cons, ← List.append_assoc]
          exact List.mem_append_left _ hy)) (by rw [List.flatMap_cons, ← List.append_assoc, List.length_append] at hlen; rw [← hupd]; omega) (by omega) HB2' HP2 ?_
      intro h4 HB4 HP4 f4 l4
      have e1 : nI i + 1 = nI (i + 1) := nI_1 i
      rw [e1]
      have hups2 := List.pairwise_cons.mp hups
      have e5 : (A ++ [w - prev, (zz_ds T ms w).length]).length + (zz_eD T w 0 (zz_ds T ms w)).length + 1 = (A ++ ((w - prev) :: (zz_ds T ms w).length :: zz_eD T w 0 (zz_ds T ms w))).length + 1 := by
        simp only [List.length_append, List.length_cons, List.length_nil]
        omega
      rw [e5] at HB4
      have hi := ih ws (A ++ ((w - prev) :: (zz_ds T ms w).length :: zz_eD T w 0 (zz_ds T ms w))) (L ++ zz_pw T ms w) (i + 1) w st2 h4 (by omega) (by rw [ho]; simp [zz_eW]) (by rw [hR2]; rfl) (fun z hz => ⟨Nat.le_of_lt (hups2.1 z hz), (hp z (List.mem_cons_of_mem _ hz)).2⟩) hups2.2 hu' (by simpa using hlt) (by simpa using hlen) (by omega) HB4 HP4
      refine hi.mono ?_
      rintro r ⟨q1, q2, q3, q4⟩
      exact ⟨q1, by simpa using q2, ((f2.mono (by simp)).tr f4).tr q3, by rw [q4, l4, l2]⟩
theorem s_decode (hab : a ≠ b) (h11 : a1 ≠ b1) (haa : a ≠ a1) (hab1 : a ≠ b1) (hba1 : b ≠ a1) (hbb : b ≠ b1) (hcap : cap < 2 ^ 30) (hcap1 : cap1 < 2 ^ 30) (hF : cap1 < F) (hF2 : 100 < F) {T : List (List Nat)} {ms next : Nat} (hout : (zz_enc T ms).length ≤ cap) (hlt : ∀ y ∈ zz_posts T ms, y < 2 ^ 31) (hlen : (zz_posts T ms).length ≤ cap1) {l0 : List Nat} (HB : zB h a b cap (zz_enc T ms) next) (HP : zP h a1 b1 cap1 l0) :
    zw (f_Bytes_decode F a a1 h) (fun r => (∃ next, zB r.2 a b cap (zz_enc T ms) next) ∧ zP r.2 a1 b1 cap1 (zz_posts T ms) ∧ zz_fr [a, a1, b1] h r.2 ∧ r.2.length = h.length) := by
  unfold f_Bytes_decode
  refine zw.is HP.1 ?_
  refine zw.cb (s_Postings_clear h11 HP) ?_
  rintro r h1 ⟨HP1, f1, l1⟩
  have HB1 := HB.fr f1 (zz_notin (by simp [haa])) (zz_notin (by simp [hba1]))
  obtain ⟨g2, cs, g3, g4, g5⟩ := HB1
  refine zw.pi g2 (Nat.le_of_ble_eq_true rfl) fun h2 s2 => ?_
  have HB2 : zB h2 a b cap (zz_enc T ms) 0 := ⟨s2.1, cs, s2.at g3 (Ne.symm hab), g4, g5⟩
  refine zw.is HB2.1 ?_
  obtain ⟨st, hst⟩ : ∃ st, (zz_enc T ms)[0]? = some st := by
    unfold zz_enc
    cases hq : zz_eW T ms 0 (zz_ws T ms) with
    | nil => exact ⟨127, rfl⟩
    | cons x y => exact ⟨x, rfl⟩
  refine zw.cb (s_Bytes_read hab HB2 hcap hout (x := st) hst) ?_
  rintro q h3 ⟨hq, HB3, f3, l3⟩
  rw [show q = nI st from hq]
  unfold l_Bytes_decode_19
  have HP3 : zP h3 a1 b1 cap1 [] := (HP1.fr (s2.fr (W := [a]) (by simp)) (zz_notin (by simp [Ne.symm haa])) (zz_notin (by simp [Ne.symm hab1]))).fr f3 (zz_notin (by simp [Ne.symm haa])) (zz_notin (by simp [Ne.symm hab1]))
  have hws : (zz_ws T ms).length ≤ 100 := by
    unfold zz_ws
    exact Nat.le_trans (List.length_filter_le _ _) (by simp)
  refine (s_dec19 hab h11 haa hab1 hba1 hbb hcap hcap1 hF (by omega) hout F (zz_ws T ms) [] [] 0 0 st h3 (by omega) rfl hst (fun w hw => ⟨Nat.zero_le _, (zz_ws_mem.mp hw).1⟩) (zz_up_filter (zz_up_range 100) _) (by simpa [zz_posts] using zz_posts_up T ms) (by simpa [zz_posts] using hlt) (by simpa [zz_posts] using hlen) (by omega) (by simpa using HB3) HP3).mono ?_
  rintro r ⟨q1, q2, q3, q4⟩
  exact ⟨q1, by simpa [zz_posts] using q2, (((f1.mono (by simp)).tr (s2.fr (by simp))).tr (f3.mono (by simp))).tr q3, by rw [q4, l3, s2.2.2, l1]⟩
end Dec
