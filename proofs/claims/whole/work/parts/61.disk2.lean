-- the disk: write, read, release
section DiskB
variable {h : hh_H} {F nb u : Nat} {f : Nat → Int32} {T : List (List Nat)} {R : List (Nat × Nat × Nat)} {out : List Nat} {next : Nat}
theorem s_Bytes_at {a b cap : Nat} (H : zB h a b cap out next) (hcap : cap < 2 ^ 30) (hout : out.length ≤ cap) {i : Nat} (hi : i < 2 ^ 31) : f_Bytes_at F a (nI i) h = some (nI (out.getD i 0), h) := by
  obtain ⟨g2, cs, g3, g4, g5⟩ := H
  unfold f_Bytes_at
  rw [if_neg (nI_pos hi), q_gi g2 rfl]
  show (if nI out.length ≤ nI i then _ else _) = _
  by_cases hc : out.length ≤ i
  · rw [if_pos (nI_le hc hi), List.getD_eq_getElem?_getD, List.getElem?_eq_none hc]
    rfl
  · rw [if_neg (nI_ge (by omega) (by omega)), q_ga g2 rfl]
    show ((hp_len h b).bind _) = _
    rw [q_len g3 (by decide), g4]
    show (if nI cap ≤ nI i then _ else ((some b).bind _)) = _
    rw [if_neg (nI_ge (by omega) (by omega))]
    show ((hp_ai h b (nI i)).bind _) = _
    have hx : cs[i]? = some (nI out[i]) := by
      rw [g5 i (by omega) (by omega)]
      simp [Nat.not_le.mp hc]
    rw [q_ai g3 hi hx, List.getD_eq_getElem?_getD, List.getElem?_eq_getElem (by omega)]
    rfl
theorem s_write41 {σ : Type} {Q : Nat × hh_H → Prop} {r22 : Nat → Nat → Int32 → Nat → Int32 → hh_H → Option (Nat × hh_H)} (hnb : nb ≤ 60) {b k q : Nat} {x2 : Int32} (hb : b < nb) (hk : k < 60) (hout : out.length ≤ 16 * nb) : ∀ (m n i : Nat) (f : Nat → Int32) (h1 : hh_H), i + m = 16 → m < n → zK0 h1 nb u f → zB h1 16 17 (16 * nb) out next →
    (∀ (f2 : Nat → Int32) (h2 : hh_H), (∀ j, f2 j = if 16 * b + i ≤ j ∧ j < 16 * b + 16 then nI (out.getD (16 * k + (j - 16 * b)) 0) else f j) → zK0 h2 nb u f2 → zz_fr [8] h1 h2 → h2.length = h1.length → zw (r22 7 16 x2 q (nI (k + 1)) h2) Q) →
    zw (hp_it (fun _ _ _ _ _ _ _ _ => none) (f_Disk_write_41 F r22) n 7 16 x2 q (nI k) (nI (16 * b)) (nI i) h1) Q := by
  intro m
  induction m with
  | zero =>
    intro n i f h1 hi hn H0 HB kk
    obtain ⟨n, rfl⟩ : ∃ m, n = m + 1 := ⟨n - 1, by omega⟩
    rw [hp_it_s]
    unfold f_Disk_write_41
    refine zw.ifp (nI_le (a := 16) (by omega) (by omega)) ?_
    rw [nI_1]
    refine kk f h1 (fun j => ?_) H0 (zz_fr.rf _ _) rfl
    rw [if_neg (by omega)]
  | succ m ih =>
    intro n i f h1 hi hn H0 HB kk
    obtain ⟨n, rfl⟩ : ∃ m, n = m + 1 := ⟨n - 1, by omega⟩
    rw [hp_it_s]
    unfold f_Disk_write_41
    refine zw.ifn (nI_ge (b := 16) (by omega) (by decide)) ?_
    refine zw.ga H0.1 rfl ?_
    refine zw.len H0.2.1 (by decide) ?_
    rw [zz_row_len', nI_add]
    refine zw.ifn (nI_ge (by omega) (by omega)) ?_
    refine zw.ga H0.1 rfl ?_
    refine zw.is HB.1 ?_
    have e1 : nI k * 16 + nI i = nI (16 * k + i) := by
      rw [show nI k * 16 = nI (k * 16) from pk_mul k 16, nI_add]
      congr 1
      omega
    rw [e1]
    refine zw.cbe (s_Bytes_at HB (by omega) hout (by omega)) ?_
    refine zw.si H0.2.1 (16 * b + i) rfl (by rw [zz_row_len']; omega) (by omega) fun h2 s2 => ?_
    rw [nI_1]
    have H2 : zK0 h2 nb u (fun j => if j = 16 * b + i then nI (out.getD (16 * k + i) 0) else f j) := ⟨s2.at H0.1 (by decide), by rw [s2.1, zz_row_set], s2.at H0.2.2 (by decide)⟩
    refine ih n (i + 1) _ h2 (by omega) (by omega) H2 (HB.fr (s2.fr (W := [8]) (by simp)) (by decide) (by decide)) ?_
    intro f2 h3 hf2 H3 fr3 l3
    refine kk f2 h3 (fun j => ?_) H3 ((s2.fr (by simp)).tr fr3) (by rw [l3, s2.2.2])
    rw [hf2 j]
    by_cases c1 : j = 16 * b + i
    · subst c1
      rw [if_neg (by omega), if_pos rfl, if_pos (by omega)]
      congr 2
      omega
    · by_cases c2 : 16 * b + (i + 1) ≤ j ∧ j < 16 * b + 16
      · rw [if_pos c2, if_pos (by omega)]
      · rw [if_neg c2, if_neg c1, if_neg (by omega)]
theorem s_write95 {q : Nat} {x2 : Int32} (HB : zB h 16 17 (16 * nb) out next) : f_Disk_write_95 F 16 x2 q h = some (h.length, h ++ [.inr (6, [.inl x2, .inr (.inl (some q)), .inl (nI out.length)])]) := by
  unfold f_Disk_write_95 hp_new
  rw [q_cb]
  have HB1 : zB (h ++ [.inr (6, hh_dfl 6)]) 16 17 (16 * nb) out next := HB.fr (W := []) zz_fr.app (by simp) (by simp)
  rw [q_is HB1.1]
  show hp_cb (f_Bytes_size F 16 _) _ = _
  rw [s_Bytes_size HB1, q_cb]
  unfold f_Run_init
  have hc : (h ++ [(.inr (6, hh_dfl 6) : hh_C)])[h.length]? = some (.inr (6, hh_dfl 6)) := q_new
  have hs : ∀ (c d : hh_C), (h ++ [c]).set h.length d = h ++ [d] := by
    intro c d
    rw [List.set_append_right _ _ (Nat.le_refl _)]
    simp
  rw [q_pi hc (Nat.le_of_ble_eq_true rfl)]
  show hp_cb ((hp_pa _ _ _ _ _).bind _) _ = _
  rw [hs, q_pa q_new (Nat.le_of_ble_eq_true rfl)]
  show hp_cb ((hp_pi _ _ _ _ _).bind _) _ = _
  rw [hs, q_pi q_new (Nat.le_of_ble_eq_true rfl)]
  show hp_cb (some _) _ = _
  rw [hs]
  rfl
theorem s_write22 (hnb : nb ≤ 60) {q : Nat} {x2 : Int32} {bl : List Nat} (hbl : zz_up bl) (hlt : ∀ b ∈ bl, b < nb) (hl60 : bl.length ≤ 60) (hq : 17 < q) (hout : out.length ≤ 16 * nb) (hF : 60 < F) : ∀ (m n k : Nat) (f : Nat → Int32) (h1 : hh_H), k + m = bl.length → m < n → zK0 h1 nb u f → zB h1 16 17 (16 * nb) out next → h1[q]? = some (.inl (0, .inl (bl.map nI))) →
    zw (hp_it (fun _ _ _ _ _ _ => none) (f_Disk_write_22 F) n 7 16 x2 q (nI k) h1) (fun r => r.1 = h1.length ∧ ∃ f2 : Nat → Int32, zK0 r.2 nb u f2 ∧ (∀ j b, k ≤ j → bl[j]? = some b → ∀ i, i < 16 → f2 (16 * b + i) = nI (out.getD (16 * j + i) 0)) ∧ (∀ b, b ∉ bl.drop k → ∀ i, i < 16 → f2 (16 * b + i) = f (16 * b + i)) ∧ r.2[h1.length]? = some (.inr (6, [.inl x2, .inr (.inl (some q)), .inl (nI out.length)])) ∧ zz_fr [8] h1 r.2 ∧ r.2.length = h1.length + 1) := by
  intro m
  induction m with
  | zero =>
    intro n k f h1 hk hn H0 HB hc
    obtain ⟨n, rfl⟩ : ∃ m, n = m + 1 := ⟨n - 1, by omega⟩
    rw [hp_it_s]
    unfold f_Disk_write_22
    refine zw.len hc (by decide) ?_
    refine zw.ifp (by simp; exact nI_le (by omega) (by omega)) ?_
    refine zw.eq (s_write95 HB) ⟨rfl, f, H0.fr (W := []) zz_fr.app (by simp) (by simp) (by simp), fun j b h1 h2 => ?_, fun _ _ _ _ => rfl, q_new, zz_fr.app, by simp⟩
    have := (List.getElem?_eq_some_iff.mp h2).1
    omega
  | succ m ih =>
    intro n k f h1 hk hn H0 HB hc
    obtain ⟨n, rfl⟩ : ∃ m, n = m + 1 := ⟨n - 1, by omega⟩
    rw [hp_it_s]
    unfold f_Disk_write_22
    refine zw.len hc (by decide) ?_
    rw [List.length_map]
    refine zw.ifn (nI_ge (by omega) (by omega)) ?_
    have hkl : k < bl.length := by omega
    refine zw.ai (w := nI bl[k]) hc k rfl (by omega) (by simp [hkl]) ?_
    have e1 : nI bl[k] * 16 = nI (16 * bl[k]) := by
      rw [show nI bl[k] * 16 = nI (bl[k] * 16) from pk_mul _ 16, Nat.mul_comm]
    rw [e1]
    unfold l_Disk_write_41
    refine s_write41 (σ := Unit) hnb (hlt _ (List.getElem_mem hkl)) (by omega) hout 16 F 0 f h1 (by omega) (by omega) H0 HB ?_
    intro f2 h2 hf2 H2 fr2 l2
    have hi := ih n (k + 1) f2 h2 (by omega) (by omega) H2 (HB.fr fr2 (by decide) (by decide)) (fr2.at hc (by simp; omega))
    refine hi.mono ?_
    rintro r ⟨q1, f3, q2, q3, q4, q5, q6, q7⟩
    have hdr : bl.drop k = bl[k] :: bl.drop (k + 1) := List.drop_eq_getElem_cons hkl
    have hnot : bl[k] ∉ bl.drop (k + 1) := by
      have hup : zz_up (bl.drop k) := List.Pairwise.sublist (List.drop_sublist _ _) hbl
      rw [hdr] at hup
      intro hm
      have := (List.pairwise_cons.mp hup).1 _ hm
      omega
    refine ⟨by rw [q1, l2], f3, q2, fun j b hj hb i hz => ?_, fun b hb i hz => ?_, by rw [← l2]; exact q5, fr2.tr q6, by rw [q7, l2]⟩
    · by_cases hjk : j = k
      · subst hjk
        have hb' : bl[j] = b := by
          rw [List.getElem?_eq_getElem hkl] at hb
          exact Option.some.inj hb
        subst hb'
        rw [q4 _ hnot i hz, hf2, if_pos (by omega)]
        congr 2
        omega
      · exact q3 j b (by omega) hb i hz
    · rw [hdr, List.mem_cons] at hb
      have hb1 : b ≠ bl[k] := fun q => hb (Or.inl q)
      rw [q4 b (fun q => hb (Or.inr q)) i hz, hf2, if_neg (by omega)]
theorem s_Disk_write (hnb : nb ≤ 60) (hF : 60 < F) (hlen : 17 < h.length) {lv ms : Nat} (H : zK h nb T R) (HB : zB h 16 17 (16 * nb) (zz_enc T ms) next) (hroom : zz_nd T ms ≤ (zz_free nb (zz_ub R)).length) :
    zw (f_Disk_write F 7 16 (nI lv) h) (fun r => r.1 = h.length + 1 ∧ zK r.2 nb T ((lv, zz_at nb (zz_ub R) (zz_nd T ms), ms) :: R) ∧ r.2[h.length + 1]? = some (.inr (6, [.inl (nI lv), .inr (.inl (some h.length)), .inl (nI (zz_enc T ms).length)])) ∧ r.2[h.length]? = some (.inl (0, .inl ((zz_bl (zz_at nb (zz_ub R) (zz_nd T ms))).map nI))) ∧ zz_fr [7, 8, 9] h r.2 ∧ r.2.length = h.length + 2) := by
  obtain ⟨f, H0, H1, H2, H3⟩ := H
  have h4 := zz_enc_4001 T ms
  have hle := zz_free_le nb (zz_ub R)
  have hout : (zz_enc T ms).length ≤ 16 * nb := by
    unfold zz_nd at hroom
    omega
  unfold f_Disk_write
  refine zw.is HB.1 ?_
  refine zw.cbe (s_Bytes_size HB) ?_
  refine zw.cbe (s_blocksFor (by omega)) ?_
  refine zw.gi H0.1 rfl ?_
  refine zw.is H0.1 ?_
  have e1 : ((zz_enc T ms).length + 15) / 16 = zz_nd T ms := rfl
  rw [e1, if_neg (nI_nlt hroom (by omega))]
  refine zw.cb (s_takeLeast hnb hF (by omega) H0 hroom) ?_
  rintro q h1 ⟨g1, g2, g3, g4, g5⟩
  have g1 : q = h.length := g1
  subst g1
  unfold l_Disk_write_22
  have hup : zz_up ((zz_free nb (zz_ub R)).take (zz_nd T ms)) := List.Pairwise.sublist (List.take_sublist _ _) (zz_free_up nb _)
  refine (s_write22 (x2 := nI lv) hnb hup (fun b hb => (zz_free_mem.mp (List.mem_of_mem_take hb)).1) (by rw [List.length_take]; omega) hlen hout hF ((zz_free nb (zz_ub R)).take (zz_nd T ms)).length F 0 f h1 (by omega) (by rw [List.length_take]; omega) g2 (HB.fr g4 (by decide) (by decide)) g3).mono ?_
  rintro r ⟨q1, f2, q2, q3, q4, q5, q6, q7⟩
  rw [g5] at q1 q5 q7
  have e2 : zz_ub ((lv, zz_at nb (zz_ub R) (zz_nd T ms), ms) :: R) = zz_ub R ||| zz_at nb (zz_ub R) (zz_nd T ms) := Nat.or_comm _ _
  have hbl := zz_at_bl (nb := nb) (u := zz_ub R) (n := zz_nd T ms) hnb
  refine ⟨q1, ⟨f2, by rw [e2]; exact q2, zz_okB.cons hnb H1 hroom, fun r2 hr2 j b hj i hi => ?_, fun b hb hbit i hi => ?_⟩, q5, ?_, (g4.mono (by simp)).tr (q6.mono (by simp)), q7⟩
  · rcases List.mem_cons.mp hr2 with rfl | hr2
    · exact q3 j b (Nat.zero_le _) (by rw [← hbl]; exact hj) i hi
    · rw [q4 b ?_ i hi]
      · exact H2 r2 hr2 j b hj i hi
      · rw [List.drop_zero]
        intro hm
        have h1 := (zz_free_mem.mp (List.mem_of_mem_take hm)).2
        have h2 := zz_ub_bit.mpr ⟨r2, hr2, (zz_bl_mem.mp (List.mem_of_getElem? hj)).2⟩
        rw [h1] at h2
        cases h2
  · rw [e2, Nat.testBit_or, Bool.or_eq_false_iff] at hbit
    rw [q4 b ?_ i hi]
    · exact H3 b hb hbit.1 i hi
    · rw [List.drop_zero]
      intro hm
      have : (zz_at nb (zz_ub R) (zz_nd T ms)).testBit b = true := by
        unfold zz_at
        rw [zz_bs_bit]
        exact decide_eq_true hm
      rw [hbit.2] at this
      cases this
  · rw [hbl]
    exact q6.at g3 (by simp; omega)
-- read
theorem s_read_loop (hnb : nb ≤ 60) {p q : Nat} {lv : Int32} {ms pb : Nat} (hp : 17 < p) (hq : 17 < q) (hlen : (zz_enc T ms).length ≤ 16 * (zz_bl pb).length) (hb : ∀ b ∈ zz_bl pb, b < nb) (hf : ∀ j b, (zz_bl pb)[j]? = some b → ∀ i, i < 16 → f (16 * b + i) = nI ((zz_enc T ms).getD (16 * j + i) 0)) (hcap : (zz_enc T ms).length ≤ 16 * nb) : ∀ (m n i : Nat) (h1 : hh_H), i + m = (zz_enc T ms).length → m < n → zK0 h1 nb u f → zB h1 16 17 (16 * nb) ((zz_enc T ms).take i) 0 → h1[p]? = some (.inr (6, [.inl lv, .inr (.inl (some q)), .inl (nI (zz_enc T ms).length)])) → h1[q]? = some (.inl (0, .inl ((zz_bl pb).map nI))) →
    zw (hp_it (fun _ _ _ _ _ => none) (f_Disk_read_6 F) n 7 p 16 (nI i) h1) (fun r => zB r.2 16 17 (16 * nb) (zz_enc T ms) 0 ∧ zz_fr [16, 17] h1 r.2 ∧ r.2.length = h1.length) := by
  have h4 := zz_enc_4001 T ms
  intro m
  induction m with
  | zero =>
    intro n i h1 hi hn H0 HB hc hd
    obtain ⟨n, rfl⟩ : ∃ m, n = m + 1 := ⟨n - 1, by omega⟩
    rw [hp_it_s]
    unfold f_Disk_read_6
    refine zw.gi hc rfl ?_
    refine zw.ifp (nI_le (by omega) (by omega)) ?_
    refine zw.ret ⟨?_, zz_fr.rf _ _, rfl⟩
    rw [List.take_of_length_le (by omega)] at HB
    exact HB
  | succ m ih =>
    intro n i h1 hi hn H0 HB hc hd
    obtain ⟨n, rfl⟩ : ∃ m, n = m + 1 := ⟨n - 1, by omega⟩
    rw [hp_it_s]
    unfold f_Disk_read_6
    refine zw.gi hc rfl ?_
    refine zw.ifn (nI_ge (by omega) (by omega)) ?_
    refine zw.ga hc rfl ?_
    refine zw.len hd (by decide) ?_
    have e1 : nI i / 16 = nI (i / 16) := pk_div (d := 16) (by omega) (by decide) (by decide)
    have e2 : nI i - nI i / 16 * 16 = nI (i % 16) := pk_rem (d := 16) (by omega) (by decide) (by decide)
    rw [e2, e1, List.length_map]
    have hbl60 : (zz_bl pb).length ≤ 60 := by
      unfold zz_bl
      exact Nat.le_trans (List.length_filter_le _ _) (by simp)
    have hk : i / 16 < (zz_bl pb).length := by omega
    refine zw.ifn (nI_ge hk (by omega)) ?_
    refine zw.ga hc rfl ?_
    refine zw.ai (w := nI (zz_bl pb)[i / 16]) hd (i / 16) rfl (by omega) (by simp [hk]) ?_
    have hbn := hb _ (List.getElem_mem hk)
    refine zw.ga H0.1 rfl ?_
    refine zw.len H0.2.1 (by decide) ?_
    have e3 : nI (zz_bl pb)[i / 16] * 16 + nI (i % 16) = nI (16 * (zz_bl pb)[i / 16] + i % 16) := by
      rw [show nI (zz_bl pb)[i / 16] * 16 = nI ((zz_bl pb)[i / 16] * 16) from pk_mul _ 16, nI_add]
      congr 1
      omega
    rw [e3, zz_row_len']
    refine zw.ifn (nI_ge (by omega) (by omega)) ?_
    refine zw.ga H0.1 rfl ?_
    refine zw.ai H0.2.1 _ rfl (by omega) (zz_row_get (by omega)) ?_
    rw [hf (i / 16) _ (List.getElem?_eq_getElem hk) (i % 16) (by omega)]
    have e4 : 16 * (i / 16) + i % 16 = i := by omega
    rw [e4]
    refine zw.is HB.1 ?_
    refine zw.cb (s_Bytes_put (by decide) HB (by omega) (by rw [List.length_take]; omega) _) ?_
    rintro r h2 ⟨-, g2, g3, g4⟩
    rw [nI_1]
    have e5 : (zz_enc T ms).take i ++ [(zz_enc T ms).getD i 0] = (zz_enc T ms).take (i + 1) := by
      rw [List.take_succ, List.getD_eq_getElem?_getD, List.getElem?_eq_getElem (by omega)]
      rfl
    rw [e5] at g2
    have hi := ih n (i + 1) h2 (by omega) (by omega) (H0.fr g3 (by decide) (by decide) (by decide)) g2 (g3.at hc (by simp; omega)) (g3.at hd (by simp; omega))
    refine hi.mono ?_
    rintro r ⟨q1, q2, q3⟩
    exact ⟨q1, g3.tr q2, by rw [q3, g4]⟩
theorem zz_enc_cap {nb : Nat} (hnb : nb ≤ 60) {T : List (List Nat)} {R : List (Nat × Nat × Nat)} (H : zz_okB nb T R) {r : Nat × Nat × Nat} (hr : r ∈ R) : (zz_enc T r.2.2).length ≤ 16 * (zz_bl r.2.1).length ∧ (zz_bl r.2.1).length ≤ nb ∧ ∀ b ∈ zz_bl r.2.1, b < nb := by
  obtain ⟨h1, h2⟩ := H.1 r hr
  have h3 : ∀ b ∈ zz_bl r.2.1, b < nb := fun b hb => zz_bit_lt h1 (zz_bl_mem.mp hb).2
  refine ⟨?_, zz_nd_len nb _ (zz_up_nd (zz_bl_up _)) h3, h3⟩
  rw [h2]
  unfold zz_nd
  omega
theorem s_Disk_read (hnb : nb ≤ 60) (hF : 4001 < F) {p q : Nat} {lv : Int32} {r : Nat × Nat × Nat} (hp : 17 < p) (hq : 17 < q) (hr : r ∈ R) (H : zK h nb T R) {o0 : List Nat} (HB : zB h 16 17 (16 * nb) o0 next) (hc : h[p]? = some (.inr (6, [.inl lv, .inr (.inl (some q)), .inl (nI (zz_enc T r.2.2).length)]))) (hd : h[q]? = some (.inl (0, .inl ((zz_bl r.2.1).map nI)))) :
    zw (f_Disk_read F 7 p 16 h) (fun x => zB x.2 16 17 (16 * nb) (zz_enc T r.2.2) 0 ∧ zz_fr [16, 17] h x.2 ∧ x.2.length = h.length) := by
  obtain ⟨f, H0, H1, H2, H3⟩ := H
  have h4 := zz_enc_4001 T r.2.2
  obtain ⟨h5, h6, h7⟩ := zz_enc_cap hnb H1 hr
  unfold f_Disk_read
  refine zw.is HB.1 ?_
  refine zw.cb (s_Bytes_clear (by decide) HB) ?_
  rintro _ h1 ⟨g1, g2, g3⟩
  unfold l_Disk_read_6
  refine (s_read_loop hnb hp hq h5 h7 (H2 r hr) (by omega) (zz_enc T r.2.2).length F 0 h1 (by omega) (by omega) (H0.fr g2 (by decide) (by decide) (by decide)) (by simpa using g1) (g2.at hc (by simp; omega)) (g2.at hd (by simp; omega))).mono ?_
  rintro x ⟨q1, q2, q3⟩
  exact ⟨q1, (g2.mono (by simp)).tr q2, by rw [q3, g3]⟩
-- release
theorem s_clear_loop (hnb : nb ≤ 60) {b : Nat} (hb : b < nb) : ∀ (m n i : Nat) (f : Nat → Int32) (h1 : hh_H), i + m = 16 → m < n → zK0 h1 nb u f →
    zw (hp_it (fun _ _ _ _ => none) (f_Disk_clear_2 F) n 7 (nI (16 * b)) (nI i) h1) (fun r => ∃ f2 : Nat → Int32, (∀ j, f2 j = if 16 * b + i ≤ j ∧ j < 16 * b + 16 then 0 else f j) ∧ zK0 r.2 nb u f2 ∧ zz_fr [8] h1 r.2 ∧ r.2.length = h1.length) := by
  intro m
  induction m with
  | zero =>
    intro n i f h1 hi hn H0
    obtain ⟨n, rfl⟩ : ∃ m, n = m + 1 := ⟨n - 1, by omega⟩
    rw [hp_it_s]
    unfold f_Disk_clear_2
    refine zw.ifp (nI_le (a := 16) (by omega) (by omega)) ?_
    refine zw.ret ⟨f, fun j => ?_, H0, zz_fr.rf _ _, rfl⟩
    rw [if_neg (by omega)]
  | succ m ih =>
    intro n i f h1 hi hn H0
    obtain ⟨n, rfl⟩ : ∃ m, n = m + 1 := ⟨n - 1, by omega⟩
    rw [hp_it_s]
    unfold f_Disk_clear_2
    refine zw.ifn (nI_ge (b := 16) (by omega) (by decide)) ?_
    refine zw.ga H0.1 rfl ?_
    refine zw.len H0.2.1 (by decide) ?_
    rw [zz_row_len', nI_add]
    refine zw.ifn (nI_ge (by omega) (by omega)) ?_
    refine zw.ga H0.1 rfl ?_
    refine zw.si H0.2.1 (16 * b + i) rfl (by rw [zz_row_len']; omega) (by omega) fun h2 s2 => ?_
    rw [nI_1]
    have H2 : zK0 h2 nb u (fun j => if j = 16 * b + i then 0 else f j) := ⟨s2.at H0.1 (by decide), by rw [s2.1, zz_row_set], s2.at H0.2.2 (by decide)⟩
    refine (ih n (i + 1) _ h2 (by omega) (by omega) H2).mono ?_
    rintro r ⟨f2, hf2, q2, q3, q4⟩
    refine ⟨f2, fun j => ?_, q2, (s2.fr (by simp)).tr q3, by rw [q4, s2.2.2]⟩
    rw [hf2 j]
    by_cases c1 : j = 16 * b + i
    · subst c1
      rw [if_neg (by omega), if_pos rfl, if_pos (by omega)]
    · by_cases c2 : 16 * b + (i + 1) ≤ j ∧ j < 16 * b + 16
      · rw [if_pos c2, if_pos (by omega)]
      · rw [if_neg c2, if_neg c1, if_neg (by omega)]
theorem zz_u_clr {u b : Nat} {n : Nat} : (zz_row n (fun j => if j = b then (0 : Int32) else zz_b01 (u.testBit j))) = zz_row n (fun j => zz_b01 ((zz_an u (2 ^ b)).testBit j)) := zz_row_eq (fun k _ => by
  rw [zz_an_bit, Nat.testBit_two_pow]
  by_cases h : k = b
  · subst h
    simp [zz_b01]
  · simp [h, Ne.symm h])
theorem zz_free_clr {nb u b : Nat} (hb : b < nb) (hu : u.testBit b = true) : (zz_free nb (zz_an u (2 ^ b))).length = (zz_free nb u).length + 1 := by
  have h1 := zz_free_or (nb := nb) (u := zz_an u (2 ^ b)) (b := b) hb (by rw [zz_an_bit, Nat.testBit_two_pow]; simp)
  have h2 : zz_an u (2 ^ b) ||| 2 ^ b = u := zz_seq (fun i => by
    rw [Nat.testBit_or, zz_an_bit, Nat.testBit_two_pow]
    by_cases h : b = i
    · subst h
      simp [hu]
    · simp [h])
  rw [h2] at h1
  omega
theorem s_release_loop (hnb : nb ≤ 60) {q : Nat} {bl : List Nat} (hbl : zz_up bl) (hl60 : bl.length ≤ 60) (hq : 9 < q) (hF : 60 < F) : ∀ (m n k u : Nat) (f : Nat → Int32) (h1 : hh_H), k + m = bl.length → m < n → (∀ b ∈ bl.drop k, b < nb ∧ u.testBit b = true) → zK0 h1 nb u f → h1[q]? = some (.inl (0, .inl (bl.map nI))) →
    zw (hp_it (fun _ _ _ _ _ => none) (f_Disk_release_11 F) n 7 q (nI bl.length) (nI k) h1) (fun r => ∃ f2 : Nat → Int32, zK0 r.2 nb (zz_an u (zz_bs (bl.drop k))) f2 ∧ (∀ b i, i < 16 → f2 (16 * b + i) = if b ∈ bl.drop k then 0 else f (16 * b + i)) ∧ zz_fr [7, 8, 9] h1 r.2 ∧ r.2.length = h1.length) := by
  intro m
  induction m with
  | zero =>
    intro n k u f h1 hk hn hu H0 hc
    obtain ⟨n, rfl⟩ : ∃ m, n = m + 1 := ⟨n - 1, by omega⟩
    rw [hp_it_s]
    unfold f_Disk_release_11
    refine zw.ifp (nI_le (by omega) (by omega)) ?_
    have e : bl.drop k = [] := List.drop_eq_nil_of_le (by omega)
    rw [e]
    refine zw.ret ⟨f, ?_, fun b i hi => by simp, zz_fr.rf _ _, rfl⟩
    have e2 : zz_an u (zz_bs []) = u := zz_seq (fun i => by rw [zz_an_bit, zz_bs_bit]; simp)
    rw [e2]
    exact H0
  | succ m ih =>
    intro n k u f h1 hk hn hu H0 hc
    obtain ⟨n, rfl⟩ : ∃ m, n = m + 1 := ⟨n - 1, by omega⟩
    rw [hp_it_s]
    unfold f_Disk_release_11
    refine zw.ifn (nI_ge (by omega) (by omega)) ?_
    have hkl : k < bl.length := by omega
    have hdr : bl.drop k = bl[k] :: bl.drop (k + 1) := List.drop_eq_getElem_cons hkl
    obtain ⟨hb1, hb2⟩ := hu bl[k] (by rw [hdr]; exact List.mem_cons_self)
    have hnot : bl[k] ∉ bl.drop (k + 1) := by
      have hup : zz_up (bl.drop k) := List.Pairwise.sublist (List.drop_sublist _ _) hbl
      rw [hdr] at hup
      intro hm
      have := (List.pairwise_cons.mp hup).1 _ hm
      omega
    refine zw.ai (w := nI bl[k]) hc k rfl (by omega) (by simp [hkl]) ?_
    refine zw.ga H0.1 rfl ?_
    refine zw.len H0.2.2 (by decide) ?_
    rw [zz_row_len']
    refine zw.ifn (nI_ge hb1 (by omega)) ?_
    refine zw.ga H0.1 rfl ?_
    refine zw.az H0.2.2 bl[k] rfl (by omega) (zz_row_get hb1) ?_
    rw [hb2]
    refine zw.ifn (by decide) ?_
    refine zw.ga H0.1 rfl ?_
    refine zw.sz H0.2.2 bl[k] rfl (by rw [zz_row_len']; omega) (by omega) fun h2 s2 => ?_
    have c7 := s2.at H0.1 (by decide)
    refine zw.gi c7 rfl ?_
    refine zw.pi c7 (Nat.le_of_ble_eq_true rfl) fun h3 s3 => ?_
    have H3 : zK0 h3 nb (zz_an u (2 ^ bl[k])) f := by
      refine ⟨?_, s3.at (s2.at H0.2.1 (by decide)) (by decide), ?_⟩
      · refine s3.1.trans ?_
        rw [zz_free_clr hb1 hb2]
        show some (Sum.inr (2, [_, _, Sum.inl (nI _ + 1)])) = _
        rw [nI_1]
      · refine (s3.2.1 9 (by decide)).trans (s2.1.trans ?_)
        rw [zz_row_set, zz_nar0, zz_u_clr]
    refine zw.is H3.1 ?_
    have e1 : nI bl[k] * 16 = nI (16 * bl[k]) := by
      rw [show nI bl[k] * 16 = nI (bl[k] * 16) from pk_mul _ 16, Nat.mul_comm]
    rw [e1]
    unfold f_Disk_clear l_Disk_clear_2
    refine zw.cb (s_clear_loop hnb hb1 16 F 0 f h3 (by omega) (by omega) H3) ?_
    rintro _ h4 ⟨f4, hf4, H4, fr4, l4⟩
    rw [nI_1]
    have hi := ih n (k + 1) (zz_an u (2 ^ bl[k])) f4 h4 (by omega) (by omega) (fun b hb => by
      obtain ⟨g1, g2⟩ := hu b (by rw [hdr]; exact List.mem_cons_of_mem _ hb)
      refine ⟨g1, ?_⟩
      rw [zz_an_bit, Nat.testBit_two_pow, g2]
      have : bl[k] ≠ b := fun q => hnot (q ▸ hb)
      simp [this]) H4 (fr4.at (s3.at (s2.at hc (by omega)) (by omega)) (by simp; omega))
    refine hi.mono ?_
    rintro r ⟨f5, q1, q2, q3, q4⟩
    refine ⟨f5, ?_, fun b i hz => ?_, ((s2.fr (by simp)).tr (s3.fr (by simp))).tr ((fr4.mono (by simp)).tr q3), by rw [q4, l4, s3.2.2, s2.2.2]⟩
    · have e2 : zz_an (zz_an u (2 ^ bl[k])) (zz_bs (bl.drop (k + 1))) = zz_an u (zz_bs (bl.drop k)) := zz_seq (fun i => by
        rw [hdr]
        generalize bl.drop (k + 1) = D
        generalize bl[k] = x
        rw [zz_an_bit, zz_an_bit, zz_an_bit, zz_bs_bit, zz_bs_bit, Nat.testBit_two_pow]
        by_cases h : x = i
        · subst h
          simp
        · simp [h, Ne.symm h])
      rw [← e2]
      exact q1
    · rw [q2 b i hz, hdr, hf4]
      by_cases h1 : b ∈ bl.drop (k + 1)
      · rw [if_pos h1, if_pos (List.mem_cons_of_mem _ h1)]
      · rw [if_neg h1]
        by_cases h2 : b = bl[k]
        · subst h2
          rw [if_pos (by omega), if_pos List.mem_cons_self]
        · rw [if_neg (by omega), if_neg (fun q => by
            rcases List.mem_cons.mp q with q | q
            · exact h2 q
            · exact h1 q)]
theorem s_Disk_release (hnb : nb ≤ 60) (hF : 60 < F) {p q : Nat} {lv x : Int32} {r : Nat × Nat × Nat} (hq : 9 < q) (H : zK h nb T (r :: R)) (hc : h[p]? = some (.inr (6, [.inl lv, .inr (.inl (some q)), .inl x]))) (hd : h[q]? = some (.inl (0, .inl ((zz_bl r.2.1).map nI)))) :
    zw (f_Disk_release F 7 p h) (fun x => zK x.2 nb T R ∧ zz_fr [7, 8, 9] h x.2 ∧ x.2.length = h.length) := by
  obtain ⟨f, H0, H1, H2, H3⟩ := H
  obtain ⟨h5, h6, h7⟩ := zz_enc_cap hnb H1 List.mem_cons_self
  have hdj := (List.pairwise_cons.mp H1.2).1
  unfold f_Disk_release
  refine zw.ga hc rfl ?_
  refine zw.len hd (by decide) ?_
  unfold l_Disk_release_11
  rw [List.length_map]
  refine (s_release_loop hnb (zz_bl_up r.2.1) (by omega) hq hF (zz_bl r.2.1).length F 0 _ f h (by omega) (by omega) (fun b hb => ⟨h7 b hb, zz_ub_bit.mpr ⟨r, List.mem_cons_self, (zz_bl_mem.mp hb).2⟩⟩) H0 hd).mono ?_
  rintro x ⟨f2, q1, q2, q3, q4⟩
  rw [List.drop_zero] at q1 q2
  have e : zz_an (zz_ub (r :: R)) (zz_bs (zz_bl r.2.1)) = zz_ub R := zz_seq (fun i => by
    rw [zz_an_bit, zz_bs_bit, Bool.and_eq_true, zz_ub_bit, zz_ub_bit]
    constructor
    · rintro ⟨⟨s, hs, hb⟩, hn⟩
      rcases List.mem_cons.mp hs with rfl | hs
      · simp at hn
        exact absurd (zz_bl_mem.mpr ⟨Nat.lt_of_lt_of_le (zz_bit_lt (H1.1 s List.mem_cons_self).1 hb) hnb, hb⟩) hn
      · exact ⟨s, hs, hb⟩
    · rintro ⟨s, hs, hb⟩
      refine ⟨⟨s, List.mem_cons_of_mem _ hs, hb⟩, ?_⟩
      simp
      intro hm
      exact hdj s hs i ⟨(zz_bl_mem.mp hm).2, hb⟩)
  rw [e] at q1
  refine ⟨⟨f2, q1, H1.tail, fun s hs j b hj i hi => ?_, fun b hb hbit i hi => ?_⟩, q3, q4⟩
  · rw [q2 b i hi, if_neg]
    · exact H2 s (List.mem_cons_of_mem _ hs) j b hj i hi
    · intro hm
      exact hdj s hs b ⟨(zz_bl_mem.mp hm).2, (zz_bl_mem.mp (List.mem_of_getElem? hj)).2⟩
  · rw [q2 b i hi]
    split
    · rfl
    · rename_i hm
      refine H3 b hb ?_ i hi
      cases hq : (zz_ub (r :: R)).testBit b
      · rfl
      · exfalso
        obtain ⟨s, hs, hsb⟩ := zz_ub_bit.mp hq
        rcases List.mem_cons.mp hs with rfl | hs
        · exact hm (zz_bl_mem.mpr ⟨by omega, hsb⟩)
        · rw [zz_ub_bit.mpr ⟨s, hs, hsb⟩] at hbit
          cases hbit
end DiskB
