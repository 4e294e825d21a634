-- the reference: flushing
theorem zz_okB_sub {nb : Nat} {T : List (List Nat)} {R S : List (Nat × Nat × Nat)} (h : zz_okB nb T R) (hs : S.Sublist R) : zz_okB nb T S := ⟨fun r hr => h.1 r (hs.subset hr), h.2.sublist hs⟩
theorem zz_mgS_okB {T : List (List Nat)} {dr : List Bool} {nb lv : Nat} {sel : Nat × Nat × Nat → Bool} {s : List (Nat × Nat × Nat) × Int32 × Int32 × Int32 × Int32} (hnb : nb ≤ 60) (h : zz_okB nb T s.1) : zz_okB nb T (zz_mgS T dr nb sel lv s).2.1 := by
  unfold zz_mgS
  split
  · exact h
  · rename_i R' w he
    unfold zz_mgR at he
    split at he
    · cases he
      exact zz_okB_sub h List.filter_sublist
    · split at he
      · rename_i hr
        cases he
        rw [← zz_okB.mid, zz_tail_sub]
        exact zz_okB_sub (zz_okB.cons hnb h hr) (List.Sublist.cons₂ _ List.filter_sublist)
      · cases he
theorem zz_fl_okB {T : List (List Nat)} {dr : List Bool} {nb fan : Nat} (hnb : nb ≤ 60) : ∀ (n : Nat) (s : List (Nat × Nat × Nat) × Int32 × Int32 × Int32 × Int32), zz_okB nb T s.1 → zz_okB nb T (zz_fl T dr nb fan n s).1 := by
  intro n
  induction n with
  | zero => intro s h; exact h
  | succ n ih =>
    intro s h
    rw [zz_fl]
    split
    · exact h
    · rename_i l _
      have h1 := zz_mgS_okB (dr := dr) (sel := zz_sel l l) (lv := l + 1) hnb h
      split
      · rename_i s' he
        rw [he] at h1
        exact h1
      · rename_i s' he
        rw [he] at h1
        exact ih s' h1
theorem zz_apS_okB {T : List (List Nat)} {dr : List Bool} {nb ms : Nat} {s : List (Nat × Nat × Nat) × Int32 × Int32 × Int32 × Int32} (hnb : nb ≤ 60) (h : zz_okB nb T s.1) : zz_okB nb T (zz_apS T dr nb ms s).2.1 := by
  unfold zz_apS
  split
  · exact h
  · split
    · rename_i hr
      have := zz_okB.cons (lv := 0) hnb h hr
      rw [← List.append_nil s.1, zz_okB.mid, List.append_nil] at this
      exact this
    · exact h
theorem zz_top_const : ∀ (S : List (Nat × Nat × Nat)) (l m : Nat), m ≤ l → (∀ r ∈ S, r.1 = l) → S ≠ [] → S.foldl (fun m r => max m r.1) m = l
  | [], _, _, _, _, h => absurd rfl h
  | [a], l, m, hm, h, _ => by
    have := h a List.mem_cons_self
    show max m a.1 = l
    omega
  | a :: b :: S, l, m, hm, h, _ => by
    have := h a List.mem_cons_self
    rw [List.foldl_cons]
    exact zz_top_const (b :: S) l _ (by omega) (fun r hr => h r (List.mem_cons_of_mem _ hr)) (by simp)
section Mo5
variable {h : hh_H} {F nb fan wt lvb : Nat} {T : List (List Nat)} {dr : List Bool} {s : List (Nat × Nat × Nat) × Int32 × Int32 × Int32 × Int32} {th me ol wa fo rk : Int32} {sn sz : Nat}
/-- the reference's object with the row s -/
def zN (h : hh_H) (th me : Int32) (fan nb : Nat) (ol : Int32) (T : List (List Nat)) (wt : Nat) (dr : List Bool) (s : List (Nat × Nat × Nat) × Int32 × Int32 × Int32 × Int32) (fo rk : Int32) (sn sz : Nat) : Prop :=
  h[25]? = some (.inr (9, zz_mf th me (nI fan) (nI nb) ol (nI T.length) (nI wt) (lN (zz_dn dr)) (nI s.1.length) (lN (zz_ub s.1)) s.2.1 s.2.2.1 s.2.2.2.1 s.2.2.2.2 fo rk (nI sz) (lN sn))) ∧ zT h T ∧ zV h s.1 ∧ zS h T sn sz
theorem s_fl149 (hnb : nb ≤ 60) (hF : 5000 < F) (hfan : fan < 2 ^ 30) (hwt : wt ≤ T.length) (hT : T.length ≤ 40) (hdr : dr.length = T.length) (ht : ∀ d, (zz_tx T d).length ≤ 20 ∧ ∀ x ∈ zz_tx T d, x < 100) : ∀ (k m lvb : Nat) (s : List (Nat × Nat × Nat) × Int32 × Int32 × Int32 × Int32) (sn sz : Nat) (h1 : hh_H), k ≤ 64 → k < m → zN h1 th me fan nb ol T wt dr s fo rk sn sz → zz_J T dr wt lvb s.1 → zz_okB nb T s.1 → lvb + k < 2 ^ 29 →
    zw (hp_it (fun _ _ _ => none) (f_Mo_flushing_149 F) m 25 (nI (64 - k)) h1) (fun x => x.1 = 1 ∧ (∃ sn' sz', zN x.2 th me fan nb ol T wt dr (zz_fl T dr nb fan k s) fo rk sn' sz') ∧ zz_fr [25, 30, 31, 32, 35] h1 x.2 ∧ x.2.length = h1.length) := by
  intro k
  induction k with
  | zero =>
    intro m lvb s sn sz h1 hk hm H hJ hB hb
    obtain ⟨m, rfl⟩ : ∃ n, m = n + 1 := ⟨m - 1, by omega⟩
    rw [hp_it_s, f_Mo_flushing_149]
    refine zw.ifp (by decide) ?_
    exact zw.ret ⟨rfl, ⟨sn, sz, H⟩, zz_fr.rf _ _, rfl⟩
  | succ k ih =>
    intro m lvb s sn sz h1 hk hm H hJ hB hb
    obtain ⟨m, rfl⟩ : ∃ n, m = n + 1 := ⟨m - 1, by omega⟩
    obtain ⟨R, rd, wr, mg, fl⟩ := s
    obtain ⟨hc, HT, HV, HS⟩ := id H
    have hJ' : zz_J T dr wt lvb R := hJ
    have hB' : zz_okB nb T R := hB
    have hlen := zz_row_len hnb hB'
    rw [hp_it_s, f_Mo_flushing_149]
    refine zw.ifn (show ¬ (64 : Int32) ≤ nI (64 - (k + 1)) from nI_ge (b := 64) (by omega) (by decide)) ?_
    refine zw.is hc ?_
    refine zw.cbe (s_Mo_full (R := R) hF hfan (by omega) (fun r hr => by have := hJ'.2.1 r hr; omega) hc HV) ?_
    rw [zz_fl]
    show zw _ (fun x : Int32 × hh_H => x.1 = 1 ∧ (∃ sn' sz', zN x.2 th me fan nb ol T wt dr (match zz_ff fan R with
      | none => (R, rd, wr, mg, fl)
      | some l => _) fo rk sn' sz') ∧ _)
    cases hf : zz_ff fan R with
    | none =>
      refine zw.ifp (by decide) ?_
      exact zw.ret ⟨rfl, ⟨sn, sz, H⟩, zz_fr.rf _ _, rfl⟩
    | some l =>
      obtain ⟨_, r, hr, hrl⟩ := zz_ff_of hf
      have hl := hJ'.2.1 r hr
      rw [hrl] at hl
      refine zw.ifn (show ¬ nI l < 0 from nI_pos (by omega)) ?_
      refine zw.is hc ?_
      have hsel : ∀ r ∈ R, (zz_sel l l r = true ↔ (nI l < 0 ∨ nI r.1 = nI l)) := fun q hq => by
        have := hJ'.2.1 q hq
        rw [zz_sel_ll, beq_iff_eq, nI_eq (by omega) (by omega)]
        exact ⟨Or.inr, fun h => h.resolve_left (nI_pos (by omega))⟩
      have htop : R.any (zz_sel l l) = true → zz_top (R.filter (zz_sel l l)) + 1 = l + 1 := fun ha => by
        have := zz_top_const (R.filter (zz_sel l l)) l 0 (Nat.zero_le _) (fun q hq => by
          have := (List.mem_filter.mp hq).2
          rw [zz_sel_ll, beq_iff_eq] at this
          exact this) (fun q => by
          obtain ⟨x, hx, hxs⟩ := List.any_eq_true.mp ha
          have := List.mem_filter.mpr ⟨hx, hxs⟩
          rw [q] at this
          cases this)
        unfold zz_top
        rw [this]
      refine zw.cb (s_Mo_merge (sel := zz_sel l l) (lv := l + 1) hnb hF hT hdr hwt ht hJ'.1 hB' (fun r hr => by have := hJ'.2.1 r hr; omega) hsel htop hc HT HV HS) ?_
      rintro v h2 ⟨g1, ⟨sn', sz', g2, g3⟩, g4, g5, g6, g7⟩
      have g1 : v = _ := g1
      have hJ2 := zz_mgS_J (nb := nb) (sel := zz_sel l l) (lv := l + 1) hJ (by omega)
      have hB2 := zz_mgS_okB (dr := dr) (sel := zz_sel l l) (lv := l + 1) hnb hB
      have H2 : zN h2 th me fan nb ol T wt dr (zz_mgS T dr nb (zz_sel l l) (l + 1) (R, rd, wr, mg, fl)).2 fo rk sn' sz' := ⟨g2, g4, g5, g3⟩
      show zw _ (fun x : Int32 × hh_H => x.1 = 1 ∧ (∃ sn' sz', zN x.2 th me fan nb ol T wt dr (match zz_mgS T dr nb (zz_sel l l) (l + 1) (R, rd, wr, mg, fl) with
        | (false, s') => s'
        | (true, s') => zz_fl T dr nb fan k s') fo rk sn' sz') ∧ _)
      clear g2 g5
      revert g1 H2 hJ2 hB2
      rcases zz_mgS T dr nb (zz_sel l l) (l + 1) (R, rd, wr, mg, fl) with ⟨b, s'⟩
      intro g1 hJ2 hB2 H2
      cases b
      · rw [g1]
        refine zw.ifp rfl ?_
        exact zw.ret ⟨rfl, ⟨_, _, H2⟩, g6, g7⟩
      · rw [g1]
        refine zw.ifn (show ¬ (1 : Int32) = 0 by decide) ?_
        have e1 : nI (64 - (k + 1)) + 1 = nI (64 - k) := by
          rw [nI_1]
          congr 1
          omega
        rw [e1]
        refine (ih m (lvb + 1) s' sn' sz' h2 (by omega) (by omega) H2 hJ2 hB2 (by omega)).mono ?_
        rintro x ⟨q1, q2, q3, q4⟩
        exact ⟨q1, q2, g6.tr q3, by rw [q4, g7]⟩
theorem s_fl16 {Q : Int32 × hh_H → Prop} (hT : T.length ≤ 40) (hdr : dr.length = T.length) (ht : ∀ d, (zz_tx T d).length ≤ 20 ∧ ∀ x ∈ zz_tx T d, x < 100) (H : zN h th me fan nb ol T wt dr s fo rk sn sz) : ∀ (k n i a : Nat), i + k = T.length → k < n → a < 2 ^ 60 →
    zw (f_Mo_flushing_56 F 25 (lN (a ||| zz_bs ((List.range' i k).filter (fun d => !(zz_dn dr).testBit d && !(zz_tx T d).isEmpty)))) h) Q →
    zw (hp_it (fun _ _ _ _ => none) (f_Mo_flushing_16 F) n 25 (lN a) (nI i) h) Q := by
  obtain ⟨hc, ⟨_, ⟨f2, b1, b2⟩, _⟩, HV, HS⟩ := H
  have hdn := zz_dn_lt (dr := dr) (by omega)
  intro k
  induction k with
  | zero =>
    intro n i a hi hn ha kk
    obtain ⟨n, rfl⟩ : ∃ m, n = m + 1 := ⟨n - 1, by omega⟩
    rw [hp_it_s, f_Mo_flushing_16]
    refine zw.gi hc rfl ?_
    refine zw.ifp (nI_le (by omega) (by omega)) ?_
    simpa [zz_bs] using kk
  | succ k ih =>
    intro n i a hi hn ha kk
    obtain ⟨n, rfl⟩ : ∃ m, n = m + 1 := ⟨n - 1, by omega⟩
    rw [hp_it_s, f_Mo_flushing_16]
    refine zw.gi hc rfl ?_
    refine zw.ifn (nI_ge (by omega) (by omega)) ?_
    refine zw.gj hc rfl ?_
    refine zw.cbe (s_Mo_in hdn (by omega)) ?_
    rw [List.range'_succ, List.filter_cons] at kk
    rw [nI_1]
    have hti := (ht i).1
    cases hb : (zz_dn dr).testBit i
    · refine zw.ifp rfl ?_
      refine zw.ga hc rfl ?_
      refine zw.ai b1 i rfl (by omega) (zz_row_get (by omega)) ?_
      rw [b2 i (by omega)]
      cases hq : zz_tx T i with
      | nil =>
        refine zw.ifp (by decide) ?_
        refine ih n (i + 1) a (by omega) (by omega) ha ?_
        simpa [hb, hq] using kk
      | cons y t =>
        rw [hq] at hti
        refine zw.ifn (nI_nle (by simp) (by omega)) ?_
        have hp : 2 ^ i < 2 ^ 60 := Nat.pow_lt_pow_right (by decide) (by omega)
        rw [zz_lbit (by omega), zz_lor ha hp]
        refine ih n (i + 1) (a ||| 2 ^ i) (by omega) (by omega) (zz_or_lt ha hp) ?_
        have e3 : ∀ l : List Nat, a ||| 2 ^ i ||| zz_bs l = a ||| zz_bs (i :: l) := fun l => by
          show _ = a ||| (2 ^ i ||| zz_bs l)
          rw [Nat.or_assoc]
        rw [e3]
        simpa [hb, hq] using kk
    · refine zw.ifn (by decide) ?_
      refine ih n (i + 1) a (by omega) (by omega) ha ?_
      simpa [hb] using kk
theorem zz_fset (hwt : wt ≤ T.length) : zz_bs ((List.range' wt (T.length - wt)).filter (fun d => !(zz_dn dr).testBit d && !(zz_tx T d).isEmpty)) = zz_an (zz_wm T wt) (zz_dn dr) := zz_seq (fun i => by
  rw [zz_bs_bit, zz_an_bit, Bool.and_eq_true, zz_wm_bit]
  simp only [List.mem_filter, List.mem_range'_1, decide_eq_true_eq, Bool.and_eq_true, Bool.not_eq_true', List.isEmpty_eq_false_iff]
  constructor
  · rintro ⟨⟨h1, h2⟩, h3, h4⟩
    exact ⟨⟨h1, by omega, h4⟩, h3⟩
  · rintro ⟨⟨h1, h2, h4⟩, h3⟩
    exact ⟨⟨h1, by omega⟩, h3, h4⟩)
theorem s_flushing (hnb : nb ≤ 60) (hF : 5000 < F) (hfan : fan < 2 ^ 30) (hfan2 : 2 ≤ fan) (hwt : wt ≤ T.length) (hT : T.length ≤ 40) (hdr : dr.length = T.length) (ht : ∀ d, (zz_tx T d).length ≤ 20 ∧ ∀ x ∈ zz_tx T d, x < 100) (hJ : zz_J T dr wt lvb s.1) (hB : zz_okB nb T s.1) (hb : lvb + 64 < 2 ^ 29) (H : zN h th me fan nb ol T wt dr s fo rk sn sz) :
    zw (f_Mo_flushing F 25 h) (fun x => x.1 = (if (zz_flu T dr nb fan wt s).1 = true then 1 else 0) ∧ (∃ sn' sz', zN x.2 th me fan nb ol T (zz_flu T dr nb fan wt s).2.1 dr (zz_flu T dr nb fan wt s).2.2 fo rk sn' sz') ∧ zz_fr [25, 30, 31, 32, 35] h x.2 ∧ x.2.length = h.length) := by
  obtain ⟨hc, HT, HV, HS⟩ := id H
  have hdn := zz_dn_lt (dr := dr) (by omega)
  have hbf20 : zz_bf T wt ≤ 800 := by
    unfold zz_bf
    have : ∀ l : List (List Nat), (∀ t ∈ l, t.length ≤ 20) → (l.map List.length).sum ≤ 20 * l.length := by
      intro l
      induction l with
      | nil => intro _; simp
      | cons t l ih =>
        intro hq
        have h1 := ih (fun x hx => hq x (List.mem_cons_of_mem _ hx))
        have h2 := hq t List.mem_cons_self
        simp
        omega
    have h2 := this (T.drop wt) (fun t htm => by
      have hm := List.mem_of_mem_drop htm
      obtain ⟨i, hi⟩ := List.mem_iff_getElem?.mp hm
      have := (ht i).1
      unfold zz_tx at this
      rw [List.getD_eq_getElem?_getD, hi] at this
      exact this)
    have h3 : (T.drop wt).length ≤ 40 := by simp; omega
    omega
  unfold f_Mo_flushing
  refine zw.is hc ?_
  refine zw.cbe (s_buffered hF hwt hT ht hc HT) ?_
  unfold zz_flu
  by_cases h0 : zz_bf T wt = 0
  · rw [if_pos h0, h0]
    refine zw.ifp rfl ?_
    exact zw.ret ⟨rfl, ⟨sn, sz, H⟩, zz_fr.rf _ _, rfl⟩
  · rw [if_neg h0]
    refine zw.ifn (nI_ne0 (by omega) (by omega)) ?_
    refine zw.gi hc rfl ?_
    unfold l_Mo_flushing_16
    refine s_fl16 (F := F) hT hdr ht H (T.length - wt) F wt 0 (by omega) (by omega) (by decide) ?_
    rw [Nat.zero_or, zz_fset hwt, f_Mo_flushing_56]
    have hwm : zz_wm T wt < 2 ^ 60 := zz_lt (fun i hi => by
      have := zz_wm_bit.mp hi
      omega)
    have hset : zz_an (zz_wm T wt) (zz_dn dr) < 2 ^ 60 := zz_an_lt hwm
    have hcmp := zz_lcmp (a := zz_an (zz_wm T wt) (zz_dn dr)) (b := 0) (Nat.lt_trans hset (by decide)) (by decide)
    have hmT : ∀ d, (zz_an (zz_wm T wt) (zz_dn dr)).testBit d = true → d < T.length := fun d hd => by
      rw [zz_an_bit, Bool.and_eq_true] at hd
      exact (zz_wm_bit.mp hd.1).2.1
    -- the merges behind it
    have tail : ∀ (s1 : List (Nat × Nat × Nat) × Int32 × Int32 × Int32 × Int32) (sn1 sz1 : Nat) (h1 : hh_H), zN h1 th me fan nb ol T wt dr s1 fo rk sn1 sz1 → zz_J T dr T.length lvb s1.1 → zz_okB nb T s1.1 → zz_fr [25, 30, 31, 32, 35] h h1 → h1.length = h.length →
        zw (f_Mo_flushing_139 F 25 h1) (fun x => x.1 = 1 ∧ (∃ sn' sz', zN x.2 th me fan nb ol T T.length dr (zz_fl T dr nb fan 60 s1) fo rk sn' sz') ∧ zz_fr [25, 30, 31, 32, 35] h x.2 ∧ x.2.length = h.length) := by
      intro s1 sn1 sz1 h1 H1 J1 B1 f1 l1
      obtain ⟨d1, d2, d3, d4⟩ := H1
      rw [f_Mo_flushing_139]
      refine zw.gi d1 rfl ?_
      refine zw.pi d1 (Nat.le_of_ble_eq_true rfl) fun h2 s2 => ?_
      have f2 : zz_fr [25] h1 h2 := s2.fr (by simp)
      have H2 : zN h2 th me fan nb ol T T.length dr s1 fo rk sn1 sz1 := ⟨s2.1, d2.fr f2 (by decide) (by decide) (by decide), d3.fr f2 (by decide) (by decide) (by decide), d4.fr f2 (by decide)⟩
      unfold l_Mo_flushing_149
      refine (s_fl149 (F := F) hnb hF hfan (Nat.le_refl _) hT hdr ht 64 F lvb s1 sn1 sz1 h2 (by omega) (by omega) H2 J1 B1 hb).mono ?_
      rintro x ⟨q1, q2, q3, q4⟩
      have hl60 : s1.1.length ≤ 60 := by
        have := zz_row_len hnb B1
        omega
      rw [zz_fl_60 hfan2 hl60] at q2
      exact ⟨q1, q2, f1.tr ((f2.mono (by simp)).tr q3), by rw [q4, s2.2.2, l1]⟩
    by_cases hz : zz_an (zz_wm T wt) (zz_dn dr) = 0
    · refine zw.ifp (hcmp.mpr hz) ?_
      have e : zz_apS T dr nb (zz_wm T wt) s = (true, s) := by
        unfold zz_apS
        rw [if_pos hz]
      have hJ2 := zz_apS_J (nb := nb) hJ hwt (by rw [e])
      rw [e] at hJ2 ⊢
      refine (tail s sn sz h H hJ2 hB (zz_fr.rf _ _) rfl).mono ?_
      rintro x ⟨q1, q2, q3, q4⟩
      exact ⟨q1, q2, q3, q4⟩
    · refine zw.ifn (fun q => hz (hcmp.mp q)) ?_
      refine zw.is hc ?_
      have hu : zz_ub s.1 < 2 ^ 60 := zz_2_60 hnb (zz_ub_lt hB)
      refine zw.cb (s_Mo_room hnb hu hset hz hmT hT ht hF hc HT HS) ?_
      rintro v h2 ⟨k1, k2, k3, k4, k5, k6⟩
      have k1 : v = _ := k1
      have HV2 := HV.fr k5 (by decide) (by decide) (by decide)
      have hpos := zz_nd_pos T (zz_an (zz_wm T wt) (zz_dn dr))
      have hat : zz_at nb (zz_ub s.1) (zz_nd T (zz_an (zz_wm T wt) (zz_dn dr))) < 2 ^ 60 := zz_2_60 hnb zz_at_lt
      by_cases hr : zz_nd T (zz_an (zz_wm T wt) (zz_dn dr)) ≤ (zz_free nb (zz_ub s.1)).length
      · rw [if_pos hr] at k1
        rw [k1]
        have hbl : (zz_bl (zz_at nb (zz_ub s.1) (zz_nd T (zz_an (zz_wm T wt) (zz_dn dr))))).length = zz_nd T (zz_an (zz_wm T wt) (zz_dn dr)) := by rw [zz_at_bl hnb, List.length_take, Nat.min_eq_left hr]
        have hne : ¬ zz_at nb (zz_ub s.1) (zz_nd T (zz_an (zz_wm T wt) (zz_dn dr))) = 0 := fun q => by
          rw [q, zz_bl_0] at hbl
          simp at hbl
          omega
        have hcmp2 := zz_lcmp (a := zz_at nb (zz_ub s.1) (zz_nd T (zz_an (zz_wm T wt) (zz_dn dr)))) (b := 0) (Nat.lt_trans hat (by decide)) (by decide)
        refine zw.ifn (fun q => hne (hcmp2.mp q)) ?_
        have hrl := zz_row_len hnb hB
        obtain ⟨⟨j1, a1, a2⟩, ⟨j2, b1, b2⟩, ⟨j3, c1, c2⟩⟩ := HV2
        have e : zz_apS T dr nb (zz_wm T wt) s = (true, s.1 ++ [(0, zz_at nb (zz_ub s.1) (zz_nd T (zz_an (zz_wm T wt) (zz_dn dr))), zz_an (zz_wm T wt) (zz_dn dr))], s.2.1, s.2.2.1 + nI (zz_nd T (zz_an (zz_wm T wt) (zz_dn dr))), s.2.2.2.1, s.2.2.2.2) := by
          unfold zz_apS
          rw [if_neg hz, if_pos hr]
        have hJ2 := zz_apS_J (nb := nb) hJ hwt (by rw [e])
        have hB2 := zz_apS_okB (dr := dr) (ms := zz_wm T wt) hnb hB
        rw [e] at hJ2 hB2 ⊢
        cases j1 with
        | nil => simp at a2; omega
        | cons x1 j1 =>
          cases j2 with
          | nil => simp at b2; omega
          | cons x2 j2 =>
            cases j3 with
            | nil => simp at c2; omega
            | cons x3 j3 =>
              simp only [List.length_cons] at a2 b2 c2
              refine zw.ga k2 rfl ?_
              refine zw.gi k2 rfl ?_
              refine zw.sj a1 s.1.length rfl (by simp) (by omega) fun h3 s3 => ?_
              have d3 := s3.at k2 (by decide)
              refine zw.ga d3 rfl ?_
              refine zw.gi d3 rfl ?_
              refine zw.sj (s3.at b1 (by decide)) s.1.length rfl (by simp) (by omega) fun h4 s4 => ?_
              have d4 := s4.at d3 (by decide)
              refine zw.ga d4 rfl ?_
              refine zw.gi d4 rfl ?_
              refine zw.si (s4.at (s3.at c1 (by decide)) (by decide)) s.1.length rfl (by simp) (by omega) fun h5 s5 => ?_
              have d5 := s5.at d4 (by decide)
              refine zw.gi d5 rfl ?_
              refine zw.pi d5 (Nat.le_of_ble_eq_true rfl) fun h6 s6 => ?_
              have d6 : h6[25]? = some (.inr (9, zz_mf th me (nI fan) (nI nb) ol (nI T.length) (nI wt) (lN (zz_dn dr)) (nI s.1.length + 1) (lN (zz_ub s.1)) s.2.1 s.2.2.1 s.2.2.2.1 s.2.2.2.2 fo rk (nI (zz_enc T (zz_an (zz_wm T wt) (zz_dn dr))).length) (lN (zz_an (zz_wm T wt) (zz_dn dr))))) := s6.1
              refine zw.gj d6 rfl ?_
              rw [zz_lor hu hat]
              refine zw.pj d6 (Nat.le_of_ble_eq_true rfl) fun h7 s7 => ?_
              have d7 : h7[25]? = some (.inr (9, zz_mf th me (nI fan) (nI nb) ol (nI T.length) (nI wt) (lN (zz_dn dr)) (nI s.1.length + 1) (lN (zz_ub s.1 ||| zz_at nb (zz_ub s.1) (zz_nd T (zz_an (zz_wm T wt) (zz_dn dr))))) s.2.1 s.2.2.1 s.2.2.2.1 s.2.2.2.2 fo rk (nI (zz_enc T (zz_an (zz_wm T wt) (zz_dn dr))).length) (lN (zz_an (zz_wm T wt) (zz_dn dr))))) := s7.1
              refine zw.gi d7 rfl ?_
              refine zw.cbe (s_Mo_bits hat (by omega)) ?_
              rw [hbl]
              refine zw.pi d7 (Nat.le_of_ble_eq_true rfl) fun h8 s8 => ?_
              have f8 : zz_fr [25, 30, 31, 32] h2 h8 := (s3.fr (by simp)).tr ((s4.fr (by simp)).tr ((s5.fr (by simp)).tr ((s6.fr (by simp)).tr ((s7.fr (by simp)).tr (s8.fr (by simp))))))
              have hN : zN h8 th me fan nb ol T wt dr (s.1 ++ [(0, zz_at nb (zz_ub s.1) (zz_nd T (zz_an (zz_wm T wt) (zz_dn dr))), zz_an (zz_wm T wt) (zz_dn dr))], s.2.1, s.2.2.1 + nI (zz_nd T (zz_an (zz_wm T wt) (zz_dn dr))), s.2.2.2.1, s.2.2.2.2) fo rk (zz_an (zz_wm T wt) (zz_dn dr)) (zz_enc T (zz_an (zz_wm T wt) (zz_dn dr))).length := by
                refine ⟨?_, k3.fr f8 (by decide) (by decide) (by decide), ⟨⟨j1, ?_, by simp; omega⟩, ⟨j2, ?_, by simp; omega⟩, ⟨j3, ?_, by simp; omega⟩⟩, k4.fr f8 (by decide)⟩
                · refine s8.1.trans ?_
                  rw [nI_1, zz_ub_app]
                  show _ = some (Sum.inr (9, zz_mf th me (nI fan) (nI nb) ol (nI T.length) (nI wt) (lN (zz_dn dr)) (nI (s.1 ++ [_]).length) _ _ _ _ _ fo rk _ _))
                  rw [List.length_append]
                  rfl
                · refine (s8.2.1 30 (by decide)).trans ((s7.2.1 30 (by decide)).trans ((s6.2.1 30 (by decide)).trans ((s5.2.1 30 (by decide)).trans ((s4.2.1 30 (by decide)).trans (s3.1.trans ?_)))))
                  have := zz_set_gap (s.1.map (fun r => lN r.2.2)) j1 x1 (lN (zz_an (zz_wm T wt) (zz_dn dr)))
                  rw [List.length_map] at this
                  rw [this]
                  simp
                · refine (s8.2.1 31 (by decide)).trans ((s7.2.1 31 (by decide)).trans ((s6.2.1 31 (by decide)).trans ((s5.2.1 31 (by decide)).trans (s4.1.trans ?_))))
                  have := zz_set_gap (s.1.map (fun r => lN r.2.1)) j2 x2 (lN (zz_at nb (zz_ub s.1) (zz_nd T (zz_an (zz_wm T wt) (zz_dn dr)))))
                  rw [List.length_map] at this
                  rw [this]
                  simp
                · refine (s8.2.1 32 (by decide)).trans ((s7.2.1 32 (by decide)).trans ((s6.2.1 32 (by decide)).trans (s5.1.trans ?_)))
                  have := zz_set_gap (s.1.map (fun r => nI r.1)) j3 x3 0
                  rw [List.length_map] at this
                  rw [this]
                  simp [nI_0]
              exact tail _ _ _ h8 hN hJ2 hB2 ((k5.mono (by simp)).tr (f8.mono (by simp))) (by rw [s8.2.2, s7.2.2, s6.2.2, s5.2.2, s4.2.2, s3.2.2, k6])
      · rw [if_neg hr] at k1
        rw [k1]
        refine zw.ifp (by decide) ?_
        have e : zz_apS T dr nb (zz_wm T wt) s = (false, s) := by
          unfold zz_apS
          rw [if_neg hz, if_neg hr]
        rw [e]
        exact zw.ret ⟨rfl, ⟨_, _, k2, k3, HV2, k4⟩, k5.mono (by simp), k6⟩
end Mo5
