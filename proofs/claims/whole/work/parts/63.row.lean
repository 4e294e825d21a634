-- RunRow: its object at 10, gathered at 12 and 13, part at 14 and 15, bytes at 16 and 17
def zX (h : hh_H) (T : List (List Nat)) (dr : List Bool) (nb fan : Nat) (R : List (Nat × Nat × Nat)) (rd wr mg fl : Int32) : Prop :=
  38 ≤ h.length ∧ zD h 3 4 dr ∧ zK h nb T R ∧ zL h T R ∧ h[10]? = some (.inr (7, [.inr (.inl (some 3)), .inr (.inl (some 7)), .inl (nI fan), .inr (.inl (some 11)), .inr (.inl (some 12)), .inr (.inl (some 14)), .inr (.inl (some 16)), .inl rd, .inl wr, .inl mg, .inl fl]))
theorem zP.keep {h h' : hh_H} {a b cap : Nat} {l : List Nat} (H : zP h a b cap l) (h1 : h'[a]? = h[a]?) (h2 : h'[b]? = h[b]?) : zP h' a b cap l := by
  obtain ⟨g2, js, g3, g4⟩ := H
  exact ⟨h1.trans g2, js, h2.trans g3, g4⟩
theorem zB.keep {h h' : hh_H} {a b cap : Nat} {out : List Nat} {next : Nat} (H : zB h a b cap out next) (h1 : h'[a]? = h[a]?) (h2 : h'[b]? = h[b]?) : zB h' a b cap out next := by
  obtain ⟨g2, js, g3, g4⟩ := H
  exact ⟨h1.trans g2, js, h2.trans g3, g4⟩
theorem zw.zb {σ : Type} {Q : σ → Prop} {f : Int32 → Option σ} {x : Int32} (hx : x = 0 ∨ x = 1) (kk : zw (f x) Q) : zw ((hp_zb x).bind f) Q := by
  unfold hp_zb
  rw [if_pos hx]
  exact kk
-- postings of united sets
theorem zz_posts_dj {T : List (List Nat)} {a b : Nat} (h : ∀ i, ¬ (a.testBit i = true ∧ b.testBit i = true)) : ∀ x ∈ zz_posts T a, x ∉ zz_posts T b := by
  intro x ha hb
  obtain ⟨w, d, p, hw, hd, hp, hm, ht, rfl⟩ := zz_posts_mem.mp ha
  obtain ⟨w', d', p', hw', hd', hp', hm', ht', he⟩ := zz_posts_mem.mp hb
  have e := zz_key_d (w := w) hd hp
  rw [he, zz_key_d hd' hp'] at e
  subst e
  exact h _ ⟨hm, hm'⟩
theorem zz_posts_or {T : List (List Nat)} {a b k : Nat} : k ∈ zz_posts T (a ||| b) ↔ k ∈ zz_posts T a ∨ k ∈ zz_posts T b := by
  rw [zz_posts_mem, zz_posts_mem, zz_posts_mem]
  constructor
  · rintro ⟨w, d, p, h1, h2, h3, h4, h5, h6⟩
    rw [Nat.testBit_or, Bool.or_eq_true] at h4
    rcases h4 with h4 | h4
    · exact Or.inl ⟨w, d, p, h1, h2, h3, h4, h5, h6⟩
    · exact Or.inr ⟨w, d, p, h1, h2, h3, h4, h5, h6⟩
  · rintro (⟨w, d, p, h1, h2, h3, h4, h5, h6⟩ | ⟨w, d, p, h1, h2, h3, h4, h5, h6⟩)
    · exact ⟨w, d, p, h1, h2, h3, by rw [Nat.testBit_or, h4]; rfl, h5, h6⟩
    · exact ⟨w, d, p, h1, h2, h3, by rw [Nat.testBit_or, h4]; simp, h5, h6⟩
theorem zz_posts_or_len {T : List (List Nat)} {a b : Nat} (h : ∀ i, ¬ (a.testBit i = true ∧ b.testBit i = true)) : (zz_posts T a).length + (zz_posts T b).length ≤ 800 := by
  have h1 : (zz_posts T a ++ zz_posts T b).Nodup := List.nodup_append.mpr ⟨zz_up_nd (zz_posts_up _ _), zz_up_nd (zz_posts_up _ _), fun x hx y hy he => zz_posts_dj h x hx (he ▸ hy)⟩
  have h2 := (List.perm_ext_iff_of_nodup h1 (zz_up_nd (zz_posts_up T (a ||| b)))).mpr (fun x => by rw [zz_posts_or, List.mem_append])
  have h3 := h2.length_eq
  have h4 := zz_posts_len T (a ||| b)
  rw [List.length_append] at h3
  omega
/-- leaving out the dropped ones -/
theorem zz_posts_live {T : List (List Nat)} {dr : List Bool} {ms : Nat} (h : ∀ d, ms.testBit d = true → d < dr.length) : (zz_posts T ms).filter (zz_live dr) = zz_posts T (zz_an ms (zz_dn dr)) := by
  refine zz_ext (zz_up_filter (zz_posts_up _ _) _) (zz_posts_up _ _) (fun k => ?_)
  rw [List.mem_filter, zz_posts_mem, zz_posts_mem]
  constructor
  · rintro ⟨⟨w, d, p, h1, h2, h3, h4, h5, rfl⟩, h6⟩
    refine ⟨w, d, p, h1, h2, h3, ?_, h5, rfl⟩
    unfold zz_live at h6
    rw [zz_key_d h2 h3] at h6
    rw [zz_an_bit, h4]
    simp at h6
    cases hq : (zz_dn dr).testBit d
    · rfl
    · rw [zz_dn_bit] at hq
      rw [hq] at h6
      cases h6
  · rintro ⟨w, d, p, h1, h2, h3, h4, h5, rfl⟩
    rw [zz_an_bit, Bool.and_eq_true] at h4
    refine ⟨⟨w, d, p, h1, h2, h3, h4.1, h5, rfl⟩, ?_⟩
    unfold zz_live
    rw [zz_key_d h2 h3]
    have hlt := h d h4.1
    have h5 := h4.2
    rw [List.getElem?_eq_getElem hlt]
    cases hq : dr[d]
    · rfl
    · rw [(zz_dn_bit dr d).mpr (by rw [List.getElem?_eq_getElem hlt, hq])] at h5
      cases h5
theorem zz_bytes_ne {T : List (List Nat)} {ms : Nat} (hw : ∀ t ∈ T, t.length ≤ 20 ∧ ∀ w ∈ t, w < 100) (hT : T.length ≤ 40) (hm : ∀ d, ms.testBit d = true → d < T.length ∧ zz_tx T d ≠ []) (h0 : ms ≠ 0) : zz_bytes T ms = zz_enc T ms := by
  unfold zz_bytes
  rw [if_neg]
  intro q
  obtain ⟨d, hd⟩ := zz_sne h0
  obtain ⟨h1, h2⟩ := hm d hd
  have h3 : zz_tx T d = T[d] := by
    unfold zz_tx
    rw [List.getD_eq_getElem?_getD, List.getElem?_eq_getElem h1]
    rfl
  obtain ⟨h4, h5⟩ := hw T[d] (List.getElem_mem h1)
  rw [h3] at h2
  obtain ⟨w, t, ht⟩ := List.exists_cons_of_ne_nil h2
  have := zz_posts_nil.mp q d w (by omega) (h5 w (by rw [ht]; exact List.mem_cons_self)) hd
  rw [h3, ht] at this
  exact this (by simp)
theorem zz_bytes_0 (T : List (List Nat)) : zz_bytes T 0 = [] := by
  unfold zz_bytes
  rw [if_pos]
  rw [zz_posts_nil]
  intro d w _ _ h
  simp at h
section Row
variable {h : hh_H} {F nb fan : Nat} {T : List (List Nat)} {dr : List Bool} {R : List (Nat × Nat × Nat)} {rd wr mg fl : Int32}
theorem zX.fr {W : List Nat} {h' : hh_H} (H : zX h T dr nb fan R rd wr mg fl) (f : zz_fr W h h') (hW : ∀ x ∈ W, x < 38 ∧ x ∉ [0, 3, 4, 7, 8, 9, 10, 11]) : zX h' T dr nb fan R rd wr mg fl := by
  obtain ⟨h1, h2, h3, h4, h5⟩ := H
  have hn : ∀ x, x ∈ [0, 3, 4, 7, 8, 9, 10, 11] → x ∉ W := fun x hx hm => (hW x hm).2 hx
  exact ⟨Nat.le_trans h1 f.1, h2.fr f (hn _ (by decide)) (hn _ (by decide)), h3.fr f (hn _ (by decide)) (hn _ (by decide)) (hn _ (by decide)), h4.fr f (fun x hx => ⟨(hW x hx).1, fun q => hn 11 (by decide) (q ▸ hx), fun q => hn 0 (by decide) (q ▸ hx)⟩), f.at h5 (hn _ (by decide))⟩
theorem zX.len (hnb : nb ≤ 60) (H : zX h T dr nb fan R rd wr mg fl) : R.length + (zz_free nb (zz_ub R)).length ≤ nb := by
  obtain ⟨_, _, ⟨f, _, H1, _⟩, _⟩ := H
  exact zz_row_len hnb H1
theorem zX.okB (H : zX h T dr nb fan R rd wr mg fl) : zz_okB nb T R := by
  obtain ⟨_, _, ⟨f, _, H1, _⟩, _⟩ := H
  exact H1
theorem s_readPart (hnb : nb ≤ 60) (hF : 5000 < F) {p : Nat} {r : Nat × Nat × Nat} (hr : r ∈ R) (H : zX h T dr nb fan R rd wr mg fl) (hp : zr h T p r) {l0 o0 : List Nat} {n0 : Nat} (HP : zP h 14 15 800 l0) (HB : zB h 16 17 (16 * nb) o0 n0) :
    zw (f_RunRow_readPart F 10 p h) (fun x => zX x.2 T dr nb fan R (rd + nI (zz_bl r.2.1).length) wr mg fl ∧ zP x.2 14 15 800 (zz_posts T r.2.2) ∧ (∃ o n, zB x.2 16 17 (16 * nb) o n) ∧ zz_fr [10, 14, 15, 16, 17] h x.2) := by
  have hX := H
  obtain ⟨h1, h2, h3, h4, h5⟩ := H
  obtain ⟨hp38, q, hq38, hc, hd⟩ := hp
  have hcap := zz_enc_cap hnb hX.okB hr
  unfold f_RunRow_readPart
  refine zw.ga h5 rfl ?_
  refine zw.ga h5 rfl ?_
  obtain ⟨f, hK0, hK1⟩ := h3
  refine zw.is hK0.1 ?_
  refine zw.cb (s_Disk_read hnb (by omega) (by omega) (by omega) hr hX.2.2.1 HB hc hd) ?_
  rintro _ h6 ⟨g1, g2, g3⟩
  have c10 := g2.at h5 (by decide)
  refine zw.ga c10 rfl ?_
  refine zw.ga c10 rfl ?_
  refine zw.is g1.1 ?_
  have HP6 : zP h6 14 15 800 l0 := HP.fr g2 (by decide) (by decide)
  refine zw.cb (s_decode (by decide) (by decide) (by decide) (by decide) (by decide) (by decide) (by omega) (by decide) (by omega) (by omega) (by omega) (fun y hy => by have := zz_posts_lt hy; omega) (zz_posts_len T r.2.2) g1 HP6) ?_
  rintro _ h7 ⟨⟨n7, g4⟩, g5, g6, g7⟩
  have c10' := g6.at c10 (by decide)
  refine zw.gi c10' rfl ?_
  have hc7 := g6.at (g2.at hc (by simp; omega)) (by simp; omega)
  have hd7 := g6.at (g2.at hd (by simp; omega)) (by simp; omega)
  refine zw.ga hc7 rfl ?_
  refine zw.len hd7 (by decide) ?_
  rw [List.length_map]
  refine zw.pi c10' (Nat.le_of_ble_eq_true rfl) fun h8 s8 => ?_
  have X7 := (hX.fr g2 (by decide)).fr g6 (by decide)
  have f8 : zz_fr [10] h7 h8 := s8.fr (by simp)
  refine zw.ret ⟨⟨by have := X7.1; rw [s8.2.2]; exact this, X7.2.1.fr f8 (by decide) (by decide), X7.2.2.1.fr f8 (by decide) (by decide) (by decide), X7.2.2.2.1.fr f8 (by decide), s8.1⟩, g5.fr f8 (by decide) (by decide), ⟨_, _, g4.fr f8 (by decide) (by decide)⟩, ((g2.mono (by simp)).tr (g6.mono (by simp))).tr (f8.mono (by simp))⟩
theorem s_fits (hnb : nb ≤ 60) (hF : 5000 < F) {ms : Nat} (hms : ∀ d, ms.testBit d = true → d < dr.length) (H : zX h T dr nb fan R rd wr mg fl) {o0 : List Nat} {n0 : Nat} (HP : zP h 12 13 800 (zz_posts T ms)) (HB : zB h 16 17 (16 * nb) o0 n0) :
    zw (f_RunRow_fitsOnDisk F 10 h) (fun x => x.1 = (if ((zz_bytes T (zz_an ms (zz_dn dr))).length + 15) / 16 ≤ (zz_free nb (zz_ub R)).length then 1 else 0) ∧ zX x.2 T dr nb fan R rd wr mg fl ∧ (∃ l, zP x.2 12 13 800 l) ∧ zB x.2 16 17 (16 * nb) (zz_bytes T (zz_an ms (zz_dn dr))) 0 ∧ zz_fr [12, 13, 16, 17] h x.2) := by
  have hX := H
  obtain ⟨h1, h2, h3, h4, h5⟩ := H
  unfold f_RunRow_fitsOnDisk
  refine zw.ga h5 rfl ?_
  refine zw.ga h5 rfl ?_
  refine zw.is HP.1 ?_
  refine zw.cb (s_keepLive (by decide) (by decide) (by decide) HP h2 (by decide) (by omega) (fun y hy => by have := zz_posts_lt hy; omega)) ?_
  rintro _ h6 ⟨g1, g2, g3⟩
  rw [zz_posts_live hms] at g1
  have c10 := g2.at h5 (by decide)
  refine zw.ga c10 rfl ?_
  refine zw.ga c10 rfl ?_
  have HB6 := HB.fr g2 (by decide) (by decide)
  refine zw.is HB6.1 ?_
  refine zw.cb (s_encode (by decide) (by decide) (by decide) (by decide) (by decide) (by omega) (by decide) (by omega) (fun y hy => by have := zz_posts_lt hy; omega) HB6 g1) ?_
  rintro _ h7 ⟨g4, g5, g6⟩
  have c10' := g5.at c10 (by decide)
  have X7 := (hX.fr g2 (by decide)).fr g5 (by decide)
  refine zw.ga c10' rfl ?_
  refine zw.ga c10' rfl ?_
  refine zw.is g4.1 ?_
  refine zw.cbe (s_Bytes_size g4) ?_
  obtain ⟨f, hK0, hK1⟩ := X7.2.2.1
  refine zw.is hK0.1 ?_
  have hlen : (zz_bytes T (zz_an ms (zz_dn dr))).length < 2 ^ 30 := by
    unfold zz_bytes
    split
    · decide
    · have := zz_enc_4001 T (zz_an ms (zz_dn dr))
      omega
  refine zw.cbe (s_hasRoomFor hnb X7.2.2.1 hlen) ?_
  refine zw.zb (by split <;> simp) ?_
  exact zw.ret ⟨rfl, X7, ⟨_, g1.fr g5 (by decide) (by decide)⟩, g4, (g2.mono (by simp)).tr (g5.mono (by simp))⟩
theorem s_writeAt (hnb : nb ≤ 60) (hF : 5000 < F) {k lv ms n0 : Nat} (hk : k ≤ R.length) (H : zX h T dr nb fan R rd wr mg fl) (HB : zB h 16 17 (16 * nb) (zz_enc T ms) n0) (hroom : zz_nd T ms ≤ (zz_free nb (zz_ub R)).length) :
    zw (f_RunRow_writeAt F 10 (nI k) (nI lv) h) (fun x => zX x.2 T dr nb fan (R.take k ++ (lv, zz_at nb (zz_ub R) (zz_nd T ms), ms) :: R.drop k) rd (wr + nI (zz_nd T ms)) mg fl ∧ zz_fx [7, 8, 9, 10, 11] h x.2) := by
  have hX := H
  obtain ⟨h1, h2, h3, h4, h5⟩ := H
  have hlen := hX.len hnb
  have hpos := zz_nd_pos T ms
  have he := zz_enc_pos T ms
  have he2 := zz_enc_4001 T ms
  unfold f_RunRow_writeAt
  refine zw.ga h5 rfl ?_
  refine zw.is HB.1 ?_
  refine zw.cbe (s_Bytes_size HB) ?_
  refine zw.ifn (nI_nle (by omega) (by omega)) ?_
  refine zw.ifn (nI_pos (by omega)) ?_
  refine zw.ga h5 rfl ?_
  obtain ⟨fs, hfs⟩ := h4.is
  refine zw.is hfs ?_
  refine zw.cbe (s_AL_size h4) ?_
  refine zw.ifn (nI_nlt hk (by omega)) ?_
  refine zw.ga h5 rfl ?_
  refine zw.ga h5 rfl ?_
  obtain ⟨f, hK0, hK1⟩ := hX.2.2.1
  refine zw.is hK0.1 ?_
  refine zw.cb (s_Disk_write hnb (by omega) (by omega) h3 HB hroom) ?_
  rintro p h6 ⟨g1, g2, g3, g4, g5, g6⟩
  have g1 : p = h.length + 1 := g1
  subst g1
  have c10 := g5.at h5 (by decide)
  refine zw.gi c10 rfl ?_
  refine zw.ga g3 rfl ?_
  refine zw.len g4 (by decide) ?_
  rw [List.length_map, zz_at_bl hnb, List.length_take, Nat.min_eq_left hroom]
  refine zw.pi c10 (Nat.le_of_ble_eq_true rfl) fun h7 s7 => ?_
  have f7 : zz_fr [10] h6 h7 := s7.fr (by simp)
  refine zw.ga s7.1 rfl ?_
  have L7 : zL h7 T R := (h4.fr g5 (by decide)).fr f7 (by decide)
  obtain ⟨fs7, hfs7⟩ := L7.is
  refine zw.is hfs7 ?_
  have hr : zr h7 T (h.length + 1) (lv, zz_at nb (zz_ub R) (zz_nd T ms), ms) := ⟨by omega, h.length, h1, f7.at g3 (by simp; omega), f7.at g4 (by simp; omega)⟩
  have l7 : 38 ≤ h7.length := by
    rw [s7.2.2, g6]
    omega
  refine zw.cb (s_AL_add L7 l7 (by omega) hk hr) ?_
  rintro _ h8 ⟨g8, f8⟩
  have fx : zz_fx [7, 8, 9, 10, 11] h h8 := ((g5.fx h1).mono (by simp)).tr (((f7.fx (by rw [g6]; omega)).mono (by simp)).tr (f8.mono (by simp)))
  have K7 : zK h7 nb T ((lv, zz_at nb (zz_ub R) (zz_nd T ms), ms) :: R) := g2.fr f7 (by decide) (by decide) (by decide)
  refine zw.ret ⟨⟨Nat.le_trans l7 f8.1, h2.keep (fx.2 3 (by decide) (by decide)) (fx.2 4 (by decide) (by decide)), ?_, g8, (f8.2 10 (by decide) (by decide)).trans s7.1⟩, fx⟩
  have K8 := K7.keep (h' := h8) (f8.2 7 (by decide) (by decide)) (f8.2 8 (by decide) (by decide)) (f8.2 9 (by decide) (by decide))
  rw [← List.take_append_drop k R] at K8
  have := zK.mid.mp K8
  rw [List.take_append_drop] at this
  exact this
theorem s_writeNo {k lv : Int32} {n0 : Nat} (H : zX h T dr nb fan R rd wr mg fl) (HB : zB h 16 17 (16 * nb) [] n0) : f_RunRow_writeAt F 10 k lv h = some ((), h) := by
  unfold f_RunRow_writeAt
  rw [q_ga H.2.2.2.2 rfl]
  show ((hp_is h 16 1).bind _) = _
  rw [q_is HB.1]
  show hp_cb (f_Bytes_size F 16 h) _ = _
  rw [s_Bytes_size HB, q_cb, if_pos (by decide)]
-- the levels
def zz_sel (lo hi : Nat) (r : Nat × Nat × Nat) : Bool := decide (lo ≤ r.1) && decide (r.1 ≤ hi)
theorem s_between {p lo hi : Nat} {r : Nat × Nat × Nat} (hp : zr h T p r) (hr : r.1 < 2 ^ 30) (hlo : lo < 2 ^ 31) (hhi : hi < 2 ^ 31) : f_Run_isBetween F p (nI lo) (nI hi) h = some (if zz_sel lo hi r = true then 1 else 0, h) := by
  obtain ⟨hp38, q, hq38, hc, hd⟩ := hp
  unfold f_Run_isBetween
  rw [q_gi hc rfl]
  show (if nI r.1 < nI lo then _ else ((some (nI r.1)).bind _)) = _
  unfold zz_sel
  by_cases h1 : r.1 < lo
  · rw [if_pos (nI_lt h1 hlo)]
    simp [Nat.not_le.mpr h1]
  · rw [if_neg (nI_nlt (by omega) (by omega))]
    show (if nI hi < nI r.1 then _ else _) = _
    by_cases h2 : hi < r.1
    · rw [if_pos (nI_lt h2 (by omega))]
      simp [Nat.not_le.mpr h2]
    · rw [if_neg (nI_nlt (by omega) (by omega))]
      simp [Nat.not_lt.mp h1, Nat.not_lt.mp h2]
theorem s_remove_loop (hnb : nb ≤ 60) (hF : 5000 < F) {lo hi : Nat} (hlo : lo < 2 ^ 31) (hhi : hi < 2 ^ 31) : ∀ (m n : Nat) (A B : List (Nat × Nat × Nat)) (h1 : hh_H), A.length = m → m < n → (∀ r ∈ A, r.1 < 2 ^ 30) → zX h1 T dr nb fan (A ++ B) rd wr mg fl →
    zw (hp_it (fun _ _ _ _ _ => none) (f_RunRow_removeLevels_10 F) n 10 (nI lo) (nI hi) (nI m - 1) h1) (fun x => zX x.2 T dr nb fan (A.filter (fun r => !zz_sel lo hi r) ++ B) rd wr mg fl ∧ zz_fx [7, 8, 9, 11] h1 x.2) := by
  intro m
  induction m with
  | zero =>
    intro n A B h1 hA hn hlv H
    obtain ⟨n, rfl⟩ : ∃ m, n = m + 1 := ⟨n - 1, by omega⟩
    have : A = [] := List.length_eq_zero_iff.mp hA
    subst this
    rw [hp_it_s]
    unfold f_RunRow_removeLevels_10
    refine zw.ifp (by decide) ?_
    exact zw.ret ⟨H, zz_fx.rf _ _⟩
  | succ m ih =>
    intro n A B h1 hA hn hlv H
    obtain ⟨n, rfl⟩ : ∃ m, n = m + 1 := ⟨n - 1, by omega⟩
    obtain ⟨A', r, rfl⟩ : ∃ A' r, A = A' ++ [r] := ⟨A.dropLast, A.getLast (fun q => by rw [q] at hA; simp at hA), (List.dropLast_concat_getLast _).symm⟩
    simp only [List.length_append, List.length_cons, List.length_nil] at hA
    have hA' : A'.length = m := by omega
    have hlenR := H.len hnb
    have hX := H
    obtain ⟨h2, h3, h4, h5, h6⟩ := H
    rw [nI_pred, hp_it_s]
    unfold f_RunRow_removeLevels_10
    simp only [List.append_assoc, List.cons_append, List.nil_append] at h4 h5 hX hlenR ⊢
    simp only [List.length_append, List.length_cons] at hlenR
    refine zw.ifn (nI_pos (by omega)) ?_
    refine zw.ga h6 rfl ?_
    obtain ⟨fs, hfs⟩ := h5.is
    refine zw.is hfs ?_
    obtain ⟨p, hg, hp⟩ := s_AL_get (F := F) h5 (by simp; omega) (i := m) (r := r) (by rw [← hA']; simp)
    refine zw.cbe hg ?_
    have hp' := hp
    obtain ⟨hp38, q, hq38, hc, hd⟩ := hp'
    refine zw.is hc ?_
    refine zw.is hc ?_
    refine zw.cbe (s_between hp (hlv r (by simp)) hlo hhi) ?_
    rw [List.filter_append]
    cases hs : zz_sel lo hi r
    · refine zw.ifp rfl ?_
      rw [zz_dec]
      have hi := ih n A' (r :: B) h1 hA' (by omega) (fun x hx => hlv x (List.mem_append_left _ hx)) hX
      refine zw.mono hi ?_
      rintro x ⟨q1, q2⟩
      refine ⟨?_, q2⟩
      simpa [hs] using q1
    · refine zw.ifn (by decide) ?_
      refine zw.ga h6 rfl ?_
      have K := zK.mid.mpr h4
      obtain ⟨f, hK0, hK1⟩ := h4
      refine zw.is hK0.1 ?_
      refine zw.cb (s_Disk_release hnb (by omega) (by omega) K hc hd) ?_
      rintro _ h7 ⟨g1, g2, g3⟩
      have c10 := g2.at h6 (by decide)
      refine zw.ga c10 rfl ?_
      have L7 := h5.fr g2 (by decide)
      obtain ⟨fs7, hfs7⟩ := L7.is
      refine zw.is hfs7 ?_
      have hrem := s_AL_remove (F := F) L7 (by rw [g3]; exact h2) (by simp; omega) rfl
      rw [hA'] at hrem
      refine zw.cb hrem ?_
      rintro _ h8 ⟨g8, f8⟩
      rw [zz_dec]
      have X8 : zX h8 T dr nb fan (A' ++ B) rd wr mg fl := ⟨Nat.le_trans h2 (Nat.le_trans (Nat.le_of_eq g3.symm) f8.1), (h3.fr g2 (by decide) (by decide)).keep (f8.2 3 (by decide) (by decide)) (f8.2 4 (by decide) (by decide)), g1.keep (f8.2 7 (by decide) (by decide)) (f8.2 8 (by decide) (by decide)) (f8.2 9 (by decide) (by decide)), g8, f8.at c10 (by decide) (by decide)⟩
      have hi := ih n A' B h8 hA' (by omega) (fun x hx => hlv x (List.mem_append_left _ hx)) X8
      refine zw.mono hi ?_
      rintro x ⟨q1, q2⟩
      refine ⟨?_, ((g2.fx h2).mono (by simp)).tr ((f8.mono (by simp)).tr q2)⟩
      simpa [hs] using q1
theorem s_removeLevels (hnb : nb ≤ 60) (hF : 5000 < F) {lo hi : Nat} (hlo : lo < 2 ^ 31) (hhi : hi < 2 ^ 31) (hlv : ∀ r ∈ R, r.1 < 2 ^ 30) (H : zX h T dr nb fan R rd wr mg fl) :
    zw (f_RunRow_removeLevels F 10 (nI lo) (nI hi) h) (fun x => zX x.2 T dr nb fan (R.filter (fun r => !zz_sel lo hi r)) rd wr mg fl ∧ zz_fx [7, 8, 9, 11] h x.2) := by
  unfold f_RunRow_removeLevels
  refine zw.ga H.2.2.2.2 rfl ?_
  obtain ⟨fs, hfs⟩ := H.2.2.2.1.is
  refine zw.is hfs ?_
  refine zw.cbe (s_AL_size H.2.2.2.1) ?_
  unfold l_RunRow_removeLevels_10
  have hlen := H.len hnb
  have := s_remove_loop (F := F) hnb hF hlo hhi R.length F R [] h rfl (by omega) hlv (by simpa using H)
  simpa using this
-- counting the runs of a level, the least level that is full
def zz_cntL (R : List (Nat × Nat × Nat)) (l : Nat) : Nat := (R.filter (fun r => r.1 == l)).length
def zz_ffs (fan : Nat) (R : List (Nat × Nat × Nat)) (best : Option Nat) (r : Nat × Nat × Nat) : Option Nat := if fan ≤ zz_cntL R r.1 ∧ (∀ b, best = some b → r.1 < b) then some r.1 else best
def zz_ff (fan : Nat) (R : List (Nat × Nat × Nat)) : Option Nat := R.foldl (zz_ffs fan R) none
def zz_oi (o : Option Nat) : Int32 := match o with
  | none => -1
  | some l => nI l
theorem s_runsOf_loop (hnb : nb ≤ 60) {l : Nat} (hl : l < 2 ^ 31) : ∀ (B : List (Nat × Nat × Nat)) (n : Nat) (A : List (Nat × Nat × Nat)) (c : Nat), R = A ++ B → B.length < n → (∀ r ∈ B, r.1 < 2 ^ 30) → zX h T dr nb fan R rd wr mg fl →
    hp_it (fun _ _ _ _ _ => none) (f_RunRow_runsOf_4 F) n 10 (nI l) (nI c) (nI A.length) h = some (nI (c + zz_cntL B l), h) := by
  intro B
  induction B with
  | nil =>
    intro n A c hAB hn hlv H
    obtain ⟨n, rfl⟩ : ∃ m, n = m + 1 := ⟨n - 1, by omega⟩
    have hlen := H.len hnb
    rw [hp_it_s, f_RunRow_runsOf_4, q_ga H.2.2.2.2 rfl]
    obtain ⟨fs, hfs⟩ := H.2.2.2.1.is
    show ((hp_is h 11 10).bind _) = _
    rw [q_is hfs]
    show hp_cb (f_ArrayList_size F 11 h) _ = _
    rw [s_AL_size H.2.2.2.1, q_cb, if_pos (nI_le (by simp [hAB]) (by simp [hAB] at hlen; omega))]
    simp [zz_cntL]
  | cons r B ih =>
    intro n A c hAB hn hlv H
    obtain ⟨n, rfl⟩ : ∃ m, n = m + 1 := ⟨n - 1, by omega⟩
    have hlen := H.len hnb
    have hlR : R.length = A.length + B.length + 1 := by simp [hAB]; omega
    obtain ⟨p, hg, hp⟩ := s_AL_get (F := F) H.2.2.2.1 (by omega) (i := A.length) (r := r) (by rw [hAB]; simp)
    obtain ⟨hp38, q, hq38, hc, hd⟩ := hp
    rw [hp_it_s, f_RunRow_runsOf_4, q_ga H.2.2.2.2 rfl]
    obtain ⟨fs, hfs⟩ := H.2.2.2.1.is
    show ((hp_is h 11 10).bind _) = _
    rw [q_is hfs]
    show hp_cb (f_ArrayList_size F 11 h) _ = _
    rw [s_AL_size H.2.2.2.1, q_cb, if_neg (nI_ge (by omega) (by omega)), q_ga H.2.2.2.2 rfl]
    show ((hp_is h 11 10).bind _) = _
    rw [q_is hfs]
    show hp_cb (f_ArrayList_get F 11 _ h) _ = _
    rw [hg, q_cb, q_is hc]
    show ((hp_gi h p 6 0).bind _) = _
    rw [q_gi hc rfl]
    show (if nI r.1 = nI l then _ else _) = _
    have hr := hlv r List.mem_cons_self
    have e1 : nI A.length + 1 = nI (A ++ [r]).length := by rw [nI_1]; simp
    have hcnt : zz_cntL (r :: B) l = (if r.1 = l then 1 else 0) + zz_cntL B l := by
      unfold zz_cntL
      rw [List.filter_cons]
      by_cases hq : r.1 = l
      · simp [hq]
        omega
      · simp [hq]
    rw [e1, hcnt]
    by_cases hq : r.1 = l
    · rw [if_pos (by rw [hq]), if_pos hq, nI_1, ih n (A ++ [r]) (c + 1) (by simp [hAB]) (by simp at hn; omega) (fun x hx => hlv x (List.mem_cons_of_mem _ hx)) H]
      congr 3
      omega
    · rw [if_neg (fun q => hq ((nI_eq (by omega) hl).mp q)), if_neg hq, ih n (A ++ [r]) c (by simp [hAB]) (by simp at hn; omega) (fun x hx => hlv x (List.mem_cons_of_mem _ hx)) H]
      congr 3
      omega
theorem s_runsOf (hnb : nb ≤ 60) (hF : 5000 < F) {l : Nat} (hl : l < 2 ^ 31) (hlv : ∀ r ∈ R, r.1 < 2 ^ 30) (H : zX h T dr nb fan R rd wr mg fl) : f_RunRow_runsOf F 10 (nI l) h = some (nI (zz_cntL R l), h) := by
  have hlen := H.len hnb
  have := s_runsOf_loop (F := F) hnb hl R F [] 0 rfl (by omega) hlv H
  unfold f_RunRow_runsOf l_RunRow_runsOf_4
  rw [Nat.zero_add] at this
  exact this
theorem zz_cntL_le (R : List (Nat × Nat × Nat)) (l : Nat) : zz_cntL R l ≤ R.length := List.length_filter_le _ _
theorem s_least_loop (hnb : nb ≤ 60) (hF : 5000 < F) (hfan : fan < 2 ^ 30) (hlv : ∀ r ∈ R, r.1 < 2 ^ 30) (H : zX h T dr nb fan R rd wr mg fl) : ∀ (B : List (Nat × Nat × Nat)) (n : Nat) (A : List (Nat × Nat × Nat)) (best : Option Nat), R = A ++ B → B.length < n → (∀ b, best = some b → b < 2 ^ 30) →
    hp_it (fun _ _ _ _ => none) (f_RunRow_leastFullLevel_4 F) n 10 (zz_oi best) (nI A.length) h = some (zz_oi (B.foldl (zz_ffs fan R) best), h) := by
  intro B
  induction B with
  | nil =>
    intro n A best hAB hn hb
    obtain ⟨n, rfl⟩ : ∃ m, n = m + 1 := ⟨n - 1, by omega⟩
    have hlen := H.len hnb
    rw [hp_it_s, f_RunRow_leastFullLevel_4, q_ga H.2.2.2.2 rfl]
    obtain ⟨fs, hfs⟩ := H.2.2.2.1.is
    show ((hp_is h 11 10).bind _) = _
    rw [q_is hfs]
    show hp_cb (f_ArrayList_size F 11 h) _ = _
    rw [s_AL_size H.2.2.2.1, q_cb, if_pos (nI_le (by simp [hAB]) (by simp [hAB] at hlen; omega))]
    rfl
  | cons r B ih =>
    intro n A best hAB hn hb
    obtain ⟨n, rfl⟩ : ∃ m, n = m + 1 := ⟨n - 1, by omega⟩
    have hlen := H.len hnb
    have hlR : R.length = A.length + B.length + 1 := by simp [hAB]; omega
    obtain ⟨p, hg, hp⟩ := s_AL_get (F := F) H.2.2.2.1 (by omega) (i := A.length) (r := r) (by rw [hAB]; simp)
    obtain ⟨hp38, q, hq38, hc, hd⟩ := hp
    have hr := hlv r (by rw [hAB]; simp)
    rw [hp_it_s, f_RunRow_leastFullLevel_4, q_ga H.2.2.2.2 rfl]
    obtain ⟨fs, hfs⟩ := H.2.2.2.1.is
    show ((hp_is h 11 10).bind _) = _
    rw [q_is hfs]
    show hp_cb (f_ArrayList_size F 11 h) _ = _
    rw [s_AL_size H.2.2.2.1, q_cb, if_neg (nI_ge (by omega) (by omega)), q_ga H.2.2.2.2 rfl]
    show ((hp_is h 11 10).bind _) = _
    rw [q_is hfs]
    show hp_cb (f_ArrayList_get F 11 _ h) _ = _
    rw [hg, q_cb, q_is hc]
    show ((hp_gi h p 6 0).bind _) = _
    rw [q_gi hc rfl]
    have e1 : nI A.length + 1 = nI (A ++ [r]).length := by rw [nI_1]; simp
    have hcl := zz_cntL_le R r.1
    have t39 : (∀ b, best = some b → r.1 < b) → f_RunRow_leastFullLevel_39 F (hp_it (fun _ _ _ _ => none) (f_RunRow_leastFullLevel_4 F) n) 10 (zz_oi best) (nI A.length) (nI r.1) h = some (zz_oi ((r :: B).foldl (zz_ffs fan R) best), h) := by
      intro hlt
      rw [f_RunRow_leastFullLevel_39, q_is H.2.2.2.2]
      show hp_cb (f_RunRow_runsOf F 10 (nI r.1) h) _ = _
      rw [s_runsOf hnb hF (by omega) hlv H, q_cb, q_gi H.2.2.2.2 rfl]
      show (if nI (zz_cntL R r.1) < nI fan then _ else _) = _
      rw [e1, List.foldl_cons]
      by_cases hq : fan ≤ zz_cntL R r.1
      · rw [if_neg (nI_nlt hq (by omega))]
        have e2 : zz_ffs fan R best r = some r.1 := by
          unfold zz_ffs
          rw [if_pos ⟨hq, hlt⟩]
        rw [e2]
        exact ih n (A ++ [r]) (some r.1) (by simp [hAB]) (by simp at hn; omega) (fun b hb => by cases hb; exact hr)
      · rw [if_pos (nI_lt (by omega) (by omega))]
        have e2 : zz_ffs fan R best r = best := by
          unfold zz_ffs
          rw [if_neg (fun q => hq q.1)]
        rw [e2]
        exact ih n (A ++ [r]) best (by simp [hAB]) (by simp at hn; omega) hb
    cases best with
    | none =>
      exact t39 (fun b hb => by cases hb)
    | some b =>
      have hb30 := hb b rfl
      refine (if_neg (show ¬ nI b < 0 from nI_pos (by omega))).trans ?_
      by_cases hq : b ≤ r.1
      · refine (if_pos (show nI b ≤ nI r.1 from nI_le hq (by omega))).trans ?_
        rw [e1, List.foldl_cons]
        have e2 : zz_ffs fan R (some b) r = some b := by
          unfold zz_ffs
          rw [if_neg (fun q => by have := q.2 b rfl; omega)]
        rw [e2]
        exact ih n (A ++ [r]) (some b) (by simp [hAB]) (by simp at hn; omega) hb
      · exact (if_neg (show ¬ nI b ≤ nI r.1 from nI_ge (by omega) (by omega))).trans (t39 (fun c hc => by cases hc; omega))
theorem s_least (hnb : nb ≤ 60) (hF : 5000 < F) (hfan : fan < 2 ^ 30) (hlv : ∀ r ∈ R, r.1 < 2 ^ 30) (H : zX h T dr nb fan R rd wr mg fl) : f_RunRow_leastFullLevel F 10 h = some (zz_oi (zz_ff fan R), h) := by
  have hlen := H.len hnb
  have := s_least_loop (F := F) hnb hF hfan hlv H R F [] none rfl (by omega) (fun b hb => by cases hb)
  unfold f_RunRow_leastFullLevel l_RunRow_leastFullLevel_4
  exact this
end Row
