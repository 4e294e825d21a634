-- Postings.keepLive; Bytes: put, raise, read
def zz_live (dr : List Bool) (k : Nat) : Bool := dr[k / 20 % 40]? == some false
section Keep
variable {h : hh_H} {a b cap F : Nat} {l : List Nat}
theorem s_keep_loop {d e : Nat} {dr : List Bool} (hab : a ≠ b) (hdb : d ≠ b) (heb : e ≠ b) {N : Nat} (hN : N < 2 ^ 30) {js : List Int32} : ∀ (n : Nat) (K R : List Nat) (gap : List Int32) (h1 : hh_H), R.length < n → K.length + gap.length + R.length = N → (∀ y ∈ R, y < 2 ^ 31) → zD h1 d e dr →
    h1[a]? = some (.inr (5, [.inr (.inl (some b)), .inl (nI N)])) → h1[b]? = some (.inl (0, .inl (K.map nI ++ (gap ++ (R.map nI ++ js))))) →
    zw (hp_it (fun _ _ _ _ _ => none) (f_Postings_keepLive_4 F) n a d (nI K.length) (nI (K.length + gap.length)) h1) (fun r => r.2[a]? = some (.inr (5, [.inr (.inl (some b)), .inl (nI (K ++ R.filter (zz_live dr)).length)])) ∧
      (∃ js' : List Int32, r.2[b]? = some (.inl (0, .inl ((K ++ R.filter (zz_live dr)).map nI ++ js'))) ∧ (K ++ R.filter (zz_live dr)).length + js'.length = N + js.length) ∧ zz_fr [a, b] h1 r.2 ∧ r.2.length = h1.length) := by
  intro n
  induction n with
  | zero => intro K R gap h1 h; omega
  | succ n ih =>
    intro K R gap h1 hn hlen hR HD c1 c2
    rw [hp_it_s]
    unfold f_Postings_keepLive_4
    refine zw.gi c1 rfl ?_
    cases R with
    | nil =>
      refine zw.ifp (by simp at hlen; rw [hlen]; exact nI_le (Nat.le_refl _) (by omega)) ?_
      refine zw.pi c1 (Nat.le_of_ble_eq_true rfl) fun h2 s2 => ?_
      refine zw.ret ⟨?_, ⟨gap ++ js, ?_, ?_⟩, s2.fr (by simp), s2.2.2⟩
      · refine s2.1.trans ?_
        simp
      · refine (s2.2.1 b (Ne.symm hab)).trans (c2.trans ?_)
        simp
      · simp at hlen ⊢
        omega
    | cons k R =>
      have hk : k < 2 ^ 31 := hR k (by simp)
      simp only [List.length_cons] at hlen hn
      refine zw.ifn (nI_ge (by omega) (by omega)) ?_
      refine zw.ga c1 rfl ?_
      have hget : (K.map nI ++ (gap ++ ((k :: R).map nI ++ js)))[K.length + gap.length]? = some (nI k) := by
        rw [List.getElem?_append_right (by simp), List.getElem?_append_right (by simp)]
        simp
      refine zw.ai (w := nI k) c2 (K.length + gap.length) rfl (by omega) hget ?_
      refine zw.cbe (s_documentOf hk) ?_
      refine zw.is HD.2.1 ?_
      refine zw.cbe (s_Documents_isLive HD _ (by omega)) ?_
      have hinc : nI (K.length + gap.length) + 1 = nI (K.length + gap.length + 1) := nI_1 _
      by_cases hlv : dr[k / 20 % 40]? = some false
      · have hL : zz_live dr k = true := by simp [zz_live, hlv]
        rw [if_pos hlv]
        refine zw.ifn (by decide) ?_
        refine zw.ga c1 rfl ?_
        refine zw.ga c1 rfl ?_
        refine zw.ai (w := nI k) c2 (K.length + gap.length) rfl (by omega) hget ?_
        refine zw.si c2 K.length rfl (by simp; omega) (by omega) fun h2 s2 => ?_
        rw [hinc, nI_1]
        have HD2 : zD h2 d e dr := HD.keep (s2.2.1 d hdb) (s2.2.1 e heb)
        have d1 := s2.at c1 hab
        have e1 : (k :: R).filter (zz_live dr) = k :: R.filter (zz_live dr) := by simp [List.filter_cons, hL]
        rw [e1]
        have key : ∃ gap', gap'.length = gap.length ∧ h2[b]? = some (.inl (0, .inl ((K ++ [k]).map nI ++ (gap' ++ (R.map nI ++ js))))) := by
          cases gap with
          | nil =>
            refine ⟨[], rfl, s2.1.trans ?_⟩
            rw [List.set_append_right _ _ (by simp)]
            simp
          | cons g gap =>
            refine ⟨gap ++ [nI k], by simp, s2.1.trans ?_⟩
            rw [List.set_append_right _ _ (by simp)]
            simp
        obtain ⟨gap', hg', d2⟩ := key
        have hi := ih (K ++ [k]) R gap' h2 (by omega) (by simp; omega) (fun y hy => hR y (by simp [hy])) HD2 d1 d2
        have e2 : (K ++ [k]).length = K.length + 1 := by simp
        rw [e2, hg', show K.length + 1 + gap.length = K.length + gap.length + 1 by omega] at hi
        refine hi.mono ?_
        rintro r ⟨q1, q2, q3, q4⟩
        have e3 : K ++ [k] ++ R.filter (zz_live dr) = K ++ k :: R.filter (zz_live dr) := by simp
        rw [e3] at q1 q2
        exact ⟨q1, q2, (s2.fr (by simp)).tr q3, by rw [q4, s2.2.2]⟩
      · have hL : zz_live dr k = false := by simp [zz_live, hlv]
        rw [if_neg hlv]
        refine zw.ifp rfl ?_
        rw [hinc]
        have e1 : (k :: R).filter (zz_live dr) = R.filter (zz_live dr) := by simp [List.filter_cons, hL]
        rw [e1]
        have hi := ih K R (gap ++ [nI k]) h1 (by omega) (by simp; omega) (fun y hy => hR y (by simp [hy])) HD c1 (by rw [c2]; simp)
        have e9 : (gap ++ [nI k]).length = gap.length + 1 := by simp
        rw [e9, ← Nat.add_assoc] at hi
        exact hi
theorem s_keepLive {d e : Nat} {dr : List Bool} (hab : a ≠ b) (hdb : d ≠ b) (heb : e ≠ b) (H : zP h a b cap l) (HD : zD h d e dr) (hcap : cap < 2 ^ 30) (hF : cap < F) (hl : ∀ y ∈ l, y < 2 ^ 31) :
    zw (f_Postings_keepLive F a d h) (fun r => zP r.2 a b cap (l.filter (zz_live dr)) ∧ zz_fr [a, b] h r.2 ∧ r.2.length = h.length) := by
  obtain ⟨g2, js, g3, g4⟩ := H
  unfold f_Postings_keepLive l_Postings_keepLive_4
  have := s_keep_loop (F := F) hab hdb heb (N := l.length) (by omega) (js := js) F [] l [] h (by omega) (by simp) hl HD g2 (by rw [g3]; simp)
  refine this.mono ?_
  rintro r ⟨q1, ⟨js', q2, q3⟩, q4, q5⟩
  simp only [List.nil_append] at q1 q2 q3
  exact ⟨⟨q1, js', q2, by omega⟩, q4, q5⟩
end Keep
-- Bytes at a, its cells at b, of room cap: the bytes out so far (only those that fit are kept), read up to next
def zB (h : hh_H) (a b cap : Nat) (out : List Nat) (next : Nat) : Prop :=
  h[a]? = some (.inr (1, [.inr (.inl (some b)), .inl (nI out.length), .inl (nI next)])) ∧ ∃ cs : List Int32, h[b]? = some (.inl (0, .inl cs)) ∧ cs.length = cap ∧ ∀ i, i < cap → i < out.length → cs[i]? = (out[i]?).map nI
section Bytes
variable {h : hh_H} {a b cap F next : Nat} {out : List Nat}
theorem zB.fr {W : List Nat} {h' : hh_H} (H : zB h a b cap out next) (f : zz_fr W h h') (ha : a ∉ W) (hb : b ∉ W) : zB h' a b cap out next := by
  obtain ⟨g2, js, g3, g4⟩ := H
  exact ⟨f.at g2 ha, js, f.at g3 hb, g4⟩
theorem s_Bytes_size (H : zB h a b cap out next) : f_Bytes_size F a h = some (nI out.length, h) := by
  obtain ⟨g2, js, g3, g4⟩ := H
  unfold f_Bytes_size
  rw [q_gi g2 rfl]
  rfl
theorem s_Bytes_clear (hab : a ≠ b) (H : zB h a b cap out next) : zw (f_Bytes_clear F a h) (fun r => zB r.2 a b cap [] 0 ∧ zz_fr [a] h r.2 ∧ r.2.length = h.length) := by
  obtain ⟨g2, cs, g3, g4, g5⟩ := H
  unfold f_Bytes_clear
  refine zw.pi g2 (Nat.le_of_ble_eq_true rfl) fun h1 s1 => ?_
  refine zw.pi s1.1 (Nat.le_of_ble_eq_true rfl) fun h2 s2 => ?_
  exact zw.ret ⟨⟨s2.1, cs, (s2.2.1 b (Ne.symm hab)).trans (s1.at g3 (Ne.symm hab)), g4, fun i _ hi => absurd hi (Nat.not_lt_zero i)⟩, (s1.fr List.mem_cons_self).tr (s2.fr List.mem_cons_self), by rw [s2.2.2, s1.2.2]⟩
theorem s_Bytes_put (hab : a ≠ b) (H : zB h a b cap out next) (hcap : cap < 2 ^ 30) (hout : out.length < 2 ^ 30) (n : Nat) : zw (f_Bytes_put F a (nI n) h) (fun r => r.1 = nI out.length ∧ zB r.2 a b cap (out ++ [n]) next ∧ zz_fr [a, b] h r.2 ∧ r.2.length = h.length) := by
  obtain ⟨g2, cs, g3, g4, g5⟩ := H
  have tail : ∀ (h1 : hh_H) (cs1 : List Int32), h1[a]? = some (.inr (1, [.inr (.inl (some b)), .inl (nI out.length), .inl (nI next)])) → h1[b]? = some (.inl (0, .inl cs1)) → cs1.length = cap → (∀ i, i < cap → i < (out ++ [n]).length → cs1[i]? = ((out ++ [n])[i]?).map nI) → zz_fr [a, b] h h1 → h1.length = h.length →
      zw (f_Bytes_put_22 F a h1) (fun r => r.1 = nI out.length ∧ zB r.2 a b cap (out ++ [n]) next ∧ zz_fr [a, b] h r.2 ∧ r.2.length = h.length) := by
    intro h1 cs1 c1 c2 c3 c4 c5 c6
    unfold f_Bytes_put_22
    refine zw.gi c1 rfl ?_
    refine zw.pi c1 (Nat.le_of_ble_eq_true rfl) fun h2 s2 => ?_
    refine zw.gi s2.1 rfl ?_
    refine zw.ret ⟨?_, ⟨?_, cs1, s2.at c2 (Ne.symm hab), c3, c4⟩, c5.tr (s2.fr (by simp)), by rw [s2.2.2, c6]⟩
    · show nI out.length + 1 - 1 = _
      rw [nI_1, nI_pred]
    · refine s2.1.trans ?_
      show some (Sum.inr (1, [_, Sum.inl (nI out.length + 1), _])) = _
      rw [nI_1]
      simp
  unfold f_Bytes_put
  refine zw.gi g2 rfl ?_
  refine zw.ga g2 rfl ?_
  refine zw.len g3 (by decide) ?_
  rw [g4]
  by_cases hc : cap ≤ out.length
  · refine zw.ifp (nI_le hc (by omega)) ?_
    refine tail h cs g2 g3 g4 (fun i h1 h2 => ?_) (zz_fr.rf _ _) rfl
    rw [g5 i h1 (by omega), List.getElem?_append_left (by omega)]
  · refine zw.ifn (nI_ge (by omega) (by omega)) ?_
    refine zw.ga g2 rfl ?_
    refine zw.gi g2 rfl ?_
    refine zw.si g3 out.length rfl (by omega) (by omega) fun h1 s1 => ?_
    refine tail h1 _ (s1.at g2 hab) s1.1 (by simp; exact g4) (fun i h1 h2 => ?_) (s1.fr (by simp)) s1.2.2
    rw [List.getElem?_set]
    by_cases hi : out.length = i
    · rw [if_pos hi, if_pos (by omega)]
      subst hi
      simp
    · rw [if_neg hi]
      simp only [List.length_append, List.length_cons, List.length_nil] at h2
      rw [g5 i h1 (by omega), List.getElem?_append_left (by omega)]
theorem s_Bytes_raise (hab : a ≠ b) (H : zB h a b cap out next) (hcap : cap < 2 ^ 30) {at_ : Nat} (hat : at_ < out.length) (hout : out.length < 2 ^ 30) : zw (f_Bytes_raise F a (nI at_) h) (fun r => zB r.2 a b cap (zz_raise out at_) next ∧ zz_fr [a, b] h r.2 ∧ r.2.length = h.length) := by
  obtain ⟨g2, cs, g3, g4, g5⟩ := H
  unfold f_Bytes_raise
  refine zw.ifn (nI_pos (by omega)) ?_
  refine zw.ga g2 rfl ?_
  refine zw.len g3 (by decide) ?_
  rw [g4]
  have hlen : (zz_raise out at_).length = out.length := by simp [zz_raise]
  have hget : ∀ i, (zz_raise out at_)[i]? = if at_ = i then (out[i]?).map (fun c => c + 1) else out[i]? := by
    intro i
    unfold zz_raise
    rw [List.getElem?_modify]
    split
    · rfl
    · simp
  by_cases hc : cap ≤ at_
  · refine zw.ifp (nI_le hc (by omega)) ?_
    refine zw.ret ⟨⟨by rw [hlen]; exact g2, cs, g3, g4, fun i h1 h2 => ?_⟩, zz_fr.rf _ _, rfl⟩
    rw [hget, if_neg (by omega), g5 i h1 (by omega)]
  · refine zw.ifn (nI_ge (by omega) (by omega)) ?_
    refine zw.ga g2 rfl ?_
    have hx : cs[at_]? = some (nI out[at_]) := by
      rw [g5 at_ (by omega) hat]
      simp [hat]
    refine zw.ai g3 at_ rfl (by omega) hx ?_
    refine zw.si g3 at_ rfl (by omega) (by omega) fun h1 s1 => ?_
    refine zw.ret ⟨⟨by rw [hlen]; exact s1.at g2 hab, _, s1.1, by simp; exact g4, fun i h1 h2 => ?_⟩, s1.fr (by simp), s1.2.2⟩
    rw [hget, List.getElem?_set]
    by_cases hi : at_ = i
    · subst hi
      rw [if_pos rfl, if_pos (by omega), if_pos rfl]
      simp [hat, nI_1]
    · rw [if_neg hi, if_neg hi, g5 i h1 (by omega)]
theorem s_Bytes_read (hab : a ≠ b) (H : zB h a b cap out next) (hcap : cap < 2 ^ 30) (hout : out.length ≤ cap) {x : Nat} (hx : out[next]? = some x) : zw (f_Bytes_read F a h) (fun r => r.1 = nI x ∧ zB r.2 a b cap out (next + 1) ∧ zz_fr [a] h r.2 ∧ r.2.length = h.length) := by
  obtain ⟨g2, cs, g3, g4, g5⟩ := H
  have hn : next < out.length := (List.getElem?_eq_some_iff.mp hx).1
  unfold f_Bytes_read
  refine zw.gi g2 rfl ?_
  refine zw.gi g2 rfl ?_
  refine zw.ifn (nI_ge hn (by omega)) ?_
  refine zw.gi g2 rfl ?_
  refine zw.ga g2 rfl ?_
  refine zw.len g3 (by decide) ?_
  refine zw.ifp (nI_lt (by omega) (by omega)) ?_
  refine zw.gi g2 rfl ?_
  refine zw.pi g2 (Nat.le_of_ble_eq_true rfl) fun h1 s1 => ?_
  refine zw.ga s1.1 rfl ?_
  refine zw.gi s1.1 rfl ?_
  have c2 := s1.at g3 (Ne.symm hab)
  refine zw.ai (w := nI x) c2 next (by rw [nI_1, nI_pred]) (by omega) (by rw [g5 next (by omega) hn, hx]; rfl) ?_
  refine zw.ret ⟨rfl, ⟨?_, cs, c2, g4, g5⟩, s1.fr List.mem_cons_self, s1.2.2⟩
  refine s1.1.trans ?_
  show some (Sum.inr (1, [_, _, Sum.inl (nI next + 1)])) = _
  rw [nI_1]
end Bytes
