-- what a function of the abstract heap comes to
def zw {σ : Type} (o : Option σ) (Q : σ → Prop) : Prop := ∃ r, o = some r ∧ Q r
/-- h1 is h with the cell c at a -/
def zz_st (a : Nat) (c : hh_C) (h h1 : hh_H) : Prop := h1[a]? = some c ∧ (∀ i, i ≠ a → h1[i]? = h[i]?) ∧ h1.length = h.length
theorem zz_st.of {a : Nat} {c d : hh_C} {h : hh_H} (hc : h[a]? = some d) : zz_st a c h (h.set a c) := ⟨q_get hc, fun i hi => q_set (Ne.symm hi), by simp⟩
theorem zz_st.fr {W : List Nat} {a : Nat} {c : hh_C} {h h1 : hh_H} (s : zz_st a c h h1) (ha : a ∈ W) : zz_fr W h h1 := ⟨Nat.le_of_eq s.2.2.symm, fun i hi hn => s.2.1 i (fun q => hn (q ▸ ha))⟩
theorem zz_st.at {a i : Nat} {c d : hh_C} {h h1 : hh_H} (s : zz_st a c h h1) (hd : h[i]? = some d) (hi : i ≠ a) : h1[i]? = some d := (s.2.1 i hi).trans hd
section Wp
variable {σ ρ : Type} {Q : σ → Prop} {h : hh_H} {a ci k t : Nat} {fs : List hh_V}
theorem zw.ret {r : σ} (hq : Q r) : zw (some r) Q := ⟨r, rfl, hq⟩
theorem zw.mono {o : Option σ} {Q' : σ → Prop} (hw : zw o Q) (hq : ∀ r, Q r → Q' r) : zw o Q' := by
  obtain ⟨r, h1, h2⟩ := hw
  exact ⟨r, h1, hq r h2⟩
theorem zw.eq {o : Option σ} {r : σ} (he : o = some r) (hq : Q r) : zw o Q := ⟨r, he, hq⟩
theorem zw.ifp {c : Prop} [Decidable c] {A B : Option σ} (hc : c) (hw : zw A Q) : zw (if c then A else B) Q := by rw [if_pos hc]; exact hw
theorem zw.ifn {c : Prop} [Decidable c] {A B : Option σ} (hc : ¬ c) (hw : zw B Q) : zw (if c then A else B) Q := by rw [if_neg hc]; exact hw
theorem zw.cb {g : Option (ρ × hh_H)} {f : ρ → hh_H → Option σ} {Q1 : ρ × hh_H → Prop} (h1 : zw g Q1) (h2 : ∀ r h', Q1 (r, h') → zw (f r h') Q) : zw (hp_cb g f) Q := by
  obtain ⟨⟨r, h'⟩, e, hq⟩ := h1
  rw [e]
  exact h2 r h' hq
theorem zw.cbe {g : Option (ρ × hh_H)} {f : ρ → hh_H → Option σ} {r : ρ} {h' : hh_H} (he : g = some (r, h')) (h2 : zw (f r h') Q) : zw (hp_cb g f) Q := by
  rw [he]
  exact h2
theorem zw.is {f : Unit → Option σ} (hc : h[a]? = some (.inr (ci, fs))) (kk : zw (f ()) Q) : zw ((hp_is h a ci).bind f) Q := by
  rw [q_is hc]
  exact kk
theorem zw.gi {f : Int32 → Option σ} {x : Int32} (hc : h[a]? = some (.inr (ci, fs))) (hx : fs[k]? = some (.inl x)) (kk : zw (f x) Q) : zw ((hp_gi h a ci k).bind f) Q := by
  rw [q_gi hc hx]
  exact kk
theorem zw.ga {f : Nat → Option σ} {x : Nat} (hc : h[a]? = some (.inr (ci, fs))) (hx : fs[k]? = some (.inr (.inl (some x)))) (kk : zw (f x) Q) : zw ((hp_ga h a ci k).bind f) Q := by
  rw [q_ga hc hx]
  exact kk
theorem zw.gj {f : Int64 → Option σ} {x : Int64} (hc : h[a]? = some (.inr (ci, fs))) (hx : fs[k]? = some (.inr (.inr (.inr x)))) (kk : zw (f x) Q) : zw ((hp_gj h a ci k).bind f) Q := by
  rw [q_gj hc hx]
  exact kk
theorem zw.pi {f : hh_H → Option σ} {x : Int32} (hc : h[a]? = some (.inr (ci, fs))) (hk : k < fs.length) (kk : ∀ h1, zz_st a (.inr (ci, fs.set k (.inl x))) h h1 → zw (f h1) Q) : zw ((hp_pi h a ci k x).bind f) Q := by
  rw [q_pi hc hk]
  exact kk _ (zz_st.of hc)
theorem zw.pz {f : hh_H → Option σ} {x : Int32} (hc : h[a]? = some (.inr (ci, fs))) (hk : k < fs.length) (hx : x = 0 ∨ x = 1) (kk : ∀ h1, zz_st a (.inr (ci, fs.set k (.inl x))) h h1 → zw (f h1) Q) : zw ((hp_pz h a ci k x).bind f) Q := by
  rw [q_pz hc hk hx]
  exact kk _ (zz_st.of hc)
theorem zw.pa {f : hh_H → Option σ} {x : Nat} (hc : h[a]? = some (.inr (ci, fs))) (hk : k < fs.length) (kk : ∀ h1, zz_st a (.inr (ci, fs.set k (.inr (.inl (some x))))) h h1 → zw (f h1) Q) : zw ((hp_pa h a ci k x).bind f) Q := by
  rw [q_pa hc hk]
  exact kk _ (zz_st.of hc)
theorem zw.pj {f : hh_H → Option σ} {x : Int64} (hc : h[a]? = some (.inr (ci, fs))) (hk : k < fs.length) (kk : ∀ h1, zz_st a (.inr (ci, fs.set k (.inr (.inr (.inr x))))) h h1 → zw (f h1) Q) : zw ((hp_pj h a ci k x).bind f) Q := by
  rw [q_pj hc hk]
  exact kk _ (zz_st.of hc)
theorem zw.len {f : Int32 → Option σ} {l : List Int32} (hc : h[a]? = some (.inl (t, .inl l))) (ht : t < 6) (kk : zw (f (nI l.length)) Q) : zw ((hp_len h a).bind f) Q := by
  rw [q_len hc ht]
  exact kk
theorem zw.lend {f : Int32 → Option σ} {l : List UInt64} (hc : h[a]? = some (.inl (t, .inr (.inl l)))) (ht : t < 6) (kk : zw (f (nI l.length)) Q) : zw ((hp_len h a).bind f) Q := by
  rw [q_lend hc ht]
  exact kk
theorem zw.lenq {f : Int32 → Option σ} {l : List (Option Nat)} (hc : h[a]? = some (.inl (t, .inr (.inr (.inr l))))) (ht : t < 6) (kk : zw (f (nI l.length)) Q) : zw ((hp_len h a).bind f) Q := by
  rw [q_lenq hc ht]
  exact kk
theorem zw.ai {f : Int32 → Option σ} {l : List Int32} {x w : Int32} (hc : h[a]? = some (.inl (0, .inl l))) (i : Nat) (hxi : x = nI i) (hi : i < 2 ^ 31) (hx : l[i]? = some w) (kk : zw (f w) Q) : zw ((hp_ai h a x).bind f) Q := by
  rw [hxi, q_ai hc hi hx]
  exact kk
theorem zw.az {f : Int32 → Option σ} {l : List Int32} {x w : Int32} (hc : h[a]? = some (.inl (1, .inl l))) (i : Nat) (hxi : x = nI i) (hi : i < 2 ^ 31) (hx : l[i]? = some w) (kk : zw (f w) Q) : zw ((hp_az h a x).bind f) Q := by
  rw [hxi, q_az hc hi hx]
  exact kk
theorem zw.ab {f : Int32 → Option σ} {l : List Int32} {x w : Int32} (hc : h[a]? = some (.inl (5, .inl l))) (i : Nat) (hxi : x = nI i) (hi : i < 2 ^ 31) (hx : l[i]? = some w) (kk : zw (f w) Q) : zw ((hp_ab h a x).bind f) Q := by
  rw [hxi, q_ab hc hi hx]
  exact kk
theorem zw.ad {f : UInt64 → Option σ} {l : List UInt64} {x : Int32} {w : UInt64} (hc : h[a]? = some (.inl (2, .inr (.inl l)))) (i : Nat) (hxi : x = nI i) (hi : i < 2 ^ 31) (hx : l[i]? = some w) (kk : zw (f w) Q) : zw ((hp_ad h a x).bind f) Q := by
  rw [hxi, q_ad hc hi hx]
  exact kk
theorem zw.aj {f : Int64 → Option σ} {l : List Int64} {x : Int32} {w : Int64} (hc : h[a]? = some (.inl (3, .inr (.inr (.inl l))))) (i : Nat) (hxi : x = nI i) (hi : i < 2 ^ 31) (hx : l[i]? = some w) (kk : zw (f w) Q) : zw ((hp_aj h a x).bind f) Q := by
  rw [hxi, q_aj hc hi hx]
  exact kk
theorem zw.aq {f : Nat → Option σ} {l : List (Option Nat)} {x : Int32} {w : Nat} (hc : h[a]? = some (.inl (4, .inr (.inr (.inr l))))) (i : Nat) (hxi : x = nI i) (hi : i < 2 ^ 31) (hx : l[i]? = some (some w)) (kk : zw (f w) Q) : zw ((hp_aq h a x).bind f) Q := by
  rw [hxi, q_aq hc hi hx]
  exact kk
theorem zw.si {f : hh_H → Option σ} {l : List Int32} {x w : Int32} (hc : h[a]? = some (.inl (0, .inl l))) (i : Nat) (hxi : x = nI i) (hi : i < l.length) (hl : i < 2 ^ 31) (kk : ∀ h1, zz_st a (.inl (0, .inl (l.set i w))) h h1 → zw (f h1) Q) : zw ((hp_si h a x w).bind f) Q := by
  rw [hxi, q_si hc hi hl]
  exact kk _ (zz_st.of hc)
theorem zw.sz {f : hh_H → Option σ} {l : List Int32} {x w : Int32} (hc : h[a]? = some (.inl (1, .inl l))) (i : Nat) (hxi : x = nI i) (hi : i < l.length) (hl : i < 2 ^ 31) (kk : ∀ h1, zz_st a (.inl (1, .inl (l.set i (vp_nar .boolean w)))) h h1 → zw (f h1) Q) : zw ((hp_sz h a x w).bind f) Q := by
  rw [hxi, q_sz hc hi hl]
  exact kk _ (zz_st.of hc)
theorem zw.sb {f : hh_H → Option σ} {l : List Int32} {x w : Int32} (hc : h[a]? = some (.inl (5, .inl l))) (i : Nat) (hxi : x = nI i) (hi : i < l.length) (hl : i < 2 ^ 31) (kk : ∀ h1, zz_st a (.inl (5, .inl (l.set i (vp_nar .byte w)))) h h1 → zw (f h1) Q) : zw ((hp_sb h a x w).bind f) Q := by
  rw [hxi, q_sb hc hi hl]
  exact kk _ (zz_st.of hc)
theorem zw.sd {f : hh_H → Option σ} {l : List UInt64} {x : Int32} {w : UInt64} (hc : h[a]? = some (.inl (2, .inr (.inl l)))) (i : Nat) (hxi : x = nI i) (hi : i < l.length) (hl : i < 2 ^ 31) (kk : ∀ h1, zz_st a (.inl (2, .inr (.inl (l.set i w)))) h h1 → zw (f h1) Q) : zw ((hp_sd h a x w).bind f) Q := by
  rw [hxi, q_sd hc hi hl]
  exact kk _ (zz_st.of hc)
theorem zw.sj {f : hh_H → Option σ} {l : List Int64} {x : Int32} {w : Int64} (hc : h[a]? = some (.inl (3, .inr (.inr (.inl l))))) (i : Nat) (hxi : x = nI i) (hi : i < l.length) (hl : i < 2 ^ 31) (kk : ∀ h1, zz_st a (.inl (3, .inr (.inr (.inl (l.set i w))))) h h1 → zw (f h1) Q) : zw ((hp_sj h a x w).bind f) Q := by
  rw [hxi, q_sj hc hi hl]
  exact kk _ (zz_st.of hc)
theorem zw.sq {f : hh_H → Option σ} {l : List (Option Nat)} {x : Int32} {w : Option Nat} (hc : h[a]? = some (.inl (4, .inr (.inr (.inr l))))) (i : Nat) (hxi : x = nI i) (hi : i < l.length) (hl : i < 2 ^ 31) (kk : ∀ h1, zz_st a (.inl (4, .inr (.inr (.inr (l.set i w))))) h h1 → zw (f h1) Q) : zw ((hp_sq h a x w).bind f) Q := by
  rw [hxi, q_sq hc hi hl]
  exact kk _ (zz_st.of hc)
end Wp
