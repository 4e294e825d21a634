theorem hh_pick {X : hh_X} {cn sn pc : Nat} {lv lv' : List (Nat × Value)} {st : List Value} {h : hh_H} (ks : List Nat) (hk : lv_pick lv ks = lv') (k : hh_W X cn sn pc lv' st h) : hh_W X cn sn pc lv st h := by
  obtain ⟨p, l, e, R', s, m, args, below, meth, c, Q, D, cT, B', e0', nL'⟩ := X
  intro H locs ls hS hl
  exact k H locs ls hS (lv_sub hl ks hk)
theorem hh_widen {X : hh_X} {cn sn cn' sn' pc : Nat} {lv : List (Nat × Value)} {st : List Value} {h : hh_H} (h1 : cn ≤ cn') (h2 : sn ≤ sn') (k : hh_W X cn' sn' pc lv st h) : hh_W X cn sn pc lv st h := by
  obtain ⟨p, l, e, R', s, m, args, below, meth, c, Q, D, cT, B', e0', nL'⟩ := X
  intro H locs ls hS hl
  exact W.widen h1 h2 (k H locs ls hS hl)
-- fields
def hh_FL (own : String) (idx ci k : Nat) (ty : FieldType) (fin : Bool) : Prop :=
  ∃ (Cn : String) (T : u_T) (N : Nat) (tys : Nat → FieldType) (ref : String), hh_cl[ci]? = some (Cn, T, N) ∧ k < N ∧ (∀ w ∈ u_ws Cn T N, w ∈ hh_T) ∧ (Cond.fieldLink own idx ref (T k).2.1 (T k).2.2.1 ∈ hh_T ∧ (ref = (T k).1 ∨ Cond.sameField ref (T k).1 (T k).2.1 (T k).2.2.1 ∈ hh_T)) ∧ (T k).2.2.2 = fin ∧ parseFieldDescriptor (T k).2.2.1 = some ty ∧
    (∀ j, j < N → parseFieldDescriptor (T j).2.2.1 = some (tys j)) ∧ (∀ a, a < N → ∀ b, b < N → a ≠ b → (T a).2.1 ≠ (T b).2.1)
def hh_FN (own : String) (idx ci k : Nat) : Prop :=
  ∃ (Cn : String) (T : u_T) (N : Nat) (host : String), hh_cl[ci]? = some (Cn, T, N) ∧ k < N ∧ (∀ w ∈ u_ws Cn T N, w ∈ hh_T) ∧ Cond.fieldLinkNest own idx (T k).1 (T k).2.1 (T k).2.2.1 host ∈ hh_T2
theorem hp_gv_of {h : hh_H} {a ci k : Nat} {v : hh_V} (hv : hp_gv h a ci k = some v) : ∃ fs, h[a]? = some (.inr (ci, fs)) ∧ fs[k]? = some v := by
  unfold hp_gv at hv
  split at hv
  · rename_i c fs he
    split at hv
    · rename_i hc
      subst hc
      exact ⟨fs, he, hv⟩
    · cases hv
  · cases hv
theorem hp_gi_of {h : hh_H} {a ci k : Nat} {v : Int32} (hv : hp_gi h a ci k = some v) : ∃ fs, h[a]? = some (.inr (ci, fs)) ∧ fs[k]? = some (.inl v) := by
  unfold hp_gi at hv
  split at hv
  · rename_i x he
    cases hv
    exact hp_gv_of he
  · cases hv
theorem hp_ga_of {h : hh_H} {a ci k : Nat} {v : Nat} (hv : hp_ga h a ci k = some v) : ∃ fs, h[a]? = some (.inr (ci, fs)) ∧ fs[k]? = some (.inr (.inl (some v))) := by
  unfold hp_ga at hv
  split at hv
  · rename_i x he
    cases hv
    exact hp_gv_of he
  · cases hv
theorem hp_gd_of {h : hh_H} {a ci k : Nat} {v : UInt64} (hv : hp_gd h a ci k = some v) : ∃ fs, h[a]? = some (.inr (ci, fs)) ∧ fs[k]? = some (.inr (.inr (.inl v))) := by
  unfold hp_gd at hv
  split at hv
  · rename_i x he
    cases hv
    exact hp_gv_of he
  · cases hv
theorem hp_gj_of {h : hh_H} {a ci k : Nat} {v : Int64} (hv : hp_gj h a ci k = some v) : ∃ fs, h[a]? = some (.inr (ci, fs)) ∧ fs[k]? = some (.inr (.inr (.inr v))) := by
  unfold hp_gj at hv
  split at hv
  · rename_i x he
    cases hv
    exact hp_gv_of he
  · cases hv
theorem hp_p_of {h h' : hh_H} {a ci k : Nat} {v : hh_V} (hv : hp_p h a ci k v = some h') : ∃ fs, h[a]? = some (.inr (ci, fs)) ∧ k < fs.length ∧ h' = h.set a (.inr (ci, fs.set k v)) := by
  unfold hp_p at hv
  split at hv
  · rename_i c fs he
    split at hv
    · rename_i hc
      obtain ⟨hc, hk⟩ := hc
      subst hc
      cases hv
      exact ⟨fs, he, hk, rfl⟩
    · cases hv
  · cases hv
theorem hh_same {args : Array Value} {s : State} {ref owner n d : String} (hts : ∀ w ∈ hh_T, w.before args s = true) (h : ref = owner ∨ Cond.sameField ref owner n d ∈ hh_T) : ∀ x, s.fieldFound? owner n d = some x → s.fieldFound? ref n d = some x := by
  intro x hx
  rcases h with rfl | h
  · exact hx
  · exact u_same (hts _ h) x hx
section Fields
variable {X : hh_X} {B e0 : Nat} {cc : ByteArray} {own : String} {nL : Nat} {ret : Option FieldType} {nm : String} {R : Room} {cn sn pc idx : Nat} {lv : List (Nat × Value)} {st : List Value} {h h' : hh_H} {ci k a : Nat} {ty : FieldType} {fin : Bool}
theorem r_getV (C : hh_ok X B e0 cc own nL ret nm R) (d : decode cc pc = .ok (.getfield idx, 3)) (F : hh_FL own idx ci k ty fin) {fs : List hh_V} {v : hh_V} (he : h[a]? = some (.inr (ci, fs))) (hv : fs[k]? = some v)
    (kk : hh_W X cn sn (pc + 3) lv (hh_v B e0 v :: st) h) : hh_W X cn sn pc lv (.ref (hh_ad B e0 a) :: st) h := by
  obtain ⟨p, l, e, R', s, m, args, below, meth, c, Q, D, cT, B', e0', nL'⟩ := X
  obtain ⟨hx, hb, hml, hown, hts, hK, hlk, hrt, hnm, rfl, rfl, rfl, rfl, hB, hA, hcA⟩ := C
  obtain ⟨Cn, T, N, tys, ref, h1, h2, h3, ⟨h4, hsm⟩, -⟩ := F
  intro H locs ls hS hl
  exact va_get hx hb hts h3 hown hK hS.1 (a - 1) (hh_w_get (hh_p0 hS.2.1.1 he (fun q => by cases q)) he) h1 k h2 (hts _ h4) (hh_same hts hsm) (v := hh_v B' e0' v) (by rw [List.getElem?_map, hv]; rfl) d (kk H locs ls hS hl)
theorem r_getVN (C : hh_ok X B e0 cc own nL ret nm R) (d : decode cc pc = .ok (.getfield idx, 3)) (F : hh_FN own idx ci k) {fs : List hh_V} {v : hh_V} (he : h[a]? = some (.inr (ci, fs))) (hv : fs[k]? = some v)
    (kk : hh_W X cn sn (pc + 3) lv (hh_v B e0 v :: st) h) : hh_W X cn sn pc lv (.ref (hh_ad B e0 a) :: st) h := by
  obtain ⟨p, l, e, R', s, m, args, below, meth, c, Q, D, cT, B', e0', nL'⟩ := X
  obtain ⟨hx, hb, hml, hown, hts, hK, hlk, hrt, hnm, rfl, rfl, rfl, rfl, hB, hA, hcA⟩ := C
  obtain ⟨Cn, T, N, host, h1, h2, h3, h4⟩ := F
  intro H locs ls hS hl
  exact va_getN hx hb hts h3 hown hK hS.1 (a - 1) (hh_w_get (hh_p0 hS.2.1.1 he (fun q => by cases q)) he) h1 k h2 (va_Nw.use rfl (hcA.2.1 _ h4)) (fun x hx => hx) (v := hh_v B' e0' v) (by rw [List.getElem?_map, hv]; rfl) d (kk H locs ls hS hl)
theorem r_getI (C : hh_ok X B e0 cc own nL ret nm R) (d : decode cc pc = .ok (.getfield idx, 3)) (F : hh_FL own idx ci k ty fin) {v : Int32} (hv : hp_gi h a ci k = some v) (kk : hh_W X cn sn (pc + 3) lv (.int v :: st) h) : hh_W X cn sn pc lv (.ref (hh_ad B e0 a) :: st) h := by
  obtain ⟨fs, he, h1⟩ := hp_gi_of hv
  exact r_getV C d F he h1 kk
theorem r_getA (C : hh_ok X B e0 cc own nL ret nm R) (d : decode cc pc = .ok (.getfield idx, 3)) (F : hh_FL own idx ci k ty fin) {v : Nat} (hv : hp_ga h a ci k = some v) (kk : hh_W X cn sn (pc + 3) lv (.ref (hh_ad B e0 v) :: st) h) : hh_W X cn sn pc lv (.ref (hh_ad B e0 a) :: st) h := by
  obtain ⟨fs, he, h1⟩ := hp_ga_of hv
  exact r_getV C d F he h1 kk
theorem r_getD (C : hh_ok X B e0 cc own nL ret nm R) (d : decode cc pc = .ok (.getfield idx, 3)) (F : hh_FL own idx ci k ty fin) {v : UInt64} (hv : hp_gd h a ci k = some v) (kk : hh_W X cn sn (pc + 3) lv (.double v :: st) h) : hh_W X cn sn pc lv (.ref (hh_ad B e0 a) :: st) h := by
  obtain ⟨fs, he, h1⟩ := hp_gd_of hv
  exact r_getV C d F he h1 kk
theorem r_getJ (C : hh_ok X B e0 cc own nL ret nm R) (d : decode cc pc = .ok (.getfield idx, 3)) (F : hh_FL own idx ci k ty fin) {v : Int64} (hv : hp_gj h a ci k = some v) (kk : hh_W X cn sn (pc + 3) lv (.long v :: st) h) : hh_W X cn sn pc lv (.ref (hh_ad B e0 a) :: st) h := by
  obtain ⟨fs, he, h1⟩ := hp_gj_of hv
  exact r_getV C d F he h1 kk
theorem r_getIN (C : hh_ok X B e0 cc own nL ret nm R) (d : decode cc pc = .ok (.getfield idx, 3)) (F : hh_FN own idx ci k) {v : Int32} (hv : hp_gi h a ci k = some v) (kk : hh_W X cn sn (pc + 3) lv (.int v :: st) h) : hh_W X cn sn pc lv (.ref (hh_ad B e0 a) :: st) h := by
  obtain ⟨fs, he, h1⟩ := hp_gi_of hv
  exact r_getVN C d F he h1 kk
theorem r_getAN (C : hh_ok X B e0 cc own nL ret nm R) (d : decode cc pc = .ok (.getfield idx, 3)) (F : hh_FN own idx ci k) {v : Nat} (hv : hp_ga h a ci k = some v) (kk : hh_W X cn sn (pc + 3) lv (.ref (hh_ad B e0 v) :: st) h) : hh_W X cn sn pc lv (.ref (hh_ad B e0 a) :: st) h := by
  obtain ⟨fs, he, h1⟩ := hp_ga_of hv
  exact r_getVN C d F he h1 kk
/-- a cell of the world has changed, and nothing else -/
theorem hh_S_set {D : va_G} {cT : Nat → ClassId} {s : State} {H H1 : Heap} {locs : List Loc} {e' : hh_C} {i : Nat} (hS : hh_S D cT B e0 s h H locs) {e1 : hh_C} (he : h[a]? = some e1) (hnn : e1 ≠ hh_nil) (hat : va_at D hh_cl (hh_ad B e0 a, hh_c B e0 cT e') H1) (hz : H1.size = H.size) (ho : ∀ q : Nat, q ≠ hh_ad B e0 a → H1[q]? = H[q]?) :
    hh_S D cT B e0 s (h.set a e') H1 (locs ++ [⟨hh_ad B e0 a, i⟩]) := by
  obtain ⟨hP, ⟨h0, he0, hs⟩, hF⟩ := hS
  have ha0 : a ≠ 0 := fun q => by
    subst q
    exact hnn (Option.some.inj (he.symm.trans h0))
  have hge : B ≤ hh_ad B e0 a := by
    match a, ha0 with
    | a + 1, _ => exact Nat.le_add_right _ _
  refine ⟨?_, ⟨by rw [List.getElem?_set, if_neg ha0]; exact h0, he0, by rw [hz, hs, List.length_set]⟩, hF.put hz ho hge⟩
  rw [← hh_w_set ha0]
  exact hP.set (hh_D he0) (hh_w_get ha0 he) hat ho
theorem r_putV (C : hh_ok X B e0 cc own nL ret nm R) (d : decode cc pc = .ok (.putfield idx, 3)) (F : hh_FL own idx ci k ty false) {v : hh_V} (hn : narrow ty (hh_v B e0 v) = hh_v B e0 v) (hfit : fits ty (hh_v B e0 v) = true) (hv : hp_p h a ci k v = some h')
    (kk : hh_W X cn sn (pc + 3) lv st h') : hh_W X cn sn pc lv (hh_v B e0 v :: .ref (hh_ad B e0 a) :: st) h := by
  obtain ⟨p, l, e, R', s, m, args, below, meth, c, Q, D, cT, B', e0', nL'⟩ := X
  obtain ⟨hx, hb, hml, hown, hts, hK, hlk, hrt, hnm, rfl, rfl, rfl, rfl, hB, hA, hcA⟩ := C
  obtain ⟨Cn, T, N, tys, ref, h1, h2, h3, ⟨h4, hsm⟩, hfin, hd, hty, hne⟩ := F
  obtain ⟨fs, he, hkl, rfl⟩ := hp_p_of hv
  intro H locs ls hS hl
  have hap := va_apart (own := own) hts h3 tys hty hne hK h1
  obtain ⟨r, g1, cell, q1, q2, q3, q4⟩ := hS.1 (a - 1) _ (hh_w_get (hh_p0 hS.2.1.1 he (fun q => by cases q)) he)
  have hr : r = (Cn, T, N) := Option.some.inj (g1.symm.trans h1)
  subst hr
  obtain ⟨hSl, hfc, kC, hkC, hkind⟩ := hK.1 ci _ h1
  obtain ⟨cf, kf, fi, f, hi, hsl⟩ := hSl k h2
  have hlay := hts _ (h3 _ (u_in_lay h2))
  unfold u_lay at hlay
  rw [if_neg (by rw [hfin]; decide)] at hlay
  have hst := (u_facts hfc hkC (u_lays hts h3 h2) hi).1
  have h6 := u_store hfc hkC hkind hlay hi hd hn hfit
  refine W.putK hx hb (f := f) ⟨hown, hts _ h4, ⟨_, _, _, hh_same hts hsm _ hi⟩, hst⟩ (by rw [q2]; exact h6) q1 q3 (by rw [hsl]; exact k2_hasslot (q4 k h2)) rfl rfl d fun H' e1 e2 e3 => ?_
  rw [hsl] at e1 ⊢
  refine kk H' _ ls (hh_S_set hS he (fun q => by cases q) ⟨_, h1, ?_⟩ e2 e3) hl
  refine t_OB.to (V := updV (vp_V (fs.map (hh_v B' e0'))) k (hh_v B' e0' v)) ⟨_, e1, q2, q3, t_set q4 hap h2 _⟩ (fun j _ => ?_)
  rw [vp_updV_set (by rw [List.length_map]; exact hkl), ← List.map_set]
theorem r_putVF (C : hh_ok X B e0 cc own nL ret nm R) (d : decode cc pc = .ok (.putfield idx, 3)) (F : hh_FL own idx ci k ty true) (hin : nm = "<init>") (hdc : ∀ Cn T N, hh_cl[ci]? = some (Cn, T, N) → (T k).1 = own) {v : hh_V} (hn : narrow ty (hh_v B e0 v) = hh_v B e0 v) (hfit : fits ty (hh_v B e0 v) = true) (hv : hp_p h a ci k v = some h')
    (kk : hh_W X cn sn (pc + 3) lv st h') : hh_W X cn sn pc lv (hh_v B e0 v :: .ref (hh_ad B e0 a) :: st) h := by
  obtain ⟨p, l, e, R', s, m, args, below, meth, c, Q, D, cT, B', e0', nL'⟩ := X
  obtain ⟨hx, hb, hml, hown, hts, hK, hlk, hrt, hnm, rfl, rfl, rfl, rfl, hB, hA, hcA⟩ := C
  obtain ⟨Cn, T, N, tys, ref, h1, h2, h3, ⟨h4, hsm⟩, hfin, hd, hty, hne⟩ := F
  obtain ⟨fs, he, hkl, rfl⟩ := hp_p_of hv
  have hdecl := hdc _ _ _ h1
  intro H locs ls hS hl
  have hap := va_apart (own := own) hts h3 tys hty hne hK h1
  obtain ⟨r, g1, cell, q1, q2, q3, q4⟩ := hS.1 (a - 1) _ (hh_w_get (hh_p0 hS.2.1.1 he (fun q => by cases q)) he)
  have hr : r = (Cn, T, N) := Option.some.inj (g1.symm.trans h1)
  subst hr
  obtain ⟨hSl, hfc, kC, hkC, hkind⟩ := hK.1 ci _ h1
  obtain ⟨cf, kf, fi, f, hi, hsl⟩ := hSl k h2
  have hlay := hts _ (h3 _ (u_in_lay h2))
  unfold u_lay at hlay
  rw [if_pos hfin] at hlay
  have hst := (u_facts hfc hkC (u_lays hts h3 h2) hi).1
  have hcf : m.cls = cf := by
    obtain ⟨_, _, c', _, _, _, -, -, hf', -, -, -, hown2, -⟩ := Cond.laysFinal_spec hlay
    have e1 : c' = cf := by have := hi.symm.trans hf'; simp at this; exact this.1.symm
    rw [hdecl] at hown2
    rw [← e1]; exact Option.some.inj (hown.symm.trans hown2)
  have h6 := u_fits hfc hkC hkind (Or.inr hlay) hi hd hn hfit
  refine W.putFinK hx hb hown (hts _ h4) (hh_same hts hsm _ hi) hst hcf (hnm.trans hin) (by rw [q2]; exact h6) q1 q3 (by rw [hsl]; exact k2_hasslot (q4 k h2)) rfl rfl d fun H' e1 e2 e3 => ?_
  rw [hsl] at e1 ⊢
  refine kk H' _ ls (hh_S_set hS he (fun q => by cases q) ⟨_, h1, ?_⟩ e2 e3) hl
  refine t_OB.to (V := updV (vp_V (fs.map (hh_v B' e0'))) k (hh_v B' e0' v)) ⟨_, e1, q2, q3, t_set q4 hap h2 _⟩ (fun j _ => ?_)
  rw [vp_updV_set (by rw [List.length_map]; exact hkl), ← List.map_set]
theorem r_putI (C : hh_ok X B e0 cc own nL ret nm R) (d : decode cc pc = .ok (.putfield idx, 3)) (F : hh_FL own idx ci k .int false) {x : Int32} (hv : hp_pi h a ci k x = some h') (kk : hh_W X cn sn (pc + 3) lv st h') : hh_W X cn sn pc lv (.int x :: .ref (hh_ad B e0 a) :: st) h :=
  r_putV (v := .inl x) C d F rfl rfl hv kk
theorem r_putIF (C : hh_ok X B e0 cc own nL ret nm R) (d : decode cc pc = .ok (.putfield idx, 3)) (F : hh_FL own idx ci k .int true) (hin : nm = "<init>") (hdc : ∀ Cn T N, hh_cl[ci]? = some (Cn, T, N) → (T k).1 = own) {x : Int32} (hv : hp_pi h a ci k x = some h') (kk : hh_W X cn sn (pc + 3) lv st h') : hh_W X cn sn pc lv (.int x :: .ref (hh_ad B e0 a) :: st) h :=
  r_putVF (v := .inl x) C d F hin hdc rfl rfl hv kk
theorem r_putA (C : hh_ok X B e0 cc own nL ret nm R) (d : decode cc pc = .ok (.putfield idx, 3)) (F : hh_FL own idx ci k ty false) (hr : ∀ q, narrow ty (.ref q) = .ref q ∧ fits ty (.ref q) = true) {x : Nat} (hv : hp_pa h a ci k x = some h') (kk : hh_W X cn sn (pc + 3) lv st h') : hh_W X cn sn pc lv (.ref (hh_ad B e0 x) :: .ref (hh_ad B e0 a) :: st) h :=
  r_putV (v := .inr (.inl (some x))) C d F (hr _).1 (hr _).2 hv kk
theorem r_putAF (C : hh_ok X B e0 cc own nL ret nm R) (d : decode cc pc = .ok (.putfield idx, 3)) (F : hh_FL own idx ci k ty true) (hin : nm = "<init>") (hdc : ∀ Cn T N, hh_cl[ci]? = some (Cn, T, N) → (T k).1 = own) (hr : ∀ q, narrow ty (.ref q) = .ref q ∧ fits ty (.ref q) = true) {x : Nat} (hv : hp_pa h a ci k x = some h') (kk : hh_W X cn sn (pc + 3) lv st h') : hh_W X cn sn pc lv (.ref (hh_ad B e0 x) :: .ref (hh_ad B e0 a) :: st) h :=
  r_putVF (v := .inr (.inl (some x))) C d F hin hdc (hr _).1 (hr _).2 hv kk
theorem r_putJ (C : hh_ok X B e0 cc own nL ret nm R) (d : decode cc pc = .ok (.putfield idx, 3)) (F : hh_FL own idx ci k .long false) {x : Int64} (hv : hp_pj h a ci k x = some h') (kk : hh_W X cn sn (pc + 3) lv st h') : hh_W X cn sn pc lv (.long x :: .ref (hh_ad B e0 a) :: st) h :=
  r_putV (v := .inr (.inr (.inr x))) C d F rfl rfl hv kk
theorem r_putZ (C : hh_ok X B e0 cc own nL ret nm R) (d : decode cc pc = .ok (.putfield idx, 3)) (F : hh_FL own idx ci k .boolean false) {x : Int32} (hv : hp_pz h a ci k x = some h') (kk : hh_W X cn sn (pc + 3) lv st h') : hh_W X cn sn pc lv (.int x :: .ref (hh_ad B e0 a) :: st) h := by
  unfold hp_pz at hv
  split at hv
  · rename_i hz
    refine r_putV (v := .inl x) C d F ?_ ?_ hv kk
    · rcases hz with rfl | rfl <;> rfl
    · rcases hz with rfl | rfl <;> rfl
  · cases hv
end Fields
theorem hp_ints_of {h : hh_H} {a t : Nat} {l : List Int32} (hv : hp_ints h a t = some l) : h[a]? = some (.inl (t, .inl l)) := by
  unfold hp_ints at hv
  split at hv
  · rename_i t' l' he
    split at hv
    · rename_i ht
      subst ht
      cases hv
      exact he
    · cases hv
  · cases hv
theorem hp_dbls_of {h : hh_H} {a t : Nat} {l : List UInt64} (hv : hp_dbls h a t = some l) : h[a]? = some (.inl (t, .inr (.inl l))) := by
  unfold hp_dbls at hv
  split at hv
  · rename_i t' l' he
    split at hv
    · rename_i ht
      subst ht
      cases hv
      exact he
    · cases hv
  · cases hv
theorem hp_lngs_of {h : hh_H} {a t : Nat} {l : List Int64} (hv : hp_lngs h a t = some l) : h[a]? = some (.inl (t, .inr (.inr (.inl l)))) := by
  unfold hp_lngs at hv
  split at hv
  · rename_i t' l' he
    split at hv
    · rename_i ht
      subst ht
      cases hv
      exact he
    · cases hv
  · cases hv
theorem hp_ld_of {α : Type} {o : Option (List α)} {i : Int32} {v : α} (z : α) (hv : hp_ld o i = some v) : ∃ l, o = some l ∧ vp_in i l.length ∧ l.getD i.toNatClampNeg z = v := by
  match o, hv with
  | some l, hv =>
    simp only [hp_ld] at hv
    split at hv
    · cases hv
    · rename_i hi
      have hl := (List.getElem?_eq_some_iff.mp hv).1
      refine ⟨l, rfl, fun q => ?_, ?_⟩
      · rcases q with q | q
        · exact hi q
        · exact absurd hl (Nat.not_lt.mpr q)
      · simp [List.getD_eq_getElem?_getD, hv]
theorem hp_st_of {α : Type} {o : Option (List α)} {i : Int32} {v : α} {l' : List α} (hv : hp_st o i v = some l') : ∃ l, o = some l ∧ vp_in i l.length ∧ l' = l.set i.toNatClampNeg v := by
  match o, hv with
  | some l, hv =>
    simp only [hp_st] at hv
    split at hv
    · cases hv
    · rename_i hi
      split at hv
      · rename_i hl
        cases hv
        refine ⟨l, rfl, fun q => ?_, rfl⟩
        rcases q with q | q
        · exact hi q
        · exact absurd hl (Nat.not_lt.mpr q)
      · cases hv
theorem hp_getD_set {α : Type} {l : List α} {i : Nat} {x z : α} (hi : i < l.length) (j : Nat) : (l.set i x).getD j z = if j = i then x else l.getD j z := by
  by_cases hj : j = i
  · subst hj
    simp [List.getD_eq_getElem?_getD, List.getElem?_set, hi]
  · simp [List.getD_eq_getElem?_getD, List.getElem?_set, Ne.symm hj, hj]
theorem hp_inlt {i : Int32} {n : Nat} (h : vp_in i n) : i.toNatClampNeg < n := Nat.not_le.mp fun q => h (Or.inr q)
section Arrays
variable {X : hh_X} {B e0 : Nat} {cc : ByteArray} {own : String} {nL : Nat} {ret : Option FieldType} {nm : String} {R : Room} {cn sn pc idx : Nat} {lv : List (Nat × Value)} {st : List Value} {h h' : hh_H} {a : Nat}
theorem r_ai (C : hh_ok X B e0 cc own nL ret nm R) (d : decode cc pc = .ok (.iaload, 1)) {i v : Int32} (hv : hp_ai h a i = some v) (kk : hh_W X cn sn (pc + 1) lv (.int v :: st) h) : hh_W X cn sn pc lv (.int i :: .ref (hh_ad B e0 a) :: st) h := by
  obtain ⟨p, l, e, R', s, m, args, below, meth, c, Q, D, cT, B', e0', nL'⟩ := X
  obtain ⟨hx, hb, hml, hown, hts, hK, hlk, hrt, hnm, rfl, rfl, rfl, rfl, hB, hA, hcA⟩ := C
  obtain ⟨f, h1, h2, rfl⟩ := hp_ld_of 0 hv
  intro H locs ls hS hl
  exact va_iald hx hb hK hS.1 (a - 1) 0 (hh_w_get (hh_p0 hS.2.1.1 (hp_ints_of h1) (fun q => by cases q)) (hp_ints_of h1)) rfl h2 d (kk H locs ls hS hl)
theorem r_az (C : hh_ok X B e0 cc own nL ret nm R) (d : decode cc pc = .ok (.baload, 1)) {i v : Int32} (hv : hp_az h a i = some v) (kk : hh_W X cn sn (pc + 1) lv (.int v :: st) h) : hh_W X cn sn pc lv (.int i :: .ref (hh_ad B e0 a) :: st) h := by
  obtain ⟨p, l, e, R', s, m, args, below, meth, c, Q, D, cT, B', e0', nL'⟩ := X
  obtain ⟨hx, hb, hml, hown, hts, hK, hlk, hrt, hnm, rfl, rfl, rfl, rfl, hB, hA, hcA⟩ := C
  obtain ⟨f, h1, h2, rfl⟩ := hp_ld_of 0 hv
  intro H locs ls hS hl
  exact va_zald hx hb hK hS.1 (a - 1) 1 (hh_w_get (hh_p0 hS.2.1.1 (hp_ints_of h1) (fun q => by cases q)) (hp_ints_of h1)) rfl h2 d (kk H locs ls hS hl)
theorem r_ab (C : hh_ok X B e0 cc own nL ret nm R) (d : decode cc pc = .ok (.baload, 1)) {i v : Int32} (hv : hp_ab h a i = some v) (kk : hh_W X cn sn (pc + 1) lv (.int v :: st) h) : hh_W X cn sn pc lv (.int i :: .ref (hh_ad B e0 a) :: st) h := by
  obtain ⟨p, l, e, R', s, m, args, below, meth, c, Q, D, cT, B', e0', nL'⟩ := X
  obtain ⟨hx, hb, hml, hown, hts, hK, hlk, hrt, hnm, rfl, rfl, rfl, rfl, hB, hA, hcA⟩ := C
  obtain ⟨f, h1, h2, rfl⟩ := hp_ld_of 0 hv
  intro H locs ls hS hl
  exact va_bald hx hb hK hS.1 (a - 1) 5 (hh_w_get (hh_p0 hS.2.1.1 (hp_ints_of h1) (fun q => by cases q)) (hp_ints_of h1)) rfl h2 d (kk H locs ls hS hl)
theorem r_ad (C : hh_ok X B e0 cc own nL ret nm R) (d : decode cc pc = .ok (.daload, 1)) {i : Int32} {v : UInt64} (hv : hp_ad h a i = some v) (kk : hh_W X cn sn (pc + 1) lv (.double v :: st) h) : hh_W X cn sn pc lv (.int i :: .ref (hh_ad B e0 a) :: st) h := by
  obtain ⟨p, l, e, R', s, m, args, below, meth, c, Q, D, cT, B', e0', nL'⟩ := X
  obtain ⟨hx, hb, hml, hown, hts, hK, hlk, hrt, hnm, rfl, rfl, rfl, rfl, hB, hA, hcA⟩ := C
  obtain ⟨f, h1, h2, rfl⟩ := hp_ld_of 0 hv
  intro H locs ls hS hl
  exact va_dald hx hb hK hS.1 (a - 1) 2 (hh_w_get (hh_p0 hS.2.1.1 (hp_dbls_of h1) (fun q => by cases q)) (hp_dbls_of h1)) rfl h2 d (kk H locs ls hS hl)
theorem r_aj (C : hh_ok X B e0 cc own nL ret nm R) (d : decode cc pc = .ok (.laload, 1)) {i : Int32} {v : Int64} (hv : hp_aj h a i = some v) (kk : hh_W X cn sn (pc + 1) lv (.long v :: st) h) : hh_W X cn sn pc lv (.int i :: .ref (hh_ad B e0 a) :: st) h := by
  obtain ⟨p, l, e, R', s, m, args, below, meth, c, Q, D, cT, B', e0', nL'⟩ := X
  obtain ⟨hx, hb, hml, hown, hts, hK, hlk, hrt, hnm, rfl, rfl, rfl, rfl, hB, hA, hcA⟩ := C
  obtain ⟨f, h1, h2, rfl⟩ := hp_ld_of 0 hv
  intro H locs ls hS hl
  exact va_lald hx hb hK hS.1 (a - 1) 3 (hh_w_get (hh_p0 hS.2.1.1 (hp_lngs_of h1) (fun q => by cases q)) (hp_lngs_of h1)) rfl h2 d (kk H locs ls hS hl)
theorem r_alen (C : hh_ok X B e0 cc own nL ret nm R) (d : decode cc pc = .ok (.arraylength, 1)) {v : Int32} (hv : hp_len h a = some v) (kk : hh_W X cn sn (pc + 1) lv (.int v :: st) h) : hh_W X cn sn pc lv (.ref (hh_ad B e0 a) :: st) h := by
  obtain ⟨p, l, e, R', s, m, args, below, meth, c, Q, D, cT, B', e0', nL'⟩ := X
  obtain ⟨hx, hb, hml, hown, hts, hK, hlk, hrt, hnm, rfl, rfl, rfl, rfl, hB, hA, hcA⟩ := C
  unfold hp_len at hv
  split at hv
  · rename_i t x he
    split at hv
    · rename_i ht
      cases hv
      intro H locs ls hS hl
      obtain ⟨ty, hty⟩ : ∃ ty, (hh_tys cT)[t]? = some (cT t, ty) := by
        match t, ht with
        | 0, _ => exact ⟨_, rfl⟩
        | 1, _ => exact ⟨_, rfl⟩
        | 2, _ => exact ⟨_, rfl⟩
        | 3, _ => exact ⟨_, rfl⟩
        | 4, _ => exact ⟨_, rfl⟩
        | 5, _ => exact ⟨_, rfl⟩
      by_cases ha0 : a = 0
      · subst ha0
        have hx0 := Option.some.inj (he.symm.trans hS.2.1.1)
        cases hx0
        obtain ⟨H0, g1, g2, -, scr, g4, g5, g6⟩ := hcA.2.2.2.2.2.2.2
        have hlt : e0' < B' := hS.2.1.2.1
        refine W.alen (n := 0) hx hb (show H[e0']? = some scr by rw [hS.2.2.2.1 e0' (Nat.lt_of_lt_of_le hlt hB) (Nat.not_le.mpr hlt), g2 e0' hlt]; exact g4) g5 g6 rfl rfl d (kk H locs ls hS hl)
      refine va_alen hx hb hK hS.1 (a - 1) t (hh_w_get ha0 he) hty ?_ d (kk H locs ls hS hl)
      match x with
      | .inl l => rfl
      | .inr (.inl l) => rfl
      | .inr (.inr (.inl l)) => rfl
      | .inr (.inr (.inr l)) => rfl
    · cases hv
  · cases hv
theorem r_si (C : hh_ok X B e0 cc own nL ret nm R) (d : decode cc pc = .ok (.iastore, 1)) {i x : Int32} (hv : hp_si h a i x = some h') (kk : hh_W X cn sn (pc + 1) lv st h') : hh_W X cn sn pc lv (.int x :: .int i :: .ref (hh_ad B e0 a) :: st) h := by
  obtain ⟨p, l, e, R', s, m, args, below, meth, c, Q, D, cT, B', e0', nL'⟩ := X
  obtain ⟨hx, hb, hml, hown, hts, hK, hlk, hrt, hnm, rfl, rfl, rfl, rfl, hB, hA, hcA⟩ := C
  obtain ⟨f', h1, rfl⟩ := Option.map_eq_some_iff.mp hv
  obtain ⟨f, h2, h3, rfl⟩ := hp_st_of h1
  have he := hp_ints_of h2
  intro H locs ls hS hl
  refine W.iast hx hb (hS.1 (a - 1) _ (hh_w_get (hh_p0 hS.2.1.1 he (fun q => by cases q)) he)) ((hK.2 0 _ rfl).1 f.length (fun j => .int (f.getD j 0))) (fun q => by cases q) (by show ¬ (i < 0 ∨ (arrV _ _ _).slots.size ≤ _); rw [arrV_size]; exact h3) rfl rfl d fun H1 e1 z oq => ?_
  refine kk H1 _ ls (hh_S_set hS he (fun q => by cases q) ?_ z oq) hl
  show H1[hh_ad B' e0' a]? = some (vp_cell _ _)
  rw [e1]
  show some ((arrV _ _ _).setSlot _ _) = some (arrV (cT 0) (f.set i.toNatClampNeg x).length (fun j => .int ((f.set i.toNatClampNeg x).getD j 0)))
  rw [arrV_store, List.length_set]
  congr 2
  funext q
  rw [hp_getD_set (hp_inlt h3)]
  by_cases hq : q = i.toNatClampNeg <;> simp [updV, hq]
theorem r_sz (C : hh_ok X B e0 cc own nL ret nm R) (d : decode cc pc = .ok (.bastore, 1)) {i x : Int32} (hv : hp_sz h a i x = some h') (kk : hh_W X cn sn (pc + 1) lv st h') : hh_W X cn sn pc lv (.int x :: .int i :: .ref (hh_ad B e0 a) :: st) h := by
  obtain ⟨p, l, e, R', s, m, args, below, meth, c, Q, D, cT, B', e0', nL'⟩ := X
  obtain ⟨hx, hb, hml, hown, hts, hK, hlk, hrt, hnm, rfl, rfl, rfl, rfl, hB, hA, hcA⟩ := C
  obtain ⟨f', h1, rfl⟩ := Option.map_eq_some_iff.mp hv
  obtain ⟨f, h2, h3, rfl⟩ := hp_st_of h1
  have he := hp_ints_of h2
  intro H locs ls hS hl
  refine W.zast hx hb (hS.1 (a - 1) _ (hh_w_get (hh_p0 hS.2.1.1 he (fun q => by cases q)) he)) ((hK.2 1 _ rfl).1 f.length (fun j => .int (f.getD j 0))) (fun q => by cases q) (by show ¬ (i < 0 ∨ (arrV _ _ _).slots.size ≤ _); rw [arrV_size]; exact h3) rfl rfl d fun H1 e1 z oq => ?_
  refine kk H1 _ ls (hh_S_set hS he (fun q => by cases q) ?_ z oq) hl
  show H1[hh_ad B' e0' a]? = some (vp_cell _ _)
  rw [e1]
  show some ((arrV _ _ _).setSlot _ _) = some (arrV (cT 1) (f.set i.toNatClampNeg (vp_nar .boolean x)).length (fun j => .int ((f.set i.toNatClampNeg (vp_nar .boolean x)).getD j 0)))
  rw [arrV_store, List.length_set]
  congr 2
  funext q
  rw [hp_getD_set (hp_inlt h3)]
  by_cases hq : q = i.toNatClampNeg
  · simp [updV, hq]; rfl
  · simp [updV, hq]
theorem r_sb (C : hh_ok X B e0 cc own nL ret nm R) (d : decode cc pc = .ok (.bastore, 1)) {i x : Int32} (hv : hp_sb h a i x = some h') (kk : hh_W X cn sn (pc + 1) lv st h') : hh_W X cn sn pc lv (.int x :: .int i :: .ref (hh_ad B e0 a) :: st) h := by
  obtain ⟨p, l, e, R', s, m, args, below, meth, c, Q, D, cT, B', e0', nL'⟩ := X
  obtain ⟨hx, hb, hml, hown, hts, hK, hlk, hrt, hnm, rfl, rfl, rfl, rfl, hB, hA, hcA⟩ := C
  obtain ⟨f', h1, rfl⟩ := Option.map_eq_some_iff.mp hv
  obtain ⟨f, h2, h3, rfl⟩ := hp_st_of h1
  have he := hp_ints_of h2
  intro H locs ls hS hl
  refine W.bast hx hb (hS.1 (a - 1) _ (hh_w_get (hh_p0 hS.2.1.1 he (fun q => by cases q)) he)) ((hK.2 5 _ rfl).1 f.length (fun j => .int (f.getD j 0))) (fun q => by cases q) (by show ¬ (i < 0 ∨ (arrV _ _ _).slots.size ≤ _); rw [arrV_size]; exact h3) rfl rfl d fun H1 e1 z oq => ?_
  refine kk H1 _ ls (hh_S_set hS he (fun q => by cases q) ?_ z oq) hl
  show H1[hh_ad B' e0' a]? = some (vp_cell _ _)
  rw [e1]
  show some ((arrV _ _ _).setSlot _ _) = some (arrV (cT 5) (f.set i.toNatClampNeg (vp_nar .byte x)).length (fun j => .int ((f.set i.toNatClampNeg (vp_nar .byte x)).getD j 0)))
  rw [arrV_store, List.length_set]
  congr 2
  funext q
  rw [hp_getD_set (hp_inlt h3)]
  by_cases hq : q = i.toNatClampNeg
  · simp [updV, hq]; rfl
  · simp [updV, hq]
theorem r_sd (C : hh_ok X B e0 cc own nL ret nm R) (d : decode cc pc = .ok (.dastore, 1)) {i : Int32} {x : UInt64} (hv : hp_sd h a i x = some h') (kk : hh_W X cn sn (pc + 1) lv st h') : hh_W X cn sn pc lv (.double x :: .int i :: .ref (hh_ad B e0 a) :: st) h := by
  obtain ⟨p, l, e, R', s, m, args, below, meth, c, Q, D, cT, B', e0', nL'⟩ := X
  obtain ⟨hx, hb, hml, hown, hts, hK, hlk, hrt, hnm, rfl, rfl, rfl, rfl, hB, hA, hcA⟩ := C
  obtain ⟨f', h1, rfl⟩ := Option.map_eq_some_iff.mp hv
  obtain ⟨f, h2, h3, rfl⟩ := hp_st_of h1
  have he := hp_dbls_of h2
  intro H locs ls hS hl
  refine W.dast hx hb (hS.1 (a - 1) _ (hh_w_get (hh_p0 hS.2.1.1 he (fun q => by cases q)) he)) ((hK.2 2 _ rfl).1 f.length (fun j => .double (f.getD j 0))) (fun q => by cases q) (by show ¬ (i < 0 ∨ (arrV _ _ _).slots.size ≤ _); rw [arrV_size]; exact h3) rfl rfl d fun H1 e1 z oq => ?_
  refine kk H1 _ ls (hh_S_set hS he (fun q => by cases q) ?_ z oq) hl
  show H1[hh_ad B' e0' a]? = some (vp_cell _ _)
  rw [e1]
  show some ((arrV _ _ _).setSlot _ _) = some (arrV (cT 2) (f.set i.toNatClampNeg x).length (fun j => .double ((f.set i.toNatClampNeg x).getD j 0)))
  rw [arrV_store, List.length_set]
  congr 2
  funext q
  rw [hp_getD_set (hp_inlt h3)]
  by_cases hq : q = i.toNatClampNeg <;> simp [updV, hq]
theorem r_sj (C : hh_ok X B e0 cc own nL ret nm R) (d : decode cc pc = .ok (.lastore, 1)) {i : Int32} {x : Int64} (hv : hp_sj h a i x = some h') (kk : hh_W X cn sn (pc + 1) lv st h') : hh_W X cn sn pc lv (.long x :: .int i :: .ref (hh_ad B e0 a) :: st) h := by
  obtain ⟨p, l, e, R', s, m, args, below, meth, c, Q, D, cT, B', e0', nL'⟩ := X
  obtain ⟨hx, hb, hml, hown, hts, hK, hlk, hrt, hnm, rfl, rfl, rfl, rfl, hB, hA, hcA⟩ := C
  obtain ⟨f', h1, rfl⟩ := Option.map_eq_some_iff.mp hv
  obtain ⟨f, h2, h3, rfl⟩ := hp_st_of h1
  have he := hp_lngs_of h2
  intro H locs ls hS hl
  refine W.last hx hb (hS.1 (a - 1) _ (hh_w_get (hh_p0 hS.2.1.1 he (fun q => by cases q)) he)) ((hK.2 3 _ rfl).1 f.length (fun j => .long (f.getD j 0))) (fun q => by cases q) (by show ¬ (i < 0 ∨ (arrV _ _ _).slots.size ≤ _); rw [arrV_size]; exact h3) rfl rfl d fun H1 e1 z oq => ?_
  refine kk H1 _ ls (hh_S_set hS he (fun q => by cases q) ?_ z oq) hl
  show H1[hh_ad B' e0' a]? = some (vp_cell _ _)
  rw [e1]
  show some ((arrV _ _ _).setSlot _ _) = some (arrV (cT 3) (f.set i.toNatClampNeg x).length (fun j => .long ((f.set i.toNatClampNeg x).getD j 0)))
  rw [arrV_store, List.length_set]
  congr 2
  funext q
  rw [hp_getD_set (hp_inlt h3)]
  by_cases hq : q = i.toNatClampNeg <;> simp [updV, hq]
/-- a cell has come -/
theorem hh_S_app {D : va_G} {cT : Nat → ClassId} {s : State} {H H1 : Heap} {locs : List Loc} {e' : hh_C} (hS : hh_S D cT B e0 s h H locs) (hat : va_at D hh_cl (hh_ad B e0 h.length, hh_c B e0 cT e') H1) (hz : H1.size = H.size + 1) (ho : ∀ q : Nat, q < H.size → H1[q]? = H[q]?) :
    hh_S D cT B e0 s (h ++ [e']) H1 locs := by
  obtain ⟨hP, ⟨h0, he0, hs⟩, hF⟩ := hS
  have hk : ∀ (k : Nat) (x : Nat × va_E), (hh_w B e0 cT h)[k]? = some x → H1[x.1]? = H[x.1]? := fun k x hx => ho x.1 ((hP k x hx).lt)
  refine ⟨?_, ⟨by rw [List.getElem?_append_left (List.getElem?_eq_some_iff.mp h0).1]; exact h0, he0, by rw [hz, List.length_append]; show H.size + 1 + 1 = B + (h.length + 1); omega⟩, Nat.le_trans hF.1 (by omega), fun x h1 h2 => (ho x (Nat.lt_of_lt_of_le h1 hF.1)).trans (hF.2.1 x h1 h2), hF.2.2⟩
  rw [hh_w_app (List.getElem?_eq_some_iff.mp h0).1]
  refine (hP.kept hk).app (fun k x hx => ?_)
  have hz : k < 1 := (List.getElem?_eq_some_iff.mp hx).1
  rw [show k = 0 by omega] at hx
  cases hx
  exact hat
theorem hh_size {n : Nat} (hs : h[0]? = some hh_nil ∧ e0 < B ∧ n + 1 = B + h.length) : n = hh_ad B e0 h.length := by
  have hl := (List.getElem?_eq_some_iff.mp hs.1).1
  match hh : h.length, hl with
  | k + 1, _ =>
    have := hs.2.2
    rw [hh] at this
    show n = B + k
    omega
def hh_NW (own : String) (idx ci N : Nat) : Prop :=
  ∃ (Cn : String) (T : u_T) (tys : Nat → FieldType), hh_cl[ci]? = some (Cn, T, N) ∧ (∀ w ∈ u_ws Cn T N, w ∈ hh_T) ∧ Cond.classLink own idx Cn ∈ hh_T ∧ Cond.instantiable Cn N ∈ hh_T ∧ Cond.initialized Cn ∈ hh_T ∧ (∀ j, j < N → parseFieldDescriptor (T j).2.2.1 = some (tys j)) ∧
    (∀ B e0 j, j < N → defaultValue (tys j) = vp_V ((hh_dfl ci).map (hh_v B e0)) j)
theorem r_new {N ci : Nat} {q : Nat} (C : hh_ok X B e0 cc own nL ret nm R) (d : decode cc pc = .ok (.new idx, 3)) (F : hh_NW own idx ci N) (hc : cn + 1 ≤ R.cells) (hs : sn + N ≤ R.slots) (hv : hp_new h ci = some (q, h')) (kk : hh_W X (cn + 1) (sn + N) (pc + 3) lv (.ref (hh_ad B e0 q) :: st) h') : hh_W X cn sn pc lv st h := by
  obtain ⟨p, l, e, R', s, m, args, below, meth, c, Q, D, cT, B', e0', nL'⟩ := X
  obtain ⟨hx, hb, hml, hown, hts, hK, hlk, hrt, hnm, rfl, rfl, rfl, rfl, hB, hA, hcA⟩ := C
  obtain ⟨Cn, T, tys, h1, h2, h3, h4, h5, h6, h7⟩ := F
  cases hv
  intro H locs ls hS hl
  have hKn := hK.1 ci _ h1
  refine W.newcK hx hb hown (hts _ h3) (hts _ h4) (hts _ h5) rfl d hc hs hKn.2.1 rfl fun H1 kC hkC e1 z1 o1 => ?_
  have hsz : H.size = hh_ad B' e0' h.length := hh_size hS.2.1
  refine W.eq (g2 := F0 m (pc + 3) ls (.ref (hh_ad B' e0' h.length) :: st)) (by rw [← hsz]) ?_
  refine kk H1 locs ls (hh_S_app hS ?_ z1 o1) hl
  refine ⟨_, h1, ?_⟩
  have hb2 := (u_born tys hts h2 hKn hkC e1 h6).to (fun j hj => h7 B' e0' j hj)
  rw [hsz] at hb2
  exact hb2
theorem hp_na_of {t bd q : Nat} {n : Int32} (hv : hp_na h t n bd = some (q, h')) : ¬ n < 0 ∧ n.toNatClampNeg ≤ bd ∧ q = h.length ∧ h' = h ++ [.inl (t, hp_zero t n.toNatClampNeg)] := by
  unfold hp_na at hv
  split at hv
  · cases hv
  · rename_i hc
    cases hv
    exact ⟨fun z => hc (Or.inl z), Nat.not_lt.mp fun z => hc (Or.inr z), rfl, rfl⟩
theorem hp_rep {α : Type} (n : Nat) (z : α) : (fun j => (List.replicate n z).getD j z) = fun _ => z := by
  funext j
  rw [List.getD_eq_getElem?_getD, List.getElem?_replicate]
  split <;> rfl
theorem r_na {q bd t : Nat} {n : Int32} {at0 : ArrayType} (C : hh_ok X B e0 cc own nL ret nm R) (d : decode cc pc = .ok (.newarray at0, 2)) (ha : Cond.arrayClass (newarray.typeOf at0) ∈ hh_T) (hbd : bd * componentBytes (newarray.typeOf at0) ≤ 536870912)
    (hcell : ∀ (cA : ClassId) (n B e0 : Nat), vp_cell cA (hh_a B e0 (hp_zero t n)) = arrV cA n (fun _ => defaultValue (newarray.typeOf at0)))
    (hcls : ∀ (vm : Vm) (cT : Nat → ClassId), hh_cA cT vm → vm.findClass ("[" ++ (newarray.typeOf at0).toString) = some (cT t))
    (hc : cn + 1 ≤ R.cells) (hs : sn + bd ≤ R.slots) (hv : hp_na h t n bd = some (q, h')) (kk : hh_W X (cn + 1) (sn + bd) (pc + 2) lv (.ref (hh_ad B e0 q) :: st) h') : hh_W X cn sn pc lv (.int n :: st) h := by
  obtain ⟨p, l, e, R', s, m, args, below, meth, c, Q, D, cT, B', e0', nL'⟩ := X
  obtain ⟨hx, hb, hml, hown, hts, hK, hlk, hrt, hnm, rfl, rfl, rfl, rfl, hB, hA, hcA⟩ := C
  obtain ⟨h1, h2, rfl, rfl⟩ := hp_na_of hv
  intro H locs ls hS hl
  refine va_newaK hx hb (hts _ ha) rfl d rfl h1 rfl (Nat.le_trans (Nat.mul_le_mul_right _ h2) hbd) hc (Nat.le_trans (Nat.add_le_add_left h2 _) hs) rfl fun H1 cA e1 z1 o1 hAr hNm => ?_
  have hcA : cA = cT t := Option.some.inj (hNm.symm.trans (hcls _ cT hcA.1))
  subst hcA
  have hsz : H.size = hh_ad B' e0' h.length := hh_size hS.2.1
  refine W.eq (g2 := F0 m (pc + 2) ls (.ref (hh_ad B' e0' h.length) :: st)) (by rw [← hsz]) ?_
  refine W.widen (Nat.le_refl _) (Nat.add_le_add_left h2 _) ?_
  refine kk H1 locs ls (hh_S_app hS ?_ z1 o1) hl
  show H1[hh_ad B' e0' h.length]? = some (vp_cell _ _)
  rw [hcell, ← hsz]
  exact e1
end Arrays
