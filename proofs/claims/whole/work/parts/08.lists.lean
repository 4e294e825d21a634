-- arrays of references, the library's lists
def hp_cpl (f g : List (Option Nat)) (sp dp n : Nat) : List (Option Nat) := (List.range g.length).map fun k => va_cpy (fun j => f.getD j none) (fun j => g.getD j none) sp dp n k
def hp_cp (h : hh_H) (a : Nat) (sp : Int32) (b : Nat) (dp n : Int32) : Option (Unit × hh_H) := match hp_refs h a 4, hp_refs h b 4 with
  | some f, some g => if sp < 0 ∨ dp < 0 ∨ n < 0 ∨ f.length < sp.toNatClampNeg + n.toNatClampNeg ∨ g.length < dp.toNatClampNeg + n.toNatClampNeg ∨ g.length = 0 ∨ f.length = 0 ∨ ¬ ∀ i, i < n.toNatClampNeg → ∀ y, f.getD (sp.toNatClampNeg + i) none = some y → (hp_is h y 6).isSome = true then none
    else some ((), h.set b (.inl (4, .inr (.inr (.inr (hp_cpl f g sp.toNatClampNeg dp.toNatClampNeg n.toNatClampNeg))))))
  | _, _ => none
theorem hp_refs_of {h : hh_H} {a t : Nat} {l : List (Option Nat)} (hv : hp_refs h a t = some l) : h[a]? = some (.inl (t, .inr (.inr (.inr l)))) := by
  unfold hp_refs at hv
  split at hv
  · rename_i t' l' he
    split at hv
    · rename_i ht
      subst ht
      cases hv
      exact he
    · cases hv
  · cases hv
theorem hp_getD_map {α β : Type} (l : List (Option α)) (f : α → β) (j : Nat) : (l.getD j none).map f = (l.map (Option.map f)).getD j none := by
  simp only [List.getD_eq_getElem?_getD, List.getElem?_map]
  cases l[j]? <;> rfl
section Lists
variable {X : hh_X} {B e0 : Nat} {cc : ByteArray} {own : String} {nL : Nat} {ret : Option FieldType} {nm : String} {R : Room} {cn sn pc idx mc ms : Nat} {lv : List (Nat × Value)} {st : List Value} {h h' : hh_H} {a : Nat}
theorem hh_nn {l : List (Option Nat)} (hl : l.length ≠ 0) : (.inl (4, .inr (.inr (.inr l))) : hh_C) ≠ hh_nil := fun q => by
  unfold hh_nil at q
  simp only [Sum.inl.injEq, Prod.mk.injEq, Sum.inr.injEq, true_and] at q
  exact hl (by rw [q]; rfl)
theorem hp_in0 {i : Int32} {n : Nat} (h : vp_in i n) : n ≠ 0 := fun q => by
  have := hp_inlt h
  omega
theorem r_aq (C : hh_ok X B e0 cc own nL ret nm R) (d : decode cc pc = .ok (.aaload, 1)) {i : Int32} {v : Nat} (hv : hp_aq h a i = some v) (kk : hh_W X cn sn (pc + 1) lv (.ref (hh_ad B e0 v) :: st) h) : hh_W X cn sn pc lv (.int i :: .ref (hh_ad B e0 a) :: st) h := by
  obtain ⟨p, l, e, R', s, m, args, below, meth, c, Q, D, cT, B', e0', nL'⟩ := X
  obtain ⟨hx, hb, hml, hown, hts, hK, hlk, hrt, hnm, rfl, rfl, rfl, rfl, hB, hA, hcA⟩ := C
  unfold hp_aq at hv
  split at hv
  · rename_i y hy
    cases hv
    obtain ⟨f, h1, h2, h3⟩ := hp_ld_of none hy
    intro H locs ls hS hl
    refine va_aldq (C := "java/lang/Object") hx hb hK hS.1 (a - 1) 4 (hh_w_get (hh_p0 hS.2.1.1 (hp_refs_of h1) (hh_nn (hp_in0 h2))) (hp_refs_of h1)) rfl h2 d ?_
    rw [h3]
    exact kk H locs ls hS hl
  · cases hv
theorem r_sq (C : hh_ok X B e0 cc own nL ret nm R) (d : decode cc pc = .ok (.aastore, 1)) {i : Int32} {x : Nat} {u : Unit} (ho : hp_is h x 6 = some u) (hv : hp_sq h a i (some x) = some h') (kk : hh_W X cn sn (pc + 1) lv st h') : hh_W X cn sn pc lv (.ref (hh_ad B e0 x) :: .int i :: .ref (hh_ad B e0 a) :: st) h := by
  obtain ⟨p, l, e, R', s, m, args, below, meth, c, Q, D, cT, B', e0', nL'⟩ := X
  obtain ⟨hx, hb, hml, hown, hts, hK, hlk, hrt, hnm, rfl, rfl, rfl, rfl, hB, hA, hcA⟩ := C
  obtain ⟨f', h1, rfl⟩ := Option.map_eq_some_iff.mp hv
  obtain ⟨f, h2, h3, rfl⟩ := hp_st_of h1
  have he := hp_refs_of h2
  obtain ⟨fs, ho⟩ := hp_is_of ho
  intro H locs ls hS hl
  have hlt := hp_inlt h3
  obtain ⟨r', hr', cellV, g1, g2, g3, -⟩ := hS.1 (x - 1) _ (hh_w_get (hh_p0 hS.2.1.1 ho (fun q => by cases q)) ho)
  have hcls := (hK.1 6 _ rfl).2
  obtain ⟨kA, comp, k1, k2, k3, -⟩ := (hK.2 4 _ rfl).2
  obtain ⟨kE, hkE, -⟩ := Vm.findClass_spec k3
  obtain ⟨c0, t1, f1, f2, f3⟩ := Cond.castable_spec (va_Nw.use (A := args) rfl (hcA.2.1 (.castable "IndexBuilder$Run" "java/lang/Object") (hh_at2 1412 (by decide +kernel) (by decide +kernel))))
  cases hcls.1.symm.trans f1
  cases k3.symm.trans f2
  obtain ⟨kC, hkC, -⟩ := hcls.2
  refine W.aast hx hb (hS.1 (a - 1) _ (hh_w_get (hh_p0 hS.2.1.1 he (hh_nn (hp_in0 h3))) he)) (fun q h => by cases h) (fun h => by cases h) k1 k2 rfl hkE ⟨fun q => h3 (Or.inl q), by show _ < (arrV _ _ _).slots.size; rw [arrV_size]; exact hlt⟩ g1 (fun q h => by rw [g3] at h; cases h) (by rw [g2]; exact hkC) (by rw [g2]; exact f3) rfl rfl d fun H1 e1 z oq => ?_
  refine kk H1 _ ls (hh_S_set hS he (hh_nn (hp_in0 h3)) ?_ z oq) hl
  show H1[hh_ad B' e0' a]? = some (vp_cell _ _)
  rw [e1]
  show some ((arrV _ _ _).setSlot _ _) = some (arrV (cT 4) (f.set i.toNatClampNeg (some x)).length (fun j => va_rf (((f.set i.toNatClampNeg (some x)).getD j none).map (hh_ad B' e0'))))
  rw [arrV_store, List.length_set]
  congr 2
  funext q
  rw [hp_getD_set hlt]
  by_cases hq : q = i.toNatClampNeg <;> simp [updV, hq, va_rf]
theorem r_sqN (C : hh_ok X B e0 cc own nL ret nm R) (d : decode cc pc = .ok (.aastore, 1)) {i : Int32} (hv : hp_sq h a i none = some h') (kk : hh_W X cn sn (pc + 1) lv st h') : hh_W X cn sn pc lv (.null :: .int i :: .ref (hh_ad B e0 a) :: st) h := by
  obtain ⟨p, l, e, R', s, m, args, below, meth, c, Q, D, cT, B', e0', nL'⟩ := X
  obtain ⟨hx, hb, hml, hown, hts, hK, hlk, hrt, hnm, rfl, rfl, rfl, rfl, hB, hA, hcA⟩ := C
  obtain ⟨f', h1, rfl⟩ := Option.map_eq_some_iff.mp hv
  obtain ⟨f, h2, h3, rfl⟩ := hp_st_of h1
  have he := hp_refs_of h2
  intro H locs ls hS hl
  refine va_WaastN (C := "java/lang/Object") hx hb (hS.1 (a - 1) _ (hh_w_get (hh_p0 hS.2.1.1 he (hh_nn (hp_in0 h3))) he)) ((hK.2 4 _ rfl).1 f.length (fun j => va_rf ((f.getD j none).map (hh_ad B' e0')))) (fun q => by cases q) (by show ¬ (i < 0 ∨ (arrV _ _ _).slots.size ≤ _); rw [arrV_size]; exact h3) rfl rfl d fun H1 e1 z oq => ?_
  refine kk H1 _ ls (hh_S_set hS he (hh_nn (hp_in0 h3)) ?_ z oq) hl
  show H1[hh_ad B' e0' a]? = some (vp_cell _ _)
  rw [e1]
  show some ((arrV _ _ _).setSlot _ _) = some (arrV (cT 4) (f.set i.toNatClampNeg none).length (fun j => va_rf (((f.set i.toNatClampNeg none).getD j none).map (hh_ad B' e0'))))
  rw [arrV_store, List.length_set]
  congr 2
  funext q
  rw [hp_getD_set (hp_inlt h3)]
  by_cases hq : q = i.toNatClampNeg <;> simp [updV, hq, va_rf]
theorem r_naq {q bd : Nat} {n : Int32} (C : hh_ok X B e0 cc own nL ret nm R) (d : decode cc pc = .ok (.anewarray idx, 3)) (hw : Cond.classLink own idx "java/lang/Object" ∈ hh_T) (hbd : bd * 4 ≤ 536870912) (hc : cn + 1 ≤ R.cells) (hs : sn + bd ≤ R.slots) (hv : hp_na h 4 n bd = some (q, h')) (kk : hh_W X (cn + 1) (sn + bd) (pc + 3) lv (.ref (hh_ad B e0 q) :: st) h') : hh_W X cn sn pc lv (.int n :: st) h := by
  obtain ⟨p, l, e, R', s, m, args, below, meth, c, Q, D, cT, B', e0', nL'⟩ := X
  obtain ⟨hx, hb, hml, hown, hts, hK, hlk, hrt, hnm, rfl, rfl, rfl, rfl, hB, hA, hcA⟩ := C
  obtain ⟨h1, h2, rfl, rfl⟩ := hp_na_of hv
  intro H locs ls hS hl
  refine W.anew (C := "java/lang/Object") hx hb hown (hts _ hw) (va_AO.use hcA.2.2.2.2.2.1) rfl d rfl h1 (Nat.le_trans (Nat.mul_le_mul_right _ h2) hbd) hc (Nat.le_trans (Nat.add_le_add_left h2 _) hs) fun cA kA comp f1 f2 f3 f4 => ?_
  have hcA2 : cA = cT 4 := Option.some.inj (f1.symm.trans hcA.1.2.2.2.2.1)
  subst hcA2
  have hsz : H.size = hh_ad B' e0' h.length := hh_size hS.2.1
  refine W.eq (g2 := F0 m (pc + 3) ls (.ref (hh_ad B' e0' h.length) :: st)) (by rw [← hsz]) ?_
  refine W.widen (Nat.le_refl _) (Nat.add_le_add_left h2 _) ?_
  refine kk _ locs ls (hh_S_app hS ?_ (by rw [Array.size_push]) (fun q hq => by rw [Array.getElem?_push, if_neg (Nat.ne_of_lt hq)])) hl
  show (H.push _)[hh_ad B' e0' h.length]? = some (vp_cell (cT 4) (hh_a B' e0' (hp_zero 4 n.toNatClampNeg)))
  have hz : vp_cell (cT 4) (hh_a B' e0' (hp_zero 4 n.toNatClampNeg)) = arrV (cT 4) n.toNatClampNeg (fun _ => .null) := by
    show arrV (cT 4) (List.replicate n.toNatClampNeg (none : Option Nat)).length (fun j => va_rf (((List.replicate n.toNatClampNeg (none : Option Nat)).getD j none).map (hh_ad B' e0'))) = _
    rw [List.length_replicate]
    congr 1
    funext j
    rw [congrFun (hp_rep n.toNatClampNeg (none : Option Nat)) j]
    rfl
  rw [← hsz, Array.getElem?_push_size, hz, ← arrV_new]
theorem r_getsE (C : hh_ok X B e0 cc own nL ret nm R) (d : decode cc pc = .ok (.getstatic idx, 3)) (hw : Cond.fieldLink own idx "java/util/ArrayList" "DEFAULTCAPACITY_EMPTY_ELEMENTDATA" "[Ljava/lang/Object;" ∈ hh_T) (kk : hh_W X cn sn (pc + 3) lv (.ref (hh_ad B e0 0) :: st) h) : hh_W X cn sn pc lv st h := by
  obtain ⟨p, l, e, R', s, m, args, below, meth, c, Q, D, cT, B', e0', nL'⟩ := X
  obtain ⟨hx, hb, hml, hown, hts, hK, hlk, hrt, hnm, rfl, rfl, rfl, rfl, hB, hA, hcA⟩ := C
  intro H locs ls hS hl
  exact va_gets hx hb hcA.2.2.1 hS.2.2 hown (hts _ hw) (fun _ q => q) d (kk H locs ls hS hl)
theorem r_acmp_eq {tgt x y : Nat} {off : Int} (C : hh_ok X B e0 cc own nL ret nm R) (d : decode cc pc = .ok (.if_acmp .eq off, 3)) (ht : (pc : Int) + off = (tgt : Int)) (kt : x = y → hh_W X cn sn tgt lv st h) (kf : ¬ x = y → hh_W X cn sn (pc + 3) lv st h) : hh_W X cn sn pc lv (.ref (hh_ad B e0 y) :: .ref (hh_ad B e0 x) :: st) h := by
  obtain ⟨p, l, e, R', s, m, args, below, meth, c, Q, D, cT, B', e0', nL'⟩ := X
  obtain ⟨hx, hb, hml, hown, hts, hK, hlk, hrt, hnm, rfl, rfl, rfl, rfl, hB, hA, hcA⟩ := C
  intro H locs ls hS hl
  refine lv_acmp_eq (rx := some (hh_ad B' e0' x)) (ry := some (hh_ad B' e0' y)) hx hb d ht (fun q => kt (hh_ad_inj hS.2.1.2.1 (Option.some.inj q)) H locs ls hS hl) (fun q => kf (fun z => q (by rw [z])) H locs ls hS hl)
theorem r_arraycopy {a b : Nat} {sp dp n : Int32} {u : Unit} (C : hh_ok X B e0 cc own nL ret nm R) (d : decode cc pc = .ok (.invokestatic idx, 3)) (hw : Cond.methodLink own idx arraycopyName ∈ hh_T) (hR : 1 ≤ R.frames ∧ 8 + (nativeFrameWords "java/lang/System" "arraycopy" 5 + 11) ≤ R.locals) (hst : (st.map fun v => v.category).sum ≤ 8)
    (hv : hp_cp h a sp b dp n = some (u, h')) (kk : hh_W X cn sn (pc + 3) lv st h') : hh_W X cn sn pc lv (.int n :: .int dp :: .ref (hh_ad B e0 b) :: .int sp :: .ref (hh_ad B e0 a) :: st) h := by
  obtain ⟨p, l, e, R', s, m, args, below, meth, c, Q, D, cT, B', e0', nL'⟩ := X
  obtain ⟨hx, hb, hml, hown, hts, hK, hlk, hrt, hnm, rfl, rfl, rfl, rfl, hB, hA, hcA⟩ := C
  unfold hp_cp at hv
  split at hv
  · rename_i f g hf0 hg0
    split at hv
    · cases hv
    · rename_i hcond
      cases hv
      have h1 : ¬ sp < 0 := fun q => hcond (Or.inl q)
      have h2 : ¬ dp < 0 := fun q => hcond (Or.inr (Or.inl q))
      have h3 : ¬ n < 0 := fun q => hcond (Or.inr (Or.inr (Or.inl q)))
      have h4 : sp.toNatClampNeg + n.toNatClampNeg ≤ f.length := Nat.not_lt.mp fun q => hcond (Or.inr (Or.inr (Or.inr (Or.inl q))))
      have h5 : dp.toNatClampNeg + n.toNatClampNeg ≤ g.length := Nat.not_lt.mp fun q => hcond (Or.inr (Or.inr (Or.inr (Or.inr (Or.inl q)))))
      have h6 : g.length ≠ 0 := fun q => hcond (Or.inr (Or.inr (Or.inr (Or.inr (Or.inr (Or.inl q))))))
      have h8 : f.length ≠ 0 := fun q => hcond (Or.inr (Or.inr (Or.inr (Or.inr (Or.inr (Or.inr (Or.inl q)))))))
      have h7 : ∀ i, i < n.toNatClampNeg → ∀ y, f.getD (sp.toNatClampNeg + i) none = some y → (hp_is h y 6).isSome = true := Classical.byContradiction fun q => hcond (Or.inr (Or.inr (Or.inr (Or.inr (Or.inr (Or.inr (Or.inr q)))))))
      have hea := hp_refs_of hf0
      have heb := hp_refs_of hg0
      have nn : ∀ z : Int32, ¬ z < 0 → z.toInt = (z.toNatClampNeg : Int) := by
        intro z hz
        have hz0 : (0 : Int) ≤ z.toInt := by
          have := Int32.not_lt.mp hz
          simpa using Int32.le_iff_toInt_le.mp this
        show z.toInt = ((z.toInt.toNat : Nat) : Int)
        omega
      intro H locs ls hS hl
      have hc0 := hS.1 (a - 1) _ (hh_w_get (hh_p0 hS.2.1.1 hea (hh_nn h8)) hea)
      have hc1 := hS.1 (b - 1) _ (hh_w_get (hh_p0 hS.2.1.1 heb (hh_nn h6)) heb)
      obtain ⟨kA, comp, r1, r2, r3, -⟩ := (hK.2 4 _ rfl).2
      obtain ⟨c0, t1, f1, f2, f3⟩ := Cond.castable_spec (va_Nw.use (A := args) rfl (hcA.2.1 (.castable "IndexBuilder$Run" "java/lang/Object") (hh_at2 1412 (by decide +kernel) (by decide +kernel))))
      cases r3.symm.trans f2
      intro T hT Y
      obtain ⟨vm', Y', step⟩ := Y.arraycopy hx hown (hts _ hw) (hts _ (hh_at 642 (by decide +kernel) (by decide +kernel))) (hts _ (hh_at 641 (by decide +kernel) (by decide +kernel))) (hts _ (hh_at 61 (by decide +kernel) (by decide +kernel))) (src := hh_ad B' e0' a) (dst := hh_ad B' e0' b) (cs := vp_cell (cT 4) (hh_a B' e0' (.inr (.inr (.inr f))))) (cd := vp_cell (cT 4) (hh_a B' e0' (.inr (.inr (.inr g))))) (srcPos := sp) (destPos := dp) (n := n) (by rw [hT]; exact hc0) (by rw [hT]; exact hc1)
        (fun _ h => by cases h) (fun _ h => by cases h) (fun h => by cases h) (fun h => by cases h) r1 r1 r2 r2 rfl h1 h2 h3
        (by rw [nn sp h1, nn n h3]; show ¬ _ > ((arrV (cT 4) f.length (fun j => va_rf ((f.getD j none).map (hh_ad B' e0')))).slots.size : Int); rw [arrV_size]; omega)
        (by rw [nn dp h2, nn n h3]; show ¬ _ > ((arrV (cT 4) g.length (fun j => va_rf ((g.getD j none).map (hh_ad B' e0')))).slots.size : Int); rw [arrV_size]; omega)
        (fun vm₁ hal i hi => by
          have e : (vp_cell (cT 4) (hh_a B' e0' (.inr (.inr (.inr f))))).slots.getD (sp.toNatClampNeg + i) .null = va_rf ((f.getD (sp.toNatClampNeg + i) none).map (hh_ad B' e0')) := by
            show (arrV (cT 4) f.length (fun j => va_rf ((f.getD j none).map (hh_ad B' e0')))).slots.getD _ _ = _
            rw [Array.getD_eq_getD_getElem?, arrV_read _ _ (by omega)]
            rfl
          rw [e]
          cases hy : f.getD (sp.toNatClampNeg + i) none with
          | none => exact ⟨rfl, trivial⟩
          | some y =>
            obtain ⟨u2, hu2⟩ := Option.isSome_iff_exists.mp (h7 i hi y hy)
            obtain ⟨fs, ho⟩ := hp_is_of hu2
            obtain ⟨cellV, g1, g2, g3⟩ := va_recv hK hS.1 (ci := 6) rfl (hh_w_get (hh_p0 hS.2.1.1 ho (fun q => by cases q)) ho)
            cases f1.symm.trans g3
            obtain ⟨kC, hkC, -⟩ := Vm.findClass_spec g3
            obtain ⟨kE, hkE, -⟩ := Vm.findClass_spec r3
            obtain ⟨kC', hkC', -⟩ := hal.2.2 _ _ hkC
            obtain ⟨kE', hkE', -⟩ := hal.2.2 _ _ hkE
            refine ⟨rfl, cellV, (show T.heap[hh_ad B' e0' y]? = some cellV by rw [hT]; exact g1), (fun q h => by rw [h] at g2; cases g2), ⟨kC', hkC'⟩, ?_, ?_⟩
            · exact ⟨kE', hkE'⟩
            · show vm₁.assignable _ _ = true
              rw [hal.assignable]
              exact f3)
        (g := F0 m pc ls (.int n :: .int dp :: .ref (hh_ad B' e0' b) :: .int sp :: .ref (hh_ad B' e0' a) :: st)) rfl (by rw [hml]; exact hl.1) (rest := st) rfl (by rw [hb]; exact d) hR.1 (by show 2 * 0 + _ + _ ≤ _; have := hR.2; omega)
      have e1 : copied (vp_cell (cT 4) (hh_a B' e0' (.inr (.inr (.inr f))))) (vp_cell (cT 4) (hh_a B' e0' (.inr (.inr (.inr g))))) sp dp n = vp_cell (cT 4) (hh_a B' e0' (.inr (.inr (.inr (hp_cpl f g sp.toNatClampNeg dp.toNatClampNeg n.toNatClampNeg))))) := by
        refine (va_copied (fun z : Option Nat => va_rf z) (cT 4) (cT 4) (fun j => (f.getD j none).map (hh_ad B' e0')) (fun j => (g.getD j none).map (hh_ad B' e0')) h4).trans ?_
        show arrV (cT 4) g.length (fun j => va_rf (va_cpy (fun j => (f.getD j none).map (hh_ad B' e0')) (fun j => (g.getD j none).map (hh_ad B' e0')) sp.toNatClampNeg dp.toNatClampNeg n.toNatClampNeg j)) = arrV (cT 4) (hp_cpl f g sp.toNatClampNeg dp.toNatClampNeg n.toNatClampNeg).length (fun j => va_rf (((hp_cpl f g sp.toNatClampNeg dp.toNatClampNeg n.toNatClampNeg).getD j none).map (hh_ad B' e0')))
        have hlen : (hp_cpl f g sp.toNatClampNeg dp.toNatClampNeg n.toNatClampNeg).length = g.length := by simp [hp_cpl]
        rw [hlen]
        have hfun : ∀ j, j < g.length → ((hp_cpl f g sp.toNatClampNeg dp.toNatClampNeg n.toNatClampNeg).getD j none).map (hh_ad B' e0') = va_cpy (fun j => (f.getD j none).map (hh_ad B' e0')) (fun j => (g.getD j none).map (hh_ad B' e0')) sp.toNatClampNeg dp.toNatClampNeg n.toNatClampNeg j := by
          intro j hj
          simp only [hp_cpl, List.getD_eq_getElem?_getD, List.getElem?_map, List.getElem?_range hj, Option.map_some, Option.getD_some, va_cpy]
          split <;> rfl
        have hout : ∀ j, ¬ j < g.length → ((hp_cpl f g sp.toNatClampNeg dp.toNatClampNeg n.toNatClampNeg).getD j none).map (hh_ad B' e0') = va_cpy (fun j => (f.getD j none).map (hh_ad B' e0')) (fun j => (g.getD j none).map (hh_ad B' e0')) sp.toNatClampNeg dp.toNatClampNeg n.toNatClampNeg j := by
          intro j hj
          have q1 : (hp_cpl f g sp.toNatClampNeg dp.toNatClampNeg n.toNatClampNeg)[j]? = none := List.getElem?_eq_none (by rw [hlen]; omega)
          have q2 : g[j]? = none := List.getElem?_eq_none (by omega)
          simp only [List.getD_eq_getElem?_getD, q1, va_cpy]
          rw [if_neg (by omega), q2]
        congr 1
        funext j
        by_cases hj : j < g.length
        · rw [hfun j hj]
        · rw [hout j hj]
      rw [e1] at Y' step
      have hl2 : hh_ad B' e0' b < H.size := (Array.getElem?_eq_some_iff.mp hc1).1
      have hheap : ((T.setVm vm').setCell (hh_ad B' e0' b) (vp_cell (cT 4) (hh_a B' e0' (.inr (.inr (.inr (hp_cpl f g sp.toNatClampNeg dp.toNatClampNeg n.toNatClampNeg))))))).heap = H.setIfInBounds (hh_ad B' e0' b) (vp_cell (cT 4) (hh_a B' e0' (.inr (.inr (.inr (hp_cpl f g sp.toNatClampNeg dp.toNatClampNeg n.toNatClampNeg)))))) := by rw [← hT]; rfl
      have hS1 := hh_S_set (i := 0) (e' := .inl (4, .inr (.inr (.inr (hp_cpl f g sp.toNatClampNeg dp.toNatClampNeg n.toNatClampNeg))))) (H1 := H.setIfInBounds (hh_ad B' e0' b) (vp_cell (cT 4) (hh_a B' e0' (.inr (.inr (.inr (hp_cpl f g sp.toNatClampNeg dp.toNatClampNeg n.toNatClampNeg))))))) hS heb (hh_nn h6) (show (H.setIfInBounds _ _)[_]? = some _ by simp [Array.getElem?_setIfInBounds, hl2]) (by simp) (fun q hq => by simp [Array.getElem?_setIfInBounds, Ne.symm hq])
      obtain ⟨t, a1, b1⟩ := kk _ _ ls ⟨hS1.1, hS1.2.1, hS1.2.2.1, hS1.2.2.2.1, fun q hq => by
        rcases List.mem_append.mp hq with z | z
        · exact hS.2.2.2.2 q z
        · obtain ⟨w, -, hw2⟩ := List.mem_map.mp z
          rw [← hw2]
          exact hS1.2.2.2.2 ⟨hh_ad B' e0' b, 0⟩ (List.mem_append_right _ List.mem_cons_self)⟩ hl _ hheap Y'
      exact ⟨t, step t a1, b1⟩
  · cases hv
end Lists
