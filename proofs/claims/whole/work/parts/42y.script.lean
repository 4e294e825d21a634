-- the law's script: an array of ints that was there before the law, and is only read
def hh_scr (X : hh_X) (b L : Nat) (xs : Nat → Int32) : Prop := match X with
  | (_, _, _, _, s, _, _, _, _, _, _, _, _, B, _, _) => va_X b L xs s s.heap ∧ b < s.heap.size ∧ ¬ B ≤ b
def hp_sc (L : Nat) (xs : Nat → Int32) (i : Int32) : Option Int32 := if i < 0 ∨ L ≤ i.toNatClampNeg then none else some (xs i.toNatClampNeg)
section Script
variable {X : hh_X} {B e0 : Nat} {cc : ByteArray} {own : String} {nL : Nat} {ret : Option FieldType} {nm : String} {R : Room} {cn sn pc idx mc ms : Nat} {lv : List (Nat × Value)} {st : List Value} {h h' : hh_H} {b L : Nat} {xs : Nat → Int32}
variable {y : MethodName} {yb : ByteArray} {ym n : Nat} {yr : Option FieldType} {rm : Room} {v : Option Value}
theorem r_slen (C : hh_ok X B e0 cc own nL ret nm R) (V : hh_scr X b L xs) (d : decode cc pc = .ok (.arraylength, 1)) (kk : hh_W X cn sn (pc + 1) lv (.int (Int32.ofNat L) :: st) h) : hh_W X cn sn pc lv (.ref b :: st) h := by
  obtain ⟨p, l, e, R', s, m, args, below, meth, c, Q, D, cT, B', e0', nL'⟩ := X
  obtain ⟨hx, hb, -⟩ := C
  obtain ⟨v1, v2, v3⟩ := V
  intro H locs ls hS hl
  exact va_slen hx hb v1 v2 v3 hS.2.2 d (kk H locs ls hS hl)
theorem r_sld (C : hh_ok X B e0 cc own nL ret nm R) (V : hh_scr X b L xs) (d : decode cc pc = .ok (.iaload, 1)) {i w : Int32} (hi : hp_sc L xs i = some w) (kk : hh_W X cn sn (pc + 1) lv (.int w :: st) h) : hh_W X cn sn pc lv (.int i :: .ref b :: st) h := by
  obtain ⟨p, l, e, R', s, m, args, below, meth, c, Q, D, cT, B', e0', nL'⟩ := X
  obtain ⟨hx, hb, -⟩ := C
  obtain ⟨v1, v2, v3⟩ := V
  unfold hp_sc at hi
  split at hi
  · cases hi
  · rename_i hin
    cases hi
    intro H locs ls hS hl
    exact va_sld hx hb v1 v2 v3 hS.2.2 hin d (kk H locs ls hS hl)
/-- the contract of a method that is given the script -/
def hh_MetS (y : MethodName) (yb : ByteArray) (ym : Nat) (yr : Option FieldType) (rm : Room) (mc ms B e0 b L : Nat) (xs : Nat → Int32) (av : List Value) (h : hh_H) (o : Outcome) (h' : hh_H) : Prop :=
  ∀ (l : Launch) (D : va_G) (cT : Nat → ClassId), Met l y (.code y yb ym yr :: hh_T) rm (fun v U => hh_Pc D cT B e0 av h v U ∧ va_X b L xs U U.heap ∧ b < U.heap.size ∧ ¬ B ≤ b) (hh_Q D cT B e0 o h') mc ms (fun q => B ≤ q)
theorem hh_metS {av : List Value} {o : Outcome} (hy : plainName y.cls = true) (hlen : (lg_sl av).length ≤ ym)
    (hw : ∀ X : hh_X, hh_ok X B e0 yb y.cls ym yr y.name rm → hh_End X B e0 o h' mc ms → hh_scr X b L xs → hh_W X 0 0 0 (lv_args 0 av) [] h) : hh_MetS y yb ym yr rm mc ms B e0 b L xs av h o h' := by
  intro l D cT
  refine Met.ofW (cc := yb) (maxL := ym) (ret := yr) hy rfl ?_
  intro p e s m args below meth c s₁ Bd hml hv
  obtain ⟨⟨rfl, hP, hsz, hK, hcls⟩, hX⟩ := hv
  have hts := atoms_spec (ws := .code y yb ym yr :: hh_T) Bd.pre
  have hown : s.vm.findClass y.cls = some m.cls := findClass_of_methodNamed Bd.named
  have hl := lv_entry av (n := ym) hlen
  rw [lg_entry_eq]
  exact hw (p, l, e, rm, s, m, av.toArray, below, meth, c, _, D, cT, B, e0, ym) ⟨Bd.exec, Bd.bytes, hml, hown, fun w hw => hts w (List.mem_cons_of_mem _ hw), hK, Bd.notSynchronized, Bd.returns, (name_of_methodNamed Bd.named Bd.method).1, rfl, rfl, rfl, rfl, hh_sz hsz, fun q hq => Nat.le_trans (hh_sz hsz) hq, hcls⟩ rfl hX s.heap [] _ ⟨hP, hsz, va_S.rf⟩ hl
theorem r_callSS (C : hh_ok X B e0 cc own nL ret nm R) (V : hh_scr X b L xs) (d : decode cc pc = .ok (.invokestatic idx, 3)) (S : hh_CS own idx y yb ym yr n [.static y])
    {As : List Value} (hM : hh_MetS y yb ym yr rm mc ms B e0 b L xs As h (.returned v) h') (hn : As.length = n) (hrc : rm.cells = mc) (hrs : rm.slots = ms) (hR : rm.frames + 1 ≤ R.frames ∧ 8 + (ym + 11) + rm.locals ≤ R.locals) (hf : cn + mc ≤ R.cells ∧ sn + ms ≤ R.slots) (hst : (st.map fun v => v.category).sum ≤ 8)
    {st0 : List Value} (he : st0 = As.reverse ++ st) (kk : hh_W X (cn + mc) (sn + ms) (pc + 3) lv (v.toList ++ st) h') : hh_W X cn sn pc lv st0 h := by
  obtain ⟨p, l, e, R', s, m, args, below, meth, c, Q, D, cT, B', e0', nL'⟩ := X
  obtain ⟨hx, hb, hml, hown, hts, hK, hlk, hrt, hnm, rfl, rfl, rfl, rfl, hB, hA, hcA⟩ := C
  obtain ⟨s1, s2, s3, s4, s5⟩ := S
  obtain ⟨v1, v2, v3⟩ := V
  subst he
  intro H locs ls hS hl
  have hblind : FrameBlind (fun v U => hh_Pc D cT B' e0' As h v U ∧ va_X b L xs U U.heap ∧ b < U.heap.size ∧ ¬ B' ≤ b) := by
    intro a U g mk hq
    exact ⟨hh_blind _ _ _ _ hq.1, va_X.moved (u := U) (U := U.calling g mk a) (Vm.Alike.refl U.vm) hq.2.1, hq.2.2.1, hq.2.2.2⟩
  refine hh_back (va_runS (As := As) (rest := st) ⟨hx, hb, hml, hown, hts⟩ (hM l D cT) ⟨callB_of n hts (hh_goodC s1) rfl hrc hrs (hts _ s3) (hts _ s2) s5 hR, hts _ (s4 _ (by simp))⟩ ⟨hblind, fun U hU hW => ⟨hh_pre hS hK hcA hB hU hW, ?_, ?_, v3⟩⟩ rfl hn (by exact hl.1) rfl (lv_room hst) d hf) hS (fun H1 locs1 hS1 => kk H1 locs1 ls hS1 hl)
  · exact va_X.moved hW.alike (va_X.kept v1 (by rw [hU]; exact hS.2.2.2.1 b v2 v3))
  · rw [hU]
    exact Nat.lt_of_lt_of_le v2 hS.2.2.1
end Script
