-- catching: the search through a handler table whose classes may still be cold, and a call inside it
/-- the rows of the table, all over this pc, up to the one that takes an E -/
def hh_catch (own : String) (pc : Nat) (E : String) : List (Nat × Nat × Nat × Nat) → Nat → Prop
  | [], _ => False
  | (a, b, q, ct) :: t, r => a ≤ pc ∧ pc < b ∧ ct ≠ 0 ∧ ∃ T : String, Cond.classLink own ct T ∈ hh_T ∧ ((Cond.castable E T ∈ hh_T2 ∧ q = r) ∨ ((E, T) ∈ hh_ncs ∧ hh_catch own pc E t r))
def hh_row (x : ExceptionTableEntry) : Nat × Nat × Nat × Nat := (x.startPc, x.endPc, x.handlerPc, x.catchType)
theorem hh_go {e : Env} {s : State} {args : Array Value} {f : JFrame} {a : Addr} {cell : Cell} {own E : String} {r : Nat} (hpl : e.platform.magicAccessors = ({} : Platform).magicAccessors) (hown : s.vm.findClass own = some f.method.cls) (hts : ∀ w ∈ hh_T, w.before args s = true) (hT2 : ∀ w ∈ hh_T2, va_Nw w s) (hnc : ∀ q ∈ hh_ncs, va_Nc q.1 q.2 s)
    (hE : s.vm.findClass E = some cell.cls) (hobj : ∀ k, cell.vm ≠ .statics k) :
    ∀ (t : List ExceptionTableEntry) (S : State), s.WarmedH S.vm → S.heap[a]? = some cell → hh_catch own f.pc E (t.map hh_row) r →
      ∃ vm', s.WarmedH vm' ∧ ∀ (Q : Handler → Pre) (Ec : CtlPost) (d : Bool) (acts : List Action), wp (findHandler.go f a t) Q Ec e d acts S ↔ Q (.found r) d acts (S.setVm vm') := by
  intro t
  induction t with
  | nil => intro S _ _ h; exact h.elim
  | cons x t ih =>
    intro S hW hcell h
    obtain ⟨h1, h2, h0, T, hl, hor⟩ := h
    obtain ⟨c, hc, hcl⟩ := Cond.classLink_spec hown (hts _ hl) e.platform hpl
    obtain ⟨dk, _, _, kt, hd, _, _, _, _, hkt, _, hopen⟩ := hcl.here
    have hW1 : s.WarmedH (S.vm.noted f.method.cls x.catchType (.cls c)) := hW.noted hd hopen (State.rightAt_cls hcl)
    obtain ⟨g1, g2⟩ := (resolveClass_links e.toSetting (hW.classLinks hcl)).op (op := VmOp.resolveClass f.method.cls x.catchType) rfl
    obtain ⟨k0, hk0⟩ := Vm.classAt_of_findClass hE
    obtain ⟨k1, hk1, -⟩ := hW1.alike.2.2 _ _ hk0
    obtain ⟨k2, hk2, -⟩ := hW1.alike.2.2 _ _ hkt
    have hcov : (decide (x.startPc ≤ f.pc) && decide (f.pc < x.endPc)) = true := by
      simp only [Bool.and_eq_true, decide_eq_true_eq]
      exact ⟨h1, h2⟩
    rcases hor with ⟨hca, hr⟩ | ⟨hno, hrest⟩
    · have hfit : (S.vm.noted f.method.cls x.catchType (.cls c)).assignable cell.cls c = true := by
        obtain ⟨c1, c2, e1, e2, e3⟩ := Cond.castable_spec (args := args) (va_Nw.use (w := .castable E T) rfl (hT2 _ hca))
        cases e1.symm.trans hE
        cases e2.symm.trans hc
        rw [hW1.alike.assignable]
        exact e3
      refine ⟨_, hW1, fun Q Ec d acts => ?_⟩
      have hr' : x.handlerPc = r := hr
      simp [findHandler.go, hcov, h1, h2, h0, g1, g2, hcell, hobj, hk1, hk2, hfit, VmOp.dirties, VmOp.acts, hr']
    · have hfit : (S.vm.noted f.method.cls x.catchType (.cls c)).assignable cell.cls c = false := by
        obtain ⟨c1, c2, e1, e2, e3⟩ := hnc _ hno
        cases e1.symm.trans hE
        cases e2.symm.trans hc
        rw [hW1.alike.assignable]
        exact e3
      obtain ⟨vm', hW', hq⟩ := ih (S.setVm (S.vm.noted f.method.cls x.catchType (.cls c))) hW1 hcell hrest
      refine ⟨vm', hW', fun Q Ec d acts => ?_⟩
      have hstep : wp (findHandler.go f a (x :: t)) Q Ec e d acts S ↔ wp (findHandler.go f a t) Q Ec e d acts (S.setVm (S.vm.noted f.method.cls x.catchType (.cls c))) := by
        simp [findHandler.go, hcov, h1, h2, h0, g1, g2, hcell, hobj, hk1, hk2, hfit, VmOp.dirties, VmOp.acts]
      rw [hstep]
      exact hq Q Ec d acts
/-- the thrown thing lies over the frame; the frame goes on at its handler -/
theorem hh_caught {p : Program} {l : Launch} {e : Env} {R : Room} {s : State} {m : MethodId} {args : Array Value} {below : List Frame} {meth : Method} {c : Code} {T : State} {locs : List Loc} {cells slots : Nat} (X : Stand p l e R s m args below meth c T locs cells slots) {g : JFrame} (hg : g.method = m) {a : Addr} {cell : Cell} {own E : String} {r : Nat}
    (hown : s.vm.findClass own = some m.cls) (hts : ∀ w ∈ hh_T, w.before args s = true) (hT2 : ∀ w ∈ hh_T2, va_Nw w s) (hnc : ∀ q ∈ hh_ncs, va_Nc q.1 q.2 s) (hE : s.vm.findClass E = some cell.cls) (hobj : cell.vm.isStatics = false) (hcell : T.heap[a]? = some cell)
    (hc : hh_catch own g.pc E (c.exceptionTable.toList.map hh_row) r) :
    ∃ vm', Stand p l e R s m args below meth c (T.setVm vm') locs cells slots ∧ ∀ target, Steps p.tables e below ((T.setVm vm').setTop { g with pc := r, stack := [.ref a] }) target → Steps p.tables e below ((T.setTop g).pushFrame (.throwing a)) target := by
  subst hg
  obtain ⟨vm', hW', hf⟩ := hh_go (e := e) (s := s) (args := args) (f := g) (a := a) (cell := cell) (own := own) (E := E) (r := r) (by rw [X.admits.platform]) hown hts hT2 hnc hE (VmData.ne_statics_of hobj) c.exceptionTable.toList ((T.setTop g).pushFrame (.throwing a)) X.warmed hcell hc
  refine ⟨vm', X.noted hW', fun target hrest => ?_⟩
  obtain ⟨hgo, hw⟩ := X.here.throwing a
  refine Steps.head hgo hw ?_
  obtain ⟨g₀, hr⟩ := X.frames_eq
  have hfr : ((T.setTop g).pushFrame (.throwing a)).frames = .throwing a :: .java g :: below := by
    rw [frames_entered X.here.top, hr]
    rfl
  rw [stepThread_throwing hfr]
  have his : (stepThrowing e ((T.setTop g).pushFrame (.throwing a)) a (.java g :: below)).Is ((((T.setTop g).pushFrame (.throwing a)).setVm vm').setFrames (.java { g with pc := r, stack := [.ref a] } :: below)) [] := by
    simp only [stepThrowing, searchFrame, vmDo]
    generalize hres : Sem.go _ e false [] ((T.setTop g).pushFrame (.throwing a)) = res
    obtain ⟨as, rfl, ha⟩ := Sem.eq_ok_of hres (a := Handler.found r) (s' := ((T.setTop g).pushFrame (.throwing a)).setVm vm') (acts' := []) (by
      have h1 := fun Q Ec d acts => (W.findHandler_eq (Q := Q) (E := Ec) (e := e) (d := d) (acts := acts) (s := (T.setTop g).pushFrame (.throwing a)) (f := g) (a := a) (meth := meth) (code := c) X.method' X.code).trans (hf Q Ec d acts)
      simp [h1])
    exact ⟨rfl, ha⟩
  rw [his.1]
  have hr' : (T.setVm vm').frames = .java g₀ :: below := hr
  rw [State.setTop_of_frames _ hr'] at hrest
  have e1 : (((T.setTop g).pushFrame (.throwing a)).setVm vm').setFrames (.java { g with pc := r, stack := [.ref a] } :: below) = (T.setVm vm').setFrames (.java { g with pc := r, stack := [.ref a] } :: below) := by
    rw [State.pushFrame, State.setTop_of_frames _ hr]
    show (((T.setVm vm').setFrames _).setFrames _).setFrames _ = _
    rw [State.setFrames_setFrames, State.setFrames_setFrames]
  rw [e1]
  exact hrest
/-- the method's handler table, and that there are no stack traces -/
def hh_HT (X : hh_X) (hs : List (Nat × Nat × Nat × Nat)) : Prop := match X with
  | (_, l, _, _, _, _, _, _, _, c, _, _, _, _, _, _) => c.exceptionTable.toList.map hh_row = hs ∧ hh_off l
section Catch
variable {X : hh_X} {B e0 : Nat} {cc : ByteArray} {own : String} {nL : Nat} {ret : Option FieldType} {nm : String} {R : Room} {cn sn pc idx mc ms : Nat} {lv : List (Nat × Value)} {st : List Value} {h h' : hh_H}
variable {y : MethodName} {yb : ByteArray} {ym n : Nat} {yr : Option FieldType} {rm : Room}
theorem r_callVT {ρ : Type} {v : ρ → Value} {rr : (ρ ⊕ Nat) × hh_H} {hs : List (Nat × Nat × Nat × Nat)} (C : hh_ok X B e0 cc own nL ret nm R) (HT : hh_HT X hs) (d : decode cc pc = .ok (.invokevirtual idx, 3)) (S : hh_CS own idx y yb ym yr n [.instanceMethod y, .selects y.cls y y]) {a ci : Nat} {fs : List hh_V} {T : u_T} {N : Nat} (hcl : hh_cl[ci]? = some (y.cls, T, N)) (ho : h[a]? = some (.inr (ci, fs)))
    {As : List Value} (hM : hh_MetT y yb ym yr rm mc ms B e0 (.ref (hh_ad B e0 a) :: As) h v rr) (hn : As.length = n) (hrc : rm.cells = mc) (hrs : rm.slots = ms) (hR : rm.frames + 1 ≤ R.frames ∧ 8 + (ym + 11) + rm.locals ≤ R.locals) (hf : cn + mc ≤ R.cells ∧ sn + ms ≤ R.slots) (hst : (st.map fun v => v.category).sum ≤ 8)
    {st0 : List Value} (he : st0 = As.reverse ++ .ref (hh_ad B e0 a) :: st) (k1 : ∀ x, rr.1 = .inl x → hh_W X (cn + mc) (sn + ms) (pc + 3) lv (v x :: st) rr.2)
    (k2 : ∀ ce q, rr.1 = .inr ce → ∃ E r, hh_cl[ce]? = some (E, TE, 0) ∧ hh_catch own pc E hs r ∧ hh_W X (cn + mc) (sn + ms) r lv [.ref q] rr.2) : hh_W X cn sn pc lv st0 h := by
  obtain ⟨p, l, e, R', s, m, args, below, meth, c, Q, D, cT, B', e0', nL'⟩ := X
  obtain ⟨hx, hb, hml, hown, hts, hK, hlk, hrt, hnm, rfl, rfl, rfl, rfl, hB, hA, hcA⟩ := C
  obtain ⟨s1, s2, s3, s4, s5⟩ := S
  obtain ⟨ht1, ht2⟩ := HT
  subst he
  intro H locs ls hS hl T0 hT Y
  obtain ⟨cellB, hcB, hoB, hclB⟩ := va_recv hK hS.1 hcl (hh_w_get (hh_p0 hS.2.1.1 ho (fun q => by cases q)) ho)
  obtain ⟨mk, methM, hnamed, hmethM, hstM, habM⟩ := Cond.instanceMethod_spec (hts _ (s4 _ (by simp)) : (Cond.instanceMethod y).before args s = true)
  obtain ⟨methM', cM, hmethM', hcM, -, hlM, -, -, -, hsigM⟩ := Cond.code_spec hnamed (hts _ s1)
  cases hmethM.symm.trans hmethM'
  obtain ⟨c2, r2, m2, q1, q2, q3, q4, kP, hkP, hkPi⟩ := Cond.selects_spec (hts _ (s4 _ (by simp)) : (Cond.selects y.cls y y).before args s = true)
  cases hclB.symm.trans q1
  cases (State.methodFound?_of_named hnamed ⟨s5.1, s5.2.1⟩).symm.trans q2
  cases hnamed.symm.trans q3
  have hsel : selectMethod e.platform s.vm cellB.cls mk = .method mk := by rw [Launch.admits_selectMethod Y.admits]; exact q4
  have hlen : As.length = methM.sig.parameters.length := by
    have := s5.2.2
    rw [hsigM] at this
    simp only [Option.map_some, Option.some.injEq] at this
    rw [hn]
    exact this.symm
  obtain ⟨vm1, Y1, hstep⟩ := Y.invokevirtual hx hown (hts _ s2) hnamed hmethM hstM hkP hkPi ⟨s5.1, s5.2.1⟩ (a := hh_ad B' e0' a) (cell := cellB) (by rw [hT]; exact hcB)
    (fun z h => by rw [h] at hoB; cases hoB) hsel hmethM habM hkP hkPi (g := F0 m pc ls (As.reverse ++ .ref (hh_ad B' e0' a) :: st)) rfl (argsL := As) (rest := st) hlen rfl (by rw [hb]; exact d)
  have hgood := hh_goodC s1
  have hini : (Cond.initialized y.cls).before args s = true := hts _ s3
  have hWx : ∀ {w : Cond}, w ∈ hh_T → ∀ (a' : Array Value) (U : State), s.WarmedH U.vm → w.before a' U = true := fun hw a' U hW => word_at hW (hh_good _ hw).2 (hts _ hw)
  have hpre1 : (headSpec (.code y yb ym yr :: hh_T) rm).pre.before (Value.ref (hh_ad B' e0' a) :: As).toArray (T0.setVm vm1) = true := atoms_intro fun w hw => by
    rcases List.mem_cons.mp hw with rfl | hw
    · exact hWx s1 _ _ Y1.warmed
    · exact hWx hw _ _ Y1.warmed
  have hn1 := Y1.named hnamed
  obtain ⟨kY, hkY, -⟩ := className_of_methodNamed hn1
  have hinitY : kY.init = .initialized := Cond.initialized_spec (findClass_of_methodNamed hn1) hkY (hWx s3 (Value.ref (hh_ad B' e0' a) :: As).toArray _ Y1.warmed)
  obtain ⟨methY, cY, hmY, hcY, -, hlY, -⟩ := Cond.code_spec hn1 (hWx s1 (Value.ref (hh_ad B' e0' a) :: As).toArray _ Y1.warmed)
  have happ : (headSpec (.code y yb ym yr :: hh_T) rm).appliesLoose y e.platform ((T0.setVm vm1).calling (F0 m pc ls st) mk (Value.ref (hh_ad B' e0' a) :: As).toArray) = true :=
    Spec.appliesLoose_calling (g := F0 m pc ls st) Y1.here (by rw [hb]; exact d) hn1 hkY hinitY
      (Y1.room_calling (g := F0 m pc ls st) (R' := rm) (by rw [hml]; exact hl.1) hmY hcY hR.1 (by
        have := lv_room (m := m) (pc := pc) (ls := ls) (rest := st) hst
        have hq : (List.map (fun v => v.category) (F0 m pc ls st).stack).sum = (st.map fun v => v.category).sum := rfl
        rw [hlY]; omega) (by omega) (by omega)) hpre1
  obtain ⟨mid, hmid⟩ := Y1.here.above
  have hfr : ((T0.setVm vm1).setTop (F0 m pc ls st)).frames = (.java (F0 m pc ls st) :: mid) ++ below := by rw [State.frames_setTop' _ Y1.here.top, hmid]; rfl
  have hP0 : hh_Pc D cT B' e0' (.ref (hh_ad B' e0' a) :: As) h (Value.ref (hh_ad B' e0' a) :: As).toArray (T0.setVm vm1) := hh_pre hS hK hcA hB hT Y1.warmed
  obtain ⟨o, t, hsteps, -, hend, hq⟩ := Steps.callFree (hM l D cT ht2) p Y1.admits Y1.cas Y1.clock (acts := []) hfr happ (hh_blind _ _ _ _ hP0) trivial
  obtain ⟨hq0, hqP, hqz, ⟨hz0, hkp⟩, hqW, L, hqs, hqL⟩ := hq
  have htail : ((T0.setVm vm1).setTop (F0 m pc ls st)).frames = .java (F0 m pc ls st) :: below := by
    rw [State.frames_setTop' _ Y1.here.top]
    exact congrArg _ Y1.tail
  rw [htail] at hend
  have hkp' : ∀ q : Nat, q < H.size → ¬ B' ≤ q → t.heap[q]? = H[q]? := fun q h1 h2 => by
    have := hkp q (by rw [← hT] at h1; exact h1) h2
    rw [this]
    show T0.heap[q]? = _
    rw [hT]
  have hz0' : H.size ≤ t.heap.size := by rw [← hT]; exact hz0
  have hS1 : hh_S D cT B' e0' s rr.2 t.heap (locs ++ L) := ⟨hqP, hqz, Nat.le_trans hS.2.2.1 hz0', fun q h1 h2 => by rw [hkp' q (Nat.lt_of_lt_of_le h1 hS.2.2.1) h2]; exact hS.2.2.2.1 q h1 h2, fun q hq => by
    rcases List.mem_append.mp hq with h | h
    · exact hS.2.2.2.2 q h
    · exact hqL q h⟩
  have hsteps' : ∀ target, Steps p.tables e below t target → Steps p.tables e below (T0.setTop (F0 m pc ls (As.reverse ++ .ref (hh_ad B' e0' a) :: st))) target := fun target hh => hstep _ fun acts => by
    rw [doInvoke_state]
    exact hsteps.trans hh
  cases hr : rr.1 with
  | inl x =>
    rw [hr] at hq0
    have ho' : o = .returned (some (v x)) := hq0
    subst ho'
    obtain ⟨T', Y', hW', hs', ht'⟩ := Y1.outOf (g := F0 m pc ls st) rfl (by rw [hb]; exact d) hend hqW hqs
    have hh' : T'.heap = t.heap := by rw [ht']; rfl
    obtain ⟨t2, b1, b2⟩ := k1 x hr T'.heap (locs ++ L) ls (by rw [hh']; exact hS1) hl T' rfl Y'
    refine ⟨t2, hsteps' _ ?_, b2⟩
    rw [ht']
    exact b1
  | inr ce =>
    rw [hr] at hq0
    obtain ⟨xa, xfs, hxo, hxc⟩ := hq0
    subst hxo
    obtain ⟨T', Y', hW', hs', ht'⟩ := Y1.outOfThrown (g := F0 m pc ls st) rfl hend hqW hqs
    have hh' : T'.heap = t.heap := by rw [ht']; rfl
    obtain ⟨E, r, hE, hcat, kk⟩ := k2 ce (hh_ad B' e0' xa) hr
    obtain ⟨cx, hx1, hx2, hx3⟩ := va_recv hK hqP hE (hh_w_get (hh_p0 hqz.1 hxc (fun q => by cases q)) hxc)
    obtain ⟨vm2, Y2, st2⟩ := hh_caught Y' (g := F0 m pc ls st) rfl (a := hh_ad B' e0' xa) (cell := cx) hown hts hcA.2.1 hcA.2.2.2.2.2.2.1 hx3 hx2 (by rw [hh']; exact hx1) (by rw [ht1]; exact hcat)
    obtain ⟨t2, b1, b2⟩ := kk T'.heap (locs ++ L) ls (by rw [hh']; exact hS1) hl (T'.setVm vm2) rfl Y2
    refine ⟨t2, hsteps' _ ?_, b2⟩
    rw [ht']
    exact st2 _ b1
/-- the contract of a method with handlers -/
def hh_MetH (y : MethodName) (yb : ByteArray) (ym : Nat) (yr : Option FieldType) (hs : List (Nat × Nat × Nat × Nat)) (rm : Room) (mc ms B e0 : Nat) (av : List Value) (h : hh_H) (o : Outcome) (h' : hh_H) : Prop :=
  ∀ (l : Launch) (D : va_G) (cT : Nat → ClassId), hh_off l → Met l y (.codeWith y yb ym yr hs :: hh_T) rm (hh_Pc D cT B e0 av h) (hh_Q D cT B e0 o h') mc ms (fun q => B ≤ q)
theorem hh_metH {hs : List (Nat × Nat × Nat × Nat)} {av : List Value} {o : Outcome} (hy : plainName y.cls = true) (hlen : (lg_sl av).length ≤ ym)
    (hw : ∀ X : hh_X, hh_ok X B e0 yb y.cls ym yr y.name rm → hh_HT X hs → hh_End X B e0 o h' mc ms → hh_W X 0 0 0 (lv_args 0 av) [] h) : hh_MetH y yb ym yr hs rm mc ms B e0 av h o h' := by
  intro l D cT hoff
  refine va_MetW (cc := yb) (maxL := ym) (ret := yr) (hh := hs) hy rfl ?_
  intro p e s m args below meth c s₁ Bd hml hv
  obtain ⟨rfl, hP, hsz, hK, hcls⟩ := hv
  have hts := atoms_spec (ws := .codeWith y yb ym yr hs :: hh_T) Bd.pre
  have hown : s.vm.findClass y.cls = some m.cls := findClass_of_methodNamed Bd.named
  have hl := lv_entry av (n := ym) hlen
  obtain ⟨m9, meth9, c9, hn9, h1, h2, -, -, h3, -⟩ := Cond.codeWith_spec (hts _ List.mem_cons_self)
  cases Bd.named.symm.trans hn9
  cases Bd.method.symm.trans h1
  have X₀ : Stand p l e rm s m av.toArray below meth c s₁ [] 0 0 := Stand.of_body Bd
  cases X₀.code.symm.trans h2
  rw [lg_entry_eq]
  exact hw (p, l, e, rm, s, m, av.toArray, below, meth, c, _, D, cT, B, e0, ym) ⟨Bd.exec, Bd.bytes, hml, hown, fun w hw => hts w (List.mem_cons_of_mem _ hw), hK, Bd.notSynchronized, Bd.returns, (name_of_methodNamed Bd.named Bd.method).1, rfl, rfl, rfl, rfl, hh_sz hsz, fun q hq => Nat.le_trans (hh_sz hsz) hq, hcls⟩ ⟨h3, hoff⟩ rfl s.heap [] _ ⟨hP, hsz, va_S.rf⟩ hl
/-- what the site of a call of such a method says -/
def hh_CH (own : String) (idx : Nat) (y : MethodName) (yb : ByteArray) (ym : Nat) (yr : Option FieldType) (hs : List (Nat × Nat × Nat × Nat)) (n : Nat) : Prop :=
  Cond.codeWith y yb ym yr hs ∈ hh_T ∧ Cond.methodLink own idx y ∈ hh_T ∧ Cond.initialized y.cls ∈ hh_T ∧ Cond.static y ∈ hh_T ∧ (y.cls ≠ "java/lang/invoke/MethodHandle" ∧ y.cls ≠ "java/lang/invoke/VarHandle" ∧ (parseMethodDescriptor y.desc).map (fun d => d.parameters.length) = some n)
def hh_oX (X : hh_X) : Prop := match X with
  | (_, l, _, _, _, _, _, _, _, _, _, _, _, _, _, _) => hh_off l
theorem r_callSH {v : Option Value} {hs : List (Nat × Nat × Nat × Nat)} (C : hh_ok X B e0 cc own nL ret nm R) (O : hh_oX X) (d : decode cc pc = .ok (.invokestatic idx, 3)) (S : hh_CH own idx y yb ym yr hs n)
    {As : List Value} (hM : hh_MetH y yb ym yr hs rm mc ms B e0 As h (.returned v) h') (hn : As.length = n) (hrc : rm.cells = mc) (hrs : rm.slots = ms) (hR : rm.frames + 1 ≤ R.frames ∧ 8 + (ym + 11) + rm.locals ≤ R.locals) (hf : cn + mc ≤ R.cells ∧ sn + ms ≤ R.slots) (hst : (st.map fun v => v.category).sum ≤ 8)
    {st0 : List Value} (he : st0 = As.reverse ++ st) (kk : hh_W X (cn + mc) (sn + ms) (pc + 3) lv (v.toList ++ st) h') : hh_W X cn sn pc lv st0 h := by
  obtain ⟨p, l, e, R', s, m, args, below, meth, c, Q, D, cT, B', e0', nL'⟩ := X
  obtain ⟨hx, hb, hml, hown, hts, hK, hlk, hrt, hnm, rfl, rfl, rfl, rfl, hB, hA, hcA⟩ := C
  obtain ⟨s1, s2, s3, s4, s5⟩ := S
  subst he
  intro H locs ls hS hl
  refine hh_back (h := h) (mc := mc) (ms := ms) (v := v) (rest := st) (as := As.toArray) ?_ hS (fun H1 locs1 hS1 => kk H1 locs1 ls hS1 hl)
  intro T hT X
  have hgood : ∀ w ∈ (Cond.codeWith y yb ym yr hs :: hh_T), ∀ (a' : Array Value) (U : State), s.WarmedH U.vm → w.before a' U = true := fun w hw a' U hW => by
    rcases List.mem_cons.mp hw with rfl | hw
    · exact word_at hW (hh_good _ s1).2 (hts _ s1)
    · exact word_at hW (hh_good _ hw).2 (hts _ hw)
  have hB1 : Back l R' p e below s args y 3 8 (PreOf R' mc ms (hh_Pc D cT B' e0' As h)) (PostOf (hh_Q D cT B' e0' (.returned v) h') mc ms (fun q => B' ≤ q)) :=
    va_backW (bytes := yb) (maxL := ym) (ret := yr) (hh := hs) (hM l D cT O) hh_blind hrc hrs hR.1 hR.2 hgood List.mem_cons_self (fun a' U hW => word_at hW (hh_good _ s3).2 (hts _ s3))
  obtain ⟨mk, methM, cM, hnamed, hmethM, hcM, -, hlM, -, -, -, hsigM⟩ := Cond.codeWith_spec (hts _ s1)
  have hstatic : methM.isStatic = true := Cond.static_spec hnamed hmethM (hts _ s4)
  obtain ⟨kP, hkP, -⟩ := className_of_methodNamed hnamed
  have hinitP : kP.init = .initialized := Cond.initialized_spec (findClass_of_methodNamed hnamed) hkP (hts _ s3)
  have hlen : As.length = methM.sig.parameters.length := by
    have := s5.2.2
    rw [hsigM] at this
    simp only [Option.map_some, Option.some.injEq] at this
    rw [hn]
    exact this.symm
  obtain ⟨vm1, X1, hstep⟩ := X.invokestatic hx hown (hts _ s2) hnamed hmethM hstatic hkP hinitP ⟨s5.1, s5.2.1⟩ (g := F0 m pc ls (As.reverse ++ st)) rfl (argsL := As) (rest := st) hlen rfl (by rw [hb]; exact d)
  obtain ⟨w, ⟨U', l2, c2, s2'⟩, X', ⟨g', mk', t, L, e1, e2, hq, h1, hL, h2, h3⟩, st1⟩ := hB1 m meth c ⟨T.setVm vm1, locs, cn, sn⟩ (F0 m pc ls st) (.invokestatic idx) mk As.toArray X1 rfl (by rw [hml]; exact hl.1) (by rw [hb]; exact d) (lv_room hst) (X1.named hnamed) ⟨hf.1, hf.2, hh_pre hS hK hcA hB hT X1.warmed⟩
  dsimp only [Pt.U, Pt.locs, Pt.cells, Pt.slots] at X' e1 e2 h1 h2 h3 st1
  subst h1; subst h2; subst h3
  exact ⟨w, (T.setVm vm1).calling g' mk' As.toArray, t, U', L, hT, X', hL, e1, e2, hq, fun target hh => hstep _ fun acts => by
    rw [doInvoke_state]
    exact st1.trans hh⟩
end Catch
