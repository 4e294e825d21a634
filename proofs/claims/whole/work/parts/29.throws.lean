-- throws: a walk begun anew in its middle, and 'new E("..")' thrown
theorem hh_rebase {p : Program} {l : Launch} {e : Env} {R : Room} {s : State} {m : MethodId} {args : Array Value} {below : List Frame} {meth : Method} {c : Code} {T : State} {locs : List Loc} {cells slots : Nat} (X : Stand p l e R s m args below meth c T locs cells slots) (hc : cells ≤ R.cells) (hs : slots ≤ R.slots) :
    Stand p l e { R with cells := R.cells - cells, slots := R.slots - slots } (T.setFrames (.invoking m args :: below)) m args below meth c T [] 0 0 := by
  obtain ⟨g₀, hfr⟩ := X.frames_eq
  have hcur : T.cur < T.threads.size := State.cur_lt_of_frames hfr
  have hf1 : (T.setFrames (.invoking m args :: below)).frames = .invoking m args :: below := State.frames_setFrames _ hcur
  have hm : T.vm.method? m = some meth := X.method'
  have hm1 : (T.setFrames (.invoking m args :: below)).vm.method? m = some meth := hm
  obtain ⟨th, hth, -⟩ := State.frames_cons hf1
  refine ⟨X.admits, X.cas, X.clock, hf1, ?_, ?_, hm1, X.code, X.here, X.tail, State.WarmedH.refl _, by rw [State.stackLimits_setFrames], by rw [State.stackBytes_setFrames], ?_⟩
  · have h0 := X.room
    have r1 := X.cellsAbove (n := R.cells - cells) (by omega)
    have r2 := X.slotsAbove (n := R.slots - slots) (by omega)
    simp only [State.hasRoom, Bool.and_eq_true, decide_eq_true_eq] at h0 ⊢
    rw [State.localsInUse_invoking X.frames X.method X.code] at h0
    rw [State.localsInUse_invoking hf1 hm1 X.code, hf1, State.stackLimits_setFrames, State.stackBytes_setFrames]
    rw [X.frames] at h0
    obtain ⟨⟨⟨⟨q1, q2, q3, q4, q5, q6⟩, q7⟩, q8⟩, q9⟩ := h0
    rw [X.limits, X.bytes]
    exact ⟨⟨⟨⟨q1, q2, q3, q4, q5, q6⟩, r1⟩, r2⟩, X.book⟩
  · have h0 := X.hears
    have hal := X.warmed.alike
    unfold State.hears at h0 ⊢
    split at h0
    · rename_i g r
      simp only [State.code?_eq] at h0 ⊢
      show ((((T.vm.method? g.method).bind (·.code)).bind fun c => (decode c.code g.pc).toOption).isSome) = true
      rw [hal.method?]
      exact h0
    · rfl
    · rfl
    · show ((T.vm.method? m).any (·.sig.returnType.isNone)) = true
      rw [hal.method?]
      exact h0
  · have h := (State.sameButNew.refl (T.setFrames (.invoking m args :: below)) hth).setFrames T.frames (State.cur_lt_of_frames hf1)
    have e1 : (T.setFrames (.invoking m args :: below)).setFrames T.frames = T := by
      rw [State.setFrames_setFrames]
      obtain ⟨th0, hth0, -⟩ := State.frames_cons hfr
      exact State.setFrames_self hth0
    rw [e1] at h
    exact h
theorem hh_up0 {H0 H : Heap} (hk : ∀ q : Nat, q < H0.size → H[q]? = H0[q]?) {a : Nat} {c : Cell} (h : H0[a]? = some c) : H[a]? = some c := by
  rw [hk a (Array.getElem?_eq_some_iff.mp h).1]
  exact h
theorem hh_lays_up {o n d : String} {args : Array Value} {U : State} {H0 : Heap} (h : (Cond.laysStatic o n d).before #[] ({ U with heap := H0 } : State) = true) (hk : ∀ q : Nat, q < H0.size → U.heap[q]? = H0[q]?) : (Cond.laysStatic o n d).before args U = true := by
  have h1 : (Cond.laysStatic o n d).value #[] ({ U with heap := H0 } : State) none ({ U with heap := H0 } : State) [] = some true := by
    have := h
    simp only [Cond.before, Cond.holds, beq_iff_eq] at this
    exact this
  have h2 : (Cond.laysStatic o n d).value args U none U [] = some true := by
    simp only [Cond.value] at h1 ⊢
    have e1 : ({ U with heap := H0 } : State).fieldFound? o n d = U.fieldFound? o n d := rfl
    rw [e1] at h1
    cases hc : U.vm.findClass o with
    | none => simp [hc] at h1
    | some c =>
      cases hf : U.fieldFound? o n d with
      | none => simp [hc, hf] at h1
      | some x =>
        obtain ⟨c', k, i, f⟩ := x
        simp only [hc, hf] at h1 ⊢
        cases hs : k.statics with
        | none => simp [hs] at h1
        | some a =>
          simp only [hs, Option.bind_some] at h1 ⊢
          cases ha : H0[a]? with
          | none => simp [ha] at h1
          | some cell =>
            rw [hh_up0 hk ha]
            simp only [ha] at h1
            exact h1
  simp only [Cond.before, Cond.holds, beq_iff_eq]
  exact h2
theorem hh_ref_up {o n d : String} {args : Array Value} {U : State} {H0 : Heap} (h : (Cond.isRef (.static o n d)).before #[] ({ U with heap := H0 } : State) = true) (hk : ∀ q : Nat, q < H0.size → U.heap[q]? = H0[q]?) : (Cond.isRef (.static o n d)).before args U = true := by
  have h1 : (Cond.isRef (.static o n d)).value #[] ({ U with heap := H0 } : State) none ({ U with heap := H0 } : State) [] = some true := by
    have := h
    simp only [Cond.before, Cond.holds, beq_iff_eq] at this
    exact this
  have h2 : (Cond.isRef (.static o n d)).value args U none U [] = some true := by
    simp only [Cond.value, Term.eval] at h1 ⊢
    have e1 : ({ U with heap := H0 } : State).fieldNamed? o n d true = U.fieldNamed? o n d true := rfl
    rw [e1] at h1
    cases hf : U.fieldNamed? o n d true with
    | none => simp [hf] at h1
    | some x =>
      obtain ⟨c', k, i⟩ := x
      simp only [hf] at h1 ⊢
      cases hs : k.statics with
      | none => simp [hs] at h1
      | some a =>
        cases ha : H0[a]? with
        | none => simp [hs, ha] at h1
        | some cell =>
          have hu := hh_up0 hk ha
          simp only [hs, ha, hu, bind, Option.bind_some] at h1 ⊢
          exact h1
  simp only [Cond.before, Cond.holds, beq_iff_eq]
  exact h2
theorem hh_T3_up {w : Cond} (hw : w ∈ hh_T3) {args : Array Value} {U : State} {H0 : Heap} (h : w.before #[] ({ U with heap := H0 } : State) = true) (hk : ∀ q : Nat, q < H0.size → U.heap[q]? = H0[q]?) : w.before args U = true := by
  simp only [hh_T3, List.mem_cons, List.not_mem_nil, or_false] at hw
  rcases hw with rfl | rfl | rfl | rfl
  · exact hh_lays_up h hk
  · exact hh_lays_up h hk
  · exact hh_ref_up h hk
  · exact hh_ref_up h hk
/-- the words of 'throw new E("..")' where E's constructor has the bytes rx and names its parent's at ix -/
def hh_oa (own : String) (ic : Nat) (E : String) (ix : Nat) (rx : ByteArray) : List Cond :=
  [.methodLink own ic (Jvm.Bundle.initS E), .instantiable E 6, .selects E Jvm.Bundle.tFill0 Jvm.Bundle.tFill0, .selects E Jvm.Bundle.tFill Jvm.Bundle.tFill, .lays E Jvm.Bundle.tN "cause" "Ljava/lang/Throwable;", .lays E Jvm.Bundle.tN "stackTrace" Jvm.Bundle.steD, .lays E Jvm.Bundle.tN "suppressedExceptions" Jvm.Bundle.listD, .lays E Jvm.Bundle.tN "detailMessage" "Ljava/lang/String;", .lays E Jvm.Bundle.tN "backtrace" "Ljava/lang/Object;",
   .isRef (.static Jvm.Bundle.tN "UNASSIGNED_STACK" Jvm.Bundle.steD), .isRef (.static Jvm.Bundle.tN "SUPPRESSED_SENTINEL" Jvm.Bundle.listD), .fieldLink Jvm.Bundle.tN 198 Jvm.Bundle.tN "backtrace" "Ljava/lang/Object;", .lays Jvm.Bundle.tN Jvm.Bundle.tN "backtrace" "Ljava/lang/Object;"] ++
  Jvm.Bundle.throwableAtoms ++ Jvm.Bundle.throwableSAtoms ++ Jvm.Bundle.passSAtoms E "java/lang/RuntimeException" ix rx ++ Jvm.Bundle.chainSAtoms "java/lang/RuntimeException" ["java/lang/Exception"]
def hh_six (rx : ByteArray) (ix : Nat) : Prop := decode rx 0 = .ok (.aload_n 0, 1) ∧ decode rx 1 = .ok (.aload_n 1, 1) ∧ decode rx 2 = .ok (.invokespecial ix, 3) ∧ decode rx 5 = .ok (.return_, 1)
set_option maxHeartbeats 2000000 in
/-- from the constructor's call on: the exception leaves the method, its cell keeps its class -/
theorem hh_ctorT {p : Program} {l : Launch} {e : Env} {R : Room} {s : State} {m : MethodId} {args : Array Value} {below : List Frame} {meth : Method} {c : Code} {W : State} {cells slots : Nat} (X : Stand p l e R s m args below meth c W [] cells slots) (hexec : p.tables.exec = Jvm.exec) (htr : e.platform.stackTraces = false) {own E : String} {ic ix : Nat} {rx : ByteArray} (h6 : hh_six rx ix)
    (hown : s.vm.findClass own = some m.cls) (hE : Jvm.Bundle.fit E = true) (h : ∀ w ∈ hh_oa own ic E ix rx, w.before args s = true)
    {a : Addr} {cX : ClassId} {kX : Class} (hf : s.vm.findClass E = some cX) (hkX : s.vm.classes[cX]? = some kX) (hcell : W.heap[a]? = some (freshCell cX kX)) (hnew : s.heap.size ≤ a)
    {msg : Value} (hmsg : msg.isRef = true) {g : JFrame} (hg : g.method = m) (hsize : g.locals.size = c.maxLocals) (hlocked : g.locked = none) (hentered : g.entered = []) {rest : List Value} (hstack : g.stack = msg :: .ref a :: .ref a :: rest)
    (d0 : decode c.code g.pc = .ok (.invokespecial ic, 3)) (d3 : decode c.code (g.pc + 3) = .ok (.athrow, 1)) (hout : ∀ x ∈ c.exceptionTable.toList, covers x (g.pc + 3) = false)
    (hRf : 5 < R.frames) (hRl : 2 * g.monitorRoom + ((Value.ref a :: rest).map fun v => v.category).sum + 81 ≤ R.locals) (hlocks : meth.locks = false) :
    ∃ U : State, Steps p.tables e below (W.setTop g) U ∧ U.status = .running ∧ Ended U below (.threw a) ∧ s.WarmedH U.vm ∧ s.sameButNew ({ U with vm := s.vm } : State) [] cells slots ∧ ∃ ce, U.heap[a]? = some ce ∧ ce.cls = cX ∧ ce.vm = .none := by
  have hmon : e.platform.frameOwnsMonitors = true := by rw [X.admits.platform]
  have hfin : e.platform.finalization = false := by rw [X.admits.platform]
  have hmag : e.platform.magicAccessors = ({} : Platform).magicAccessors := by rw [X.admits.platform]
  have k : ∀ w, w ∈ hh_oa own ic E ix rx → w.holds args s none s [] = true := fun w hw => h w hw
  obtain ⟨T, Z0, L, -, Y⟩ := ThrowableC.of_atoms (args := args) hmon hfin hmag (fun w hw => h w (by simp [hh_oa, hw]))
  obtain ⟨Z, M, LZ, LM, hZ⟩ := Init0T.ofS_atoms (args := args) hmag L Y (fun w hw => h w (by simp [hh_oa, hw]))
  obtain ⟨Q, LQ, hQm, hQs⟩ := PassC.ofS_atoms (args := args) (s := s) hmag (X := E) (Y := "java/lang/RuntimeException") (Jvm.Bundle.fit_spec hE).1 (by decide) h6.1 h6.2.1 h6.2.2.1 h6.2.2.2 (fun w hw => h w (by simp [hh_oa, hw]))
  obtain ⟨P1, Ps, hlen, L1, hL, hP1, hl1, hl2⟩ := Jvm.Bundle.chainS (args := args) hmag hZ ["java/lang/Exception"] "java/lang/RuntimeException" (by decide +kernel) (by decide +kernel) (fun w hw => h w (by simp [hh_oa, hw]))
  have hfE : s.vm.findClass E = some Q.m.cls := findClass_of_methodNamed hQm
  cases Option.some.inj (hf.symm.trans hfE)
  have hsup : Q.sup = P1.m := Option.some.inj (hQs.symm.trans hP1)
  obtain ⟨c1, k1, hc1, hk, hord, -, -, -⟩ := Cond.instantiable_spec (k (.instantiable E 6) (by simp [hh_oa]))
  cases Option.some.inj (hc1.symm.trans hfE)
  cases Option.some.inj (hkX.symm.trans hk)
  have sel : ∀ {y : MethodName} {r : MethodId}, s.methodNamed? y = some r → (Cond.selects E y y).holds args s none s [] = true → s.methodFound? y.cls y.name y.desc = some r → selectMethod e.platform s.vm Q.m.cls r = .method r := by
    intro y r hy hw hfnd
    obtain ⟨c2, r2, m2, q1, q2, q3, q4, -⟩ := Cond.selects_spec hw
    cases Option.some.inj (q1.symm.trans hfE)
    cases Option.some.inj (q2.symm.trans hfnd)
    cases Option.some.inj (q3.symm.trans hy)
    rw [Launch.admits_selectMethod X.admits]
    exact q4
  have s0 := sel Y.fill0 (k (.selects E Jvm.Bundle.tFill0 Jvm.Bundle.tFill0) (by simp [hh_oa])) (State.methodFound?_of_named Y.fill0 (by decide))
  have s1 := sel Y.fill (k (.selects E Jvm.Bundle.tFill Jvm.Bundle.tFill) (by simp [hh_oa])) (State.methodFound?_of_named Y.fill (by decide))
  obtain ⟨cS, hcS, hst⟩ := Y.statics
  obtain ⟨u0, hu0⟩ := Cond.staticRefV Y.unassigned L.unassignedStatic L.statics hcS hst (k (.isRef (.static Jvm.Bundle.tN "UNASSIGNED_STACK" Jvm.Bundle.steD)) (by simp [hh_oa]))
  obtain ⟨sen, hsen⟩ := Cond.staticRefV Y.sentinel L.sentinelStatic L.statics hcS hst (k (.isRef (.static Jvm.Bundle.tN "SUPPRESSED_SENTINEL" Jvm.Bundle.listD)) (by simp [hh_oa]))
  obtain ⟨j1, j2, fB, b1, b2, b3, b4, -, b5, b6, b7⟩ := Cond.ownField (t := .object "java/lang/Object") Y.found L.cls (by decide +kernel) (k (.fieldLink Jvm.Bundle.tN 198 Jvm.Bundle.tN "backtrace" "Ljava/lang/Object;") (by simp [hh_oa])) (k (.lays Jvm.Bundle.tN Jvm.Bundle.tN "backtrace" "Ljava/lang/Object;") (by simp [hh_oa])) e.platform hmag
  obtain ⟨cW, hcW, eW, -, keep⟩ := X.same.2.2.2.2.2 T.aS cS hcS
  have hcW' : W.heap[T.aS]? = some cW := hcW
  have hkn : cW.vm ≠ .unknown := by
    rw [eW]
    intro hu
    have : cS.vm = .unknown := hu
    rw [this] at hst
    cases hst
  have hne : T.aS ≠ a := Nat.ne_of_lt (Nat.lt_of_lt_of_le (Array.getElem?_eq_some_iff.mp hcS).1 hnew)
  obtain ⟨iM, hM⟩ := Y.msg
  obtain ⟨t1, _, x1, n1⟩ := Cond.laysAt hfE hk Y.cause (k (.lays E Jvm.Bundle.tN "cause" "Ljava/lang/Throwable;") (by simp [hh_oa]))
  obtain ⟨t2, _, x2, n2⟩ := Cond.laysAt hfE hk Y.stack (k (.lays E Jvm.Bundle.tN "stackTrace" Jvm.Bundle.steD) (by simp [hh_oa]))
  obtain ⟨t3, _, x3, n3⟩ := Cond.laysAt hfE hk Y.supp (k (.lays E Jvm.Bundle.tN "suppressedExceptions" Jvm.Bundle.listD) (by simp [hh_oa]))
  obtain ⟨t4, _, x4, n4⟩ := Cond.laysAt hfE hk hM (k (.lays E Jvm.Bundle.tN "detailMessage" "Ljava/lang/String;") (by simp [hh_oa]))
  obtain ⟨t5, _, x5, n5⟩ := Cond.laysAt hfE hk b7 (k (.lays E Jvm.Bundle.tN "backtrace" "Ljava/lang/Object;") (by simp [hh_oa]))
  have y1 := Cond.laysApart x5 x1 n5 n1 (by rw [b5, Y.causeName]; decide)
  have y2 := Cond.laysApart x5 x2 n5 n2 (by rw [b5, Y.stackName]; decide)
  have y3 := Cond.laysApart x5 x3 n5 n3 (by rw [b5, Y.suppName]; decide)
  have hskip : SkipFacts T e.platform s (fun u => u) u0 ((preparedCellV T.toThrowableT (freshCell Q.m.cls kX) a u0 sen).withEntry W.cur) := by
    refine ⟨{ ci198 := j1, i198 := j2, fBack := fB }, ⟨b1, b2, b3, b4⟩, ?_, fun _ _ => rfl⟩
    have := fresh_default (c := Q.m.cls) t5
    rw [b6] at this
    simpa [preparedCellV, Cell.setSlot, Cell.withEntry, Array.getElem?_setIfInBounds, y1, y2, y3, y1.symm, y2.symm, y3.symm, defaultValue] using this
  obtain ⟨tm, -, -, -, vm1, hnC, -, -, -, -, -, -, -, hW1, st1⟩ := Steps.initColdS (tb := p.tables) (e := e) (below := below) (s := s) (U := W) X.here hexec X.warmed hmag hown (t := Jvm.Bundle.initS E) rfl rfl (Jvm.Bundle.fit_spec hE).2
    (k (.methodLink own ic (Jvm.Bundle.initS E)) (by simp [hh_oa])) (h (.instanceMethod (Jvm.Bundle.initS E)) (by simp [hh_oa, Jvm.Bundle.passSAtoms])) (bytes := rx) (maxL := 2) (h (.code (Jvm.Bundle.initS E) rx 2 none) (by simp [hh_oa, Jvm.Bundle.passSAtoms]))
    (f := g) hg (a := a) (msg := msg) (rest := .ref a :: rest) hstack d0
  cases Option.some.inj (hnC.symm.trans hQm)
  have hlen' : Ps.length = 1 := hlen
  obtain ⟨vm2, X2, st2⟩ := (X.noted hW1).ctorMessageOffV hexec (g := { g with stack := .ref a :: rest }) hg hsize T L Z LZ M LM (Q :: P1 :: Ps)
    (fun P hP => by
      rcases List.mem_cons.mp hP with rfl | hP
      · exact LQ
      · rcases List.mem_cons.mp hP with rfl | hP
        · exact L1
        · exact hL P hP) ⟨hsup, hl1, hl2⟩ (u0 := u0) (sen := sen) (self := a) hmsg (cell := freshCell Q.m.cls kX) (cellS := cW)
    hcell (fun _ => by simp) (by simp) rfl rfl s0 s1 hcW' hne hkn (by rw [keep _ (by simp)]; exact hu0) (by rw [keep _ (by simp)]; exact hsen)
    (Takes.of_laid hk hord t1 (by rw [Y.causeType]; rfl)) (Takes.of_laid hk hord t2 (by rw [Y.stackType]; exact fits_refV_array _ u0)) (Takes.of_laid hk hord t3 (by rw [Y.suppType]; exact fits_refV_object _ sen))
    (Takes.of_laid hk hord t4 (by rw [Y.msgType]; exact fits_refV_object _ ⟨msg, hmsg⟩)) Y.objLocals hskip htr [] d0
    (by simp only [List.length_cons, hlen']; omega) (by simp only [List.length_cons, hlen']; exact hRl)
  obtain ⟨hw, hr, he, hwU, hsU⟩ := X2.athrowLeaves hexec (g := { g with stack := .ref a :: rest, pc := g.pc + 3 }) hg hlocked hentered hout (a := a) (rest := rest) rfl d3
  have hlt : a < ((W.setVm vm1).setVm vm2).heap.size := (Array.getElem?_eq_some_iff.mp hcell).1
  have hU := heapAt_setCell_self (s := (W.setVm vm1).setVm vm2) (plainBareV T.toThrowableT (freshCell Q.m.cls kX) a u0 sen msg) hlt
  refine ⟨_, st1 _ (fun acts => ?_), hr, he, hwU, hsU.weaken (fun y hy hlt' => ?_) (Nat.le_refl _) (Nat.le_refl _), _, hU, rfl, rfl⟩
  · rw [doInvoke_state]
    exact st2 _ hw
  · exfalso
    have hb : y.base = a := by
      simp only [List.nil_append, List.mem_cons, List.not_mem_nil, or_false] at hy
      rcases hy with rfl | rfl | rfl | rfl | rfl <;> rfl
    rw [hb] at hlt'
    exact Nat.not_lt.mpr hnew hlt'
/-- how a method ends that may throw -/
def hh_QT {ρ : Type} (D : va_G) (cT : Nat → ClassId) (B e0 : Nat) (v : ρ → Value) (rr : (ρ ⊕ Nat) × hh_H) (mc ms : Nat) : Array Value → State → Outcome → State → Prop :=
  fun _ st o t => (match rr.1 with
    | .inl x => o = .returned (some (v x))
    | .inr ci => ∃ a fs, o = .threw (hh_ad B e0 a) ∧ rr.2[a]? = some (.inr (ci, fs))) ∧ va_P D hh_cl (hh_w B e0 cT rr.2) t.heap ∧ (rr.2[0]? = some hh_nil ∧ e0 < B ∧ t.heap.size + 1 = B + rr.2.length) ∧ va_F (fun q => B ≤ q) st t ∧ st.WarmedH t.vm ∧ ∃ L, st.sameButNew ({ t with vm := st.vm } : State) L mc ms ∧ ∀ q ∈ L, B ≤ q.base
def hh_EndT {ρ : Type} (X : hh_X) (B e0 : Nat) (v : ρ → Value) (rr : (ρ ⊕ Nat) × hh_H) (mc ms : Nat) : Prop :=
  match X with
  | (_, _, e, _, s, _, args, below, _, c, Q, D, cT, _, _, _) => (Q = fun t => ∃ o, t.status = .running ∧ Ended t below o ∧ hh_QT D cT B e0 v rr mc ms args s o t) ∧ c.exceptionTable.isEmpty = true ∧ e.platform.stackTraces = false
/-- the launch is one without stack traces -/
def hh_off (l : Launch) : Prop := ∀ e : Env, l.admits e → e.platform.stackTraces = false
def hh_MetT {ρ : Type} (y : MethodName) (yb : ByteArray) (ym : Nat) (yr : Option FieldType) (rm : Room) (mc ms B e0 : Nat) (av : List Value) (h : hh_H) (v : ρ → Value) (rr : (ρ ⊕ Nat) × hh_H) : Prop :=
  ∀ (l : Launch) (D : va_G) (cT : Nat → ClassId), hh_off l → MetFree l y (headSpec (.code y yb ym yr :: hh_T) rm) (hh_Pc D cT B e0 av h) (fun _ _ _ _ _ => True) (hh_QT D cT B e0 v rr mc ms)
theorem hh_metT {ρ : Type} {y : MethodName} {yb : ByteArray} {ym mc ms B e0 : Nat} {yr : Option FieldType} {rm : Room} {av : List Value} {h : hh_H} {v : ρ → Value} {rr : (ρ ⊕ Nat) × hh_H} (hy : plainName y.cls = true) (hlen : (lg_sl av).length ≤ ym)
    (hw : ∀ X : hh_X, hh_ok X B e0 yb y.cls ym yr y.name rm → hh_EndT X B e0 v rr mc ms → hh_W X 0 0 0 (lv_args 0 av) [] h) : hh_MetT y yb ym yr rm mc ms B e0 av h v rr := by
  intro l D cT hoff
  refine MetFree.of_bodyS (code := yb) (maxLocals := ym) (ret := yr) hy ?_ ?_
  · intro args s m h hn
    obtain ⟨meth, c, h1, h2, h3, h4, h5, h6, -, -⟩ := Cond.code_spec hn (atoms_spec (ws := .code y yb ym yr :: hh_T) h _ List.mem_cons_self)
    exact ⟨meth, c, h1, h2, h3, h4, h5, h6⟩
  · intro p e s m args below meth c s₁ Bd hml hv _
    obtain ⟨rfl, hP, hsz, hK, hcls⟩ := hv
    have hts := atoms_spec (ws := .code y yb ym yr :: hh_T) Bd.pre
    have hown : s.vm.findClass y.cls = some m.cls := findClass_of_methodNamed Bd.named
    have hl := lv_entry av (n := ym) hlen
    have hemp := Bd.noHandlers (hts _ List.mem_cons_self)
    have X₀ : Stand p l e rm s m av.toArray below meth c s₁ [] 0 0 := Stand.of_body Bd
    have hh0 : s₁.heap = s.heap := by rw [Bd.state]; rfl
    have K := hw (p, l, e, rm, s, m, av.toArray, below, meth, c, _, D, cT, B, e0, ym) ⟨Bd.exec, Bd.bytes, hml, hown, fun w hw => hts w (List.mem_cons_of_mem _ hw), hK, Bd.notSynchronized, Bd.returns, (name_of_methodNamed Bd.named Bd.method).1, rfl, rfl, rfl, rfl, hh_sz hsz, fun q hq => Nat.le_trans (hh_sz hsz) hq, hcls⟩ ⟨rfl, hemp, hoff e Bd.admits⟩ s.heap [] _ ⟨hP, hsz, va_S.rf⟩ hl
    obtain ⟨t, a1, o, b1, b2, b3⟩ := K s₁ hh0 X₀
    rw [lg_entry_eq]
    exact ⟨t, o, a1, b1, b2, b3⟩
theorem hh_mono {p : Program} {l : Launch} {e : Env} {R : Room} {s : State} {m : MethodId} {args : Array Value} {below : List Frame} {meth : Method} {c : Code} {H : Heap} {locs : List Loc} {cells slots : Nat} {Q Q' : State → Prop} {g : JFrame} (h : W p l e R s m args below meth c H locs cells slots Q g) (hq : ∀ t, Q t → Q' t) : W p l e R s m args below meth c H locs cells slots Q' g := by
  intro T hT X
  obtain ⟨t, a, b⟩ := h T hT X
  exact ⟨t, a, hq t b⟩
section EndsT
variable {X : hh_X} {B e0 : Nat} {cc : ByteArray} {own : String} {nL : Nat} {ret : Option FieldType} {nm : String} {R : Room} {cn sn pc idx mc ms : Nat} {lv : List (Nat × Value)} {st : List Value} {h h' : hh_H}
theorem hh_toT {ρ : Type} {D : va_G} {cT : Nat → ClassId} {args : Array Value} {below : List Frame} {s t : State} {x : ρ} {v : ρ → Value} (hq : MQ below (hh_Q D cT B e0 (.returned (some (v x))) h) args s mc ms (fun q => B ≤ q) t) : ∃ o, t.status = .running ∧ Ended t below o ∧ hh_QT D cT B e0 v (.inl x, h) mc ms args s o t := by
  obtain ⟨o, h1, h2, ⟨rfl, h3, h4, h5⟩, L, ⟨-, h6, h7⟩, h8⟩ := hq
  exact ⟨_, h1, h2, rfl, h3, h4, h5, h6, L, h7, h8⟩
theorem r_ireturnT (C : hh_ok X B e0 cc own nL (some .int) nm R) {rr : (Int32 ⊕ Nat) × hh_H} {v : Int32} (E : hh_EndT X B e0 (fun x => .int x) rr mc ms) (d : decode cc pc = .ok (.ireturn, 1)) (hc : cn ≤ mc) (hs : sn ≤ ms) (hf : some (.inl v, h) = some rr) : hh_W X cn sn pc lv [.int v] h := by
  obtain ⟨p, l, e, R', s, m, args, below, meth, c, Q, D, cT, B', e0', nL'⟩ := X
  obtain ⟨hx, hb, hml, hown, hts, hK, hlk, hrt, hnm, rfl, rfl, rfl, rfl, hB, hA, hcA⟩ := C
  cases hf
  obtain ⟨rfl, -, -⟩ := E
  intro H locs ls hS hl
  exact W.widen hc hs (hh_mono (W.iret hx hb hrt (fun t ht hW => hh_Qof hS ht) hS.2.2.2.2 d hlk) (fun t ht => hh_toT (v := fun x => .int x) ht))
theorem r_dreturnT (C : hh_ok X B e0 cc own nL (some .double) nm R) {rr : (UInt64 ⊕ Nat) × hh_H} {v : UInt64} (E : hh_EndT X B e0 (fun x => .double x) rr mc ms) (d : decode cc pc = .ok (.dreturn, 1)) (hc : cn ≤ mc) (hs : sn ≤ ms) (hf : some (.inl v, h) = some rr) : hh_W X cn sn pc lv [.double v] h := by
  obtain ⟨p, l, e, R', s, m, args, below, meth, c, Q, D, cT, B', e0', nL'⟩ := X
  obtain ⟨hx, hb, hml, hown, hts, hK, hlk, hrt, hnm, rfl, rfl, rfl, rfl, hB, hA, hcA⟩ := C
  cases hf
  obtain ⟨rfl, -, -⟩ := E
  intro H locs ls hS hl
  exact W.widen hc hs (hh_mono (W.dret hx hb hrt (fun t ht hW => hh_Qof hS ht) hS.2.2.2.2 d hlk) (fun t ht => hh_toT (v := fun x => .double x) ht))
theorem hh_keep {s' U : State} {ca sl : Nat} (h : s'.sameButNew U [] ca sl) {q : Nat} (hq : q < s'.heap.size) : U.heap[q]? = s'.heap[q]? := by
  obtain ⟨cell, hcell⟩ : ∃ cell, s'.heap[q]? = some cell := ⟨_, Array.getElem?_eq_getElem hq⟩
  obtain ⟨c', h1, h2, h3, h4⟩ := h.2.2.2.2.2 q cell hcell
  rw [h1, hcell]
  have hs : c'.slots = cell.slots := Array.ext_getElem? fun i => h4 i (by simp)
  rw [h2, hs]
/-- 'throw new E("..")' -/
theorem r_throw {ρ : Type} {v : ρ → Value} {rr : (ρ ⊕ Nat) × hh_H} {E tx : String} {ci i0 i1 ic ix : Nat} {rx : ByteArray} (C : hh_ok X B e0 cc own nL ret nm R) (En : hh_EndT X B e0 v rr mc ms)
    (d0 : decode cc pc = .ok (.new i0, 3)) (d1 : decode cc (pc + 3) = .ok (.dup, 1)) (d2 : decode cc (pc + 4) = .ok (.ldc i1, 2)) (d3 : decode cc (pc + 6) = .ok (.invokespecial ic, 3)) (d4 : decode cc (pc + 9) = .ok (.athrow, 1))
    (hci : hh_cl[ci]? = some (E, TE, 0)) (hw1 : Cond.classLink own i0 E ∈ hh_T) (hw2 : Cond.instantiable E 6 ∈ hh_T) (hw3 : Cond.initialized E ∈ hh_T) (hstr : (own, i1, tx) ∈ hh_strs) (hfit : Jvm.Bundle.fit E = true)
    (hat : (∀ w ∈ hh_oa own ic E ix rx, w ∈ hh_T ∨ w ∈ hh_T2 ∨ w ∈ hh_T3) ∧ hh_six rx ix)
    (hR : 5 < R.frames ∧ 100 ≤ R.locals) (hst : (st.map fun v => v.category).sum ≤ 8) (hc : cn + 1 ≤ mc) (hs : sn + 6 ≤ ms) (hc2 : cn + 1 ≤ R.cells) (hs2 : sn + 6 ≤ R.slots) (hf : some (.inr ci, h ++ [.inr (ci, [])]) = some rr) : hh_W X cn sn pc lv st h := by
  obtain ⟨p, l, e, R', s, m, args, below, meth, c, Q, D, cT, B', e0', nL'⟩ := X
  obtain ⟨hx, hb, hml, hown, hts, hK, hlk, hrt, hnm, rfl, rfl, rfl, rfl, hB, hA, hcA⟩ := C
  cases hf
  obtain ⟨rfl, hemp, htr⟩ := En
  intro H locs ls hS hl T hT Y
  have Y0 := hh_rebase Y (by omega) (by omega)
  have hWs : s.WarmedH (T.setFrames (.invoking m args :: below)).vm := Y.warmed
  have hts' : ∀ w ∈ hh_T, w.before args (T.setFrames (.invoking m args :: below)) = true := fun w hw => word_at hWs (hh_good w hw).2 (hts w hw)
  have hown' : (T.setFrames (.invoking m args :: below)).vm.findClass own = some m.cls := by rw [hWs.alike.findClass]; exact hown
  have henv : hh_env B' e0' cT (T.setFrames (.invoking m args :: below)) := hh_env_move hcA hWs hB (fun q hq => by
    show T.heap[q]? = _
    rw [hT]
    exact hS.2.2.2.1 q (Nat.lt_of_lt_of_le hq hB) (Nat.not_le.mpr hq))
  have hcls : (T.setFrames (.invoking m args :: below)).vm.findClass E = some (D.1 ci) := by rw [hWs.alike.findClass]; exact (hK.1 ci _ hci).2.1
  have hwords : ∀ w ∈ hh_oa own ic E ix rx, w.before args (T.setFrames (.invoking m args :: below)) = true := by
    intro w hw
    rcases hat.1 w hw with h1 | h1 | h1
    · exact hts' w h1
    · have h2 := henv.2.1 w h1
      have h3 : hh_nw w = true := (List.mem_filter.mp h1).2
      have h4 : w.onTables = true := by cases w <;> first | rfl | cases h3
      exact va_Nw.use h4 h2
    · obtain ⟨H0, g1, g2, g3, -⟩ := henv.2.2.2.2.2.2.2
      have g4 := g3 w h1
      exact hh_T3_up h1 g4 (fun q hq => by
        have : q < B' := by rw [← g1]; exact hq
        exact g2 q this)
  have hsz : H.size = hh_ad B' e0' h.length := hh_size hS.2.1
  have hheap' : (T.setFrames (.invoking m args :: below)).heap = H := hT
  suffices hgo : W p l e { R' with cells := R'.cells - cn, slots := R'.slots - sn } (T.setFrames (.invoking m args :: below)) m args below meth c H [] 0 0 (fun t => ∃ o, t.status = .running ∧ Ended t below o ∧ hh_QT D cT B' e0' v (.inr ci, h ++ [.inr (ci, [])]) mc ms args s o t) (F0 m pc ls st) from hgo T hT Y0
  refine W.newcK hx hb hown' (hts' _ hw1) (hts' _ hw2) (hts' _ hw3) rfl d0 (by show 0 + 1 ≤ R'.cells - cn; omega) (by show 0 + 6 ≤ R'.slots - sn; omega) hcls rfl fun H1 kC hkC e1 z1 o1 => ?_
  refine W.eq (g2 := F0 m (pc + 3) ls (.ref H.size :: st)) rfl ?_
  refine lv_dup hx hb d1 rfl ?_
  obtain ⟨ma, hma⟩ := henv.2.2.2.2.1 _ hstr
  refine va_ldcS hx hb hown' hma d2 ?_
  intro T2 hT2 Y2
  obtain ⟨U, hsteps, hrun, hended, hWU, hsame, ce, hce, K, Kv⟩ := hh_ctorT Y2 hx htr hat.2 hown' hfit hwords hcls hkC (by rw [hT2]; exact e1) (by rw [hheap']; exact Nat.le_refl _) (msg := .ref ma) rfl (g := F0 m (pc + 6) ls (.ref ma :: .ref H.size :: .ref H.size :: st)) rfl (by rw [hml]; exact hl.1) rfl rfl rfl (by rw [hb]; exact d3) (by rw [hb]; exact d4) (fun x hx => (covers_of_empty hemp _ x hx))
      (by show 5 < R'.frames; omega) (by
        have h1 := lv_room (m := m) (pc := pc + 6) (ls := ls) (rest := .ref ma :: .ref H.size :: .ref H.size :: st) hst
        show 2 * (F0 m (pc + 6) ls (.ref ma :: .ref H.size :: .ref H.size :: st)).monitorRoom + ((Value.ref H.size :: st).map fun v => v.category).sum + _ ≤ R'.locals
        simp only [List.map_cons, List.sum_cons]
        have : (Value.ref H.size).category = 1 := rfl
        omega) hlk
  refine ⟨U, hsteps, _, hrun, hended, ?_⟩
  have hzU : U.heap.size = H.size + 1 := by
    have g1 : U.heap.size ≤ H.size + (0 + 1) := by have := hsame.2.2.1; rw [hheap'] at this; exact this
    have g2 := (Array.getElem?_eq_some_iff.mp hce).1
    omega
  have hoU : ∀ q : Nat, q < H.size → U.heap[q]? = H[q]? := fun q hq => by
    have := hh_keep hsame (q := q) (by rw [hheap']; exact hq)
    rw [hheap'] at this
    exact this
  have hS1 : hh_S D cT B' e0' s (h ++ [.inr (ci, [])]) U.heap locs := hh_S_app hS ⟨_, hci, ce, by rw [← hsz]; exact hce, K, Kv, fun k hk => absurd hk (Nat.not_lt_zero k)⟩ hzU hoU
  refine ⟨⟨h.length, [], by rw [hsz], by simp⟩, hS1.1, hS1.2.1, hS1.2.2.F rfl, State.WarmedH.trans Y.warmed hWU, locs, ?_, hS.2.2.2.2⟩
  have hT' : T.sameButNew (U.setVm T.vm) [] (0 + 1) (0 + 6) := by
    obtain ⟨q1, q2⟩ := hsame
    refine ⟨?_, q2⟩
    rw [State.setFrames_setFrames] at q1
    exact q1
  have h9 := Y.same.trans (hT'.setVm s.vm)
  rw [List.append_nil] at h9
  exact h9.mono (by omega) (by omega)
end EndsT
def hh_b7 : ByteArray := ⟨#[0x2a, 0x2b, 0xb7, 0x00, 0x07, 0xb1]⟩
def hh_b13 : ByteArray := ⟨#[0x2a, 0x2b, 0xb7, 0x00, 0x0d, 0xb1]⟩
