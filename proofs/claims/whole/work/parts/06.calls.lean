section Ends
variable {X : hh_X} {B e0 : Nat} {cc : ByteArray} {own : String} {nL : Nat} {ret : Option FieldType} {nm : String} {R : Room} {cn sn pc idx mc ms : Nat} {lv : List (Nat × Value)} {st : List Value} {h h' : hh_H}
theorem hh_Qof {D : va_G} {cT : Nat → ClassId} {s t : State} {H : Heap} {locs : List Loc} {o : Outcome} {as : Array Value} (hS : hh_S D cT B e0 s h H locs) (ht : t.heap = H) : hh_Q D cT B e0 o h as s o t :=
  ⟨rfl, by rw [ht]; exact hS.1, by rw [ht]; exact hS.2.1, hS.2.2.F ht⟩
theorem r_ireturn (C : hh_ok X B e0 cc own nL (some .int) nm R) {rr : Int32 × hh_H} {v : Int32} (E : hh_End X B e0 (.returned (some (.int rr.1))) rr.2 mc ms) (d : decode cc pc = .ok (.ireturn, 1)) (hc : cn ≤ mc) (hs : sn ≤ ms) (hf : some (v, h) = some rr) : hh_W X cn sn pc lv [.int v] h := by
  obtain ⟨p, l, e, R', s, m, args, below, meth, c, Q, D, cT, B', e0', nL'⟩ := X
  obtain ⟨hx, hb, hml, hown, hts, hK, hlk, hrt, hnm, rfl, rfl, rfl, rfl, hB, hA, hcA⟩ := C
  cases hf
  cases E
  intro H locs ls hS hl
  exact W.widen hc hs (W.iret hx hb hrt (fun t ht hW => hh_Qof hS ht) hS.2.2.2.2 d hlk)
theorem r_ireturnz {ty : FieldType} (C : hh_ok X B e0 cc own nL (some ty) nm R) {rr : Int32 × hh_H} {v : Int32} (E : hh_End X B e0 (.returned (some (.int rr.1))) rr.2 mc ms) (d : decode cc pc = .ok (.ireturn, 1)) (hn : narrow ty (.int v) = .int v) (hc : cn ≤ mc) (hs : sn ≤ ms) (hf : some (v, h) = some rr) : hh_W X cn sn pc lv [.int v] h := by
  obtain ⟨p, l, e, R', s, m, args, below, meth, c, Q, D, cT, B', e0', nL'⟩ := X
  obtain ⟨hx, hb, hml, hown, hts, hK, hlk, hrt, hnm, rfl, rfl, rfl, rfl, hB, hA, hcA⟩ := C
  cases hf
  cases E
  intro H locs ls hS hl
  exact W.widen hc hs (W.zret hx hb hrt hn (fun t ht hW => hh_Qof hS ht) hS.2.2.2.2 d hlk)
theorem hp_zb_of {x v : Int32} (hv : hp_zb x = some v) : x = v ∧ narrow .boolean (.int v) = .int v := by
  unfold hp_zb at hv
  split at hv
  · rename_i hz
    cases hv
    refine ⟨rfl, ?_⟩
    rcases hz with rfl | rfl <;> rfl
  · cases hv
theorem r_return (C : hh_ok X B e0 cc own nL none nm R) {rr : Unit × hh_H} (E : hh_End X B e0 (.returned none) rr.2 mc ms) (d : decode cc pc = .ok (.return_, 1)) (hc : cn ≤ mc) (hs : sn ≤ ms) (hf : some ((), h) = some rr) : hh_W X cn sn pc lv [] h := by
  obtain ⟨p, l, e, R', s, m, args, below, meth, c, Q, D, cT, B', e0', nL'⟩ := X
  obtain ⟨hx, hb, hml, hown, hts, hK, hlk, hrt, hnm, rfl, rfl, rfl, rfl, hB, hA, hcA⟩ := C
  cases hf
  cases E
  intro H locs ls hS hl
  exact W.widen hc hs (W.vret hx hb hrt (fun t ht hW => hh_Qof hS ht) hS.2.2.2.2 d hlk)
theorem r_dreturn (C : hh_ok X B e0 cc own nL (some .double) nm R) {rr : UInt64 × hh_H} {v : UInt64} (E : hh_End X B e0 (.returned (some (.double rr.1))) rr.2 mc ms) (d : decode cc pc = .ok (.dreturn, 1)) (hc : cn ≤ mc) (hs : sn ≤ ms) (hf : some (v, h) = some rr) : hh_W X cn sn pc lv [.double v] h := by
  obtain ⟨p, l, e, R', s, m, args, below, meth, c, Q, D, cT, B', e0', nL'⟩ := X
  obtain ⟨hx, hb, hml, hown, hts, hK, hlk, hrt, hnm, rfl, rfl, rfl, rfl, hB, hA, hcA⟩ := C
  cases hf
  cases E
  intro H locs ls hS hl
  exact W.widen hc hs (W.dret hx hb hrt (fun t ht hW => hh_Qof hS ht) hS.2.2.2.2 d hlk)
theorem r_areturn {rt : FieldType} (C : hh_ok X B e0 cc own nL (some rt) nm R) {rr : Nat × hh_H} {v : Nat} (E : hh_End X B e0 (.returned (some (.ref (hh_ad B e0 rr.1)))) rr.2 mc ms) (d : decode cc pc = .ok (.areturn, 1)) (hr : (∃ n, rt = .object n) ∨ ∃ t, rt = .array t) (hc : cn ≤ mc) (hs : sn ≤ ms) (hf : some (v, h) = some rr) : hh_W X cn sn pc lv [.ref (hh_ad B e0 v)] h := by
  obtain ⟨p, l, e, R', s, m, args, below, meth, c, Q, D, cT, B', e0', nL'⟩ := X
  obtain ⟨hx, hb, hml, hown, hts, hK, hlk, hrt, hnm, rfl, rfl, rfl, rfl, hB, hA, hcA⟩ := C
  cases hf
  cases E
  intro H locs ls hS hl
  exact W.widen hc hs (W.aret hx hb hrt hr (Or.inr ⟨_, rfl⟩) (fun t ht hW => hh_Qof hS ht) hS.2.2.2.2 d hlk)
theorem hh_sz {n : Nat} (hs : h[0]? = some hh_nil ∧ e0 < B ∧ n + 1 = B + h.length) : B ≤ n := by
  have hl := (List.getElem?_eq_some_iff.mp hs.1).1
  omega
theorem hh_met {y : MethodName} {yb : ByteArray} {ym : Nat} {yr : Option FieldType} {rm : Room} {av : List Value} {o : Outcome} (hy : plainName y.cls = true) (hlen : (lg_sl av).length ≤ ym)
    (hw : ∀ X : hh_X, hh_ok X B e0 yb y.cls ym yr y.name rm → hh_End X B e0 o h' mc ms → hh_W X 0 0 0 (lv_args 0 av) [] h) : hh_Met y yb ym yr rm mc ms B e0 av h o h' := by
  intro l D cT
  refine Met.ofW (cc := yb) (maxL := ym) (ret := yr) hy rfl ?_
  intro p e s m args below meth c s₁ Bd hml hv
  obtain ⟨rfl, hP, hsz, hK, hcls⟩ := hv
  have hts := atoms_spec (ws := .code y yb ym yr :: hh_T) Bd.pre
  have hown : s.vm.findClass y.cls = some m.cls := findClass_of_methodNamed Bd.named
  have hl := lv_entry av (n := ym) hlen
  rw [lg_entry_eq]
  exact hw (p, l, e, rm, s, m, av.toArray, below, meth, c, _, D, cT, B, e0, ym) ⟨Bd.exec, Bd.bytes, hml, hown, fun w hw => hts w (List.mem_cons_of_mem _ hw), hK, Bd.notSynchronized, Bd.returns, (name_of_methodNamed Bd.named Bd.method).1, rfl, rfl, rfl, rfl, hh_sz hsz, fun q hq => Nat.le_trans (hh_sz hsz) hq, hcls⟩ rfl s.heap [] _ ⟨hP, hsz, va_S.rf⟩ hl
theorem hh_blind {D : va_G} {cT : Nat → ClassId} {av : List Value} : FrameBlind (hh_Pc D cT B e0 av h) := by
  intro a U g mk hq
  obtain ⟨h1, h2, h3, h4, h5⟩ := hq
  exact ⟨h1, h2, h3, va_K.moved (u := U) (U := U.calling g mk a) (Vm.Alike.refl U.vm) h4, hh_env_move (V := U.calling g mk a) h5 (State.WarmedH.refl U) (hh_sz h3) (fun _ _ => rfl)⟩
theorem hh_pre {D : va_G} {cT : Nat → ClassId} {av : List Value} {s U : State} {H : Heap} {locs : List Loc} (hS : hh_S D cT B e0 s h H locs) (hK : va_K D hh_cl (hh_tys cT) s)
    (hc : hh_env B e0 cT s) (hB : B ≤ s.heap.size) (hU : U.heap = H) (hW : s.WarmedH U.vm) : hh_Pc D cT B e0 av h av.toArray U := by
  refine ⟨rfl, by rw [hU]; exact hS.1, by rw [hU]; exact hS.2.1, va_K.moved hW.alike hK, hh_env_move hc hW hB (fun q hq => ?_)⟩
  rw [hU]
  exact hS.2.2.2.1 q (Nat.lt_of_lt_of_le hq hB) (Nat.not_le.mpr hq)
/-- behind a call -/
theorem hh_back {p : Program} {l : Launch} {e : Env} {s : State} {m : MethodId} {args : Array Value} {below : List Frame} {meth : Method} {c : Code} {Q : State → Prop} {D : va_G} {cT : Nat → ClassId} {H : Heap} {locs : List Loc} {ls : Array Slot} {st0 rest : List Value} {v : Option Value} {as : Array Value}
    (hr : va_Run p l e R s m args below meth c H locs cn sn mc ms (F0 m pc ls st0) rest (hh_Q D cT B e0 (.returned v) h' as) (fun q => B ≤ q)) (hS : hh_S D cT B e0 s h H locs)
    (kk : ∀ (H1 : Heap) (locs1 : List Loc), hh_S D cT B e0 s h' H1 locs1 → W p l e R s m args below meth c H1 locs1 (cn + mc) (sn + ms) Q (F0 m (pc + 3) ls (v.toList ++ rest))) : W p l e R s m args below meth c H locs cn sn Q (F0 m pc ls st0) := by
  intro T hT X
  obtain ⟨v', st₀, t, T', L, h0, X', hL, e1, e2, ⟨hv, hP, hz, hF⟩, st⟩ := hr T hT X
  cases hv
  obtain ⟨hz0, hk⟩ := hF
  rw [h0] at hz0 hk
  obtain ⟨t2, a1, b1⟩ := kk T'.heap (locs ++ L) ⟨by rw [e1]; exact hP, by rw [e1]; exact hz, Nat.le_trans hS.2.2.1 (by rw [e1]; exact hz0), fun q h1 h2 => by rw [e1, hk q (Nat.lt_of_lt_of_le h1 hS.2.2.1) h2]; exact hS.2.2.2.1 q h1 h2, fun q hq => by
      rcases List.mem_append.mp hq with h | h
      · exact hS.2.2.2.2 q h
      · exact hL q h⟩ T' rfl X'
  exact ⟨t2, st t2 a1, b1⟩
theorem hh_goodC {y : MethodName} {yb : ByteArray} {ym : Nat} {yr : Option FieldType} (hc : Cond.code y yb ym yr ∈ hh_T) : GoodIn hh_T (.code y yb ym yr :: hh_T) := by
  intro w hw
  rcases List.mem_cons.mp hw with rfl | hw
  · exact hh_good _ hc
  · exact hh_good _ hw
/-- what a call site's words say -/
def hh_CS (own : String) (idx : Nat) (y : MethodName) (yb : ByteArray) (ym : Nat) (yr : Option FieldType) (n : Nat) (kind : List Cond) : Prop :=
  Cond.code y yb ym yr ∈ hh_T ∧ Cond.methodLink own idx y ∈ hh_T ∧ Cond.initialized y.cls ∈ hh_T ∧ (∀ w ∈ kind, w ∈ hh_T) ∧ (y.cls ≠ "java/lang/invoke/MethodHandle" ∧ y.cls ≠ "java/lang/invoke/VarHandle" ∧ (parseMethodDescriptor y.desc).map (fun d => d.parameters.length) = some n)
variable {y : MethodName} {yb : ByteArray} {ym n : Nat} {yr : Option FieldType} {rm : Room} {v : Option Value}
theorem r_callV (C : hh_ok X B e0 cc own nL ret nm R) (d : decode cc pc = .ok (.invokevirtual idx, 3)) (S : hh_CS own idx y yb ym yr n [.instanceMethod y, .selects y.cls y y]) {a ci : Nat} {fs : List hh_V} {T : u_T} {N : Nat} (hcl : hh_cl[ci]? = some (y.cls, T, N)) (ho : h[a]? = some (.inr (ci, fs)))
    {As : List Value} (hM : hh_Met y yb ym yr rm mc ms B e0 (.ref (hh_ad B e0 a) :: As) h (.returned v) h') (hn : As.length = n) (hrc : rm.cells = mc) (hrs : rm.slots = ms) (hR : rm.frames + 1 ≤ R.frames ∧ 8 + (ym + 11) + rm.locals ≤ R.locals) (hf : cn + mc ≤ R.cells ∧ sn + ms ≤ R.slots) (hst : (st.map fun v => v.category).sum ≤ 8)
    {st0 : List Value} (he : st0 = As.reverse ++ .ref (hh_ad B e0 a) :: st) (kk : hh_W X (cn + mc) (sn + ms) (pc + 3) lv (v.toList ++ st) h') : hh_W X cn sn pc lv st0 h := by
  obtain ⟨p, l, e, R', s, m, args, below, meth, c, Q, D, cT, B', e0', nL'⟩ := X
  obtain ⟨hx, hb, hml, hown, hts, hK, hlk, hrt, hnm, rfl, rfl, rfl, rfl, hB, hA, hcA⟩ := C
  obtain ⟨s1, s2, s3, s4, s5⟩ := S
  subst he
  intro H locs ls hS hl
  refine hh_back (va_runV (As := As) (rest := st) (C := y.cls) ⟨hx, hb, hml, hown, hts⟩ (hM l D cT) ⟨callB_of n hts (hh_goodC s1) rfl hrc hrs (hts _ s3) (hts _ s2) s5 hR, hts _ (s4 _ (by simp)), hts _ (s4 _ (by simp))⟩ ⟨hh_blind, va_recv hK hS.1 hcl (hh_w_get (hh_p0 hS.2.1.1 ho (fun q => by cases q)) ho), fun U hU hW => hh_pre hS hK hcA hB hU hW⟩ rfl hn (by exact hl.1) rfl (lv_room hst) d hf) hS (fun H1 locs1 hS1 => kk H1 locs1 ls hS1 hl)
theorem r_callS (C : hh_ok X B e0 cc own nL ret nm R) (d : decode cc pc = .ok (.invokestatic idx, 3)) (S : hh_CS own idx y yb ym yr n [.static y])
    {As : List Value} (hM : hh_Met y yb ym yr rm mc ms B e0 As h (.returned v) h') (hn : As.length = n) (hrc : rm.cells = mc) (hrs : rm.slots = ms) (hR : rm.frames + 1 ≤ R.frames ∧ 8 + (ym + 11) + rm.locals ≤ R.locals) (hf : cn + mc ≤ R.cells ∧ sn + ms ≤ R.slots) (hst : (st.map fun v => v.category).sum ≤ 8)
    {st0 : List Value} (he : st0 = As.reverse ++ st) (kk : hh_W X (cn + mc) (sn + ms) (pc + 3) lv (v.toList ++ st) h') : hh_W X cn sn pc lv st0 h := by
  obtain ⟨p, l, e, R', s, m, args, below, meth, c, Q, D, cT, B', e0', nL'⟩ := X
  obtain ⟨hx, hb, hml, hown, hts, hK, hlk, hrt, hnm, rfl, rfl, rfl, rfl, hB, hA, hcA⟩ := C
  obtain ⟨s1, s2, s3, s4, s5⟩ := S
  subst he
  intro H locs ls hS hl
  refine hh_back (va_runS (As := As) (rest := st) ⟨hx, hb, hml, hown, hts⟩ (hM l D cT) ⟨callB_of n hts (hh_goodC s1) rfl hrc hrs (hts _ s3) (hts _ s2) s5 hR, hts _ (s4 _ (by simp))⟩ ⟨hh_blind, fun U hU hW => hh_pre hS hK hcA hB hU hW⟩ rfl hn (by exact hl.1) rfl (lv_room hst) d hf) hS (fun H1 locs1 hS1 => kk H1 locs1 ls hS1 hl)
theorem r_callI (C : hh_ok X B e0 cc own nL ret nm R) (d : decode cc pc = .ok (.invokespecial idx, 3)) (S : hh_CS own idx y yb ym none n [.instanceMethod y]) (hy1 : y.name = "<init>") {a : Nat}
    {As : List Value} (hM : hh_Met y yb ym none rm mc ms B e0 (.ref (hh_ad B e0 a) :: As) h (.returned v) h') (hn : As.length = n) (hrc : rm.cells = mc) (hrs : rm.slots = ms) (hR : rm.frames + 1 ≤ R.frames ∧ 8 + (ym + 11) + rm.locals ≤ R.locals) (hf : cn + mc ≤ R.cells ∧ sn + ms ≤ R.slots) (hst : (st.map fun v => v.category).sum ≤ 8)
    {st0 : List Value} (he : st0 = As.reverse ++ .ref (hh_ad B e0 a) :: st) (kk : hh_W X (cn + mc) (sn + ms) (pc + 3) lv (v.toList ++ st) h') : hh_W X cn sn pc lv st0 h := by
  obtain ⟨p, l, e, R', s, m, args, below, meth, c, Q, D, cT, B', e0', nL'⟩ := X
  obtain ⟨hx, hb, hml, hown, hts, hK, hlk, hrt, hnm, rfl, rfl, rfl, rfl, hB, hA, hcA⟩ := C
  obtain ⟨s1, s2, s3, s4, s5⟩ := S
  subst he
  intro H locs ls hS hl
  refine hh_back (va_runI (As := As) (rest := st) (b := hh_ad B' e0' a) ⟨hx, hb, hml, hown, hts⟩ (hM l D cT) ⟨callB_of n hts (hh_goodC s1) rfl hrc hrs (hts _ s3) (hts _ s2) s5 hR, hy1, hts _ (s4 _ (by simp))⟩ ⟨hh_blind, fun U hU hW => hh_pre hS hK hcA hB hU hW⟩ rfl hn (by exact hl.1) rfl (lv_room hst) d hf) hS (fun H1 locs1 hS1 => kk H1 locs1 ls hS1 hl)
theorem r_objInit {q : Nat} (C : hh_ok X B e0 cc own nL ret nm R) (d : decode cc pc = .ok (.invokespecial idx, 3)) (hw : Cond.methodLink own idx Lib.objectInit ∈ hh_T) (hi : Cond.instanceMethod Lib.objectInit ∈ hh_T) (hco : Cond.code Lib.objectInit ⟨#[0xb1]⟩ 1 none ∈ hh_T) (hR : 1 ≤ R.frames ∧ 20 ≤ R.locals) (hst : (st.map fun v => v.category).sum ≤ 8)
    (kk : hh_W X cn sn (pc + 3) lv st h) : hh_W X cn sn pc lv (.ref q :: st) h := by
  obtain ⟨p, l, e, R', s, m, args, below, meth, c, Q, D, cT, B', e0', nL'⟩ := X
  obtain ⟨hx, hb, hml, hown, hts, hK, hlk, hrt, hnm, rfl, rfl, rfl, rfl, hB, hA, hcA⟩ := C
  intro H locs ls hS hl
  refine W.objInit hx hb hown (hts _ hw) (hts _ hi) (hts _ hco) rfl (by rw [hml]; exact hl.1) rfl d hR.1 ?_ (kk H locs ls hS hl)
  have := lv_room (m := m) (pc := pc) (ls := ls) (rest := .ref q :: st) hst
  omega
end Ends
