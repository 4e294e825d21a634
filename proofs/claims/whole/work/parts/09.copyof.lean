-- Arrays.copyOf over arrays of objects
/-- an array of objects that is not empty -/
def hp_refs1 (h : hh_H) (a : Nat) : Option (List (Option Nat)) := (hp_refs h a 4).bind fun f => if f.length = 0 then none else some f
theorem hp_refs1_of {h : hh_H} {a : Nat} {f : List (Option Nat)} (hv : hp_refs1 h a = some f) : hp_refs h a 4 = some f ∧ f.length ≠ 0 := by
  unfold hp_refs1 at hv
  obtain ⟨g, h1, h2⟩ := hp_bind hv
  split at h2
  · cases h2
  · rename_i hn
    cases h2
    exact ⟨h1, hn⟩
def f_Arrays_copyOf (F : Nat) (a0 : Nat) (x1 : Int32) (h : hh_H) : Option (Nat × hh_H) :=
  (hp_refs1 h a0).bind fun _ =>
  hp_cb (hp_na h 4 x1 80) fun b2 h3 =>
  (hp_len h3 a0).bind fun v5 =>
  hp_cb (hp_cp h3 a0 0 b2 0 (if x1 < v5 then x1 else v5)) fun q6 h7 =>
  some (b2, h7)
section CopyOf
variable {X : hh_X} {B e0 : Nat} {cc : ByteArray} {own : String} {nL : Nat} {ret : Option FieldType} {nm : String} {R : Room} {cn sn pc idx mc ms : Nat} {lv : List (Nat × Value)} {st : List Value} {h h' : hh_H}
/-- the state at the method's entry knows the class object of Object[] -/
def hh_mi (X : hh_X) (mi : Nat) : Prop := match X with
  | (_, _, _, _, s, _) => va_Mi "[Ljava/lang/Object;" mi s
theorem r_ldcM {mi : Nat} (C : hh_ok X B e0 cc own nL ret nm R) (hM : hh_mi X mi) (d : decode cc pc = .ok (.ldc idx, 2)) (hw : Cond.classLink own idx "[Ljava/lang/Object;" ∈ hh_T) (kk : hh_W X cn sn (pc + 2) lv (.ref mi :: st) h) : hh_W X cn sn pc lv st h := by
  obtain ⟨p, l, e, R', s, m, args, below, meth, c, Q, D, cT, B', e0', nL'⟩ := X
  obtain ⟨hx, hb, hml, hown, hts, hK, hlk, hrt, hnm, rfl, rfl, rfl, rfl, hB, hA, hcA⟩ := C
  intro H locs ls hS hl
  exact va_ldcM hx hb hown (hts _ hw) hM d (kk H locs ls hS hl)
theorem r_acmp_same {q : Nat} {off : Int} (C : hh_ok X B e0 cc own nL ret nm R) (d : decode cc pc = .ok (.if_acmp .ne off, 3)) {tgt : Nat} (ht : (pc : Int) + off = (tgt : Int)) (kk : hh_W X cn sn (pc + 3) lv st h) : hh_W X cn sn pc lv (.ref q :: .ref q :: st) h := by
  obtain ⟨p, l, e, R', s, m, args, below, meth, c, Q, D, cT, B', e0', nL'⟩ := X
  obtain ⟨hx, hb, hml, hown, hts, hK, hlk, hrt, hnm, rfl, rfl, rfl, rfl, hB, hA, hcA⟩ := C
  intro H locs ls hS hl
  exact lv_acmp_ne (rx := some q) (ry := some q) hx hb d ht (fun z => absurd rfl z) (fun _ => kk H locs ls hS hl)
theorem r_getC {a mi : Nat} {f : List (Option Nat)} (C : hh_ok X B e0 cc own nL ret nm R) (hM : hh_mi X mi) (d : decode cc pc = .ok (.invokevirtual idx, 3)) (hw : Cond.methodLink own idx ⟨"java/lang/Object", "getClass", "()Ljava/lang/Class;"⟩ ∈ hh_T) (ha : h[a]? = some (.inl (4, .inr (.inr (.inr f))))) (hfl : f.length ≠ 0) (hR : 1 ≤ R.frames ∧ 22 ≤ R.locals) (hst : (st.map fun v => v.category).sum ≤ 8)
    (kk : hh_W X cn sn (pc + 3) lv (.ref mi :: st) h) : hh_W X cn sn pc lv (.ref (hh_ad B e0 a) :: st) h := by
  obtain ⟨p, l, e, R', s, m, args, below, meth, c, Q, D, cT, B', e0', nL'⟩ := X
  obtain ⟨hx, hb, hml, hown, hts, hK, hlk, hrt, hnm, rfl, rfl, rfl, rfl, hB, hA, hcA⟩ := C
  intro H locs ls hS hl
  exact va_getC (C := "[Ljava/lang/Object;") hx hb (hml.trans hl.1.symm) hown (hts _ hw) (va_Nw.use rfl (hcA.2.1 _ (hh_at2 1402 (by decide +kernel) (by decide +kernel)))) (hts _ (hh_at 1401 (by decide +kernel) (by decide +kernel))) (hts _ (hh_at 830 (by decide +kernel) (by decide +kernel))) (hts _ (hh_at 850 (by decide +kernel) (by decide +kernel))) hM
    ⟨_, hS.1 (a - 1) _ (hh_w_get (hh_p0 hS.2.1.1 ha (hh_nn hfl)) ha), rfl, hcA.1.2.2.2.2.1⟩ hR.1 (by have := hR.2; omega) d (kk H locs ls hS hl)
end CopyOf
def mc_Arrays_copyOf : Nat := 1
def ms_Arrays_copyOf : Nat := 80
def rm_Arrays_copyOf1 : Room := { frames := 1, cells := 1, slots := 80, locals := 40 }
def rm_Arrays_copyOf : Room := { frames := 2, cells := 1, slots := 80, locals := 70 }
set_option maxRecDepth 100000 in
set_option maxHeartbeats 4000000 in
theorem w_Arrays_copyOf1 {X : hh_X} {B e0 mi : Nat} {rr : Nat × hh_H} (C : hh_ok X B e0 cJ5_copyOf1 RJ5 4 (some (.array (.object "java/lang/Object"))) "copyOf" rm_Arrays_copyOf1) (hM : hh_mi X mi) (E : hh_End X B e0 (.returned (some (.ref (hh_ad B e0 rr.1)))) rr.2 1 80) (F : Nat) (a0 : Nat) (x1 : Int32) (h : hh_H) (hf : f_Arrays_copyOf F a0 x1 h = some rr) :
    hh_W X 0 0 0 [(0, .ref (hh_ad B e0 a0)), (1, .int x1), (2, .ref mi)] [] h := by
  unfold f_Arrays_copyOf at hf
  obtain ⟨_, _, hf⟩ := hp_bind hf
  refine r_aload_n C dJ5_copyOf1_0 rfl 2 rfl ?_
  refine r_ldcM C hM dJ5_copyOf1_1 (hh_at 854 (by decide +kernel) (by decide +kernel)) ?_
  refine r_acmp_same C dJ5_copyOf1_3 (tgt := 13) (by decide) ?_
  refine r_iload_n C dJ5_copyOf1_6 rfl 1 rfl ?_
  obtain ⟨b2, h3, e4, hf⟩ := hp_cbe hf
  refine r_naq (bd := 80) C dJ5_copyOf1_7 (hh_at 856 (by decide +kernel) (by decide +kernel)) (by decide) (by decide) (by decide) e4 ?_
  refine r_goto C dJ5_copyOf1_10 (tgt := 24) (by decide) ?_
  refine r_astore_n (lv' := [(3, .ref (hh_ad B e0 b2)), (0, .ref (hh_ad B e0 a0)), (1, .int x1), (2, .ref mi)]) C dJ5_copyOf1_24 rfl (by decide) rfl ?_
  refine r_aload_n C dJ5_copyOf1_25 rfl 1 rfl ?_
  refine r_iconst C dJ5_copyOf1_26 (v := 0) (by decide) ?_
  refine r_aload_n C dJ5_copyOf1_27 rfl 0 rfl ?_
  refine r_iconst C dJ5_copyOf1_28 (v := 0) (by decide) ?_
  refine r_aload_n C dJ5_copyOf1_29 rfl 1 rfl ?_
  obtain ⟨v5, e5, hf⟩ := hp_bind hf
  refine r_alen C dJ5_copyOf1_30 e5 ?_
  refine r_iload_n C dJ5_copyOf1_31 rfl 2 rfl ?_
  refine r_mmin C dJ5_copyOf1_32 (hh_at 639 (by decide +kernel) (by decide +kernel)) (by decide) (Nat.le_of_ble_eq_true rfl) (by decide) (by decide) ?_
  obtain ⟨q6, h7, e7, hf⟩ := hp_cbe hf
  refine r_arraycopy C dJ5_copyOf1_35 (hh_at 640 (by decide +kernel) (by decide +kernel)) (by decide) (Nat.le_of_ble_eq_true rfl) e7 ?_
  refine r_aload_n C dJ5_copyOf1_38 rfl 0 rfl ?_
  exact r_areturn C E dJ5_copyOf1_39 (Or.inr ⟨_, rfl⟩) (by decide) (by decide) hf
theorem c_Arrays_copyOf1 (B e0 F mi : Nat) (a0 : Nat) (x1 : Int32) (h : hh_H) (rr : Nat × hh_H) (hf : f_Arrays_copyOf F a0 x1 h = some rr) (l : Launch) (D : va_G) (cT : Nat → ClassId) :
    Met l yJ5_copyOf1 (.code yJ5_copyOf1 cJ5_copyOf1 4 (some (.array (.object "java/lang/Object"))) :: hh_T) rm_Arrays_copyOf1 (fun v U => hh_Pc D cT B e0 [.ref (hh_ad B e0 a0), .int x1, .ref mi] h v U ∧ va_Mi "[Ljava/lang/Object;" mi U) (hh_Q D cT B e0 (.returned (some (.ref (hh_ad B e0 rr.1)))) rr.2) 1 80 (fun q => B ≤ q) := by
  refine Met.ofW (cc := cJ5_copyOf1) (maxL := 4) (ret := some (.array (.object "java/lang/Object"))) (by decide) rfl ?_
  intro p e s m args below meth c s₁ Bd hml hv
  obtain ⟨⟨rfl, hP, hsz, hK, hcls⟩, hmi⟩ := hv
  have hts := atoms_spec (ws := .code yJ5_copyOf1 cJ5_copyOf1 4 (some (.array (.object "java/lang/Object"))) :: hh_T) Bd.pre
  have hown : s.vm.findClass yJ5_copyOf1.cls = some m.cls := findClass_of_methodNamed Bd.named
  have hl := lv_entry [.ref (hh_ad B e0 a0), .int x1, .ref mi] (n := 4) (Nat.le_of_ble_eq_true rfl)
  rw [lg_entry_eq]
  exact w_Arrays_copyOf1 (X := (p, l, e, rm_Arrays_copyOf1, s, m, [.ref (hh_ad B e0 a0), .int x1, .ref mi].toArray, below, meth, c, _, D, cT, B, e0, 4)) ⟨Bd.exec, Bd.bytes, hml, hown, fun w hw => hts w (List.mem_cons_of_mem _ hw), hK, Bd.notSynchronized, Bd.returns, (name_of_methodNamed Bd.named Bd.method).1, rfl, rfl, rfl, rfl, hh_sz hsz, fun q hq => Nat.le_trans (hh_sz hsz) hq, hcls⟩ hmi rfl F a0 x1 h hf s.heap [] _ ⟨hP, hsz, va_S.rf⟩ hl
theorem cs_copyOf1 : hh_CS RJ5 300 yJ5_copyOf1 cJ5_copyOf1 4 (some (.array (.object "java/lang/Object"))) 3 [.static yJ5_copyOf1] := ⟨hh_at 853 (by decide +kernel) (by decide +kernel), hh_at 851 (by decide +kernel) (by decide +kernel), hh_at 60 (by decide +kernel) (by decide +kernel), hh_all1 (hh_at 852 (by decide +kernel) (by decide +kernel)), by decide +kernel⟩
theorem r_callSM {X : hh_X} {B e0 : Nat} {cc : ByteArray} {own : String} {nL : Nat} {ret : Option FieldType} {nm : String} {R : Room} {cn sn pc idx mc ms : Nat} {lv : List (Nat × Value)} {st : List Value} {h h' : hh_H} {y : MethodName} {yb : ByteArray} {ym n mi : Nat} {yr : Option FieldType} {rm : Room} {v : Option Value}
    (C : hh_ok X B e0 cc own nL ret nm R) (hX : hh_mi X mi) (d : decode cc pc = .ok (.invokestatic idx, 3)) (S : hh_CS own idx y yb ym yr n [.static y])
    {As : List Value} (hM : ∀ (l : Launch) (D : va_G) (cT : Nat → ClassId), Met l y (.code y yb ym yr :: hh_T) rm (fun w U => hh_Pc D cT B e0 As h w U ∧ va_Mi "[Ljava/lang/Object;" mi U) (hh_Q D cT B e0 (.returned v) h') mc ms (fun q => B ≤ q)) (hn : As.length = n) (hrc : rm.cells = mc) (hrs : rm.slots = ms) (hR : rm.frames + 1 ≤ R.frames ∧ 8 + (ym + 11) + rm.locals ≤ R.locals) (hf : cn + mc ≤ R.cells ∧ sn + ms ≤ R.slots) (hst : (st.map fun v => v.category).sum ≤ 8)
    {st0 : List Value} (he : st0 = As.reverse ++ st) (kk : hh_W X (cn + mc) (sn + ms) (pc + 3) lv (v.toList ++ st) h') : hh_W X cn sn pc lv st0 h := by
  obtain ⟨p, l, e, R', s, m, args, below, meth, c, Q, D, cT, B', e0', nL'⟩ := X
  obtain ⟨hx, hb, hml, hown, hts, hK, hlk, hrt, hnm, rfl, rfl, rfl, rfl, hB, hA, hcA⟩ := C
  obtain ⟨s1, s2, s3, s4, s5⟩ := S
  subst he
  intro H locs ls hS hl
  refine hh_back (va_runS (As := As) (rest := st) ⟨hx, hb, hml, hown, hts⟩ (hM l D cT) ⟨callB_of n hts (hh_goodC s1) rfl hrc hrs (hts _ s3) (hts _ s2) s5 hR, hts _ (s4 _ (by simp))⟩ ⟨fun a U g mk q => ⟨hh_blind a U g mk q.1, va_Mi.moved (u := U) (U := U.calling g mk a) (Vm.Alike.refl U.vm) q.2⟩, fun U hU hW => ⟨hh_pre hS hK hcA hB hU hW, va_Mi.moved hW.alike hX⟩⟩ rfl hn (by exact hl.1) rfl (lv_room hst) d hf) hS (fun H1 locs1 hS1 => kk H1 locs1 ls hS1 hl)
set_option maxRecDepth 100000 in
set_option maxHeartbeats 4000000 in
theorem w_Arrays_copyOf {X : hh_X} {B e0 : Nat} {rr : Nat × hh_H} (C : hh_ok X B e0 cJ5_copyOf RJ5 2 (some (.array (.object "java/lang/Object"))) "copyOf" rm_Arrays_copyOf) (E : hh_End X B e0 (.returned (some (.ref (hh_ad B e0 rr.1)))) rr.2 1 80) (F : Nat) (a0 : Nat) (x1 : Int32) (h : hh_H) (hf : f_Arrays_copyOf F a0 x1 h = some rr) :
    hh_W X 0 0 0 [(0, .ref (hh_ad B e0 a0)), (1, .int x1)] [] h := by
  obtain ⟨mi, hM⟩ : ∃ mi, hh_mi X mi := by
    obtain ⟨p, l, e, R', s, m, args, below, meth, c, Q, D, cT, B', e0', nL'⟩ := X
    exact C.2.2.2.2.2.2.2.2.2.2.2.2.2.2.2.2.2.2.1
  obtain ⟨f, hfa, hfl⟩ : ∃ f, hp_refs h a0 4 = some f ∧ f.length ≠ 0 := by
    have hf0 := hf
    unfold f_Arrays_copyOf at hf0
    obtain ⟨f, e1, -⟩ := hp_bind hf0
    exact ⟨f, hp_refs1_of e1⟩
  have hfa := hp_refs_of hfa
  refine r_aload_n C dJ5_copyOf_0 rfl 0 rfl ?_
  refine r_iload_n C dJ5_copyOf_1 rfl 1 rfl ?_
  refine r_aload_n C dJ5_copyOf_2 rfl 0 rfl ?_
  refine r_getC C hM dJ5_copyOf_3 (hh_at 829 (by decide +kernel) (by decide +kernel)) hfa hfl (by decide) (Nat.le_of_ble_eq_true rfl) ?_
  exact r_callSM C hM dJ5_copyOf_6 cs_copyOf1 (As := [.ref (hh_ad B e0 a0), .int x1, .ref mi]) (v := some (.ref (hh_ad B e0 rr.1))) (c_Arrays_copyOf1 B e0 F mi a0 x1 h rr hf) rfl rfl rfl ⟨by decide, by decide⟩ ⟨by decide, by decide⟩ (Nat.le_of_ble_eq_true rfl) rfl (r_areturn C E dJ5_copyOf_9 (Or.inr ⟨_, rfl⟩) (by decide) (by decide) rfl)
theorem c_Arrays_copyOf (B e0 F : Nat) (a0 : Nat) (x1 : Int32) (h : hh_H) (rr : Nat × hh_H) (hf : f_Arrays_copyOf F a0 x1 h = some rr) : hh_Met yJ5_copyOf cJ5_copyOf 2 (some (.array (.object "java/lang/Object"))) rm_Arrays_copyOf mc_Arrays_copyOf ms_Arrays_copyOf B e0 [.ref (hh_ad B e0 a0), .int x1] h (.returned (some (.ref (hh_ad B e0 rr.1)))) rr.2 :=
  hh_met (by decide) (Nat.le_of_ble_eq_true rfl) fun X C E => w_Arrays_copyOf C E F a0 x1 h hf
