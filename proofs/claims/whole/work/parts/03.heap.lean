-- the abstract heap: a list of cells, addressed by their place; B is the address of place 0
/-- the address of a place: place 0 is the one cell of the library's that the lists share, the others are the law's own, from B on -/
def hh_ad (B e0 : Nat) : Nat → Nat
  | 0 => e0
  | i + 1 => B + i
abbrev hh_V : Type := Int32 ⊕ (Option Nat ⊕ (UInt64 ⊕ Int64))
abbrev hh_A : Type := List Int32 ⊕ (List UInt64 ⊕ (List Int64 ⊕ List (Option Nat)))
abbrev hh_C : Type := (Nat × hh_A) ⊕ (Nat × List hh_V)
abbrev hh_H : Type := List hh_C
/-- the library's empty array of objects -/
def hh_nil : hh_C := .inl (4, .inr (.inr (.inr [])))
def hh_v (B e0 : Nat) (v : hh_V) : Value := match v with
  | .inl x => .int x
  | .inr (.inl none) => .null
  | .inr (.inl (some i)) => .ref (hh_ad B e0 i)
  | .inr (.inr (.inl d)) => .double d
  | .inr (.inr (.inr d)) => .long d
def hh_a (B e0 : Nat) (a : hh_A) : vp_A := match a with
  | .inl l => (l.length, .inl (fun j => l.getD j 0))
  | .inr (.inl l) => (l.length, .inr (.inr (.inr (.inl (fun j => l.getD j 0)))))
  | .inr (.inr (.inl l)) => (l.length, .inr (.inl (fun j => l.getD j 0)))
  | .inr (.inr (.inr l)) => (l.length, .inr (.inr (.inr (.inr (fun j => (l.getD j none).map (hh_ad B e0))))))
def hh_c (B e0 : Nat) (cT : Nat → ClassId) (e : hh_C) : va_E := match e with
  | .inl (t, a) => .inl (cT t, hh_a B e0 a)
  | .inr (c, fs) => .inr (c, fs.map (hh_v B e0))
/-- the world: every place but place 0, of which only what the tables say is known -/
def hh_w (B e0 : Nat) (cT : Nat → ClassId) (h : hh_H) : va_W := (h.mapIdx (fun i e => (hh_ad B e0 i, hh_c B e0 cT e))).drop 1
theorem hh_w_at {B e0 : Nat} {cT : Nat → ClassId} {h : hh_H} (k : Nat) : (hh_w B e0 cT h)[k]? = (h[k + 1]?).map (fun e => (hh_ad B e0 (k + 1), hh_c B e0 cT e)) := by
  simp [hh_w, List.getElem?_mapIdx, Nat.add_comm 1 k]
theorem hh_w_get {B e0 : Nat} {cT : Nat → ClassId} {h : hh_H} {i : Nat} {e : hh_C} (h0 : i ≠ 0) (hi : h[i]? = some e) : (hh_w B e0 cT h)[i - 1]? = some (hh_ad B e0 i, hh_c B e0 cT e) := by
  obtain ⟨k, rfl⟩ := Nat.exists_eq_succ_of_ne_zero h0
  rw [hh_w_at, show k.succ - 1 + 1 = k.succ from rfl, hi]
  rfl
theorem hh_w_of {B e0 : Nat} {cT : Nat → ClassId} {h : hh_H} {i : Nat} {q : Nat × va_E} (hi : (hh_w B e0 cT h)[i]? = some q) : ∃ e, h[i + 1]? = some e ∧ q = (hh_ad B e0 (i + 1), hh_c B e0 cT e) := by
  rw [hh_w_at] at hi
  obtain ⟨e, h1, h2⟩ := Option.map_eq_some_iff.mp hi
  exact ⟨e, h1, h2.symm⟩
theorem hh_w_set {B e0 : Nat} {cT : Nat → ClassId} {h : hh_H} {i : Nat} {e : hh_C} (h0 : i ≠ 0) : (hh_w B e0 cT h).set (i - 1) (hh_ad B e0 i, hh_c B e0 cT e) = hh_w B e0 cT (h.set i e) := by
  obtain ⟨k, rfl⟩ := Nat.exists_eq_succ_of_ne_zero h0
  apply List.ext_getElem?
  intro j
  rw [hh_w_at, List.getElem?_set, hh_w_at, List.getElem?_set]
  have hlen : (hh_w B e0 cT h).length = h.length - 1 := by simp [hh_w]
  rw [hlen, show k.succ - 1 = k from rfl]
  by_cases hj : k = j
  · subst hj
    by_cases hl : k + 1 < h.length
    · rw [if_pos rfl, if_pos (by omega), if_pos rfl, if_pos hl]
      rfl
    · rw [if_pos rfl, if_neg (by omega), if_pos rfl, if_neg hl]
      rfl
  · rw [if_neg hj, if_neg (fun q => hj (Nat.succ.inj q))]
theorem hh_w_app {B e0 : Nat} {cT : Nat → ClassId} {h : hh_H} {e : hh_C} (h0 : 0 < h.length) : hh_w B e0 cT (h ++ [e]) = hh_w B e0 cT h ++ [(hh_ad B e0 h.length, hh_c B e0 cT e)] := by
  unfold hh_w
  rw [List.mapIdx_append, List.drop_append_of_le_length (by rw [List.length_mapIdx]; exact h0)]
  simp
theorem hh_ad_inj {B e0 i j : Nat} (he : e0 < B) (h : hh_ad B e0 i = hh_ad B e0 j) : i = j := by
  match i, j, h with
  | 0, 0, _ => rfl
  | 0, j + 1, h => exact absurd (show e0 = B + j from h) (by omega)
  | i + 1, 0, h => exact absurd (show B + i = e0 from h) (by omega)
  | i + 1, j + 1, h => exact congrArg (· + 1) (Nat.add_left_cancel (show B + i = B + j from h))
theorem hh_D {B e0 : Nat} {cT : Nat → ClassId} {h : hh_H} (he : e0 < B) : va_D (fun _ => True) (hh_w B e0 cT h) := by
  refine ⟨fun i j p q hi hj hpq => ?_, fun k q hk => trivial⟩
  obtain ⟨e, -, rfl⟩ := hh_w_of hi
  obtain ⟨e', -, rfl⟩ := hh_w_of hj
  exact Nat.succ.inj (hh_ad_inj he hpq)
theorem hh_p0 {h : hh_H} {a : Nat} {e : hh_C} (h0 : h[0]? = some hh_nil) (he : h[a]? = some e) (hne : e ≠ hh_nil) : a ≠ 0 := fun q => by
  subst q
  exact hne (Option.some.inj (he.symm.trans h0))
-- the words of the tables that every method takes along
def hh_T : List Cond := lw_tbl.filter goodWord
theorem hh_good : GoodIn hh_T hh_T := fun w hw => ⟨hw, good_of_word (List.mem_filter.mp hw).2⟩
theorem hh_at {w : Cond} (n : Nat) (h : lw_tbl[n]? = some w) (g : goodWord w = true) : w ∈ hh_T := List.mem_filter.mpr ⟨List.mem_of_getElem? h, g⟩
theorem hh_sub {ws : List Cond} (h : ∀ w ∈ ws, w ∈ lw_tbl) (g : ∀ w ∈ ws, goodWord w = true) : ∀ w ∈ ws, w ∈ hh_T := fun w hw => List.mem_filter.mpr ⟨h w hw, g w hw⟩
theorem hh_all1 {a : Cond} (h : a ∈ hh_T) : ∀ w ∈ [a], w ∈ hh_T := fun w hw => by rw [List.mem_singleton.mp hw]; exact h
theorem hh_all2 {a b : Cond} (h : a ∈ hh_T) (h2 : b ∈ hh_T) : ∀ w ∈ [a, b], w ∈ hh_T := fun w hw => by
  rcases List.mem_cons.mp hw with rfl | hw
  · exact h
  · rw [List.mem_singleton.mp hw]; exact h2
theorem hh_inT {w : Cond} (h : w ∈ lw_tbl) (g : goodWord w = true) : w ∈ hh_T := List.mem_filter.mpr ⟨h, g⟩
-- the judgement
def hh_cA (cT : Nat → ClassId) (vm : Vm) : Prop := vm.findClass "[I" = some (cT 0) ∧ vm.findClass "[Z" = some (cT 1) ∧ vm.findClass "[D" = some (cT 2) ∧ vm.findClass "[J" = some (cT 3) ∧ vm.findClass "[Ljava/lang/Object;" = some (cT 4) ∧ vm.findClass "[B" = some (cT 5)
/-- words of private members of nest mates, of casts, of declared methods -/
def hh_nw : Cond → Bool
  | .fieldLinkNest .. | .castable .. | .declares _ => true
  | _ => false
def hh_T2 : List Cond := lw_tbl.filter hh_nw
theorem hh_at2 {w : Cond} (n : Nat) (h : lw_tbl[n]? = some w) (g : hh_nw w = true) : w ∈ hh_T2 := List.mem_filter.mpr ⟨List.mem_of_getElem? h, g⟩
/-- words on statics of Throwable's -/
def hh_T3 : List Cond := [.laysStatic "java/lang/Throwable" "UNASSIGNED_STACK" "[Ljava/lang/StackTraceElement;", .laysStatic "java/lang/Throwable" "SUPPRESSED_SENTINEL" "Ljava/util/List;", .isRef (.static "java/lang/Throwable" "UNASSIGNED_STACK" "[Ljava/lang/StackTraceElement;"), .isRef (.static "java/lang/Throwable" "SUPPRESSED_SENTINEL" "Ljava/util/List;")]
/-- the texts of the exceptions -/
def hh_strs : List (String × Nat × String) := [("IndexBuilder", 75, "no such word"), ("IndexBuilder", 82, "the open document is full"), ("IndexBuilder", 89, "there are 40 documents"), ("IndexBuilder", 98, "no room for the buffer"), ("IndexBuilder", 115, "no such document, or it is dropped"), ("IndexBuilder", 128, "no room for the merge"), ("IndexBuilder", 130, "no such word or how"), ("IndexBuilder", 156, "no such result"), ("IndexBuilder", 165, "the result is not ranked"), ("IndexBuilder", 176, "no such block or byte"), ("IndexBuilder", 183, "no such run"), ("IndexBuilder", 197, "no such what")]
/-- of which exception classes which are not -/
def hh_ncs : List (String × String) := [("java/lang/IllegalStateException", "java/lang/IllegalArgumentException"), ("java/lang/UnsupportedOperationException", "java/lang/IllegalStateException"), ("java/lang/UnsupportedOperationException", "java/util/NoSuchElementException"), ("java/lang/IllegalArgumentException", "java/util/NoSuchElementException")]
/-- the library's empty array, as far as it is known -/
def hh_em (e0 : Nat) (U : State) (H0 : Heap) : Prop := ∃ scr : Cell, H0[e0]? = some scr ∧ U.isArrayOf scr (.object "java/lang/Object") ∧ scr.slots.size.toInt32 = 0
def hh_env (B e0 : Nat) (cT : Nat → ClassId) (U : State) : Prop :=
  hh_cA cT U.vm ∧ (∀ w ∈ hh_T2, va_Nw w U) ∧ va_Z "java/util/ArrayList" "DEFAULTCAPACITY_EMPTY_ELEMENTDATA" "[Ljava/lang/Object;" (.ref e0) (fun q => B ≤ q) U U.heap ∧ (∃ mi, va_Mi "[Ljava/lang/Object;" mi U) ∧ (∀ q ∈ hh_strs, ∃ a, vk_R q.1 q.2.1 q.2.2 a U) ∧ va_AO "java/lang/Object" U ∧ (∀ q ∈ hh_ncs, va_Nc q.1 q.2 U) ∧
    ∃ H0 : Heap, H0.size = B ∧ (∀ q : Nat, q < B → U.heap[q]? = H0[q]?) ∧ (∀ w ∈ hh_T3, w.before #[] ({ U with heap := H0 } : State) = true) ∧ hh_em e0 U H0
theorem hh_nw_move {w : Cond} (h : hh_nw w = true) {s U : State} (hW : s.WarmedH U.vm) (hz : va_Nw w s) : va_Nw w U := by
  cases w with
  | fieldLinkNest => exact hz.warmF hW
  | castable => exact hz.warmC hW
  | declares => exact hz.warmD hW
  | _ => cases h
theorem hh_env_move {B e0 : Nat} {cT : Nat → ClassId} {U V : State} (h : hh_env B e0 cT U) (hW : U.WarmedH V.vm) (hB : B ≤ U.heap.size) (hk : ∀ q : Nat, q < B → V.heap[q]? = U.heap[q]?) : hh_env B e0 cT V := by
  obtain ⟨h1, h2, h3, ⟨mi, h4⟩, h5, h9, h10, H0, h6, h7, h8, h11⟩ := h
  have hf : ∀ C : String, V.vm.findClass C = U.vm.findClass C := fun C => hW.alike.findClass C _
  refine ⟨by unfold hh_cA; rw [hf, hf, hf, hf, hf, hf]; exact h1, fun w hw => hh_nw_move (List.mem_filter.mp hw).2 hW (h2 w hw), (h3.moved hW.alike).kept (fun a ha hn => hk a (Nat.not_le.mp hn)), ⟨mi, h4.moved hW.alike⟩, fun q hq => ?_, h9.moved hW.alike, fun q hq => (h10 q hq).moved hW.alike, H0, h6, fun q hq => (hk q hq).trans (h7 q hq), fun w hw => ?_, ?_⟩
  · obtain ⟨a, ha⟩ := h5 q hq
    exact ⟨a, ha.warm hW⟩
  · have hks : w.keeps = true := (by decide +kernel : ∀ w ∈ hh_T3, w.keeps = true) w hw
    have hW' : ({ U with heap := H0 } : State).WarmedH V.vm := hW
    have := Cond.holds_shifted (args := #[]) (o := none) (State.Shifted.of_warmed hW') w [] hks (h8 w hw)
    rcases List.mem_cons.mp hw with rfl | hw
    · exact this
    rcases List.mem_cons.mp hw with rfl | hw
    · exact this
    rcases List.mem_cons.mp hw with rfl | hw
    · exact this
    rcases List.mem_cons.mp hw with rfl | hw
    · exact this
    cases hw
  · obtain ⟨scr, g1, g2, g3⟩ := h11
    exact ⟨scr, g1, State.isArrayOf_alike hW.alike g2, g3⟩
abbrev hh_X : Type := Program × Launch × Env × Room × State × MethodId × Array Value × List Frame × Method × Code × (State → Prop) × va_G × (Nat → ClassId) × Nat × Nat × Nat
def hh_S (D : va_G) (cT : Nat → ClassId) (B e0 : Nat) (s : State) (h : hh_H) (H : Heap) (locs : List Loc) : Prop :=
  va_P D hh_cl (hh_w B e0 cT h) H ∧ (h[0]? = some hh_nil ∧ e0 < B ∧ H.size + 1 = B + h.length) ∧ va_S (fun q => B ≤ q) s.heap H locs
def hh_W (X : hh_X) (cn sn pc : Nat) (lv : List (Nat × Value)) (st : List Value) (h : hh_H) : Prop :=
  match X with
  | (p, l, e, R, s, m, args, below, meth, c, Q, D, cT, B, e0, nL) =>
    ∀ (H : Heap) (locs : List Loc) (ls : Array Slot), hh_S D cT B e0 s h H locs → lv_has ls nL lv → W p l e R s m args below meth c H locs cn sn Q (F0 m pc ls st)
def hh_tys (cT : Nat → ClassId) : List (ClassId × FieldType) := [(cT 0, .int), (cT 1, .boolean), (cT 2, .double), (cT 3, .long), (cT 4, .object "java/lang/Object"), (cT 5, .byte)]
def hh_ok (X : hh_X) (B e0 : Nat) (cc : ByteArray) (own : String) (nL : Nat) (ret : Option FieldType) (nm : String) (R : Room) : Prop :=
  match X with
  | (p, _, _, R', s, m, args, _, meth, c, _, D, cT, B', e0', nL') =>
    p.tables.exec = Jvm.exec ∧ c.code = cc ∧ c.maxLocals = nL ∧ s.vm.findClass own = some m.cls ∧ (∀ w ∈ hh_T, w.before args s = true) ∧ va_K D hh_cl (hh_tys cT) s ∧ meth.locks = false ∧ meth.sig.returnType = ret ∧ meth.name = nm ∧ R' = R ∧ B' = B ∧ e0' = e0 ∧ nL' = nL ∧ B ≤ s.heap.size ∧ (∀ q, s.heap.size ≤ q → B ≤ q) ∧
      hh_env B e0 cT s
/-- how a method ends -/
def hh_Q (D : va_G) (cT : Nat → ClassId) (B e0 : Nat) (o : Outcome) (h : hh_H) : Array Value → State → Outcome → State → Prop :=
  fun _ st o' t => o' = o ∧ va_P D hh_cl (hh_w B e0 cT h) t.heap ∧ (h[0]? = some hh_nil ∧ e0 < B ∧ t.heap.size + 1 = B + h.length) ∧ va_F (fun q => B ≤ q) st t
def hh_End (X : hh_X) (B e0 : Nat) (o : Outcome) (h : hh_H) (mc ms : Nat) : Prop :=
  match X with
  | (_, _, _, _, s, _, args, below, _, _, Q, D, cT, _, _, _) => Q = MQ below (hh_Q D cT B e0 o h) args s mc ms (fun q => B ≤ q)
def hh_Pc (D : va_G) (cT : Nat → ClassId) (B e0 : Nat) (av : List Value) (h : hh_H) : Array Value → State → Prop :=
  fun v U => v = av.toArray ∧ va_P D hh_cl (hh_w B e0 cT h) U.heap ∧ (h[0]? = some hh_nil ∧ e0 < B ∧ U.heap.size + 1 = B + h.length) ∧ va_K D hh_cl (hh_tys cT) U ∧ hh_env B e0 cT U
/-- a method's contract -/
def hh_Met (y : MethodName) (yb : ByteArray) (ym : Nat) (yr : Option FieldType) (rm : Room) (mc ms B e0 : Nat) (av : List Value) (h : hh_H) (o : Outcome) (h' : hh_H) : Prop :=
  ∀ (l : Launch) (D : va_G) (cT : Nat → ClassId), Met l y (.code y yb ym yr :: hh_T) rm (hh_Pc D cT B e0 av h) (hh_Q D cT B e0 o h') mc ms (fun q => B ≤ q)
-- the operations on the abstract heap
def hp_gv (h : hh_H) (a ci k : Nat) : Option hh_V := match h[a]? with
  | some (.inr (c, fs)) => if c = ci then fs[k]? else none
  | _ => none
def hp_gi (h : hh_H) (a ci k : Nat) : Option Int32 := match hp_gv h a ci k with
  | some (.inl x) => some x
  | _ => none
def hp_ga (h : hh_H) (a ci k : Nat) : Option Nat := match hp_gv h a ci k with
  | some (.inr (.inl (some i))) => some i
  | _ => none
def hp_gd (h : hh_H) (a ci k : Nat) : Option UInt64 := match hp_gv h a ci k with
  | some (.inr (.inr (.inl x))) => some x
  | _ => none
def hp_gj (h : hh_H) (a ci k : Nat) : Option Int64 := match hp_gv h a ci k with
  | some (.inr (.inr (.inr x))) => some x
  | _ => none
def hp_p (h : hh_H) (a ci k : Nat) (v : hh_V) : Option hh_H := match h[a]? with
  | some (.inr (c, fs)) => if c = ci ∧ k < fs.length then some (h.set a (.inr (c, fs.set k v))) else none
  | _ => none
def hp_pi (h : hh_H) (a ci k : Nat) (x : Int32) : Option hh_H := hp_p h a ci k (.inl x)
def hp_pz (h : hh_H) (a ci k : Nat) (x : Int32) : Option hh_H := if x = 0 ∨ x = 1 then hp_p h a ci k (.inl x) else none
def hp_pa (h : hh_H) (a ci k : Nat) (x : Nat) : Option hh_H := hp_p h a ci k (.inr (.inl (some x)))
def hp_pd (h : hh_H) (a ci k : Nat) (x : UInt64) : Option hh_H := hp_p h a ci k (.inr (.inr (.inl x)))
def hp_pj (h : hh_H) (a ci k : Nat) (x : Int64) : Option hh_H := hp_p h a ci k (.inr (.inr (.inr x)))
def hp_alen (a : hh_A) : Nat := match a with
  | .inl l => l.length
  | .inr (.inl l) => l.length
  | .inr (.inr (.inl l)) => l.length
  | .inr (.inr (.inr l)) => l.length
def hp_len (h : hh_H) (a : Nat) : Option Int32 := match h[a]? with
  | some (.inl (t, x)) => if t < 6 then some (Int32.ofNat (hp_alen x)) else none
  | _ => none
def hp_ints (h : hh_H) (a t : Nat) : Option (List Int32) := match h[a]? with
  | some (.inl (t', .inl l)) => if t' = t then some l else none
  | _ => none
def hp_dbls (h : hh_H) (a t : Nat) : Option (List UInt64) := match h[a]? with
  | some (.inl (t', .inr (.inl l))) => if t' = t then some l else none
  | _ => none
def hp_lngs (h : hh_H) (a t : Nat) : Option (List Int64) := match h[a]? with
  | some (.inl (t', .inr (.inr (.inl l)))) => if t' = t then some l else none
  | _ => none
def hp_ld {α : Type} (l : Option (List α)) (i : Int32) : Option α := match l with
  | some l => if i < 0 then none else l[i.toNatClampNeg]?
  | none => none
def hp_ai (h : hh_H) (a : Nat) (i : Int32) : Option Int32 := hp_ld (hp_ints h a 0) i
def hp_az (h : hh_H) (a : Nat) (i : Int32) : Option Int32 := hp_ld (hp_ints h a 1) i
def hp_ab (h : hh_H) (a : Nat) (i : Int32) : Option Int32 := hp_ld (hp_ints h a 5) i
def hp_ad (h : hh_H) (a : Nat) (i : Int32) : Option UInt64 := hp_ld (hp_dbls h a 2) i
def hp_aj (h : hh_H) (a : Nat) (i : Int32) : Option Int64 := hp_ld (hp_lngs h a 3) i
def hp_refs (h : hh_H) (a t : Nat) : Option (List (Option Nat)) := match h[a]? with
  | some (.inl (t', .inr (.inr (.inr l)))) => if t' = t then some l else none
  | _ => none
def hp_aq (h : hh_H) (a : Nat) (i : Int32) : Option Nat := match hp_ld (hp_refs h a 4) i with
  | some (some q) => some q
  | _ => none
def hp_st {α : Type} (l : Option (List α)) (i : Int32) (x : α) : Option (List α) := match l with
  | some l => if i < 0 then none else if i.toNatClampNeg < l.length then some (l.set i.toNatClampNeg x) else none
  | none => none
def hp_si (h : hh_H) (a : Nat) (i x : Int32) : Option hh_H := (hp_st (hp_ints h a 0) i x).map fun l => h.set a (.inl (0, .inl l))
def hp_sz (h : hh_H) (a : Nat) (i x : Int32) : Option hh_H := (hp_st (hp_ints h a 1) i (vp_nar .boolean x)).map fun l => h.set a (.inl (1, .inl l))
def hp_sb (h : hh_H) (a : Nat) (i x : Int32) : Option hh_H := (hp_st (hp_ints h a 5) i (vp_nar .byte x)).map fun l => h.set a (.inl (5, .inl l))
def hp_sd (h : hh_H) (a : Nat) (i : Int32) (x : UInt64) : Option hh_H := (hp_st (hp_dbls h a 2) i x).map fun l => h.set a (.inl (2, .inr (.inl l)))
def hp_sj (h : hh_H) (a : Nat) (i : Int32) (x : Int64) : Option hh_H := (hp_st (hp_lngs h a 3) i x).map fun l => h.set a (.inl (3, .inr (.inr (.inl l))))
def hp_sq (h : hh_H) (a : Nat) (i : Int32) (x : Option Nat) : Option hh_H := (hp_st (hp_refs h a 4) i x).map fun l => h.set a (.inl (4, .inr (.inr (.inr l))))
def hp_is (h : hh_H) (a ci : Nat) : Option Unit := match h[a]? with
  | some (.inr (c, _)) => if c = ci then some () else none
  | _ => none
theorem hp_is_of {h : hh_H} {a ci : Nat} {u : Unit} (hv : hp_is h a ci = some u) : ∃ fs, h[a]? = some (.inr (ci, fs)) := by
  unfold hp_is at hv
  split at hv
  · rename_i c fs he
    split at hv
    · rename_i hc
      subst hc
      exact ⟨fs, he⟩
    · cases hv
  · cases hv
def hp_new (h : hh_H) (ci : Nat) : Option (Nat × hh_H) := some (h.length, h ++ [.inr (ci, hh_dfl ci)])
def hp_zero (t n : Nat) : hh_A := match t with
  | 2 => .inr (.inl (List.replicate n 0))
  | 3 => .inr (.inr (.inl (List.replicate n 0)))
  | 4 => .inr (.inr (.inr (List.replicate n none)))
  | _ => .inl (List.replicate n 0)
def hp_na (h : hh_H) (t : Nat) (n : Int32) (bd : Nat) : Option (Nat × hh_H) := if n < 0 ∨ bd < n.toNatClampNeg then none else some (h.length, h ++ [.inl (t, hp_zero t n.toNatClampNeg)])
def hp_nn (x : UInt64) : Option UInt64 := if x &&& 0x7fffffffffffffff ≤ 0x7ff0000000000000 then some x else none
def hp_zb (x : Int32) : Option Int32 := if x = 0 ∨ x = 1 then some x else none
def hp_cb {ρ σ : Type} (o : Option (ρ × hh_H)) (k : ρ → hh_H → Option σ) : Option σ := match o with
  | some (r, h) => k r h
  | none => none
theorem hp_cbe {ρ σ : Type} {o : Option (ρ × hh_H)} {k : ρ → hh_H → Option σ} {z : σ} (hf : hp_cb o k = some z) : ∃ r h, o = some (r, h) ∧ k r h = some z := by
  match o, hf with
  | some (r, h), hf => exact ⟨r, h, rfl, hf⟩
theorem hp_bind {ρ σ : Type} {o : Option ρ} {k : ρ → Option σ} {z : σ} (hf : o.bind k = some z) : ∃ r, o = some r ∧ k r = some z := by
  match o, hf with
  | some r, hf => exact ⟨r, rfl, hf⟩
def hp_it {τ : Type} (z : τ) (b : τ → τ) : Nat → τ
  | 0 => z
  | n + 1 => b (hp_it z b n)
