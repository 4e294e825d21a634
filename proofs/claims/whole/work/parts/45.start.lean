
-- the law's entry: what tables and premises say, as the abstract heap wants it
theorem hh_classes {args : Array Value} {s : State} (hts : ∀ w ∈ hh_T, w.before args s = true) : ∃ D : va_G, ∀ (c : Nat) (q : vw_C), hh_cl[c]? = some q → u_Kn s q.1 q.2.1 q.2.2 (D.1 c) (D.2 c) := by
  have mk : ∀ {c : Nat} {C : String} {T : u_T} {N n : Nat}, hh_cl[c]? = some (C, T, N) → (∀ w ∈ u_ws C T N, w ∈ hh_T) → Cond.instantiable C n ∈ hh_T → ∃ x : ClassId × (Nat → Nat), ∀ q : vw_C, hh_cl[c]? = some q → u_Kn s q.1 q.2.1 q.2.2 x.1 x.2 := by
    intro c C T N n hc hl hi
    obtain ⟨cC, iS, hK⟩ := u_known hts hl (hts _ hi)
    exact ⟨(cC, iS), fun q hq => by rw [hc] at hq; cases hq; exact hK⟩
  have h1 : ∀ c : Nat, ∃ x : ClassId × (Nat → Nat), ∀ q : vw_C, hh_cl[c]? = some q → u_Kn s q.1 q.2.1 q.2.2 x.1 x.2 := by
    intro c
    match c with
    | 0 => exact mk (n := 4) rfl lay_X0 (hh_at 234 (by decide +kernel) (by decide +kernel))
    | 1 => exact mk (n := 3) rfl lay_X1 (hh_at 167 (by decide +kernel) (by decide +kernel))
    | 2 => exact mk (n := 3) rfl lay_X2 (hh_at 117 (by decide +kernel) (by decide +kernel))
    | 3 => exact mk (n := 3) rfl lay_X3 (hh_at 86 (by decide +kernel) (by decide +kernel))
    | 4 => exact mk (n := 2) rfl lay_X4 (hh_at 221 (by decide +kernel) (by decide +kernel))
    | 5 => exact mk (n := 2) rfl lay_X5 (hh_at 104 (by decide +kernel) (by decide +kernel))
    | 6 => exact mk (n := 3) rfl lay_X6 (hh_at 528 (by decide +kernel) (by decide +kernel))
    | 7 => exact mk (n := 11) rfl lay_X7 (hh_at 133 (by decide +kernel) (by decide +kernel))
    | 8 => exact mk (n := 9) rfl lay_X8 (hh_at 69 (by decide +kernel) (by decide +kernel))
    | 9 => exact mk (n := 28) rfl lay_X9 (hh_at 1182 (by decide +kernel) (by decide +kernel))
    | 10 => exact mk (n := 3) rfl lay_J0 (hh_at 139 (by decide +kernel) (by decide +kernel))
    | 11 => exact mk (n := 6) rfl (fun w hw => by cases hw) (hh_at 345 (by decide +kernel) (by decide +kernel))
    | 12 => exact mk (n := 6) rfl (fun w hw => by cases hw) (hh_at 415 (by decide +kernel) (by decide +kernel))
    | 13 => exact mk (n := 6) rfl (fun w hw => by cases hw) (hh_at 944 (by decide +kernel) (by decide +kernel))
    | 14 => exact mk (n := 6) rfl (fun w hw => by cases hw) (hh_at 975 (by decide +kernel) (by decide +kernel))
    | 15 => exact mk (n := 6) rfl (fun w hw => by cases hw) (hh_at 557 (by decide +kernel) (by decide +kernel))
    | n + 16 => exact ⟨(0, fun _ => 0), fun q hq => by simp [hh_cl] at hq⟩
  obtain ⟨f, hf⟩ := Classical.axiomOfChoice h1
  exact ⟨(fun c => (f c).1, fun c => (f c).2), fun c q hq => hf c q hq⟩
theorem hh_arr {args : Array Value} {s : State} {ty : FieldType} (h : (Cond.arrayClass ty).before args s = true) : ∃ c, s.vm.findClass ("[" ++ ty.toString) = some c ∧ ArrOfT s c ty := by
  obtain ⟨c, k, comp, h1, h2, h3⟩ := Cond.arrayClass_spec (args := args) (first := s) (o := none) (s := s) (idx := []) h
  exact ⟨c, h1, fun n z => ⟨(fun k h => by cases h), k, h2, comp, h3⟩⟩
theorem hh_kinds {args : Array Value} {s : State} (hts : ∀ w ∈ hh_T, w.before args s = true) (hO : (Cond.arrayOver (.object "java/lang/Object")).before args s = true) : ∃ cT : Nat → ClassId, hh_cA cT s.vm ∧ ∀ (k : Nat) (q : ClassId × FieldType), (hh_tys cT)[k]? = some q → ArrOfT s q.1 q.2 ∧ va_RA s q.1 q.2 := by
  obtain ⟨c0, a0, b0⟩ := hh_arr (hts _ ac_int)
  obtain ⟨c1, a1, b1⟩ := hh_arr (hts _ ac_boolean)
  obtain ⟨c2, a2, b2⟩ := hh_arr (hts _ ac_double)
  obtain ⟨c3, a3, b3⟩ := hh_arr (hts _ ac_long)
  obtain ⟨c5, a5, b5⟩ := hh_arr (hts _ ac_byte)
  obtain ⟨comp, c4, k4, d1, -, d2, d3, d4⟩ := Cond.arrayOver_spec (args := args) (first := s) (o := none) (s := s) (idx := []) hO
  refine ⟨fun k => match k with | 0 => c0 | 1 => c1 | 2 => c2 | 3 => c3 | 4 => c4 | _ => c5, ⟨a0, a1, a2, a3, d4, a5⟩, ?_⟩
  intro k q hq
  match k, hq with
  | 0, hq => cases hq; exact ⟨b0, a0⟩
  | 1, hq => cases hq; exact ⟨b1, a1⟩
  | 2, hq => cases hq; exact ⟨b2, a2⟩
  | 3, hq => cases hq; exact ⟨b3, a3⟩
  | 4, hq => cases hq; exact ⟨fun n z => ⟨(fun k h => by cases h), k4, d2, comp, d3⟩, k4, comp, d2, d3, d1, d4⟩
  | 5, hq => cases hq; exact ⟨b5, a5⟩
  | n + 6, hq => simp [hh_tys] at hq
/-- the premises on statics, texts and casts, in one list -/
def hh_nar : List Cond := [.isRef (.mirror "[Ljava/lang/Object;"), .arrayOf (.static "java/util/ArrayList" "DEFAULTCAPACITY_EMPTY_ELEMENTDATA" "[Ljava/lang/Object;") (.object "java/lang/Object"), .eq (.length (.static "java/util/ArrayList" "DEFAULTCAPACITY_EMPTY_ELEMENTDATA" "[Ljava/lang/Object;")) (.int 0), .isRef (.static "java/lang/Throwable" "UNASSIGNED_STACK" "[Ljava/lang/StackTraceElement;"), .isRef (.static "java/lang/Throwable" "SUPPRESSED_SENTINEL" "Ljava/util/List;")] ++ hh_ncs.map (fun q => .not (.castable q.1 q.2)) ++ hh_strs.map (fun q => .exactly (.string q.1 q.2.1) "java/lang/String")
theorem hh_nar_in : ∀ w ∈ hh_nar, w ∈ flatC (Jvm.Cond.and given_1 narrow_1) := by decide +kernel
def hh_tb4 : List Cond := [.laysStatic "java/util/ArrayList" "DEFAULTCAPACITY_EMPTY_ELEMENTDATA" "[Ljava/lang/Object;", .laysStatic "java/lang/Throwable" "UNASSIGNED_STACK" "[Ljava/lang/StackTraceElement;", .laysStatic "java/lang/Throwable" "SUPPRESSED_SENTINEL" "Ljava/util/List;", .arrayOver (.object "java/lang/Object"), .initialized "java/util/ArrayList"] ++ hh_strs.map (fun q => .stringRef q.1 q.2.1 q.2.2)
theorem hh_tb4_in : ∀ w ∈ hh_tb4, w ∈ lw_tbl := by decide +kernel
theorem hh_begin {args : Array Value} {s : State} (hts : ∀ w ∈ lw_tbl, w.before args s = true) (hn : (Jvm.Cond.and given_1 narrow_1).before args s = true) :
    ∃ (D : va_G) (cT : Nat → ClassId) (e0 : Nat), e0 < s.heap.size ∧ va_K D hh_cl (hh_tys cT) s ∧ hh_env s.heap.size e0 cT s := by
  have htT : ∀ w ∈ hh_T, w.before args s = true := fun w hw => hts w (List.mem_filter.mp hw).1
  have hna : ∀ w ∈ hh_nar, w.before args s = true := fun w hw => flat_of_before _ hn w (hh_nar_in w hw)
  have ht4 : ∀ w ∈ hh_tb4, w.before args s = true := fun w hw => hts w (hh_tb4_in w hw)
  have hA : ∀ a : Nat, a < s.heap.size → ¬ (fun q => s.heap.size ≤ q) a := fun a h q => absurd h (Nat.not_lt.mpr q)
  obtain ⟨D, hD⟩ := hh_classes htT
  obtain ⟨cT, hcA, hk⟩ := hh_kinds htT (ht4 _ (by simp [hh_tb4]))
  obtain ⟨e0, h1, cell, h2, h3, -, -, h5, -, h6⟩ := va_Tof (N := 0) (f := fun _ => .null) (A := fun q => s.heap.size ≤ q) (by decide) (hna (.arrayOf (.static "java/util/ArrayList" "DEFAULTCAPACITY_EMPTY_ELEMENTDATA" "[Ljava/lang/Object;") (.object "java/lang/Object")) (by simp [hh_nar])) (va_eqt (hna (.eq (.length (.static "java/util/ArrayList" "DEFAULTCAPACITY_EMPTY_ELEMENTDATA" "[Ljava/lang/Object;")) (.int 0)) (by simp [hh_nar]))) (fun j hj => absurd hj (Nat.not_lt_zero j)) hA
  refine ⟨D, cT, e0, (Array.getElem?_eq_some_iff.mp h2).1, ⟨hD, hk⟩, hcA, fun w hw => ?_, va_Zof (ht4 _ (by simp [hh_tb4])) (ht4 _ (by simp [hh_tb4])) h1 hA, va_Mi.of (hna _ (by simp [hh_nar])), fun q hq => ?_, va_AO.of (A := args) (ht4 _ (by simp [hh_tb4])), fun q hq => va_Nc.of (args := args) (hna _ (List.mem_append_left _ (List.mem_append_right _ (List.mem_map.mpr ⟨q, hq, rfl⟩)))), s.heap, rfl, fun _ _ => rfl, fun w hw => ?_, cell, h2, h3, h5⟩
  · have h3 : hh_nw w = true := (List.mem_filter.mp hw).2
    have h4 : w.onTables = true := by cases w <;> first | rfl | cases h3
    exact va_Nw.of h4 (hts w (List.mem_filter.mp hw).1)
  · obtain ⟨a, c, cA, kA, q1, -⟩ := Cond.exactly_spec (args := args) (first := s) (o := none) (s := s) (idx := []) (hna _ (List.mem_append_right _ (List.mem_map.mpr ⟨q, hq, rfl⟩)))
    exact ⟨a, vk_R.of (A := args) (ht4 _ (List.mem_append_right _ (List.mem_map.mpr ⟨q, hq, rfl⟩))) q1⟩
  · simp only [hh_T3, List.mem_cons, List.not_mem_nil, or_false] at hw
    rcases hw with rfl | rfl | rfl | rfl
    · exact ht4 (.laysStatic "java/lang/Throwable" "UNASSIGNED_STACK" "[Ljava/lang/StackTraceElement;") (by simp [hh_tb4])
    · exact ht4 (.laysStatic "java/lang/Throwable" "SUPPRESSED_SENTINEL" "Ljava/util/List;") (by simp [hh_tb4])
    · exact hna (.isRef (.static "java/lang/Throwable" "UNASSIGNED_STACK" "[Ljava/lang/StackTraceElement;")) (by simp [hh_nar])
    · exact hna (.isRef (.static "java/lang/Throwable" "SUPPRESSED_SENTINEL" "Ljava/util/List;")) (by simp [hh_nar])
