theorem r_iconst {X : hh_X} {B e0 : Nat} {cc : ByteArray} {own : String} {nL : Nat} {ret : Option FieldType} {nm : String} {R : Room} {cn sn pc : Nat} {lv : List (Nat × Value)} {st : List Value} {h : hh_H} (C : hh_ok X B e0 cc own nL ret nm R) {n : Int} {v : Int32} (d : decode cc pc = .ok (.iconst n, 1)) (hv : Int32.ofInt n = v) (k : hh_W X cn sn (pc + 1) lv (.int v :: st) h) : hh_W X cn sn pc lv st h := by
  obtain ⟨p, l, e, R', s, m, args, below, meth, c, Q, D, cT, B', e0', nL'⟩ := X
  obtain ⟨hx, hb, hml, hown, hts, hK, hlk, hrt, hnm, rfl, rfl, rfl, rfl, hB, hA, hcA⟩ := C
  intro H locs ls hS hl
  exact lv_iconst hx hb d hv (k H locs ls hS hl)
theorem r_bipush {X : hh_X} {B e0 : Nat} {cc : ByteArray} {own : String} {nL : Nat} {ret : Option FieldType} {nm : String} {R : Room} {cn sn pc : Nat} {lv : List (Nat × Value)} {st : List Value} {h : hh_H} (C : hh_ok X B e0 cc own nL ret nm R) {n : Int} {v : Int32} (d : decode cc pc = .ok (.bipush n, 2)) (hv : (Int8.ofInt n).toInt32 = v) (k : hh_W X cn sn (pc + 2) lv (.int v :: st) h) : hh_W X cn sn pc lv st h := by
  obtain ⟨p, l, e, R', s, m, args, below, meth, c, Q, D, cT, B', e0', nL'⟩ := X
  obtain ⟨hx, hb, hml, hown, hts, hK, hlk, hrt, hnm, rfl, rfl, rfl, rfl, hB, hA, hcA⟩ := C
  intro H locs ls hS hl
  exact lv_bipush hx hb d hv (k H locs ls hS hl)
theorem r_sipush {X : hh_X} {B e0 : Nat} {cc : ByteArray} {own : String} {nL : Nat} {ret : Option FieldType} {nm : String} {R : Room} {cn sn pc : Nat} {lv : List (Nat × Value)} {st : List Value} {h : hh_H} (C : hh_ok X B e0 cc own nL ret nm R) {n : Int} {v : Int32} (d : decode cc pc = .ok (.sipush n, 3)) (hv : (Int16.ofInt n).toInt32 = v) (k : hh_W X cn sn (pc + 3) lv (.int v :: st) h) : hh_W X cn sn pc lv st h := by
  obtain ⟨p, l, e, R', s, m, args, below, meth, c, Q, D, cT, B', e0', nL'⟩ := X
  obtain ⟨hx, hb, hml, hown, hts, hK, hlk, hrt, hnm, rfl, rfl, rfl, rfl, hB, hA, hcA⟩ := C
  intro H locs ls hS hl
  exact lv_sipush hx hb d hv (k H locs ls hS hl)
theorem r_lconst {X : hh_X} {B e0 : Nat} {cc : ByteArray} {own : String} {nL : Nat} {ret : Option FieldType} {nm : String} {R : Room} {cn sn pc : Nat} {lv : List (Nat × Value)} {st : List Value} {h : hh_H} (C : hh_ok X B e0 cc own nL ret nm R) {n : Fin 2} {v : Int64} (d : decode cc pc = .ok (.lconst n, 1)) (hv : Int64.ofNat (n : Nat) = v) (k : hh_W X cn sn (pc + 1) lv (.long v :: st) h) : hh_W X cn sn pc lv st h := by
  obtain ⟨p, l, e, R', s, m, args, below, meth, c, Q, D, cT, B', e0', nL'⟩ := X
  obtain ⟨hx, hb, hml, hown, hts, hK, hlk, hrt, hnm, rfl, rfl, rfl, rfl, hB, hA, hcA⟩ := C
  intro H locs ls hS hl
  exact lv_lconst hx hb d hv (k H locs ls hS hl)
theorem r_dconst0 {X : hh_X} {B e0 : Nat} {cc : ByteArray} {own : String} {nL : Nat} {ret : Option FieldType} {nm : String} {R : Room} {cn sn pc : Nat} {lv : List (Nat × Value)} {st : List Value} {h : hh_H} (C : hh_ok X B e0 cc own nL ret nm R) (d : decode cc pc = .ok (.dconst 0, 1)) (k : hh_W X cn sn (pc + 1) lv (.double FP.dconst0 :: st) h) : hh_W X cn sn pc lv st h := by
  obtain ⟨p, l, e, R', s, m, args, below, meth, c, Q, D, cT, B', e0', nL'⟩ := X
  obtain ⟨hx, hb, hml, hown, hts, hK, hlk, hrt, hnm, rfl, rfl, rfl, rfl, hB, hA, hcA⟩ := C
  intro H locs ls hS hl
  exact lv_dconst0 hx hb d (k H locs ls hS hl)
theorem r_dconst1 {X : hh_X} {B e0 : Nat} {cc : ByteArray} {own : String} {nL : Nat} {ret : Option FieldType} {nm : String} {R : Room} {cn sn pc : Nat} {lv : List (Nat × Value)} {st : List Value} {h : hh_H} (C : hh_ok X B e0 cc own nL ret nm R) (d : decode cc pc = .ok (.dconst 1, 1)) (k : hh_W X cn sn (pc + 1) lv (.double FP.dconst1 :: st) h) : hh_W X cn sn pc lv st h := by
  obtain ⟨p, l, e, R', s, m, args, below, meth, c, Q, D, cT, B', e0', nL'⟩ := X
  obtain ⟨hx, hb, hml, hown, hts, hK, hlk, hrt, hnm, rfl, rfl, rfl, rfl, hB, hA, hcA⟩ := C
  intro H locs ls hS hl
  exact lv_dconst1 hx hb d (k H locs ls hS hl)
theorem r_ldc {X : hh_X} {B e0 : Nat} {cc : ByteArray} {own : String} {nL : Nat} {ret : Option FieldType} {nm : String} {R : Room} {cn sn pc : Nat} {lv : List (Nat × Value)} {st : List Value} {h : hh_H} (C : hh_ok X B e0 cc own nL ret nm R) {idx : Nat} {v : Int32} (d : decode cc pc = .ok (.ldc idx, 2)) (hw : Jvm.Cond.constant own idx v ∈ hh_T) (k : hh_W X cn sn (pc + 2) lv (.int v :: st) h) : hh_W X cn sn pc lv st h := by
  obtain ⟨p, l, e, R', s, m, args, below, meth, c, Q, D, cT, B', e0', nL'⟩ := X
  obtain ⟨hx, hb, hml, hown, hts, hK, hlk, hrt, hnm, rfl, rfl, rfl, rfl, hB, hA, hcA⟩ := C
  intro H locs ls hS hl
  exact lv_ldc hx hb hown (hts _ hw) d (k H locs ls hS hl)
theorem r_iload_n {X : hh_X} {B e0 : Nat} {cc : ByteArray} {own : String} {nL : Nat} {ret : Option FieldType} {nm : String} {R : Room} {cn sn pc : Nat} {lv : List (Nat × Value)} {st : List Value} {h : hh_H} (C : hh_ok X B e0 cc own nL ret nm R) {k0 : Fin 4} {i : Nat} {x : Int32} (d : decode cc pc = .ok (.iload_n k0, 1)) (hi : (k0 : Nat) = i) (q : Nat) (hq : lv[q]? = some (i, .int x)) (k : hh_W X cn sn (pc + 1) lv (.int x :: st) h) : hh_W X cn sn pc lv st h := by
  obtain ⟨p, l, e, R', s, m, args, below, meth, c, Q, D, cT, B', e0', nL'⟩ := X
  obtain ⟨hx, hb, hml, hown, hts, hK, hlk, hrt, hnm, rfl, rfl, rfl, rfl, hB, hA, hcA⟩ := C
  intro H locs ls hS hl
  exact lv_iload_n hx hb d hi (lv_at hl q hq) (k H locs ls hS hl)
theorem r_iload {X : hh_X} {B e0 : Nat} {cc : ByteArray} {own : String} {nL : Nat} {ret : Option FieldType} {nm : String} {R : Room} {cn sn pc : Nat} {lv : List (Nat × Value)} {st : List Value} {h : hh_H} (C : hh_ok X B e0 cc own nL ret nm R) {i : Nat} {x : Int32} (d : decode cc pc = .ok (.iload i, 2)) (q : Nat) (hq : lv[q]? = some (i, .int x)) (k : hh_W X cn sn (pc + 2) lv (.int x :: st) h) : hh_W X cn sn pc lv st h := by
  obtain ⟨p, l, e, R', s, m, args, below, meth, c, Q, D, cT, B', e0', nL'⟩ := X
  obtain ⟨hx, hb, hml, hown, hts, hK, hlk, hrt, hnm, rfl, rfl, rfl, rfl, hB, hA, hcA⟩ := C
  intro H locs ls hS hl
  exact lv_iload hx hb d (lv_at hl q hq) (k H locs ls hS hl)
theorem r_istore_n {X : hh_X} {B e0 : Nat} {cc : ByteArray} {own : String} {nL : Nat} {ret : Option FieldType} {nm : String} {R : Room} {cn sn pc : Nat} {lv : List (Nat × Value)} {st : List Value} {h : hh_H} (C : hh_ok X B e0 cc own nL ret nm R) {k0 : Fin 4} {i : Nat} {x : Int32} {lv' : List (Nat × Value)} (d : decode cc pc = .ok (.istore_n k0, 1)) (hi : (k0 : Nat) = i) (hn : i < nL) (hq : (i, Value.int x) :: lv.filter (fun q => !(q.1 == i) && !(q.1 + 1 == i && q.2.category == 2)) = lv') (k : hh_W X cn sn (pc + 1) lv' st h) : hh_W X cn sn pc lv (.int x :: st) h := by
  obtain ⟨p, l, e, R', s, m, args, below, meth, c, Q, D, cT, B', e0', nL'⟩ := X
  obtain ⟨hx, hb, hml, hown, hts, hK, hlk, hrt, hnm, rfl, rfl, rfl, rfl, hB, hA, hcA⟩ := C
  intro H locs ls hS hl
  exact lv_istore_n hx hb d hi hl hn hq (fun ls hl => k H locs ls hS hl)
theorem r_istore {X : hh_X} {B e0 : Nat} {cc : ByteArray} {own : String} {nL : Nat} {ret : Option FieldType} {nm : String} {R : Room} {cn sn pc : Nat} {lv : List (Nat × Value)} {st : List Value} {h : hh_H} (C : hh_ok X B e0 cc own nL ret nm R) {i : Nat} {x : Int32} {lv' : List (Nat × Value)} (d : decode cc pc = .ok (.istore i, 2)) (hn : i < nL) (hq : (i, Value.int x) :: lv.filter (fun q => !(q.1 == i) && !(q.1 + 1 == i && q.2.category == 2)) = lv') (k : hh_W X cn sn (pc + 2) lv' st h) : hh_W X cn sn pc lv (.int x :: st) h := by
  obtain ⟨p, l, e, R', s, m, args, below, meth, c, Q, D, cT, B', e0', nL'⟩ := X
  obtain ⟨hx, hb, hml, hown, hts, hK, hlk, hrt, hnm, rfl, rfl, rfl, rfl, hB, hA, hcA⟩ := C
  intro H locs ls hS hl
  exact lv_istore hx hb d hl hn hq (fun ls hl => k H locs ls hS hl)
theorem r_aload_n {X : hh_X} {B e0 : Nat} {cc : ByteArray} {own : String} {nL : Nat} {ret : Option FieldType} {nm : String} {R : Room} {cn sn pc : Nat} {lv : List (Nat × Value)} {st : List Value} {h : hh_H} (C : hh_ok X B e0 cc own nL ret nm R) {k0 : Fin 4} {i : Nat} {x : Nat} (d : decode cc pc = .ok (.aload_n k0, 1)) (hi : (k0 : Nat) = i) (q : Nat) (hq : lv[q]? = some (i, .ref x)) (k : hh_W X cn sn (pc + 1) lv (.ref x :: st) h) : hh_W X cn sn pc lv st h := by
  obtain ⟨p, l, e, R', s, m, args, below, meth, c, Q, D, cT, B', e0', nL'⟩ := X
  obtain ⟨hx, hb, hml, hown, hts, hK, hlk, hrt, hnm, rfl, rfl, rfl, rfl, hB, hA, hcA⟩ := C
  intro H locs ls hS hl
  exact lv_aload_n hx hb d hi (lv_at hl q hq) (k H locs ls hS hl)
theorem r_aload {X : hh_X} {B e0 : Nat} {cc : ByteArray} {own : String} {nL : Nat} {ret : Option FieldType} {nm : String} {R : Room} {cn sn pc : Nat} {lv : List (Nat × Value)} {st : List Value} {h : hh_H} (C : hh_ok X B e0 cc own nL ret nm R) {i : Nat} {x : Nat} (d : decode cc pc = .ok (.aload i, 2)) (q : Nat) (hq : lv[q]? = some (i, .ref x)) (k : hh_W X cn sn (pc + 2) lv (.ref x :: st) h) : hh_W X cn sn pc lv st h := by
  obtain ⟨p, l, e, R', s, m, args, below, meth, c, Q, D, cT, B', e0', nL'⟩ := X
  obtain ⟨hx, hb, hml, hown, hts, hK, hlk, hrt, hnm, rfl, rfl, rfl, rfl, hB, hA, hcA⟩ := C
  intro H locs ls hS hl
  exact lv_aload hx hb d (lv_at hl q hq) (k H locs ls hS hl)
theorem r_astore_n {X : hh_X} {B e0 : Nat} {cc : ByteArray} {own : String} {nL : Nat} {ret : Option FieldType} {nm : String} {R : Room} {cn sn pc : Nat} {lv : List (Nat × Value)} {st : List Value} {h : hh_H} (C : hh_ok X B e0 cc own nL ret nm R) {k0 : Fin 4} {i : Nat} {x : Nat} {lv' : List (Nat × Value)} (d : decode cc pc = .ok (.astore_n k0, 1)) (hi : (k0 : Nat) = i) (hn : i < nL) (hq : (i, Value.ref x) :: lv.filter (fun q => !(q.1 == i) && !(q.1 + 1 == i && q.2.category == 2)) = lv') (k : hh_W X cn sn (pc + 1) lv' st h) : hh_W X cn sn pc lv (.ref x :: st) h := by
  obtain ⟨p, l, e, R', s, m, args, below, meth, c, Q, D, cT, B', e0', nL'⟩ := X
  obtain ⟨hx, hb, hml, hown, hts, hK, hlk, hrt, hnm, rfl, rfl, rfl, rfl, hB, hA, hcA⟩ := C
  intro H locs ls hS hl
  exact lv_astore_n hx hb d hi hl hn hq (fun ls hl => k H locs ls hS hl)
theorem r_astore {X : hh_X} {B e0 : Nat} {cc : ByteArray} {own : String} {nL : Nat} {ret : Option FieldType} {nm : String} {R : Room} {cn sn pc : Nat} {lv : List (Nat × Value)} {st : List Value} {h : hh_H} (C : hh_ok X B e0 cc own nL ret nm R) {i : Nat} {x : Nat} {lv' : List (Nat × Value)} (d : decode cc pc = .ok (.astore i, 2)) (hn : i < nL) (hq : (i, Value.ref x) :: lv.filter (fun q => !(q.1 == i) && !(q.1 + 1 == i && q.2.category == 2)) = lv') (k : hh_W X cn sn (pc + 2) lv' st h) : hh_W X cn sn pc lv (.ref x :: st) h := by
  obtain ⟨p, l, e, R', s, m, args, below, meth, c, Q, D, cT, B', e0', nL'⟩ := X
  obtain ⟨hx, hb, hml, hown, hts, hK, hlk, hrt, hnm, rfl, rfl, rfl, rfl, hB, hA, hcA⟩ := C
  intro H locs ls hS hl
  exact lv_astore hx hb d hl hn hq (fun ls hl => k H locs ls hS hl)
theorem r_dload_n {X : hh_X} {B e0 : Nat} {cc : ByteArray} {own : String} {nL : Nat} {ret : Option FieldType} {nm : String} {R : Room} {cn sn pc : Nat} {lv : List (Nat × Value)} {st : List Value} {h : hh_H} (C : hh_ok X B e0 cc own nL ret nm R) {k0 : Fin 4} {i : Nat} {x : UInt64} (d : decode cc pc = .ok (.dload_n k0, 1)) (hi : (k0 : Nat) = i) (q : Nat) (hq : lv[q]? = some (i, .double x)) (k : hh_W X cn sn (pc + 1) lv (.double x :: st) h) : hh_W X cn sn pc lv st h := by
  obtain ⟨p, l, e, R', s, m, args, below, meth, c, Q, D, cT, B', e0', nL'⟩ := X
  obtain ⟨hx, hb, hml, hown, hts, hK, hlk, hrt, hnm, rfl, rfl, rfl, rfl, hB, hA, hcA⟩ := C
  intro H locs ls hS hl
  exact lv_dload_n hx hb d hi (lv_at hl q hq) (k H locs ls hS hl)
theorem r_dload {X : hh_X} {B e0 : Nat} {cc : ByteArray} {own : String} {nL : Nat} {ret : Option FieldType} {nm : String} {R : Room} {cn sn pc : Nat} {lv : List (Nat × Value)} {st : List Value} {h : hh_H} (C : hh_ok X B e0 cc own nL ret nm R) {i : Nat} {x : UInt64} (d : decode cc pc = .ok (.dload i, 2)) (q : Nat) (hq : lv[q]? = some (i, .double x)) (k : hh_W X cn sn (pc + 2) lv (.double x :: st) h) : hh_W X cn sn pc lv st h := by
  obtain ⟨p, l, e, R', s, m, args, below, meth, c, Q, D, cT, B', e0', nL'⟩ := X
  obtain ⟨hx, hb, hml, hown, hts, hK, hlk, hrt, hnm, rfl, rfl, rfl, rfl, hB, hA, hcA⟩ := C
  intro H locs ls hS hl
  exact lv_dload hx hb d (lv_at hl q hq) (k H locs ls hS hl)
theorem r_dstore_n {X : hh_X} {B e0 : Nat} {cc : ByteArray} {own : String} {nL : Nat} {ret : Option FieldType} {nm : String} {R : Room} {cn sn pc : Nat} {lv : List (Nat × Value)} {st : List Value} {h : hh_H} (C : hh_ok X B e0 cc own nL ret nm R) {k0 : Fin 4} {i : Nat} {x : UInt64} {lv' : List (Nat × Value)} (d : decode cc pc = .ok (.dstore_n k0, 1)) (hi : (k0 : Nat) = i) (hn : i + 1 < nL) (hq : (i, Value.double x) :: lv.filter (fun q => !(q.1 == i) && (!(q.1 == i + 1) && !(q.1 + 1 == i && q.2.category == 2))) = lv') (k : hh_W X cn sn (pc + 1) lv' st h) : hh_W X cn sn pc lv (.double x :: st) h := by
  obtain ⟨p, l, e, R', s, m, args, below, meth, c, Q, D, cT, B', e0', nL'⟩ := X
  obtain ⟨hx, hb, hml, hown, hts, hK, hlk, hrt, hnm, rfl, rfl, rfl, rfl, hB, hA, hcA⟩ := C
  intro H locs ls hS hl
  exact lv_dstore_n hx hb d hi hl hn hq (fun ls hl => k H locs ls hS hl)
theorem r_dstore {X : hh_X} {B e0 : Nat} {cc : ByteArray} {own : String} {nL : Nat} {ret : Option FieldType} {nm : String} {R : Room} {cn sn pc : Nat} {lv : List (Nat × Value)} {st : List Value} {h : hh_H} (C : hh_ok X B e0 cc own nL ret nm R) {i : Nat} {x : UInt64} {lv' : List (Nat × Value)} (d : decode cc pc = .ok (.dstore i, 2)) (hn : i + 1 < nL) (hq : (i, Value.double x) :: lv.filter (fun q => !(q.1 == i) && (!(q.1 == i + 1) && !(q.1 + 1 == i && q.2.category == 2))) = lv') (k : hh_W X cn sn (pc + 2) lv' st h) : hh_W X cn sn pc lv (.double x :: st) h := by
  obtain ⟨p, l, e, R', s, m, args, below, meth, c, Q, D, cT, B', e0', nL'⟩ := X
  obtain ⟨hx, hb, hml, hown, hts, hK, hlk, hrt, hnm, rfl, rfl, rfl, rfl, hB, hA, hcA⟩ := C
  intro H locs ls hS hl
  exact lv_dstore hx hb d hl hn hq (fun ls hl => k H locs ls hS hl)
theorem r_lload_n {X : hh_X} {B e0 : Nat} {cc : ByteArray} {own : String} {nL : Nat} {ret : Option FieldType} {nm : String} {R : Room} {cn sn pc : Nat} {lv : List (Nat × Value)} {st : List Value} {h : hh_H} (C : hh_ok X B e0 cc own nL ret nm R) {k0 : Fin 4} {i : Nat} {x : Int64} (d : decode cc pc = .ok (.lload_n k0, 1)) (hi : (k0 : Nat) = i) (q : Nat) (hq : lv[q]? = some (i, .long x)) (k : hh_W X cn sn (pc + 1) lv (.long x :: st) h) : hh_W X cn sn pc lv st h := by
  obtain ⟨p, l, e, R', s, m, args, below, meth, c, Q, D, cT, B', e0', nL'⟩ := X
  obtain ⟨hx, hb, hml, hown, hts, hK, hlk, hrt, hnm, rfl, rfl, rfl, rfl, hB, hA, hcA⟩ := C
  intro H locs ls hS hl
  exact lv_lload_n hx hb d hi (lv_at hl q hq) (k H locs ls hS hl)
theorem r_lload {X : hh_X} {B e0 : Nat} {cc : ByteArray} {own : String} {nL : Nat} {ret : Option FieldType} {nm : String} {R : Room} {cn sn pc : Nat} {lv : List (Nat × Value)} {st : List Value} {h : hh_H} (C : hh_ok X B e0 cc own nL ret nm R) {i : Nat} {x : Int64} (d : decode cc pc = .ok (.lload i, 2)) (q : Nat) (hq : lv[q]? = some (i, .long x)) (k : hh_W X cn sn (pc + 2) lv (.long x :: st) h) : hh_W X cn sn pc lv st h := by
  obtain ⟨p, l, e, R', s, m, args, below, meth, c, Q, D, cT, B', e0', nL'⟩ := X
  obtain ⟨hx, hb, hml, hown, hts, hK, hlk, hrt, hnm, rfl, rfl, rfl, rfl, hB, hA, hcA⟩ := C
  intro H locs ls hS hl
  exact lv_lload hx hb d (lv_at hl q hq) (k H locs ls hS hl)
theorem r_lstore_n {X : hh_X} {B e0 : Nat} {cc : ByteArray} {own : String} {nL : Nat} {ret : Option FieldType} {nm : String} {R : Room} {cn sn pc : Nat} {lv : List (Nat × Value)} {st : List Value} {h : hh_H} (C : hh_ok X B e0 cc own nL ret nm R) {k0 : Fin 4} {i : Nat} {x : Int64} {lv' : List (Nat × Value)} (d : decode cc pc = .ok (.lstore_n k0, 1)) (hi : (k0 : Nat) = i) (hn : i + 1 < nL) (hq : (i, Value.long x) :: lv.filter (fun q => !(q.1 == i) && (!(q.1 == i + 1) && !(q.1 + 1 == i && q.2.category == 2))) = lv') (k : hh_W X cn sn (pc + 1) lv' st h) : hh_W X cn sn pc lv (.long x :: st) h := by
  obtain ⟨p, l, e, R', s, m, args, below, meth, c, Q, D, cT, B', e0', nL'⟩ := X
  obtain ⟨hx, hb, hml, hown, hts, hK, hlk, hrt, hnm, rfl, rfl, rfl, rfl, hB, hA, hcA⟩ := C
  intro H locs ls hS hl
  exact lv_lstore_n hx hb d hi hl hn hq (fun ls hl => k H locs ls hS hl)
theorem r_lstore {X : hh_X} {B e0 : Nat} {cc : ByteArray} {own : String} {nL : Nat} {ret : Option FieldType} {nm : String} {R : Room} {cn sn pc : Nat} {lv : List (Nat × Value)} {st : List Value} {h : hh_H} (C : hh_ok X B e0 cc own nL ret nm R) {i : Nat} {x : Int64} {lv' : List (Nat × Value)} (d : decode cc pc = .ok (.lstore i, 2)) (hn : i + 1 < nL) (hq : (i, Value.long x) :: lv.filter (fun q => !(q.1 == i) && (!(q.1 == i + 1) && !(q.1 + 1 == i && q.2.category == 2))) = lv') (k : hh_W X cn sn (pc + 2) lv' st h) : hh_W X cn sn pc lv (.long x :: st) h := by
  obtain ⟨p, l, e, R', s, m, args, below, meth, c, Q, D, cT, B', e0', nL'⟩ := X
  obtain ⟨hx, hb, hml, hown, hts, hK, hlk, hrt, hnm, rfl, rfl, rfl, rfl, hB, hA, hcA⟩ := C
  intro H locs ls hS hl
  exact lv_lstore hx hb d hl hn hq (fun ls hl => k H locs ls hS hl)
theorem r_iinc {X : hh_X} {B e0 : Nat} {cc : ByteArray} {own : String} {nL : Nat} {ret : Option FieldType} {nm : String} {R : Room} {cn sn pc : Nat} {lv : List (Nat × Value)} {st : List Value} {h : hh_H} (C : hh_ok X B e0 cc own nL ret nm R) {i : Nat} {n : Int} {x v : Int32} {lv' : List (Nat × Value)} (d : decode cc pc = .ok (.iinc i n, 3)) (q : Nat) (hk : lv[q]? = some (i, .int x)) (hv : x + Int32.ofInt n = v) (hn : i < nL) (hq : (i, Value.int v) :: lv.filter (fun q => !(q.1 == i) && !(q.1 + 1 == i && q.2.category == 2)) = lv') (k : hh_W X cn sn (pc + 3) lv' st h) : hh_W X cn sn pc lv st h := by
  obtain ⟨p, l, e, R', s, m, args, below, meth, c, Q, D, cT, B', e0', nL'⟩ := X
  obtain ⟨hx, hb, hml, hown, hts, hK, hlk, hrt, hnm, rfl, rfl, rfl, rfl, hB, hA, hcA⟩ := C
  intro H locs ls hS hl
  exact lv_iinc hx hb d hl hk hv hn hq (fun ls hl => k H locs ls hS hl)
theorem r_iadd {X : hh_X} {B e0 : Nat} {cc : ByteArray} {own : String} {nL : Nat} {ret : Option FieldType} {nm : String} {R : Room} {cn sn pc : Nat} {lv : List (Nat × Value)} {st : List Value} {h : hh_H} (C : hh_ok X B e0 cc own nL ret nm R) {x y : Int32} (d : decode cc pc = .ok (.iadd, 1)) (k : hh_W X cn sn (pc + 1) lv (.int (x + y) :: st) h) : hh_W X cn sn pc lv (.int y :: .int x :: st) h := by
  obtain ⟨p, l, e, R', s, m, args, below, meth, c, Q, D, cT, B', e0', nL'⟩ := X
  obtain ⟨hx, hb, hml, hown, hts, hK, hlk, hrt, hnm, rfl, rfl, rfl, rfl, hB, hA, hcA⟩ := C
  intro H locs ls hS hl
  exact lv_iadd hx hb d (k H locs ls hS hl)
theorem r_isub {X : hh_X} {B e0 : Nat} {cc : ByteArray} {own : String} {nL : Nat} {ret : Option FieldType} {nm : String} {R : Room} {cn sn pc : Nat} {lv : List (Nat × Value)} {st : List Value} {h : hh_H} (C : hh_ok X B e0 cc own nL ret nm R) {x y : Int32} (d : decode cc pc = .ok (.isub, 1)) (k : hh_W X cn sn (pc + 1) lv (.int (x - y) :: st) h) : hh_W X cn sn pc lv (.int y :: .int x :: st) h := by
  obtain ⟨p, l, e, R', s, m, args, below, meth, c, Q, D, cT, B', e0', nL'⟩ := X
  obtain ⟨hx, hb, hml, hown, hts, hK, hlk, hrt, hnm, rfl, rfl, rfl, rfl, hB, hA, hcA⟩ := C
  intro H locs ls hS hl
  exact lv_isub hx hb d (k H locs ls hS hl)
theorem r_imul {X : hh_X} {B e0 : Nat} {cc : ByteArray} {own : String} {nL : Nat} {ret : Option FieldType} {nm : String} {R : Room} {cn sn pc : Nat} {lv : List (Nat × Value)} {st : List Value} {h : hh_H} (C : hh_ok X B e0 cc own nL ret nm R) {x y : Int32} (d : decode cc pc = .ok (.imul, 1)) (k : hh_W X cn sn (pc + 1) lv (.int (x * y) :: st) h) : hh_W X cn sn pc lv (.int y :: .int x :: st) h := by
  obtain ⟨p, l, e, R', s, m, args, below, meth, c, Q, D, cT, B', e0', nL'⟩ := X
  obtain ⟨hx, hb, hml, hown, hts, hK, hlk, hrt, hnm, rfl, rfl, rfl, rfl, hB, hA, hcA⟩ := C
  intro H locs ls hS hl
  exact lv_imul hx hb d (k H locs ls hS hl)
theorem r_iand {X : hh_X} {B e0 : Nat} {cc : ByteArray} {own : String} {nL : Nat} {ret : Option FieldType} {nm : String} {R : Room} {cn sn pc : Nat} {lv : List (Nat × Value)} {st : List Value} {h : hh_H} (C : hh_ok X B e0 cc own nL ret nm R) {x y : Int32} (d : decode cc pc = .ok (.iand, 1)) (k : hh_W X cn sn (pc + 1) lv (.int (x &&& y) :: st) h) : hh_W X cn sn pc lv (.int y :: .int x :: st) h := by
  obtain ⟨p, l, e, R', s, m, args, below, meth, c, Q, D, cT, B', e0', nL'⟩ := X
  obtain ⟨hx, hb, hml, hown, hts, hK, hlk, hrt, hnm, rfl, rfl, rfl, rfl, hB, hA, hcA⟩ := C
  intro H locs ls hS hl
  exact lv_iand hx hb d (k H locs ls hS hl)
theorem r_ior {X : hh_X} {B e0 : Nat} {cc : ByteArray} {own : String} {nL : Nat} {ret : Option FieldType} {nm : String} {R : Room} {cn sn pc : Nat} {lv : List (Nat × Value)} {st : List Value} {h : hh_H} (C : hh_ok X B e0 cc own nL ret nm R) {x y : Int32} (d : decode cc pc = .ok (.ior, 1)) (k : hh_W X cn sn (pc + 1) lv (.int (x ||| y) :: st) h) : hh_W X cn sn pc lv (.int y :: .int x :: st) h := by
  obtain ⟨p, l, e, R', s, m, args, below, meth, c, Q, D, cT, B', e0', nL'⟩ := X
  obtain ⟨hx, hb, hml, hown, hts, hK, hlk, hrt, hnm, rfl, rfl, rfl, rfl, hB, hA, hcA⟩ := C
  intro H locs ls hS hl
  exact lv_ior hx hb d (k H locs ls hS hl)
theorem r_ixor {X : hh_X} {B e0 : Nat} {cc : ByteArray} {own : String} {nL : Nat} {ret : Option FieldType} {nm : String} {R : Room} {cn sn pc : Nat} {lv : List (Nat × Value)} {st : List Value} {h : hh_H} (C : hh_ok X B e0 cc own nL ret nm R) {x y : Int32} (d : decode cc pc = .ok (.ixor, 1)) (k : hh_W X cn sn (pc + 1) lv (.int (x ^^^ y) :: st) h) : hh_W X cn sn pc lv (.int y :: .int x :: st) h := by
  obtain ⟨p, l, e, R', s, m, args, below, meth, c, Q, D, cT, B', e0', nL'⟩ := X
  obtain ⟨hx, hb, hml, hown, hts, hK, hlk, hrt, hnm, rfl, rfl, rfl, rfl, hB, hA, hcA⟩ := C
  intro H locs ls hS hl
  exact lv_ixor hx hb d (k H locs ls hS hl)
theorem r_ishl {X : hh_X} {B e0 : Nat} {cc : ByteArray} {own : String} {nL : Nat} {ret : Option FieldType} {nm : String} {R : Room} {cn sn pc : Nat} {lv : List (Nat × Value)} {st : List Value} {h : hh_H} (C : hh_ok X B e0 cc own nL ret nm R) {x y : Int32} (d : decode cc pc = .ok (.ishl, 1)) (k : hh_W X cn sn (pc + 1) lv (.int (x <<< (y &&& 31)) :: st) h) : hh_W X cn sn pc lv (.int y :: .int x :: st) h := by
  obtain ⟨p, l, e, R', s, m, args, below, meth, c, Q, D, cT, B', e0', nL'⟩ := X
  obtain ⟨hx, hb, hml, hown, hts, hK, hlk, hrt, hnm, rfl, rfl, rfl, rfl, hB, hA, hcA⟩ := C
  intro H locs ls hS hl
  exact lv_ishl hx hb d (k H locs ls hS hl)
theorem r_ishr {X : hh_X} {B e0 : Nat} {cc : ByteArray} {own : String} {nL : Nat} {ret : Option FieldType} {nm : String} {R : Room} {cn sn pc : Nat} {lv : List (Nat × Value)} {st : List Value} {h : hh_H} (C : hh_ok X B e0 cc own nL ret nm R) {x y : Int32} (d : decode cc pc = .ok (.ishr, 1)) (k : hh_W X cn sn (pc + 1) lv (.int (x >>> (y &&& 31)) :: st) h) : hh_W X cn sn pc lv (.int y :: .int x :: st) h := by
  obtain ⟨p, l, e, R', s, m, args, below, meth, c, Q, D, cT, B', e0', nL'⟩ := X
  obtain ⟨hx, hb, hml, hown, hts, hK, hlk, hrt, hnm, rfl, rfl, rfl, rfl, hB, hA, hcA⟩ := C
  intro H locs ls hS hl
  exact lv_ishr hx hb d (k H locs ls hS hl)
theorem r_ladd {X : hh_X} {B e0 : Nat} {cc : ByteArray} {own : String} {nL : Nat} {ret : Option FieldType} {nm : String} {R : Room} {cn sn pc : Nat} {lv : List (Nat × Value)} {st : List Value} {h : hh_H} (C : hh_ok X B e0 cc own nL ret nm R) {x y : Int64} (d : decode cc pc = .ok (.ladd, 1)) (k : hh_W X cn sn (pc + 1) lv (.long (x + y) :: st) h) : hh_W X cn sn pc lv (.long y :: .long x :: st) h := by
  obtain ⟨p, l, e, R', s, m, args, below, meth, c, Q, D, cT, B', e0', nL'⟩ := X
  obtain ⟨hx, hb, hml, hown, hts, hK, hlk, hrt, hnm, rfl, rfl, rfl, rfl, hB, hA, hcA⟩ := C
  intro H locs ls hS hl
  exact lv_ladd hx hb d (k H locs ls hS hl)
theorem r_lsub {X : hh_X} {B e0 : Nat} {cc : ByteArray} {own : String} {nL : Nat} {ret : Option FieldType} {nm : String} {R : Room} {cn sn pc : Nat} {lv : List (Nat × Value)} {st : List Value} {h : hh_H} (C : hh_ok X B e0 cc own nL ret nm R) {x y : Int64} (d : decode cc pc = .ok (.lsub, 1)) (k : hh_W X cn sn (pc + 1) lv (.long (x - y) :: st) h) : hh_W X cn sn pc lv (.long y :: .long x :: st) h := by
  obtain ⟨p, l, e, R', s, m, args, below, meth, c, Q, D, cT, B', e0', nL'⟩ := X
  obtain ⟨hx, hb, hml, hown, hts, hK, hlk, hrt, hnm, rfl, rfl, rfl, rfl, hB, hA, hcA⟩ := C
  intro H locs ls hS hl
  exact lv_lsub hx hb d (k H locs ls hS hl)
theorem r_lmul {X : hh_X} {B e0 : Nat} {cc : ByteArray} {own : String} {nL : Nat} {ret : Option FieldType} {nm : String} {R : Room} {cn sn pc : Nat} {lv : List (Nat × Value)} {st : List Value} {h : hh_H} (C : hh_ok X B e0 cc own nL ret nm R) {x y : Int64} (d : decode cc pc = .ok (.lmul, 1)) (k : hh_W X cn sn (pc + 1) lv (.long (x * y) :: st) h) : hh_W X cn sn pc lv (.long y :: .long x :: st) h := by
  obtain ⟨p, l, e, R', s, m, args, below, meth, c, Q, D, cT, B', e0', nL'⟩ := X
  obtain ⟨hx, hb, hml, hown, hts, hK, hlk, hrt, hnm, rfl, rfl, rfl, rfl, hB, hA, hcA⟩ := C
  intro H locs ls hS hl
  exact lv_lmul hx hb d (k H locs ls hS hl)
theorem r_idiv {X : hh_X} {B e0 : Nat} {cc : ByteArray} {own : String} {nL : Nat} {ret : Option FieldType} {nm : String} {R : Room} {cn sn pc : Nat} {lv : List (Nat × Value)} {st : List Value} {h : hh_H} (C : hh_ok X B e0 cc own nL ret nm R) {x y : Int32} (d : decode cc pc = .ok (.idiv, 1)) (hne : ¬ y = 0) (k : hh_W X cn sn (pc + 1) lv (.int (x / y) :: st) h) : hh_W X cn sn pc lv (.int y :: .int x :: st) h := by
  obtain ⟨p, l, e, R', s, m, args, below, meth, c, Q, D, cT, B', e0', nL'⟩ := X
  obtain ⟨hx, hb, hml, hown, hts, hK, hlk, hrt, hnm, rfl, rfl, rfl, rfl, hB, hA, hcA⟩ := C
  intro H locs ls hS hl
  exact lv_idiv hx hb d hne (k H locs ls hS hl)
theorem r_irem {X : hh_X} {B e0 : Nat} {cc : ByteArray} {own : String} {nL : Nat} {ret : Option FieldType} {nm : String} {R : Room} {cn sn pc : Nat} {lv : List (Nat × Value)} {st : List Value} {h : hh_H} (C : hh_ok X B e0 cc own nL ret nm R) {x y : Int32} (d : decode cc pc = .ok (.irem, 1)) (hne : ¬ y = 0) (k : hh_W X cn sn (pc + 1) lv (.int (x - x / y * y) :: st) h) : hh_W X cn sn pc lv (.int y :: .int x :: st) h := by
  obtain ⟨p, l, e, R', s, m, args, below, meth, c, Q, D, cT, B', e0', nL'⟩ := X
  obtain ⟨hx, hb, hml, hown, hts, hK, hlk, hrt, hnm, rfl, rfl, rfl, rfl, hB, hA, hcA⟩ := C
  intro H locs ls hS hl
  exact lv_irem hx hb d hne (k H locs ls hS hl)
theorem r_ineg {X : hh_X} {B e0 : Nat} {cc : ByteArray} {own : String} {nL : Nat} {ret : Option FieldType} {nm : String} {R : Room} {cn sn pc : Nat} {lv : List (Nat × Value)} {st : List Value} {h : hh_H} (C : hh_ok X B e0 cc own nL ret nm R) {x : Int32} (d : decode cc pc = .ok (.ineg, 1)) (k : hh_W X cn sn (pc + 1) lv (.int (-x) :: st) h) : hh_W X cn sn pc lv (.int x :: st) h := by
  obtain ⟨p, l, e, R', s, m, args, below, meth, c, Q, D, cT, B', e0', nL'⟩ := X
  obtain ⟨hx, hb, hml, hown, hts, hK, hlk, hrt, hnm, rfl, rfl, rfl, rfl, hB, hA, hcA⟩ := C
  intro H locs ls hS hl
  exact lv_ineg hx hb d (k H locs ls hS hl)
theorem r_iushr {X : hh_X} {B e0 : Nat} {cc : ByteArray} {own : String} {nL : Nat} {ret : Option FieldType} {nm : String} {R : Room} {cn sn pc : Nat} {lv : List (Nat × Value)} {st : List Value} {h : hh_H} (C : hh_ok X B e0 cc own nL ret nm R) {x y v : Int32} (d : decode cc pc = .ok (.iushr, 1)) (hv : (x.toUInt32 >>> (y.toUInt32 &&& Int32.toUInt32 31)).toInt32 = v) (k : hh_W X cn sn (pc + 1) lv (.int v :: st) h) : hh_W X cn sn pc lv (.int y :: .int x :: st) h := by
  obtain ⟨p, l, e, R', s, m, args, below, meth, c, Q, D, cT, B', e0', nL'⟩ := X
  obtain ⟨hx, hb, hml, hown, hts, hK, hlk, hrt, hnm, rfl, rfl, rfl, rfl, hB, hA, hcA⟩ := C
  intro H locs ls hS hl
  exact lv_iushr hx hb d hv (k H locs ls hS hl)
theorem r_dadd {X : hh_X} {B e0 : Nat} {cc : ByteArray} {own : String} {nL : Nat} {ret : Option FieldType} {nm : String} {R : Room} {cn sn pc : Nat} {lv : List (Nat × Value)} {st : List Value} {h : hh_H} (C : hh_ok X B e0 cc own nL ret nm R) {x y v : UInt64} (d : decode cc pc = .ok (.dadd, 1)) (hv : hp_nn (FP.dadd x y) = some v) (k : hh_W X cn sn (pc + 1) lv (.double v :: st) h) : hh_W X cn sn pc lv (.double y :: .double x :: st) h := by
  obtain ⟨p, l, e, R', s, m, args, below, meth, c, Q, D, cT, B', e0', nL'⟩ := X
  obtain ⟨hx, hb, hml, hown, hts, hK, hlk, hrt, hnm, rfl, rfl, rfl, rfl, hB, hA, hcA⟩ := C
  intro H locs ls hS hl
  unfold hp_nn at hv
  split at hv
  · rename_i hn
    cases hv
    exact lv_dadd hx hb d hn (k H locs ls hS hl)
  · cases hv
theorem r_ddiv {X : hh_X} {B e0 : Nat} {cc : ByteArray} {own : String} {nL : Nat} {ret : Option FieldType} {nm : String} {R : Room} {cn sn pc : Nat} {lv : List (Nat × Value)} {st : List Value} {h : hh_H} (C : hh_ok X B e0 cc own nL ret nm R) {x y v : UInt64} (d : decode cc pc = .ok (.ddiv, 1)) (hv : hp_nn (FP.ddiv x y) = some v) (k : hh_W X cn sn (pc + 1) lv (.double v :: st) h) : hh_W X cn sn pc lv (.double y :: .double x :: st) h := by
  obtain ⟨p, l, e, R', s, m, args, below, meth, c, Q, D, cT, B', e0', nL'⟩ := X
  obtain ⟨hx, hb, hml, hown, hts, hK, hlk, hrt, hnm, rfl, rfl, rfl, rfl, hB, hA, hcA⟩ := C
  intro H locs ls hS hl
  unfold hp_nn at hv
  split at hv
  · rename_i hn
    cases hv
    exact lv_ddiv hx hb d hn (k H locs ls hS hl)
  · cases hv
theorem r_dsub {X : hh_X} {B e0 : Nat} {cc : ByteArray} {own : String} {nL : Nat} {ret : Option FieldType} {nm : String} {R : Room} {cn sn pc : Nat} {lv : List (Nat × Value)} {st : List Value} {h : hh_H} (C : hh_ok X B e0 cc own nL ret nm R) {x y v : UInt64} (d : decode cc pc = .ok (.dsub, 1)) (hv : hp_nn (FP.dsub x y) = some v) (k : hh_W X cn sn (pc + 1) lv (.double v :: st) h) : hh_W X cn sn pc lv (.double y :: .double x :: st) h := by
  obtain ⟨p, l, e, R', s, m, args, below, meth, c, Q, D, cT, B', e0', nL'⟩ := X
  obtain ⟨hx, hb, hml, hown, hts, hK, hlk, hrt, hnm, rfl, rfl, rfl, rfl, hB, hA, hcA⟩ := C
  intro H locs ls hS hl
  unfold hp_nn at hv
  split at hv
  · rename_i hn
    cases hv
    exact lv_dsub hx hb d hn (k H locs ls hS hl)
  · cases hv
theorem r_dmul {X : hh_X} {B e0 : Nat} {cc : ByteArray} {own : String} {nL : Nat} {ret : Option FieldType} {nm : String} {R : Room} {cn sn pc : Nat} {lv : List (Nat × Value)} {st : List Value} {h : hh_H} (C : hh_ok X B e0 cc own nL ret nm R) {x y v : UInt64} (d : decode cc pc = .ok (.dmul, 1)) (hv : hp_nn (FP.dmul x y) = some v) (k : hh_W X cn sn (pc + 1) lv (.double v :: st) h) : hh_W X cn sn pc lv (.double y :: .double x :: st) h := by
  obtain ⟨p, l, e, R', s, m, args, below, meth, c, Q, D, cT, B', e0', nL'⟩ := X
  obtain ⟨hx, hb, hml, hown, hts, hK, hlk, hrt, hnm, rfl, rfl, rfl, rfl, hB, hA, hcA⟩ := C
  intro H locs ls hS hl
  unfold hp_nn at hv
  split at hv
  · rename_i hn
    cases hv
    exact lv_dmul hx hb d hn (k H locs ls hS hl)
  · cases hv
theorem r_dcmp {X : hh_X} {B e0 : Nat} {cc : ByteArray} {own : String} {nL : Nat} {ret : Option FieldType} {nm : String} {R : Room} {cn sn pc : Nat} {lv : List (Nat × Value)} {st : List Value} {h : hh_H} (C : hh_ok X B e0 cc own nL ret nm R) {x y : UInt64} {op : CmpOp} (d : decode cc pc = .ok (.dcmp op, 1)) (k : hh_W X cn sn (pc + 1) lv (.int (Op.cmpValue (FP.dcmp x y) op) :: st) h) : hh_W X cn sn pc lv (.double y :: .double x :: st) h := by
  obtain ⟨p, l, e, R', s, m, args, below, meth, c, Q, D, cT, B', e0', nL'⟩ := X
  obtain ⟨hx, hb, hml, hown, hts, hK, hlk, hrt, hnm, rfl, rfl, rfl, rfl, hB, hA, hcA⟩ := C
  intro H locs ls hS hl
  exact lv_dcmp hx hb d (k H locs ls hS hl)
theorem r_i2d {X : hh_X} {B e0 : Nat} {cc : ByteArray} {own : String} {nL : Nat} {ret : Option FieldType} {nm : String} {R : Room} {cn sn pc : Nat} {lv : List (Nat × Value)} {st : List Value} {h : hh_H} (C : hh_ok X B e0 cc own nL ret nm R) {x : Int32} (d : decode cc pc = .ok (.i2d, 1)) (k : hh_W X cn sn (pc + 1) lv (.double (FP.i2d x) :: st) h) : hh_W X cn sn pc lv (.int x :: st) h := by
  obtain ⟨p, l, e, R', s, m, args, below, meth, c, Q, D, cT, B', e0', nL'⟩ := X
  obtain ⟨hx, hb, hml, hown, hts, hK, hlk, hrt, hnm, rfl, rfl, rfl, rfl, hB, hA, hcA⟩ := C
  intro H locs ls hS hl
  exact lv_i2d hx hb d (k H locs ls hS hl)
theorem r_i2l {X : hh_X} {B e0 : Nat} {cc : ByteArray} {own : String} {nL : Nat} {ret : Option FieldType} {nm : String} {R : Room} {cn sn pc : Nat} {lv : List (Nat × Value)} {st : List Value} {h : hh_H} (C : hh_ok X B e0 cc own nL ret nm R) {x : Int32} (d : decode cc pc = .ok (.i2l, 1)) (k : hh_W X cn sn (pc + 1) lv (.long x.toInt64 :: st) h) : hh_W X cn sn pc lv (.int x :: st) h := by
  obtain ⟨p, l, e, R', s, m, args, below, meth, c, Q, D, cT, B', e0', nL'⟩ := X
  obtain ⟨hx, hb, hml, hown, hts, hK, hlk, hrt, hnm, rfl, rfl, rfl, rfl, hB, hA, hcA⟩ := C
  intro H locs ls hS hl
  exact lv_i2l hx hb d rfl (k H locs ls hS hl)
theorem r_l2i {X : hh_X} {B e0 : Nat} {cc : ByteArray} {own : String} {nL : Nat} {ret : Option FieldType} {nm : String} {R : Room} {cn sn pc : Nat} {lv : List (Nat × Value)} {st : List Value} {h : hh_H} (C : hh_ok X B e0 cc own nL ret nm R) {x : Int64} (d : decode cc pc = .ok (.l2i, 1)) (k : hh_W X cn sn (pc + 1) lv (.int x.toInt32 :: st) h) : hh_W X cn sn pc lv (.long x :: st) h := by
  obtain ⟨p, l, e, R', s, m, args, below, meth, c, Q, D, cT, B', e0', nL'⟩ := X
  obtain ⟨hx, hb, hml, hown, hts, hK, hlk, hrt, hnm, rfl, rfl, rfl, rfl, hB, hA, hcA⟩ := C
  intro H locs ls hS hl
  exact lv_l2i hx hb d rfl (k H locs ls hS hl)
theorem r_land {X : hh_X} {B e0 : Nat} {cc : ByteArray} {own : String} {nL : Nat} {ret : Option FieldType} {nm : String} {R : Room} {cn sn pc : Nat} {lv : List (Nat × Value)} {st : List Value} {h : hh_H} (C : hh_ok X B e0 cc own nL ret nm R) {x y : Int64} (d : decode cc pc = .ok (.land, 1)) (k : hh_W X cn sn (pc + 1) lv (.long (x &&& y) :: st) h) : hh_W X cn sn pc lv (.long y :: .long x :: st) h := by
  obtain ⟨p, l, e, R', s, m, args, below, meth, c, Q, D, cT, B', e0', nL'⟩ := X
  obtain ⟨hx, hb, hml, hown, hts, hK, hlk, hrt, hnm, rfl, rfl, rfl, rfl, hB, hA, hcA⟩ := C
  intro H locs ls hS hl
  exact lv_land hx hb d (k H locs ls hS hl)
theorem r_lor {X : hh_X} {B e0 : Nat} {cc : ByteArray} {own : String} {nL : Nat} {ret : Option FieldType} {nm : String} {R : Room} {cn sn pc : Nat} {lv : List (Nat × Value)} {st : List Value} {h : hh_H} (C : hh_ok X B e0 cc own nL ret nm R) {x y : Int64} (d : decode cc pc = .ok (.lor, 1)) (k : hh_W X cn sn (pc + 1) lv (.long (x ||| y) :: st) h) : hh_W X cn sn pc lv (.long y :: .long x :: st) h := by
  obtain ⟨p, l, e, R', s, m, args, below, meth, c, Q, D, cT, B', e0', nL'⟩ := X
  obtain ⟨hx, hb, hml, hown, hts, hK, hlk, hrt, hnm, rfl, rfl, rfl, rfl, hB, hA, hcA⟩ := C
  intro H locs ls hS hl
  exact lv_lor hx hb d (k H locs ls hS hl)
theorem r_lxor {X : hh_X} {B e0 : Nat} {cc : ByteArray} {own : String} {nL : Nat} {ret : Option FieldType} {nm : String} {R : Room} {cn sn pc : Nat} {lv : List (Nat × Value)} {st : List Value} {h : hh_H} (C : hh_ok X B e0 cc own nL ret nm R) {x y : Int64} (d : decode cc pc = .ok (.lxor, 1)) (k : hh_W X cn sn (pc + 1) lv (.long (x ^^^ y) :: st) h) : hh_W X cn sn pc lv (.long y :: .long x :: st) h := by
  obtain ⟨p, l, e, R', s, m, args, below, meth, c, Q, D, cT, B', e0', nL'⟩ := X
  obtain ⟨hx, hb, hml, hown, hts, hK, hlk, hrt, hnm, rfl, rfl, rfl, rfl, hB, hA, hcA⟩ := C
  intro H locs ls hS hl
  exact lv_lxor hx hb d (k H locs ls hS hl)
theorem r_lshl {X : hh_X} {B e0 : Nat} {cc : ByteArray} {own : String} {nL : Nat} {ret : Option FieldType} {nm : String} {R : Room} {cn sn pc : Nat} {lv : List (Nat × Value)} {st : List Value} {h : hh_H} (C : hh_ok X B e0 cc own nL ret nm R) {x : Int64} {y : Int32} (d : decode cc pc = .ok (.lshl, 1)) (k : hh_W X cn sn (pc + 1) lv (.long (x <<< (y.toInt64 &&& 63)) :: st) h) : hh_W X cn sn pc lv (.int y :: .long x :: st) h := by
  obtain ⟨p, l, e, R', s, m, args, below, meth, c, Q, D, cT, B', e0', nL'⟩ := X
  obtain ⟨hx, hb, hml, hown, hts, hK, hlk, hrt, hnm, rfl, rfl, rfl, rfl, hB, hA, hcA⟩ := C
  intro H locs ls hS hl
  exact lv_lshl hx hb d rfl (k H locs ls hS hl)
theorem r_lushr {X : hh_X} {B e0 : Nat} {cc : ByteArray} {own : String} {nL : Nat} {ret : Option FieldType} {nm : String} {R : Room} {cn sn pc : Nat} {lv : List (Nat × Value)} {st : List Value} {h : hh_H} (C : hh_ok X B e0 cc own nL ret nm R) {x : Int64} {y : Int32} (d : decode cc pc = .ok (.lushr, 1)) (k : hh_W X cn sn (pc + 1) lv (.long (x.toUInt64 >>> (y.toInt64.toUInt64 &&& Int64.toUInt64 63)).toInt64 :: st) h) : hh_W X cn sn pc lv (.int y :: .long x :: st) h := by
  obtain ⟨p, l, e, R', s, m, args, below, meth, c, Q, D, cT, B', e0', nL'⟩ := X
  obtain ⟨hx, hb, hml, hown, hts, hK, hlk, hrt, hnm, rfl, rfl, rfl, rfl, hB, hA, hcA⟩ := C
  intro H locs ls hS hl
  exact lv_lushr hx hb d rfl (k H locs ls hS hl)
theorem r_i2b {X : hh_X} {B e0 : Nat} {cc : ByteArray} {own : String} {nL : Nat} {ret : Option FieldType} {nm : String} {R : Room} {cn sn pc : Nat} {lv : List (Nat × Value)} {st : List Value} {h : hh_H} (C : hh_ok X B e0 cc own nL ret nm R) {x : Int32} (d : decode cc pc = .ok (.i2b, 1)) (k : hh_W X cn sn (pc + 1) lv (.int x.toInt8.toInt32 :: st) h) : hh_W X cn sn pc lv (.int x :: st) h := by
  obtain ⟨p, l, e, R', s, m, args, below, meth, c, Q, D, cT, B', e0', nL'⟩ := X
  obtain ⟨hx, hb, hml, hown, hts, hK, hlk, hrt, hnm, rfl, rfl, rfl, rfl, hB, hA, hcA⟩ := C
  intro H locs ls hS hl
  exact lv_i2b hx hb d rfl (k H locs ls hS hl)
theorem r_ldcw {X : hh_X} {B e0 : Nat} {cc : ByteArray} {own : String} {nL : Nat} {ret : Option FieldType} {nm : String} {R : Room} {cn sn pc : Nat} {lv : List (Nat × Value)} {st : List Value} {h : hh_H} (C : hh_ok X B e0 cc own nL ret nm R) {idx : Nat} {v : Int32} (d : decode cc pc = .ok (.ldc_w idx, 3)) (hw : Jvm.Cond.constant own idx v ∈ hh_T) (k : hh_W X cn sn (pc + 3) lv (.int v :: st) h) : hh_W X cn sn pc lv st h := by
  obtain ⟨p, l, e, R', s, m, args, below, meth, c, Q, D, cT, B', e0', nL'⟩ := X
  obtain ⟨hx, hb, hml, hown, hts, hK, hlk, hrt, hnm, rfl, rfl, rfl, rfl, hB, hA, hcA⟩ := C
  intro H locs ls hS hl
  exact lv_ldcw hx hb hown (hts _ hw) d (k H locs ls hS hl)
theorem r_ldc2 {X : hh_X} {B e0 : Nat} {cc : ByteArray} {own : String} {nL : Nat} {ret : Option FieldType} {nm : String} {R : Room} {cn sn pc : Nat} {lv : List (Nat × Value)} {st : List Value} {h : hh_H} (C : hh_ok X B e0 cc own nL ret nm R) {idx : Nat} {v : Int64} (d : decode cc pc = .ok (.ldc2_w idx, 3)) (hw : Jvm.Cond.constantLong own idx v ∈ hh_T) (k : hh_W X cn sn (pc + 3) lv (.long v :: st) h) : hh_W X cn sn pc lv st h := by
  obtain ⟨p, l, e, R', s, m, args, below, meth, c, Q, D, cT, B', e0', nL'⟩ := X
  obtain ⟨hx, hb, hml, hown, hts, hK, hlk, hrt, hnm, rfl, rfl, rfl, rfl, hB, hA, hcA⟩ := C
  intro H locs ls hS hl
  exact lv_ldc2 hx hb hown (hts _ hw) d (k H locs ls hS hl)
theorem r_null {X : hh_X} {B e0 : Nat} {cc : ByteArray} {own : String} {nL : Nat} {ret : Option FieldType} {nm : String} {R : Room} {cn sn pc : Nat} {lv : List (Nat × Value)} {st : List Value} {h : hh_H} (C : hh_ok X B e0 cc own nL ret nm R) (d : decode cc pc = .ok (.aconst_null, 1)) (k : hh_W X cn sn (pc + 1) lv (.null :: st) h) : hh_W X cn sn pc lv st h := by
  obtain ⟨p, l, e, R', s, m, args, below, meth, c, Q, D, cT, B', e0', nL'⟩ := X
  obtain ⟨hx, hb, hml, hown, hts, hK, hlk, hrt, hnm, rfl, rfl, rfl, rfl, hB, hA, hcA⟩ := C
  intro H locs ls hS hl
  exact lv_null hx hb d (k H locs ls hS hl)
theorem r_lcmp {X : hh_X} {B e0 : Nat} {cc : ByteArray} {own : String} {nL : Nat} {ret : Option FieldType} {nm : String} {R : Room} {cn sn pc : Nat} {lv : List (Nat × Value)} {st : List Value} {h : hh_H} (C : hh_ok X B e0 cc own nL ret nm R) {x y : Int64} (d : decode cc pc = .ok (.lcmp, 1)) (k : hh_W X cn sn (pc + 1) lv (.int (lg_cmp x y) :: st) h) : hh_W X cn sn pc lv (.long y :: .long x :: st) h := by
  obtain ⟨p, l, e, R', s, m, args, below, meth, c, Q, D, cT, B', e0', nL'⟩ := X
  obtain ⟨hx, hb, hml, hown, hts, hK, hlk, hrt, hnm, rfl, rfl, rfl, rfl, hB, hA, hcA⟩ := C
  intro H locs ls hS hl
  exact W.lcmp hx hb d (k H locs ls hS hl)
theorem r_dup {X : hh_X} {B e0 : Nat} {cc : ByteArray} {own : String} {nL : Nat} {ret : Option FieldType} {nm : String} {R : Room} {cn sn pc : Nat} {lv : List (Nat × Value)} {st : List Value} {h : hh_H} (C : hh_ok X B e0 cc own nL ret nm R) {a : Value} (d : decode cc pc = .ok (.dup, 1)) (ha : a.category = 1) (k : hh_W X cn sn (pc + 1) lv (a :: a :: st) h) : hh_W X cn sn pc lv (a :: st) h := by
  obtain ⟨p, l, e, R', s, m, args, below, meth, c, Q, D, cT, B', e0', nL'⟩ := X
  obtain ⟨hx, hb, hml, hown, hts, hK, hlk, hrt, hnm, rfl, rfl, rfl, rfl, hB, hA, hcA⟩ := C
  intro H locs ls hS hl
  exact lv_dup hx hb d ha (k H locs ls hS hl)
theorem r_pop {X : hh_X} {B e0 : Nat} {cc : ByteArray} {own : String} {nL : Nat} {ret : Option FieldType} {nm : String} {R : Room} {cn sn pc : Nat} {lv : List (Nat × Value)} {st : List Value} {h : hh_H} (C : hh_ok X B e0 cc own nL ret nm R) {a : Value} (d : decode cc pc = .ok (.pop, 1)) (ha : a.category = 1) (k : hh_W X cn sn (pc + 1) lv st h) : hh_W X cn sn pc lv (a :: st) h := by
  obtain ⟨p, l, e, R', s, m, args, below, meth, c, Q, D, cT, B', e0', nL'⟩ := X
  obtain ⟨hx, hb, hml, hown, hts, hK, hlk, hrt, hnm, rfl, rfl, rfl, rfl, hB, hA, hcA⟩ := C
  intro H locs ls hS hl
  exact lv_pop hx hb d ha (k H locs ls hS hl)
theorem r_dup_x1 {X : hh_X} {B e0 : Nat} {cc : ByteArray} {own : String} {nL : Nat} {ret : Option FieldType} {nm : String} {R : Room} {cn sn pc : Nat} {lv : List (Nat × Value)} {st : List Value} {h : hh_H} (C : hh_ok X B e0 cc own nL ret nm R) {a b : Value} (d : decode cc pc = .ok (.dup_x1, 1)) (ha : a.category = 1) (hb0 : b.category = 1) (k : hh_W X cn sn (pc + 1) lv (a :: b :: a :: st) h) : hh_W X cn sn pc lv (a :: b :: st) h := by
  obtain ⟨p, l, e, R', s, m, args, below, meth, c, Q, D, cT, B', e0', nL'⟩ := X
  obtain ⟨hx, hb, hml, hown, hts, hK, hlk, hrt, hnm, rfl, rfl, rfl, rfl, hB, hA, hcA⟩ := C
  intro H locs ls hS hl
  exact lv_dup_x1 hx hb d ha hb0 (k H locs ls hS hl)
theorem r_dup_x2 {X : hh_X} {B e0 : Nat} {cc : ByteArray} {own : String} {nL : Nat} {ret : Option FieldType} {nm : String} {R : Room} {cn sn pc : Nat} {lv : List (Nat × Value)} {st : List Value} {h : hh_H} (C : hh_ok X B e0 cc own nL ret nm R) {a b g : Value} (d : decode cc pc = .ok (.dup_x2, 1)) (ha : a.category = 1) (hb0 : b.category = 1) (hc0 : g.category = 1) (k : hh_W X cn sn (pc + 1) lv (a :: b :: g :: a :: st) h) : hh_W X cn sn pc lv (a :: b :: g :: st) h := by
  obtain ⟨p, l, e, R', s, m, args, below, meth, c, Q, D, cT, B', e0', nL'⟩ := X
  obtain ⟨hx, hb, hml, hown, hts, hK, hlk, hrt, hnm, rfl, rfl, rfl, rfl, hB, hA, hcA⟩ := C
  intro H locs ls hS hl
  exact lv_dup_x2 hx hb d ha hb0 hc0 (k H locs ls hS hl)
theorem r_dup2 {X : hh_X} {B e0 : Nat} {cc : ByteArray} {own : String} {nL : Nat} {ret : Option FieldType} {nm : String} {R : Room} {cn sn pc : Nat} {lv : List (Nat × Value)} {st : List Value} {h : hh_H} (C : hh_ok X B e0 cc own nL ret nm R) {a b : Value} (d : decode cc pc = .ok (.dup2, 1)) (ha : a.category = 1) (hb0 : b.category = 1) (k : hh_W X cn sn (pc + 1) lv (a :: b :: a :: b :: st) h) : hh_W X cn sn pc lv (a :: b :: st) h := by
  obtain ⟨p, l, e, R', s, m, args, below, meth, c, Q, D, cT, B', e0', nL'⟩ := X
  obtain ⟨hx, hb, hml, hown, hts, hK, hlk, hrt, hnm, rfl, rfl, rfl, rfl, hB, hA, hcA⟩ := C
  intro H locs ls hS hl
  exact lv_dup2_11 hx hb d ha hb0 (k H locs ls hS hl)
theorem r_if_eq {X : hh_X} {B e0 : Nat} {cc : ByteArray} {own : String} {nL : Nat} {ret : Option FieldType} {nm : String} {R : Room} {cn sn pc : Nat} {lv : List (Nat × Value)} {st : List Value} {h : hh_H} (C : hh_ok X B e0 cc own nL ret nm R) {x : Int32} {off : Int} {tgt : Nat} (d : decode cc pc = .ok (.ifCond .eq off, 3)) (ht : (pc : Int) + off = (tgt : Int)) (kt : x = 0 → hh_W X cn sn tgt lv st h) (kf : ¬ x = 0 → hh_W X cn sn (pc + 3) lv st h) : hh_W X cn sn pc lv (.int x :: st) h := by
  obtain ⟨p, l, e, R', s, m, args, below, meth, c, Q, D, cT, B', e0', nL'⟩ := X
  obtain ⟨hx, hb, hml, hown, hts, hK, hlk, hrt, hnm, rfl, rfl, rfl, rfl, hB, hA, hcA⟩ := C
  intro H locs ls hS hl
  exact lv_if_eq hx hb d ht (fun q => kt q H locs ls hS hl) (fun q => kf q H locs ls hS hl)
theorem r_if_ne {X : hh_X} {B e0 : Nat} {cc : ByteArray} {own : String} {nL : Nat} {ret : Option FieldType} {nm : String} {R : Room} {cn sn pc : Nat} {lv : List (Nat × Value)} {st : List Value} {h : hh_H} (C : hh_ok X B e0 cc own nL ret nm R) {x : Int32} {off : Int} {tgt : Nat} (d : decode cc pc = .ok (.ifCond .ne off, 3)) (ht : (pc : Int) + off = (tgt : Int)) (kt : ¬ x = 0 → hh_W X cn sn tgt lv st h) (kf : x = 0 → hh_W X cn sn (pc + 3) lv st h) : hh_W X cn sn pc lv (.int x :: st) h := by
  obtain ⟨p, l, e, R', s, m, args, below, meth, c, Q, D, cT, B', e0', nL'⟩ := X
  obtain ⟨hx, hb, hml, hown, hts, hK, hlk, hrt, hnm, rfl, rfl, rfl, rfl, hB, hA, hcA⟩ := C
  intro H locs ls hS hl
  exact lv_if_ne hx hb d ht (fun q => kt q H locs ls hS hl) (fun q => kf q H locs ls hS hl)
theorem r_if_lt {X : hh_X} {B e0 : Nat} {cc : ByteArray} {own : String} {nL : Nat} {ret : Option FieldType} {nm : String} {R : Room} {cn sn pc : Nat} {lv : List (Nat × Value)} {st : List Value} {h : hh_H} (C : hh_ok X B e0 cc own nL ret nm R) {x : Int32} {off : Int} {tgt : Nat} (d : decode cc pc = .ok (.ifCond .lt off, 3)) (ht : (pc : Int) + off = (tgt : Int)) (kt : x < 0 → hh_W X cn sn tgt lv st h) (kf : ¬ x < 0 → hh_W X cn sn (pc + 3) lv st h) : hh_W X cn sn pc lv (.int x :: st) h := by
  obtain ⟨p, l, e, R', s, m, args, below, meth, c, Q, D, cT, B', e0', nL'⟩ := X
  obtain ⟨hx, hb, hml, hown, hts, hK, hlk, hrt, hnm, rfl, rfl, rfl, rfl, hB, hA, hcA⟩ := C
  intro H locs ls hS hl
  exact lv_if_lt hx hb d ht (fun q => kt q H locs ls hS hl) (fun q => kf q H locs ls hS hl)
theorem r_if_ge {X : hh_X} {B e0 : Nat} {cc : ByteArray} {own : String} {nL : Nat} {ret : Option FieldType} {nm : String} {R : Room} {cn sn pc : Nat} {lv : List (Nat × Value)} {st : List Value} {h : hh_H} (C : hh_ok X B e0 cc own nL ret nm R) {x : Int32} {off : Int} {tgt : Nat} (d : decode cc pc = .ok (.ifCond .ge off, 3)) (ht : (pc : Int) + off = (tgt : Int)) (kt : 0 ≤ x → hh_W X cn sn tgt lv st h) (kf : ¬ 0 ≤ x → hh_W X cn sn (pc + 3) lv st h) : hh_W X cn sn pc lv (.int x :: st) h := by
  obtain ⟨p, l, e, R', s, m, args, below, meth, c, Q, D, cT, B', e0', nL'⟩ := X
  obtain ⟨hx, hb, hml, hown, hts, hK, hlk, hrt, hnm, rfl, rfl, rfl, rfl, hB, hA, hcA⟩ := C
  intro H locs ls hS hl
  exact lv_if_ge hx hb d ht (fun q => kt q H locs ls hS hl) (fun q => kf q H locs ls hS hl)
theorem r_if_gt {X : hh_X} {B e0 : Nat} {cc : ByteArray} {own : String} {nL : Nat} {ret : Option FieldType} {nm : String} {R : Room} {cn sn pc : Nat} {lv : List (Nat × Value)} {st : List Value} {h : hh_H} (C : hh_ok X B e0 cc own nL ret nm R) {x : Int32} {off : Int} {tgt : Nat} (d : decode cc pc = .ok (.ifCond .gt off, 3)) (ht : (pc : Int) + off = (tgt : Int)) (kt : 0 < x → hh_W X cn sn tgt lv st h) (kf : ¬ 0 < x → hh_W X cn sn (pc + 3) lv st h) : hh_W X cn sn pc lv (.int x :: st) h := by
  obtain ⟨p, l, e, R', s, m, args, below, meth, c, Q, D, cT, B', e0', nL'⟩ := X
  obtain ⟨hx, hb, hml, hown, hts, hK, hlk, hrt, hnm, rfl, rfl, rfl, rfl, hB, hA, hcA⟩ := C
  intro H locs ls hS hl
  exact lv_if_gt hx hb d ht (fun q => kt q H locs ls hS hl) (fun q => kf q H locs ls hS hl)
theorem r_if_le {X : hh_X} {B e0 : Nat} {cc : ByteArray} {own : String} {nL : Nat} {ret : Option FieldType} {nm : String} {R : Room} {cn sn pc : Nat} {lv : List (Nat × Value)} {st : List Value} {h : hh_H} (C : hh_ok X B e0 cc own nL ret nm R) {x : Int32} {off : Int} {tgt : Nat} (d : decode cc pc = .ok (.ifCond .le off, 3)) (ht : (pc : Int) + off = (tgt : Int)) (kt : x ≤ 0 → hh_W X cn sn tgt lv st h) (kf : ¬ x ≤ 0 → hh_W X cn sn (pc + 3) lv st h) : hh_W X cn sn pc lv (.int x :: st) h := by
  obtain ⟨p, l, e, R', s, m, args, below, meth, c, Q, D, cT, B', e0', nL'⟩ := X
  obtain ⟨hx, hb, hml, hown, hts, hK, hlk, hrt, hnm, rfl, rfl, rfl, rfl, hB, hA, hcA⟩ := C
  intro H locs ls hS hl
  exact lv_if_le hx hb d ht (fun q => kt q H locs ls hS hl) (fun q => kf q H locs ls hS hl)
theorem r_icmp_eq {X : hh_X} {B e0 : Nat} {cc : ByteArray} {own : String} {nL : Nat} {ret : Option FieldType} {nm : String} {R : Room} {cn sn pc : Nat} {lv : List (Nat × Value)} {st : List Value} {h : hh_H} (C : hh_ok X B e0 cc own nL ret nm R) {x y : Int32} {off : Int} {tgt : Nat} (d : decode cc pc = .ok (.if_icmp .eq off, 3)) (ht : (pc : Int) + off = (tgt : Int)) (kt : x = y → hh_W X cn sn tgt lv st h) (kf : ¬ x = y → hh_W X cn sn (pc + 3) lv st h) : hh_W X cn sn pc lv (.int y :: .int x :: st) h := by
  obtain ⟨p, l, e, R', s, m, args, below, meth, c, Q, D, cT, B', e0', nL'⟩ := X
  obtain ⟨hx, hb, hml, hown, hts, hK, hlk, hrt, hnm, rfl, rfl, rfl, rfl, hB, hA, hcA⟩ := C
  intro H locs ls hS hl
  exact lv_icmp_eq hx hb d ht (fun q => kt q H locs ls hS hl) (fun q => kf q H locs ls hS hl)
theorem r_icmp_ne {X : hh_X} {B e0 : Nat} {cc : ByteArray} {own : String} {nL : Nat} {ret : Option FieldType} {nm : String} {R : Room} {cn sn pc : Nat} {lv : List (Nat × Value)} {st : List Value} {h : hh_H} (C : hh_ok X B e0 cc own nL ret nm R) {x y : Int32} {off : Int} {tgt : Nat} (d : decode cc pc = .ok (.if_icmp .ne off, 3)) (ht : (pc : Int) + off = (tgt : Int)) (kt : ¬ x = y → hh_W X cn sn tgt lv st h) (kf : x = y → hh_W X cn sn (pc + 3) lv st h) : hh_W X cn sn pc lv (.int y :: .int x :: st) h := by
  obtain ⟨p, l, e, R', s, m, args, below, meth, c, Q, D, cT, B', e0', nL'⟩ := X
  obtain ⟨hx, hb, hml, hown, hts, hK, hlk, hrt, hnm, rfl, rfl, rfl, rfl, hB, hA, hcA⟩ := C
  intro H locs ls hS hl
  exact lv_icmp_ne hx hb d ht (fun q => kt q H locs ls hS hl) (fun q => kf q H locs ls hS hl)
theorem r_icmp_lt {X : hh_X} {B e0 : Nat} {cc : ByteArray} {own : String} {nL : Nat} {ret : Option FieldType} {nm : String} {R : Room} {cn sn pc : Nat} {lv : List (Nat × Value)} {st : List Value} {h : hh_H} (C : hh_ok X B e0 cc own nL ret nm R) {x y : Int32} {off : Int} {tgt : Nat} (d : decode cc pc = .ok (.if_icmp .lt off, 3)) (ht : (pc : Int) + off = (tgt : Int)) (kt : x < y → hh_W X cn sn tgt lv st h) (kf : ¬ x < y → hh_W X cn sn (pc + 3) lv st h) : hh_W X cn sn pc lv (.int y :: .int x :: st) h := by
  obtain ⟨p, l, e, R', s, m, args, below, meth, c, Q, D, cT, B', e0', nL'⟩ := X
  obtain ⟨hx, hb, hml, hown, hts, hK, hlk, hrt, hnm, rfl, rfl, rfl, rfl, hB, hA, hcA⟩ := C
  intro H locs ls hS hl
  exact lv_icmp_lt hx hb d ht (fun q => kt q H locs ls hS hl) (fun q => kf q H locs ls hS hl)
theorem r_icmp_ge {X : hh_X} {B e0 : Nat} {cc : ByteArray} {own : String} {nL : Nat} {ret : Option FieldType} {nm : String} {R : Room} {cn sn pc : Nat} {lv : List (Nat × Value)} {st : List Value} {h : hh_H} (C : hh_ok X B e0 cc own nL ret nm R) {x y : Int32} {off : Int} {tgt : Nat} (d : decode cc pc = .ok (.if_icmp .ge off, 3)) (ht : (pc : Int) + off = (tgt : Int)) (kt : y ≤ x → hh_W X cn sn tgt lv st h) (kf : ¬ y ≤ x → hh_W X cn sn (pc + 3) lv st h) : hh_W X cn sn pc lv (.int y :: .int x :: st) h := by
  obtain ⟨p, l, e, R', s, m, args, below, meth, c, Q, D, cT, B', e0', nL'⟩ := X
  obtain ⟨hx, hb, hml, hown, hts, hK, hlk, hrt, hnm, rfl, rfl, rfl, rfl, hB, hA, hcA⟩ := C
  intro H locs ls hS hl
  exact lv_icmp_ge hx hb d ht (fun q => kt q H locs ls hS hl) (fun q => kf q H locs ls hS hl)
theorem r_icmp_gt {X : hh_X} {B e0 : Nat} {cc : ByteArray} {own : String} {nL : Nat} {ret : Option FieldType} {nm : String} {R : Room} {cn sn pc : Nat} {lv : List (Nat × Value)} {st : List Value} {h : hh_H} (C : hh_ok X B e0 cc own nL ret nm R) {x y : Int32} {off : Int} {tgt : Nat} (d : decode cc pc = .ok (.if_icmp .gt off, 3)) (ht : (pc : Int) + off = (tgt : Int)) (kt : y < x → hh_W X cn sn tgt lv st h) (kf : ¬ y < x → hh_W X cn sn (pc + 3) lv st h) : hh_W X cn sn pc lv (.int y :: .int x :: st) h := by
  obtain ⟨p, l, e, R', s, m, args, below, meth, c, Q, D, cT, B', e0', nL'⟩ := X
  obtain ⟨hx, hb, hml, hown, hts, hK, hlk, hrt, hnm, rfl, rfl, rfl, rfl, hB, hA, hcA⟩ := C
  intro H locs ls hS hl
  exact lv_icmp_gt hx hb d ht (fun q => kt q H locs ls hS hl) (fun q => kf q H locs ls hS hl)
theorem r_icmp_le {X : hh_X} {B e0 : Nat} {cc : ByteArray} {own : String} {nL : Nat} {ret : Option FieldType} {nm : String} {R : Room} {cn sn pc : Nat} {lv : List (Nat × Value)} {st : List Value} {h : hh_H} (C : hh_ok X B e0 cc own nL ret nm R) {x y : Int32} {off : Int} {tgt : Nat} (d : decode cc pc = .ok (.if_icmp .le off, 3)) (ht : (pc : Int) + off = (tgt : Int)) (kt : x ≤ y → hh_W X cn sn tgt lv st h) (kf : ¬ x ≤ y → hh_W X cn sn (pc + 3) lv st h) : hh_W X cn sn pc lv (.int y :: .int x :: st) h := by
  obtain ⟨p, l, e, R', s, m, args, below, meth, c, Q, D, cT, B', e0', nL'⟩ := X
  obtain ⟨hx, hb, hml, hown, hts, hK, hlk, hrt, hnm, rfl, rfl, rfl, rfl, hB, hA, hcA⟩ := C
  intro H locs ls hS hl
  exact lv_icmp_le hx hb d ht (fun q => kt q H locs ls hS hl) (fun q => kf q H locs ls hS hl)
theorem r_goto {X : hh_X} {B e0 : Nat} {cc : ByteArray} {own : String} {nL : Nat} {ret : Option FieldType} {nm : String} {R : Room} {cn sn pc : Nat} {lv : List (Nat × Value)} {st : List Value} {h : hh_H} (C : hh_ok X B e0 cc own nL ret nm R) {off : Int} {tgt : Nat} (d : decode cc pc = .ok (.goto off, 3)) (ht : (pc : Int) + off = (tgt : Int)) (k : hh_W X cn sn tgt lv st h) : hh_W X cn sn pc lv st h := by
  obtain ⟨p, l, e, R', s, m, args, below, meth, c, Q, D, cT, B', e0', nL'⟩ := X
  obtain ⟨hx, hb, hml, hown, hts, hK, hlk, hrt, hnm, rfl, rfl, rfl, rfl, hB, hA, hcA⟩ := C
  intro H locs ls hS hl
  exact lv_goto hx hb d ht (k H locs ls hS hl)
theorem r_tsOut {X : hh_X} {B e0 : Nat} {cc : ByteArray} {own : String} {nL : Nat} {ret : Option FieldType} {nm : String} {R : Room} {cn sn pc : Nat} {lv : List (Nat × Value)} {st : List Value} {h : hh_H} (C : hh_ok X B e0 cc own nL ret nm R) {dflt lo hi : Int} {offs : Array Int} {len : Nat} {x : Int32} {tgt : Nat} (d : decode cc pc = .ok (.tableswitch dflt lo hi offs, len)) (hq : x.toInt < lo ∨ hi < x.toInt) (ht : (pc : Int) + dflt = (tgt : Int)) (k : hh_W X cn sn tgt lv st h) : hh_W X cn sn pc lv (.int x :: st) h := by
  obtain ⟨p, l, e, R', s, m, args, below, meth, c, Q, D, cT, B', e0', nL'⟩ := X
  obtain ⟨hx, hb, hml, hown, hts, hK, hlk, hrt, hnm, rfl, rfl, rfl, rfl, hB, hA, hcA⟩ := C
  intro H locs ls hS hl
  exact lv_tableOut hx hb d hq ht (k H locs ls hS hl)
theorem r_tsIn {X : hh_X} {B e0 : Nat} {cc : ByteArray} {own : String} {nL : Nat} {ret : Option FieldType} {nm : String} {R : Room} {cn sn pc : Nat} {lv : List (Nat × Value)} {st : List Value} {h : hh_H} (C : hh_ok X B e0 cc own nL ret nm R) {dflt lo hi off : Int} {offs : Array Int} {len : Nat} {x v : Int32} {tgt : Nat} (d : decode cc pc = .ok (.tableswitch dflt lo hi offs, len)) (hv : x = v) (h1 : ¬ v.toInt < lo) (h2 : ¬ hi < v.toInt) (ho : offs[(v.toInt - lo).toNat]? = some off) (ht : (pc : Int) + off = (tgt : Int)) (k : hh_W X cn sn tgt lv st h) : hh_W X cn sn pc lv (.int x :: st) h := by
  obtain ⟨p, l, e, R', s, m, args, below, meth, c, Q, D, cT, B', e0', nL'⟩ := X
  obtain ⟨hx, hb, hml, hown, hts, hK, hlk, hrt, hnm, rfl, rfl, rfl, rfl, hB, hA, hcA⟩ := C
  intro H locs ls hS hl
  subst hv
  exact lv_tableIn hx hb d h1 h2 ho ht (k H locs ls hS hl)
