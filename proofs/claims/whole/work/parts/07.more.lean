theorem oi_inst : Cond.instanceMethod Lib.objectInit ∈ hh_T := hh_at 74 (by decide +kernel) (by decide +kernel)
theorem oi_code : Cond.code Lib.objectInit ⟨#[0xb1]⟩ 1 none ∈ hh_T := hh_at 75 (by decide +kernel) (by decide +kernel)
section More
variable {X : hh_X} {B e0 : Nat} {cc : ByteArray} {own : String} {nL : Nat} {ret : Option FieldType} {nm : String} {R : Room} {cn sn pc idx mc ms : Nat} {lv : List (Nat × Value)} {st : List Value} {h h' : hh_H} {q bd : Nat} {n : Int32}
theorem ac_int : Cond.arrayClass (newarray.typeOf .int) ∈ hh_T := hh_at 101 (by decide +kernel) (by decide +kernel)
theorem az_int (cA : ClassId) (n B e0 : Nat) : vp_cell cA (hh_a B e0 (hp_zero 0 n)) = arrV cA n (fun _ => defaultValue (newarray.typeOf .int)) := by
  show arrV cA (List.replicate n 0).length (fun j => .int ((List.replicate n 0).getD j 0)) = _
  rw [List.length_replicate]
  congr 1
  funext j
  exact congrArg _ (congrFun (hp_rep n 0) j)
theorem r_na_int (C : hh_ok X B e0 cc own nL ret nm R) (d : decode cc pc = .ok (.newarray .int, 2)) (hbd : bd * 4 ≤ 536870912) (hc : cn + 1 ≤ R.cells) (hs : sn + bd ≤ R.slots) (hv : hp_na h 0 n bd = some (q, h')) (kk : hh_W X (cn + 1) (sn + bd) (pc + 2) lv (.ref (hh_ad B e0 q) :: st) h') : hh_W X cn sn pc lv (.int n :: st) h :=
  r_na C d ac_int hbd az_int (fun vm cT h => h.1) hc hs hv kk
theorem ac_boolean : Cond.arrayClass (newarray.typeOf .boolean) ∈ hh_T := hh_at 102 (by decide +kernel) (by decide +kernel)
theorem az_boolean (cA : ClassId) (n B e0 : Nat) : vp_cell cA (hh_a B e0 (hp_zero 1 n)) = arrV cA n (fun _ => defaultValue (newarray.typeOf .boolean)) := by
  show arrV cA (List.replicate n 0).length (fun j => .int ((List.replicate n 0).getD j 0)) = _
  rw [List.length_replicate]
  congr 1
  funext j
  exact congrArg _ (congrFun (hp_rep n 0) j)
theorem r_na_boolean (C : hh_ok X B e0 cc own nL ret nm R) (d : decode cc pc = .ok (.newarray .boolean, 2)) (hbd : bd * 1 ≤ 536870912) (hc : cn + 1 ≤ R.cells) (hs : sn + bd ≤ R.slots) (hv : hp_na h 1 n bd = some (q, h')) (kk : hh_W X (cn + 1) (sn + bd) (pc + 2) lv (.ref (hh_ad B e0 q) :: st) h') : hh_W X cn sn pc lv (.int n :: st) h :=
  r_na C d ac_boolean hbd az_boolean (fun vm cT h => h.2.1) hc hs hv kk
theorem ac_double : Cond.arrayClass (newarray.typeOf .double) ∈ hh_T := hh_at 252 (by decide +kernel) (by decide +kernel)
theorem az_double (cA : ClassId) (n B e0 : Nat) : vp_cell cA (hh_a B e0 (hp_zero 2 n)) = arrV cA n (fun _ => defaultValue (newarray.typeOf .double)) := by
  show arrV cA (List.replicate n 0).length (fun j => .double ((List.replicate n 0).getD j 0)) = _
  rw [List.length_replicate]
  congr 1
  funext j
  exact congrArg _ (congrFun (hp_rep n 0) j)
theorem r_na_double (C : hh_ok X B e0 cc own nL ret nm R) (d : decode cc pc = .ok (.newarray .double, 2)) (hbd : bd * 8 ≤ 536870912) (hc : cn + 1 ≤ R.cells) (hs : sn + bd ≤ R.slots) (hv : hp_na h 2 n bd = some (q, h')) (kk : hh_W X (cn + 1) (sn + bd) (pc + 2) lv (.ref (hh_ad B e0 q) :: st) h') : hh_W X cn sn pc lv (.int n :: st) h :=
  r_na C d ac_double hbd az_double (fun vm cT h => h.2.2.1) hc hs hv kk
theorem ac_long : Cond.arrayClass (newarray.typeOf .long) ∈ hh_T := hh_at 1275 (by decide +kernel) (by decide +kernel)
theorem az_long (cA : ClassId) (n B e0 : Nat) : vp_cell cA (hh_a B e0 (hp_zero 3 n)) = arrV cA n (fun _ => defaultValue (newarray.typeOf .long)) := by
  show arrV cA (List.replicate n 0).length (fun j => .long ((List.replicate n 0).getD j 0)) = _
  rw [List.length_replicate]
  congr 1
  funext j
  exact congrArg _ (congrFun (hp_rep n 0) j)
theorem r_na_long (C : hh_ok X B e0 cc own nL ret nm R) (d : decode cc pc = .ok (.newarray .long, 2)) (hbd : bd * 8 ≤ 536870912) (hc : cn + 1 ≤ R.cells) (hs : sn + bd ≤ R.slots) (hv : hp_na h 3 n bd = some (q, h')) (kk : hh_W X (cn + 1) (sn + bd) (pc + 2) lv (.ref (hh_ad B e0 q) :: st) h') : hh_W X cn sn pc lv (.int n :: st) h :=
  r_na C d ac_long hbd az_long (fun vm cT h => h.2.2.2.1) hc hs hv kk
theorem ac_byte : Cond.arrayClass (newarray.typeOf .byte) ∈ hh_T := hh_at 413 (by decide +kernel) (by decide +kernel)
theorem az_byte (cA : ClassId) (n B e0 : Nat) : vp_cell cA (hh_a B e0 (hp_zero 5 n)) = arrV cA n (fun _ => defaultValue (newarray.typeOf .byte)) := by
  show arrV cA (List.replicate n 0).length (fun j => .int ((List.replicate n 0).getD j 0)) = _
  rw [List.length_replicate]
  congr 1
  funext j
  exact congrArg _ (congrFun (hp_rep n 0) j)
theorem r_na_byte (C : hh_ok X B e0 cc own nL ret nm R) (d : decode cc pc = .ok (.newarray .byte, 2)) (hbd : bd * 1 ≤ 536870912) (hc : cn + 1 ≤ R.cells) (hs : sn + bd ≤ R.slots) (hv : hp_na h 5 n bd = some (q, h')) (kk : hh_W X (cn + 1) (sn + bd) (pc + 2) lv (.ref (hh_ad B e0 q) :: st) h') : hh_W X cn sn pc lv (.int n :: st) h :=
  r_na C d ac_byte hbd az_byte (fun vm cT h => h.2.2.2.2.2) hc hs hv kk
def hh_CA (own : String) (idx ci : Nat) : Prop := ∃ (Cn : String) (T : u_T) (N : Nat), hh_cl[ci]? = some (Cn, T, N) ∧ Cond.classLink own idx Cn ∈ hh_T
theorem r_cast {a ci : Nat} {fs : List hh_V} (C : hh_ok X B e0 cc own nL ret nm R) (d : decode cc pc = .ok (.checkcast idx, 3)) (F : hh_CA own idx ci) (ho : h[a]? = some (.inr (ci, fs))) (kk : hh_W X cn sn (pc + 3) lv (.ref (hh_ad B e0 a) :: st) h) : hh_W X cn sn pc lv (.ref (hh_ad B e0 a) :: st) h := by
  obtain ⟨p, l, e, R', s, m, args, below, meth, c, Q, D, cT, B', e0', nL'⟩ := X
  obtain ⟨hx, hb, hml, hown, hts, hK, hlk, hrt, hnm, rfl, rfl, rfl, rfl, hB, hA, hcA⟩ := C
  obtain ⟨Cn, T, N, h1, h2⟩ := F
  intro H locs ls hS hl
  exact va_castS hx hb hown (hts _ h2) (hK.1 ci _ h1).2 (va_recv hK hS.1 h1 (hh_w_get (hh_p0 hS.2.1.1 ho (fun q => by cases q)) ho)) d (kk H locs ls hS hl)
theorem r_lreturn (C : hh_ok X B e0 cc own nL (some .long) nm R) {rr : Int64 × hh_H} {v : Int64} (E : hh_End X B e0 (.returned (some (.long rr.1))) rr.2 mc ms) (d : decode cc pc = .ok (.lreturn, 1)) (hc : cn ≤ mc) (hs : sn ≤ ms) (hf : some (v, h) = some rr) : hh_W X cn sn pc lv [.long v] h := by
  obtain ⟨p, l, e, R', s, m, args, below, meth, c, Q, D, cT, B', e0', nL'⟩ := X
  obtain ⟨hx, hb, hml, hown, hts, hK, hlk, hrt, hnm, rfl, rfl, rfl, rfl, hB, hA, hcA⟩ := C
  cases hf
  cases E
  intro H locs ls hS hl
  exact W.widen hc hs (W.lret hx hb hrt (fun t ht hW => hh_Qof hS ht) hS.2.2.2.2 d hlk)
theorem r_mmax {x y : Int32} (C : hh_ok X B e0 cc own nL ret nm R) (d : decode cc pc = .ok (.invokestatic idx, 3)) (hw : Cond.methodLink own idx Lib.Math.max.name ∈ hh_T) (hR : 1 ≤ R.frames ∧ 21 ≤ R.locals) (hst : (st.map fun v => v.category).sum ≤ 8) (hc : cn ≤ R.cells) (hs : sn ≤ R.slots) (kk : hh_W X cn sn (pc + 3) lv (.int (if x < y then y else x) :: st) h) : hh_W X cn sn pc lv (.int y :: .int x :: st) h := by
  obtain ⟨p, l, e, R', s, m, args, below, meth, c, Q, D, cT, B', e0', nL'⟩ := X
  obtain ⟨hx, hb, hml, hown, hts, hK, hlk, hrt, hnm, rfl, rfl, rfl, rfl, hB, hA, hcA⟩ := C
  intro H locs ls hS hl
  exact va_mmax hx hb (hml.trans hl.1.symm) hown (hts _ hw) (hts _ (hh_at 83 (by decide +kernel) (by decide +kernel))) (hts _ (hh_at 36 (by decide +kernel) (by decide +kernel))) (hts _ (hh_at 84 (by decide +kernel) (by decide +kernel))) hR.1 (by have := hR.2; omega) hc hs d (kk H locs ls hS hl)
theorem r_mmin {x y : Int32} (C : hh_ok X B e0 cc own nL ret nm R) (d : decode cc pc = .ok (.invokestatic idx, 3)) (hw : Cond.methodLink own idx Lib.Math.min.name ∈ hh_T) (hR : 1 ≤ R.frames ∧ 21 ≤ R.locals) (hst : (st.map fun v => v.category).sum ≤ 8) (hc : cn ≤ R.cells) (hs : sn ≤ R.slots) (kk : hh_W X cn sn (pc + 3) lv (.int (if y < x then y else x) :: st) h) : hh_W X cn sn pc lv (.int y :: .int x :: st) h := by
  obtain ⟨p, l, e, R', s, m, args, below, meth, c, Q, D, cT, B', e0', nL'⟩ := X
  obtain ⟨hx, hb, hml, hown, hts, hK, hlk, hrt, hnm, rfl, rfl, rfl, rfl, hB, hA, hcA⟩ := C
  intro H locs ls hS hl
  exact va_mmin hx hb (hml.trans hl.1.symm) hown (hts _ hw) (hts _ (hh_at 80 (by decide +kernel) (by decide +kernel))) (hts _ (hh_at 36 (by decide +kernel) (by decide +kernel))) (hts _ (hh_at 81 (by decide +kernel) (by decide +kernel))) hR.1 (by have := hR.2; omega) hc hs d (kk H locs ls hS hl)
end More
