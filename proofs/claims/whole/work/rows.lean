section
-- ===== PART A: goes FIRST, ahead of the names: the tables' words, and 'selects' of the private methods out of them =====
/-- a private method of a class that the tables say can be made, by its rows of tables_1 -/
def lw_okq (q : MethodName × Nat) : Prop := (q.1.cls ≠ "java/lang/invoke/MethodHandle" ∧ q.1.cls ≠ "java/lang/invoke/VarHandle") ∧ Cond.instantiable q.1.cls q.2 ∈ tables_1 ∧ Cond.privateMethod q.1 ∈ tables_1 ∧ Cond.instanceMethod q.1 ∈ tables_1
theorem lw_p0 : lw_okq (⟨"java/lang/Throwable", "fillInStackTrace", "(I)Ljava/lang/Throwable;"⟩, 6) := ⟨⟨by decide +kernel, by decide +kernel⟩, List.mem_of_getElem? (i := 351) (by decide +kernel), List.mem_of_getElem? (i := 349) (by decide +kernel), List.mem_of_getElem? (i := 350) (by decide +kernel)⟩
theorem lw_p1 : lw_okq (⟨"IndexBuilder", "flushBuffer", "()Z"⟩, 9) := ⟨⟨by decide +kernel, by decide +kernel⟩, List.mem_of_getElem? (i := 35) (by decide +kernel), List.mem_of_getElem? (i := 406) (by decide +kernel), List.mem_of_getElem? (i := 407) (by decide +kernel)⟩
theorem lw_p2 : lw_okq (⟨"IndexBuilder$RunRow", "fitsOnDisk", "()Z"⟩, 11) := ⟨⟨by decide +kernel, by decide +kernel⟩, List.mem_of_getElem? (i := 99) (by decide +kernel), List.mem_of_getElem? (i := 422) (by decide +kernel), List.mem_of_getElem? (i := 423) (by decide +kernel)⟩
theorem lw_p3 : lw_okq (⟨"IndexBuilder$Bytes", "raise", "(I)V"⟩, 3) := ⟨⟨by decide +kernel, by decide +kernel⟩, List.mem_of_getElem? (i := 133) (by decide +kernel), List.mem_of_getElem? (i := 458) (by decide +kernel), List.mem_of_getElem? (i := 459) (by decide +kernel)⟩
theorem lw_p4 : lw_okq (⟨"IndexBuilder$RunRow", "writeAt", "(II)V"⟩, 11) := ⟨⟨by decide +kernel, by decide +kernel⟩, List.mem_of_getElem? (i := 99) (by decide +kernel), List.mem_of_getElem? (i := 476) (by decide +kernel), List.mem_of_getElem? (i := 477) (by decide +kernel)⟩
theorem lw_p5 : lw_okq (⟨"IndexBuilder$Disk", "takeLeast", "(I)[I"⟩, 3) := ⟨⟨by decide +kernel, by decide +kernel⟩, List.mem_of_getElem? (i := 83) (by decide +kernel), List.mem_of_getElem? (i := 486) (by decide +kernel), List.mem_of_getElem? (i := 487) (by decide +kernel)⟩
theorem lw_p6 : lw_okq (⟨"java/util/ArrayList", "rangeCheckForAdd", "(I)V"⟩, 3) := ⟨⟨by decide +kernel, by decide +kernel⟩, List.mem_of_getElem? (i := 105) (by decide +kernel), List.mem_of_getElem? (i := 519) (by decide +kernel), List.mem_of_getElem? (i := 520) (by decide +kernel)⟩
theorem lw_p7 : lw_okq (⟨"java/util/ArrayList", "outOfBoundsMsg", "(I)Ljava/lang/String;"⟩, 3) := ⟨⟨by decide +kernel, by decide +kernel⟩, List.mem_of_getElem? (i := 105) (by decide +kernel), List.mem_of_getElem? (i := 532) (by decide +kernel), List.mem_of_getElem? (i := 533) (by decide +kernel)⟩
theorem lw_p8 : lw_okq (⟨"java/util/ArrayList", "grow", "()[Ljava/lang/Object;"⟩, 3) := ⟨⟨by decide +kernel, by decide +kernel⟩, List.mem_of_getElem? (i := 105) (by decide +kernel), List.mem_of_getElem? (i := 784) (by decide +kernel), List.mem_of_getElem? (i := 785) (by decide +kernel)⟩
theorem lw_p9 : lw_okq (⟨"java/util/ArrayList", "grow", "(I)[Ljava/lang/Object;"⟩, 3) := ⟨⟨by decide +kernel, by decide +kernel⟩, List.mem_of_getElem? (i := 105) (by decide +kernel), List.mem_of_getElem? (i := 788) (by decide +kernel), List.mem_of_getElem? (i := 789) (by decide +kernel)⟩
theorem lw_p10 : lw_okq (⟨"IndexBuilder$RunRow", "leastFullLevel", "()I"⟩, 11) := ⟨⟨by decide +kernel, by decide +kernel⟩, List.mem_of_getElem? (i := 99) (by decide +kernel), List.mem_of_getElem? (i := 832) (by decide +kernel), List.mem_of_getElem? (i := 833) (by decide +kernel)⟩
theorem lw_p11 : lw_okq (⟨"IndexBuilder$RunRow", "runsOf", "(I)I"⟩, 11) := ⟨⟨by decide +kernel, by decide +kernel⟩, List.mem_of_getElem? (i := 99) (by decide +kernel), List.mem_of_getElem? (i := 851) (by decide +kernel), List.mem_of_getElem? (i := 852) (by decide +kernel)⟩
theorem lw_p12 : lw_okq (⟨"IndexBuilder$RunRow", "mergeLevels", "(II)Z"⟩, 11) := ⟨⟨by decide +kernel, by decide +kernel⟩, List.mem_of_getElem? (i := 99) (by decide +kernel), List.mem_of_getElem? (i := 855) (by decide +kernel), List.mem_of_getElem? (i := 856) (by decide +kernel)⟩
theorem lw_p13 : lw_okq (⟨"IndexBuilder$RunRow", "readPart", "(LIndexBuilder$Run;)V"⟩, 11) := ⟨⟨by decide +kernel, by decide +kernel⟩, List.mem_of_getElem? (i := 99) (by decide +kernel), List.mem_of_getElem? (i := 864) (by decide +kernel), List.mem_of_getElem? (i := 865) (by decide +kernel)⟩
theorem lw_p14 : lw_okq (⟨"IndexBuilder$Bytes", "read", "()I"⟩, 3) := ⟨⟨by decide +kernel, by decide +kernel⟩, List.mem_of_getElem? (i := 133) (by decide +kernel), List.mem_of_getElem? (i := 879) (by decide +kernel), List.mem_of_getElem? (i := 880) (by decide +kernel)⟩
theorem lw_p15 : lw_okq (⟨"IndexBuilder$RunRow", "removeLevels", "(II)V"⟩, 11) := ⟨⟨by decide +kernel, by decide +kernel⟩, List.mem_of_getElem? (i := 99) (by decide +kernel), List.mem_of_getElem? (i := 890) (by decide +kernel), List.mem_of_getElem? (i := 891) (by decide +kernel)⟩
def lw_privs_1 : List (MethodName × Nat) := [(⟨"java/lang/Throwable", "fillInStackTrace", "(I)Ljava/lang/Throwable;"⟩, 6), (⟨"IndexBuilder", "flushBuffer", "()Z"⟩, 9), (⟨"IndexBuilder$RunRow", "fitsOnDisk", "()Z"⟩, 11), (⟨"IndexBuilder$Bytes", "raise", "(I)V"⟩, 3), (⟨"IndexBuilder$RunRow", "writeAt", "(II)V"⟩, 11), (⟨"IndexBuilder$Disk", "takeLeast", "(I)[I"⟩, 3), (⟨"java/util/ArrayList", "rangeCheckForAdd", "(I)V"⟩, 3), (⟨"java/util/ArrayList", "outOfBoundsMsg", "(I)Ljava/lang/String;"⟩, 3), (⟨"java/util/ArrayList", "grow", "()[Ljava/lang/Object;"⟩, 3), (⟨"java/util/ArrayList", "grow", "(I)[Ljava/lang/Object;"⟩, 3), (⟨"IndexBuilder$RunRow", "leastFullLevel", "()I"⟩, 11), (⟨"IndexBuilder$RunRow", "runsOf", "(I)I"⟩, 11), (⟨"IndexBuilder$RunRow", "mergeLevels", "(II)Z"⟩, 11), (⟨"IndexBuilder$RunRow", "readPart", "(LIndexBuilder$Run;)V"⟩, 11), (⟨"IndexBuilder$Bytes", "read", "()I"⟩, 3), (⟨"IndexBuilder$RunRow", "removeLevels", "(II)V"⟩, 11)]
theorem lw_r1 : ∀ q ∈ lw_privs_1, lw_okq q := List.forall_mem_cons.mpr ⟨lw_p0, List.forall_mem_cons.mpr ⟨lw_p1, List.forall_mem_cons.mpr ⟨lw_p2, List.forall_mem_cons.mpr ⟨lw_p3, List.forall_mem_cons.mpr ⟨lw_p4, List.forall_mem_cons.mpr ⟨lw_p5, List.forall_mem_cons.mpr ⟨lw_p6, List.forall_mem_cons.mpr ⟨lw_p7, List.forall_mem_cons.mpr ⟨lw_p8, List.forall_mem_cons.mpr ⟨lw_p9, List.forall_mem_cons.mpr ⟨lw_p10, List.forall_mem_cons.mpr ⟨lw_p11, List.forall_mem_cons.mpr ⟨lw_p12, List.forall_mem_cons.mpr ⟨lw_p13, List.forall_mem_cons.mpr ⟨lw_p14, List.forall_mem_cons.mpr ⟨lw_p15, fun _ h => absurd h List.not_mem_nil⟩⟩⟩⟩⟩⟩⟩⟩⟩⟩⟩⟩⟩⟩⟩⟩
theorem lw_p16 : lw_okq (⟨"IndexBuilder$Disk", "clear", "(I)V"⟩, 3) := ⟨⟨by decide +kernel, by decide +kernel⟩, List.mem_of_getElem? (i := 83) (by decide +kernel), List.mem_of_getElem? (i := 898) (by decide +kernel), List.mem_of_getElem? (i := 899) (by decide +kernel)⟩
theorem lw_p17 : lw_okq (⟨"java/util/ArrayList", "fastRemove", "([Ljava/lang/Object;I)V"⟩, 3) := ⟨⟨by decide +kernel, by decide +kernel⟩, List.mem_of_getElem? (i := 105) (by decide +kernel), List.mem_of_getElem? (i := 906) (by decide +kernel), List.mem_of_getElem? (i := 907) (by decide +kernel)⟩
theorem lw_p18 : lw_okq (⟨"IndexBuilder", "lookUp", "(II)V"⟩, 9) := ⟨⟨by decide +kernel, by decide +kernel⟩, List.mem_of_getElem? (i := 35) (by decide +kernel), List.mem_of_getElem? (i := 994) (by decide +kernel), List.mem_of_getElem? (i := 995) (by decide +kernel)⟩
theorem lw_p19 : lw_okq (⟨"IndexBuilder", "fits", "(II)Z"⟩, 9) := ⟨⟨by decide +kernel, by decide +kernel⟩, List.mem_of_getElem? (i := 35) (by decide +kernel), List.mem_of_getElem? (i := 1024) (by decide +kernel), List.mem_of_getElem? (i := 1025) (by decide +kernel)⟩
theorem lw_p20 : lw_okq (⟨"IndexBuilder$RunRow", "has", "(I)Z"⟩, 11) := ⟨⟨by decide +kernel, by decide +kernel⟩, List.mem_of_getElem? (i := 99) (by decide +kernel), List.mem_of_getElem? (i := 1130) (by decide +kernel), List.mem_of_getElem? (i := 1131) (by decide +kernel)⟩
theorem lw_p21 : lw_okq (⟨"IndexBuilderModel", "fail", "(I)I"⟩, 28) := ⟨⟨by decide +kernel, by decide +kernel⟩, List.mem_of_getElem? (i := 1148) (by decide +kernel), List.mem_of_getElem? (i := 1254) (by decide +kernel), List.mem_of_getElem? (i := 1255) (by decide +kernel)⟩
theorem lw_p22 : lw_okq (⟨"IndexBuilderModel", "buffered", "()I"⟩, 28) := ⟨⟨by decide +kernel, by decide +kernel⟩, List.mem_of_getElem? (i := 1148) (by decide +kernel), List.mem_of_getElem? (i := 1262) (by decide +kernel), List.mem_of_getElem? (i := 1263) (by decide +kernel)⟩
theorem lw_p23 : lw_okq (⟨"IndexBuilderModel", "flushing", "()Z"⟩, 28) := ⟨⟨by decide +kernel, by decide +kernel⟩, List.mem_of_getElem? (i := 1148) (by decide +kernel), List.mem_of_getElem? (i := 1266) (by decide +kernel), List.mem_of_getElem? (i := 1267) (by decide +kernel)⟩
theorem lw_p24 : lw_okq (⟨"IndexBuilderModel", "room", "(J)J"⟩, 28) := ⟨⟨by decide +kernel, by decide +kernel⟩, List.mem_of_getElem? (i := 1148) (by decide +kernel), List.mem_of_getElem? (i := 1273) (by decide +kernel), List.mem_of_getElem? (i := 1274) (by decide +kernel)⟩
theorem lw_p25 : lw_okq (⟨"IndexBuilderModel", "encode", "(J)V"⟩, 28) := ⟨⟨by decide +kernel, by decide +kernel⟩, List.mem_of_getElem? (i := 1148) (by decide +kernel), List.mem_of_getElem? (i := 1277) (by decide +kernel), List.mem_of_getElem? (i := 1278) (by decide +kernel)⟩
theorem lw_p26 : lw_okq (⟨"IndexBuilderModel", "often", "(II)I"⟩, 28) := ⟨⟨by decide +kernel, by decide +kernel⟩, List.mem_of_getElem? (i := 1148) (by decide +kernel), List.mem_of_getElem? (i := 1281) (by decide +kernel), List.mem_of_getElem? (i := 1282) (by decide +kernel)⟩
theorem lw_p27 : lw_okq (⟨"IndexBuilderModel", "put", "(I)V"⟩, 28) := ⟨⟨by decide +kernel, by decide +kernel⟩, List.mem_of_getElem? (i := 1148) (by decide +kernel), List.mem_of_getElem? (i := 1285) (by decide +kernel), List.mem_of_getElem? (i := 1286) (by decide +kernel)⟩
theorem lw_p28 : lw_okq (⟨"IndexBuilderModel", "putWord", "(JI)V"⟩, 28) := ⟨⟨by decide +kernel, by decide +kernel⟩, List.mem_of_getElem? (i := 1148) (by decide +kernel), List.mem_of_getElem? (i := 1289) (by decide +kernel), List.mem_of_getElem? (i := 1290) (by decide +kernel)⟩
theorem lw_p29 : lw_okq (⟨"IndexBuilderModel", "full", "()I"⟩, 28) := ⟨⟨by decide +kernel, by decide +kernel⟩, List.mem_of_getElem? (i := 1148) (by decide +kernel), List.mem_of_getElem? (i := 1296) (by decide +kernel), List.mem_of_getElem? (i := 1297) (by decide +kernel)⟩
theorem lw_p30 : lw_okq (⟨"IndexBuilderModel", "merge", "(I)Z"⟩, 28) := ⟨⟨by decide +kernel, by decide +kernel⟩, List.mem_of_getElem? (i := 1148) (by decide +kernel), List.mem_of_getElem? (i := 1300) (by decide +kernel), List.mem_of_getElem? (i := 1301) (by decide +kernel)⟩
theorem lw_p31 : lw_okq (⟨"IndexBuilderModel", "fits", "(IIII)Z"⟩, 28) := ⟨⟨by decide +kernel, by decide +kernel⟩, List.mem_of_getElem? (i := 1148) (by decide +kernel), List.mem_of_getElem? (i := 1321) (by decide +kernel), List.mem_of_getElem? (i := 1322) (by decide +kernel)⟩
def lw_privs_2 : List (MethodName × Nat) := [(⟨"IndexBuilder$Disk", "clear", "(I)V"⟩, 3), (⟨"java/util/ArrayList", "fastRemove", "([Ljava/lang/Object;I)V"⟩, 3), (⟨"IndexBuilder", "lookUp", "(II)V"⟩, 9), (⟨"IndexBuilder", "fits", "(II)Z"⟩, 9), (⟨"IndexBuilder$RunRow", "has", "(I)Z"⟩, 11), (⟨"IndexBuilderModel", "fail", "(I)I"⟩, 28), (⟨"IndexBuilderModel", "buffered", "()I"⟩, 28), (⟨"IndexBuilderModel", "flushing", "()Z"⟩, 28), (⟨"IndexBuilderModel", "room", "(J)J"⟩, 28), (⟨"IndexBuilderModel", "encode", "(J)V"⟩, 28), (⟨"IndexBuilderModel", "often", "(II)I"⟩, 28), (⟨"IndexBuilderModel", "put", "(I)V"⟩, 28), (⟨"IndexBuilderModel", "putWord", "(JI)V"⟩, 28), (⟨"IndexBuilderModel", "full", "()I"⟩, 28), (⟨"IndexBuilderModel", "merge", "(I)Z"⟩, 28), (⟨"IndexBuilderModel", "fits", "(IIII)Z"⟩, 28)]
theorem lw_r2 : ∀ q ∈ lw_privs_2, lw_okq q := List.forall_mem_cons.mpr ⟨lw_p16, List.forall_mem_cons.mpr ⟨lw_p17, List.forall_mem_cons.mpr ⟨lw_p18, List.forall_mem_cons.mpr ⟨lw_p19, List.forall_mem_cons.mpr ⟨lw_p20, List.forall_mem_cons.mpr ⟨lw_p21, List.forall_mem_cons.mpr ⟨lw_p22, List.forall_mem_cons.mpr ⟨lw_p23, List.forall_mem_cons.mpr ⟨lw_p24, List.forall_mem_cons.mpr ⟨lw_p25, List.forall_mem_cons.mpr ⟨lw_p26, List.forall_mem_cons.mpr ⟨lw_p27, List.forall_mem_cons.mpr ⟨lw_p28, List.forall_mem_cons.mpr ⟨lw_p29, List.forall_mem_cons.mpr ⟨lw_p30, List.forall_mem_cons.mpr ⟨lw_p31, fun _ h => absurd h List.not_mem_nil⟩⟩⟩⟩⟩⟩⟩⟩⟩⟩⟩⟩⟩⟩⟩⟩
theorem lw_p32 : lw_okq (⟨"IndexBuilderModel", "adjacent", "(III)Z"⟩, 28) := ⟨⟨by decide +kernel, by decide +kernel⟩, List.mem_of_getElem? (i := 1148) (by decide +kernel), List.mem_of_getElem? (i := 1325) (by decide +kernel), List.mem_of_getElem? (i := 1326) (by decide +kernel)⟩
theorem lw_p33 : lw_okq (⟨"IndexBuilderModel", "part", "(II)D"⟩, 28) := ⟨⟨by decide +kernel, by decide +kernel⟩, List.mem_of_getElem? (i := 1148) (by decide +kernel), List.mem_of_getElem? (i := 1333) (by decide +kernel), List.mem_of_getElem? (i := 1334) (by decide +kernel)⟩
def lw_privs_3 : List (MethodName × Nat) := [(⟨"IndexBuilderModel", "adjacent", "(III)Z"⟩, 28), (⟨"IndexBuilderModel", "part", "(II)D"⟩, 28)]
theorem lw_r3 : ∀ q ∈ lw_privs_3, lw_okq q := List.forall_mem_cons.mpr ⟨lw_p32, List.forall_mem_cons.mpr ⟨lw_p33, fun _ h => absurd h List.not_mem_nil⟩⟩
def lw_privs : List (MethodName × Nat) := lw_privs_1 ++ (lw_privs_2 ++ (lw_privs_3))
def lw_tbl : List Cond := k2_sels lw_privs ++ tables_1
theorem lw_privs_ok : ∀ q ∈ lw_privs, lw_okq q := by
  show ∀ q ∈ lw_privs_1 ++ (lw_privs_2 ++ (lw_privs_3)), lw_okq q
  exact List.forall_mem_append.mpr ⟨lw_r1, List.forall_mem_append.mpr ⟨lw_r2, lw_r3⟩⟩
-- ===== end of PART A; then your names; then what follows =====
end
section
def RX0 : String := "IndexBuilder$Answer"
def RX1 : String := "IndexBuilder$Bytes"
def RX2 : String := "IndexBuilder$Disk"
def RX3 : String := "IndexBuilder$Documents"
def RX4 : String := "IndexBuilder$Places"
def RX5 : String := "IndexBuilder$Postings"
def RX6 : String := "IndexBuilder$Run"
def RX7 : String := "IndexBuilder$RunRow"
def RX8 : String := "IndexBuilder"
def RX9 : String := "IndexBuilderModel"
def RL : String := "IndexBuilderLaw"
def RJ0 : String := "java/util/ArrayList"
def RJ1 : String := "java/util/AbstractList"
def RJ2 : String := "java/util/AbstractCollection"
def RJ3 : String := "java/util/Objects"
def RJ4 : String := "jdk/internal/util/Preconditions"
def RJ5 : String := "java/util/Arrays"
def RJ6 : String := "jdk/internal/util/ArraysSupport"
def RJ7 : String := "java/lang/Math"
def RJ8 : String := "java/lang/Integer"
def TX0 : u_T := fun k => match k with
  | 0 => ("IndexBuilder$Answer", "documents", "[I", true)
  | 1 => ("IndexBuilder$Answer", "scores", "[D", true)
  | 2 => ("IndexBuilder$Answer", "size", "I", false)
  | _ => ("IndexBuilder$Answer", "ranked", "Z", false)
def tyX0 : Nat → FieldType := fun k => match k with
  | 0 => .array .int
  | 1 => .array .double
  | 2 => .int
  | _ => .boolean
def TX1 : u_T := fun k => match k with
  | 0 => ("IndexBuilder$Bytes", "cells", "[I", true)
  | 1 => ("IndexBuilder$Bytes", "size", "I", false)
  | _ => ("IndexBuilder$Bytes", "next", "I", false)
def tyX1 : Nat → FieldType := fun k => match k with
  | 0 => .array .int
  | 1 => .int
  | _ => .int
def TX2 : u_T := fun k => match k with
  | 0 => ("IndexBuilder$Disk", "cells", "[I", true)
  | 1 => ("IndexBuilder$Disk", "taken", "[Z", true)
  | _ => ("IndexBuilder$Disk", "free", "I", false)
def tyX2 : Nat → FieldType := fun k => match k with
  | 0 => .array .int
  | 1 => .array .boolean
  | _ => .int
def TX3 : u_T := fun k => match k with
  | 0 => ("IndexBuilder$Documents", "dropped", "[Z", true)
  | 1 => ("IndexBuilder$Documents", "size", "I", false)
  | _ => ("IndexBuilder$Documents", "live", "I", false)
def tyX3 : Nat → FieldType := fun k => match k with
  | 0 => .array .boolean
  | 1 => .int
  | _ => .int
def TX4 : u_T := fun k => match k with
  | 0 => ("IndexBuilder$Places", "bits", "[I", true)
  | _ => ("IndexBuilder$Places", "word", "I", false)
def tyX4 : Nat → FieldType := fun k => match k with
  | 0 => .array .int
  | _ => .int
def TX5 : u_T := fun k => match k with
  | 0 => ("IndexBuilder$Postings", "keys", "[I", true)
  | _ => ("IndexBuilder$Postings", "size", "I", false)
def tyX5 : Nat → FieldType := fun k => match k with
  | 0 => .array .int
  | _ => .int
def TX6 : u_T := fun k => match k with
  | 0 => ("IndexBuilder$Run", "level", "I", true)
  | 1 => ("IndexBuilder$Run", "blocks", "[I", true)
  | _ => ("IndexBuilder$Run", "bytes", "I", true)
def tyX6 : Nat → FieldType := fun k => match k with
  | 0 => .int
  | 1 => .array .int
  | _ => .int
def TX7 : u_T := fun k => match k with
  | 0 => ("IndexBuilder$RunRow", "documents", "LIndexBuilder$Documents;", true)
  | 1 => ("IndexBuilder$RunRow", "disk", "LIndexBuilder$Disk;", true)
  | 2 => ("IndexBuilder$RunRow", "fan", "I", true)
  | 3 => ("IndexBuilder$RunRow", "row", "Ljava/util/ArrayList;", true)
  | 4 => ("IndexBuilder$RunRow", "gathered", "LIndexBuilder$Postings;", true)
  | 5 => ("IndexBuilder$RunRow", "part", "LIndexBuilder$Postings;", true)
  | 6 => ("IndexBuilder$RunRow", "bytes", "LIndexBuilder$Bytes;", true)
  | 7 => ("IndexBuilder$RunRow", "blocksRead", "I", false)
  | 8 => ("IndexBuilder$RunRow", "blocksWritten", "I", false)
  | 9 => ("IndexBuilder$RunRow", "mergesDone", "I", false)
  | _ => ("IndexBuilder$RunRow", "mergesWithoutRoom", "I", false)
def tyX7 : Nat → FieldType := fun k => match k with
  | 0 => .object "IndexBuilder$Documents"
  | 1 => .object "IndexBuilder$Disk"
  | 2 => .int
  | 3 => .object "java/util/ArrayList"
  | 4 => .object "IndexBuilder$Postings"
  | 5 => .object "IndexBuilder$Postings"
  | 6 => .object "IndexBuilder$Bytes"
  | 7 => .int
  | 8 => .int
  | 9 => .int
  | _ => .int
def TX8 : u_T := fun k => match k with
  | 0 => ("IndexBuilder", "memory", "I", true)
  | 1 => ("IndexBuilder", "open", "[I", true)
  | 2 => ("IndexBuilder", "openWords", "I", false)
  | 3 => ("IndexBuilder", "documents", "LIndexBuilder$Documents;", true)
  | 4 => ("IndexBuilder", "buffer", "LIndexBuilder$Postings;", true)
  | 5 => ("IndexBuilder", "runs", "LIndexBuilder$RunRow;", true)
  | 6 => ("IndexBuilder", "placesOfV", "LIndexBuilder$Places;", true)
  | 7 => ("IndexBuilder", "placesOfW", "LIndexBuilder$Places;", true)
  | _ => ("IndexBuilder", "answer", "LIndexBuilder$Answer;", true)
def tyX8 : Nat → FieldType := fun k => match k with
  | 0 => .int
  | 1 => .array .int
  | 2 => .int
  | 3 => .object "IndexBuilder$Documents"
  | 4 => .object "IndexBuilder$Postings"
  | 5 => .object "IndexBuilder$RunRow"
  | 6 => .object "IndexBuilder$Places"
  | 7 => .object "IndexBuilder$Places"
  | _ => .object "IndexBuilder$Answer"
def TX9 : u_T := fun k => match k with
  | 0 => ("IndexBuilderModel", "thrown", "I", false)
  | 1 => ("IndexBuilderModel", "memory", "I", true)
  | 2 => ("IndexBuilderModel", "fan", "I", true)
  | 3 => ("IndexBuilderModel", "blocks", "I", true)
  | 4 => ("IndexBuilderModel", "open", "[I", true)
  | 5 => ("IndexBuilderModel", "opened", "I", false)
  | 6 => ("IndexBuilderModel", "text", "[I", true)
  | 7 => ("IndexBuilderModel", "length", "[I", true)
  | 8 => ("IndexBuilderModel", "often", "[I", true)
  | 9 => ("IndexBuilderModel", "docs", "I", false)
  | 10 => ("IndexBuilderModel", "waiting", "I", false)
  | 11 => ("IndexBuilderModel", "dropped", "J", false)
  | 12 => ("IndexBuilderModel", "members", "[J", true)
  | 13 => ("IndexBuilderModel", "places", "[J", true)
  | 14 => ("IndexBuilderModel", "level", "[I", true)
  | 15 => ("IndexBuilderModel", "runs", "I", false)
  | 16 => ("IndexBuilderModel", "used", "J", false)
  | 17 => ("IndexBuilderModel", "read", "I", false)
  | 18 => ("IndexBuilderModel", "written", "I", false)
  | 19 => ("IndexBuilderModel", "merges", "I", false)
  | 20 => ("IndexBuilderModel", "failed", "I", false)
  | 21 => ("IndexBuilderModel", "result", "[I", true)
  | 22 => ("IndexBuilderModel", "scores", "[D", true)
  | 23 => ("IndexBuilderModel", "found", "I", false)
  | 24 => ("IndexBuilderModel", "ranked", "Z", false)
  | 25 => ("IndexBuilderModel", "bytes", "[B", true)
  | 26 => ("IndexBuilderModel", "size", "I", false)
  | _ => ("IndexBuilderModel", "shown", "J", false)
def tyX9 : Nat → FieldType := fun k => match k with
  | 0 => .int
  | 1 => .int
  | 2 => .int
  | 3 => .int
  | 4 => .array .int
  | 5 => .int
  | 6 => .array .int
  | 7 => .array .int
  | 8 => .array .int
  | 9 => .int
  | 10 => .int
  | 11 => .long
  | 12 => .array .long
  | 13 => .array .long
  | 14 => .array .int
  | 15 => .int
  | 16 => .long
  | 17 => .int
  | 18 => .int
  | 19 => .int
  | 20 => .int
  | 21 => .array .int
  | 22 => .array .double
  | 23 => .int
  | 24 => .boolean
  | 25 => .array .byte
  | 26 => .int
  | _ => .long
def TJ0 : u_T := fun k => match k with
  | 0 => ("java/util/AbstractList", "modCount", "I", false)
  | 1 => ("java/util/ArrayList", "elementData", "[Ljava/lang/Object;", false)
  | _ => ("java/util/ArrayList", "size", "I", false)
def tyJ0 : Nat → FieldType := fun k => match k with
  | 0 => .int
  | 1 => .array (.object "java/lang/Object")
  | _ => .int
def RE0 : String := "java/lang/IllegalArgumentException"
def RE1 : String := "java/lang/IllegalStateException"
def RE2 : String := "java/lang/UnsupportedOperationException"
def RE3 : String := "java/util/NoSuchElementException"
def RE4 : String := "java/lang/IndexOutOfBoundsException"
def TE : u_T := fun _ => ("", "", "", false)
abbrev hh_cl : List vw_C := [(RX0, TX0, 4), (RX1, TX1, 3), (RX2, TX2, 3), (RX3, TX3, 3), (RX4, TX4, 2), (RX5, TX5, 2), (RX6, TX6, 3), (RX7, TX7, 11), (RX8, TX8, 9), (RX9, TX9, 28), (RJ0, TJ0, 3), (RE0, TE, 0), (RE1, TE, 0), (RE2, TE, 0), (RE3, TE, 0), (RE4, TE, 0)]
def hh_dfl : Nat → List (Int32 ⊕ (Option Nat ⊕ (UInt64 ⊕ Int64))) := fun k => match k with
  | 0 => [.inr (.inl none), .inr (.inl none), .inl 0, .inl 0]
  | 1 => [.inr (.inl none), .inl 0, .inl 0]
  | 2 => [.inr (.inl none), .inr (.inl none), .inl 0]
  | 3 => [.inr (.inl none), .inl 0, .inl 0]
  | 4 => [.inr (.inl none), .inl 0]
  | 5 => [.inr (.inl none), .inl 0]
  | 6 => [.inl 0, .inr (.inl none), .inl 0]
  | 7 => [.inr (.inl none), .inr (.inl none), .inl 0, .inr (.inl none), .inr (.inl none), .inr (.inl none), .inr (.inl none), .inl 0, .inl 0, .inl 0, .inl 0]
  | 8 => [.inl 0, .inr (.inl none), .inl 0, .inr (.inl none), .inr (.inl none), .inr (.inl none), .inr (.inl none), .inr (.inl none), .inr (.inl none)]
  | 9 => [.inl 0, .inl 0, .inl 0, .inl 0, .inr (.inl none), .inl 0, .inr (.inl none), .inr (.inl none), .inr (.inl none), .inl 0, .inl 0, .inr (.inr (.inr 0)), .inr (.inl none), .inr (.inl none), .inr (.inl none), .inl 0, .inr (.inr (.inr 0)), .inl 0, .inl 0, .inl 0, .inl 0, .inr (.inl none), .inr (.inl none), .inl 0, .inl 0, .inr (.inl none), .inl 0, .inr (.inr (.inr 0))]
  | 10 => [.inl 0, .inr (.inl none), .inl 0]
  | 11 => []
  | 12 => []
  | 13 => []
  | 14 => []
  | _ => []
abbrev cX0_init : ByteArray := prog_2_method_1_code
def yX0_init : MethodName := ⟨RX0, "<init>", "()V"⟩
abbrev cX0_begin : ByteArray := prog_2_method_2_code
def yX0_begin : MethodName := ⟨RX0, "begin", "(Z)V"⟩
abbrev cX0_put : ByteArray := prog_2_method_3_code
def yX0_put : MethodName := ⟨RX0, "put", "(ID)V"⟩
abbrev cX0_size : ByteArray := prog_2_method_4_code
def yX0_size : MethodName := ⟨RX0, "size", "()I"⟩
abbrev cX0_isRanked : ByteArray := prog_2_method_5_code
def yX0_isRanked : MethodName := ⟨RX0, "isRanked", "()Z"⟩
abbrev cX0_documentAt : ByteArray := prog_2_method_6_code
def yX0_documentAt : MethodName := ⟨RX0, "documentAt", "(I)I"⟩
abbrev cX0_scoreAt : ByteArray := prog_2_method_7_code
def yX0_scoreAt : MethodName := ⟨RX0, "scoreAt", "(I)D"⟩
abbrev cX1_init : ByteArray := prog_3_method_1_code
def yX1_init : MethodName := ⟨RX1, "<init>", "(I)V"⟩
abbrev cX1_size : ByteArray := prog_3_method_2_code
def yX1_size : MethodName := ⟨RX1, "size", "()I"⟩
abbrev cX1_at : ByteArray := prog_3_method_3_code
def yX1_at : MethodName := ⟨RX1, "at", "(I)I"⟩
abbrev cX1_clear : ByteArray := prog_3_method_4_code
def yX1_clear : MethodName := ⟨RX1, "clear", "()V"⟩
abbrev cX1_put : ByteArray := prog_3_method_5_code
def yX1_put : MethodName := ⟨RX1, "put", "(I)I"⟩
abbrev cX1_encode : ByteArray := prog_3_method_6_code
def yX1_encode : MethodName := ⟨RX1, "encode", "(LIndexBuilder$Postings;)V"⟩
abbrev cX1_decode : ByteArray := prog_3_method_7_code
def yX1_decode : MethodName := ⟨RX1, "decode", "(LIndexBuilder$Postings;)V"⟩
abbrev cX1_raise : ByteArray := prog_3_method_8_code
def yX1_raise : MethodName := ⟨RX1, "raise", "(I)V"⟩
abbrev cX1_read : ByteArray := prog_3_method_9_code
def yX1_read : MethodName := ⟨RX1, "read", "()I"⟩
abbrev cX2_init : ByteArray := prog_4_method_1_code
def yX2_init : MethodName := ⟨RX2, "<init>", "(I)V"⟩
abbrev cX2_size : ByteArray := prog_4_method_2_code
def yX2_size : MethodName := ⟨RX2, "size", "()I"⟩
abbrev cX2_free : ByteArray := prog_4_method_3_code
def yX2_free : MethodName := ⟨RX2, "free", "()I"⟩
abbrev cX2_has : ByteArray := prog_4_method_4_code
def yX2_has : MethodName := ⟨RX2, "has", "(II)Z"⟩
abbrev cX2_cellAt : ByteArray := prog_4_method_5_code
def yX2_cellAt : MethodName := ⟨RX2, "cellAt", "(II)I"⟩
abbrev cX2_hasRoomFor : ByteArray := prog_4_method_6_code
def yX2_hasRoomFor : MethodName := ⟨RX2, "hasRoomFor", "(I)Z"⟩
abbrev cX2_write : ByteArray := prog_4_method_7_code
def yX2_write : MethodName := ⟨RX2, "write", "(LIndexBuilder$Bytes;I)LIndexBuilder$Run;"⟩
abbrev cX2_read : ByteArray := prog_4_method_8_code
def yX2_read : MethodName := ⟨RX2, "read", "(LIndexBuilder$Run;LIndexBuilder$Bytes;)V"⟩
abbrev cX2_release : ByteArray := prog_4_method_9_code
def yX2_release : MethodName := ⟨RX2, "release", "(LIndexBuilder$Run;)V"⟩
abbrev cX2_clear : ByteArray := prog_4_method_10_code
def yX2_clear : MethodName := ⟨RX2, "clear", "(I)V"⟩
abbrev cX2_blocksFor : ByteArray := prog_4_method_11_code
def yX2_blocksFor : MethodName := ⟨RX2, "blocksFor", "(I)I"⟩
abbrev cX2_takeLeast : ByteArray := prog_4_method_12_code
def yX2_takeLeast : MethodName := ⟨RX2, "takeLeast", "(I)[I"⟩
abbrev cX3_init : ByteArray := prog_5_method_1_code
def yX3_init : MethodName := ⟨RX3, "<init>", "()V"⟩
abbrev cX3_size : ByteArray := prog_5_method_2_code
def yX3_size : MethodName := ⟨RX3, "size", "()I"⟩
abbrev cX3_live : ByteArray := prog_5_method_3_code
def yX3_live : MethodName := ⟨RX3, "live", "()I"⟩
abbrev cX3_addNext : ByteArray := prog_5_method_4_code
def yX3_addNext : MethodName := ⟨RX3, "addNext", "()I"⟩
abbrev cX3_isLive : ByteArray := prog_5_method_5_code
def yX3_isLive : MethodName := ⟨RX3, "isLive", "(I)Z"⟩
abbrev cX3_leaveOut : ByteArray := prog_5_method_6_code
def yX3_leaveOut : MethodName := ⟨RX3, "leaveOut", "(I)V"⟩
abbrev cX4_init : ByteArray := prog_6_method_1_code
def yX4_init : MethodName := ⟨RX4, "<init>", "()V"⟩
abbrev cX4_begin : ByteArray := prog_6_method_2_code
def yX4_begin : MethodName := ⟨RX4, "begin", "(I)V"⟩
abbrev cX4_take : ByteArray := prog_6_method_3_code
def yX4_take : MethodName := ⟨RX4, "take", "(LIndexBuilder$Postings;LIndexBuilder$Documents;)V"⟩
abbrev cX4_bitsOf : ByteArray := prog_6_method_4_code
def yX4_bitsOf : MethodName := ⟨RX4, "bitsOf", "(I)I"⟩
abbrev cX4_frequency : ByteArray := prog_6_method_5_code
def yX4_frequency : MethodName := ⟨RX4, "frequency", "()I"⟩
abbrev cX4_share : ByteArray := prog_6_method_6_code
def yX4_share : MethodName := ⟨RX4, "share", "(II)D"⟩
abbrev cX5_init : ByteArray := prog_7_method_1_code
def yX5_init : MethodName := ⟨RX5, "<init>", "(I)V"⟩
abbrev cX5_keyOf : ByteArray := prog_7_method_2_code
def yX5_keyOf : MethodName := ⟨RX5, "keyOf", "(III)I"⟩
abbrev cX5_wordOf : ByteArray := prog_7_method_3_code
def yX5_wordOf : MethodName := ⟨RX5, "wordOf", "(I)I"⟩
abbrev cX5_documentOf : ByteArray := prog_7_method_4_code
def yX5_documentOf : MethodName := ⟨RX5, "documentOf", "(I)I"⟩
abbrev cX5_placeOf : ByteArray := prog_7_method_5_code
def yX5_placeOf : MethodName := ⟨RX5, "placeOf", "(I)I"⟩
abbrev cX5_size : ByteArray := prog_7_method_6_code
def yX5_size : MethodName := ⟨RX5, "size", "()I"⟩
abbrev cX5_keyAt : ByteArray := prog_7_method_7_code
def yX5_keyAt : MethodName := ⟨RX5, "keyAt", "(I)I"⟩
abbrev cX5_clear : ByteArray := prog_7_method_8_code
def yX5_clear : MethodName := ⟨RX5, "clear", "()V"⟩
abbrev cX5_insert : ByteArray := prog_7_method_9_code
def yX5_insert : MethodName := ⟨RX5, "insert", "(I)V"⟩
abbrev cX5_mergeIn : ByteArray := prog_7_method_10_code
def yX5_mergeIn : MethodName := ⟨RX5, "mergeIn", "(LIndexBuilder$Postings;)V"⟩
abbrev cX5_keepLive : ByteArray := prog_7_method_11_code
def yX5_keepLive : MethodName := ⟨RX5, "keepLive", "(LIndexBuilder$Documents;)V"⟩
abbrev cX6_init : ByteArray := prog_8_method_1_code
def yX6_init : MethodName := ⟨RX6, "<init>", "(I[II)V"⟩
abbrev cX6_isBetween : ByteArray := prog_8_method_2_code
def yX6_isBetween : MethodName := ⟨RX6, "isBetween", "(II)Z"⟩
abbrev cX7_init : ByteArray := prog_9_method_1_code
def yX7_init : MethodName := ⟨RX7, "<init>", "(LIndexBuilder$Documents;LIndexBuilder$Disk;I)V"⟩
abbrev cX7_size : ByteArray := prog_9_method_2_code
def yX7_size : MethodName := ⟨RX7, "size", "()I"⟩
abbrev cX7_levelOf : ByteArray := prog_9_method_3_code
def yX7_levelOf : MethodName := ⟨RX7, "levelOf", "(I)I"⟩
abbrev cX7_blocksOf : ByteArray := prog_9_method_4_code
def yX7_blocksOf : MethodName := ⟨RX7, "blocksOf", "(I)I"⟩
abbrev cX7_firstBlockOf : ByteArray := prog_9_method_5_code
def yX7_firstBlockOf : MethodName := ⟨RX7, "firstBlockOf", "(I)I"⟩
abbrev cX7_bytesOf : ByteArray := prog_9_method_6_code
def yX7_bytesOf : MethodName := ⟨RX7, "bytesOf", "(I)I"⟩
abbrev cX7_hasByte : ByteArray := prog_9_method_7_code
def yX7_hasByte : MethodName := ⟨RX7, "hasByte", "(II)Z"⟩
abbrev cX7_byteAt : ByteArray := prog_9_method_8_code
def yX7_byteAt : MethodName := ⟨RX7, "byteAt", "(II)I"⟩
abbrev cX7_freeBlocks : ByteArray := prog_9_method_9_code
def yX7_freeBlocks : MethodName := ⟨RX7, "freeBlocks", "()I"⟩
abbrev cX7_blocksRead : ByteArray := prog_9_method_10_code
def yX7_blocksRead : MethodName := ⟨RX7, "blocksRead", "()I"⟩
abbrev cX7_blocksWritten : ByteArray := prog_9_method_11_code
def yX7_blocksWritten : MethodName := ⟨RX7, "blocksWritten", "()I"⟩
abbrev cX7_mergesDone : ByteArray := prog_9_method_12_code
def yX7_mergesDone : MethodName := ⟨RX7, "mergesDone", "()I"⟩
abbrev cX7_mergesWithoutRoom : ByteArray := prog_9_method_13_code
def yX7_mergesWithoutRoom : MethodName := ⟨RX7, "mergesWithoutRoom", "()I"⟩
abbrev cX7_append : ByteArray := prog_9_method_14_code
def yX7_append : MethodName := ⟨RX7, "append", "(LIndexBuilder$Postings;)Z"⟩
abbrev cX7_mergeFullLevels : ByteArray := prog_9_method_15_code
def yX7_mergeFullLevels : MethodName := ⟨RX7, "mergeFullLevels", "()V"⟩
abbrev cX7_mergeAll : ByteArray := prog_9_method_16_code
def yX7_mergeAll : MethodName := ⟨RX7, "mergeAll", "()Z"⟩
abbrev cX7_readAll : ByteArray := prog_9_method_17_code
def yX7_readAll : MethodName := ⟨RX7, "readAll", "(LIndexBuilder$Places;LIndexBuilder$Places;)V"⟩
abbrev cX7_has : ByteArray := prog_9_method_18_code
def yX7_has : MethodName := ⟨RX7, "has", "(I)Z"⟩
abbrev cX7_leastFullLevel : ByteArray := prog_9_method_19_code
def yX7_leastFullLevel : MethodName := ⟨RX7, "leastFullLevel", "()I"⟩
abbrev cX7_runsOf : ByteArray := prog_9_method_20_code
def yX7_runsOf : MethodName := ⟨RX7, "runsOf", "(I)I"⟩
abbrev cX7_mergeLevels : ByteArray := prog_9_method_21_code
def yX7_mergeLevels : MethodName := ⟨RX7, "mergeLevels", "(II)Z"⟩
abbrev cX7_readPart : ByteArray := prog_9_method_22_code
def yX7_readPart : MethodName := ⟨RX7, "readPart", "(LIndexBuilder$Run;)V"⟩
abbrev cX7_fitsOnDisk : ByteArray := prog_9_method_23_code
def yX7_fitsOnDisk : MethodName := ⟨RX7, "fitsOnDisk", "()Z"⟩
abbrev cX7_writeAt : ByteArray := prog_9_method_24_code
def yX7_writeAt : MethodName := ⟨RX7, "writeAt", "(II)V"⟩
abbrev cX7_removeLevels : ByteArray := prog_9_method_25_code
def yX7_removeLevels : MethodName := ⟨RX7, "removeLevels", "(II)V"⟩
abbrev cX8_init : ByteArray := prog_1_method_1_code
def yX8_init : MethodName := ⟨RX8, "<init>", "(III)V"⟩
abbrev cX8_word : ByteArray := prog_1_method_2_code
def yX8_word : MethodName := ⟨RX8, "word", "(I)I"⟩
abbrev cX8_close : ByteArray := prog_1_method_3_code
def yX8_close : MethodName := ⟨RX8, "close", "()I"⟩
abbrev cX8_drop : ByteArray := prog_1_method_4_code
def yX8_drop : MethodName := ⟨RX8, "drop", "(I)I"⟩
abbrev cX8_flush : ByteArray := prog_1_method_5_code
def yX8_flush : MethodName := ⟨RX8, "flush", "()I"⟩
abbrev cX8_finish : ByteArray := prog_1_method_6_code
def yX8_finish : MethodName := ⟨RX8, "finish", "()I"⟩
abbrev cX8_find : ByteArray := prog_1_method_7_code
def yX8_find : MethodName := ⟨RX8, "find", "(III)I"⟩
abbrev cX8_rank : ByteArray := prog_1_method_8_code
def yX8_rank : MethodName := ⟨RX8, "rank", "(II)I"⟩
abbrev cX8_result : ByteArray := prog_1_method_9_code
def yX8_result : MethodName := ⟨RX8, "result", "(I)I"⟩
abbrev cX8_score : ByteArray := prog_1_method_10_code
def yX8_score : MethodName := ⟨RX8, "score", "(I)D"⟩
abbrev cX8_byteOf : ByteArray := prog_1_method_11_code
def yX8_byteOf : MethodName := ⟨RX8, "byteOf", "(II)I"⟩
abbrev cX8_run : ByteArray := prog_1_method_12_code
def yX8_run : MethodName := ⟨RX8, "run", "(II)I"⟩
abbrev cX8_count : ByteArray := prog_1_method_13_code
def yX8_count : MethodName := ⟨RX8, "count", "(I)I"⟩
abbrev cX8_clamp : ByteArray := prog_1_method_14_code
def yX8_clamp : MethodName := ⟨RX8, "clamp", "(III)I"⟩
abbrev cX8_isWord : ByteArray := prog_1_method_15_code
def yX8_isWord : MethodName := ⟨RX8, "isWord", "(I)Z"⟩
abbrev cX8_flushBuffer : ByteArray := prog_1_method_16_code
def yX8_flushBuffer : MethodName := ⟨RX8, "flushBuffer", "()Z"⟩
abbrev cX8_lookUp : ByteArray := prog_1_method_17_code
def yX8_lookUp : MethodName := ⟨RX8, "lookUp", "(II)V"⟩
abbrev cX8_fits : ByteArray := prog_1_method_18_code
def yX8_fits : MethodName := ⟨RX8, "fits", "(II)Z"⟩
abbrev cX9_init : ByteArray := prog_11_method_1_code
def yX9_init : MethodName := ⟨RX9, "<init>", "(III)V"⟩
abbrev cX9_clamp : ByteArray := prog_11_method_2_code
def yX9_clamp : MethodName := ⟨RX9, "clamp", "(III)I"⟩
abbrev cX9_thrown : ByteArray := prog_11_method_3_code
def yX9_thrown : MethodName := ⟨RX9, "thrown", "()I"⟩
abbrev cX9_fail : ByteArray := prog_11_method_4_code
def yX9_fail : MethodName := ⟨RX9, "fail", "(I)I"⟩
abbrev cX9_bits : ByteArray := prog_11_method_5_code
def yX9_bits : MethodName := ⟨RX9, "bits", "(J)I"⟩
abbrev cX9_in : ByteArray := prog_11_method_6_code
def yX9_in : MethodName := ⟨RX9, "in", "(JI)Z"⟩
abbrev cX9_noWord : ByteArray := prog_11_method_7_code
def yX9_noWord : MethodName := ⟨RX9, "noWord", "(I)Z"⟩
abbrev cX9_often : ByteArray := prog_11_method_8_code
def yX9_often : MethodName := ⟨RX9, "often", "(II)I"⟩
abbrev cX9_word : ByteArray := prog_11_method_9_code
def yX9_word : MethodName := ⟨RX9, "word", "(I)I"⟩
abbrev cX9_buffered : ByteArray := prog_11_method_10_code
def yX9_buffered : MethodName := ⟨RX9, "buffered", "()I"⟩
abbrev cX9_close : ByteArray := prog_11_method_11_code
def yX9_close : MethodName := ⟨RX9, "close", "()I"⟩
abbrev cX9_drop : ByteArray := prog_11_method_12_code
def yX9_drop : MethodName := ⟨RX9, "drop", "(I)I"⟩
abbrev cX9_put : ByteArray := prog_11_method_13_code
def yX9_put : MethodName := ⟨RX9, "put", "(I)V"⟩
abbrev cX9_putWord : ByteArray := prog_11_method_14_code
def yX9_putWord : MethodName := ⟨RX9, "putWord", "(JI)V"⟩
abbrev cX9_encode : ByteArray := prog_11_method_15_code
def yX9_encode : MethodName := ⟨RX9, "encode", "(J)V"⟩
abbrev cX9_room : ByteArray := prog_11_method_16_code
def yX9_room : MethodName := ⟨RX9, "room", "(J)J"⟩
abbrev cX9_flushing : ByteArray := prog_11_method_17_code
def yX9_flushing : MethodName := ⟨RX9, "flushing", "()Z"⟩
abbrev cX9_full : ByteArray := prog_11_method_18_code
def yX9_full : MethodName := ⟨RX9, "full", "()I"⟩
abbrev cX9_merge : ByteArray := prog_11_method_19_code
def yX9_merge : MethodName := ⟨RX9, "merge", "(I)Z"⟩
abbrev cX9_flush : ByteArray := prog_11_method_20_code
def yX9_flush : MethodName := ⟨RX9, "flush", "()I"⟩
abbrev cX9_finish : ByteArray := prog_11_method_21_code
def yX9_finish : MethodName := ⟨RX9, "finish", "()I"⟩
abbrev cX9_adjacent : ByteArray := prog_11_method_22_code
def yX9_adjacent : MethodName := ⟨RX9, "adjacent", "(III)Z"⟩
abbrev cX9_fits : ByteArray := prog_11_method_23_code
def yX9_fits : MethodName := ⟨RX9, "fits", "(IIII)Z"⟩
abbrev cX9_find : ByteArray := prog_11_method_24_code
def yX9_find : MethodName := ⟨RX9, "find", "(III)I"⟩
abbrev cX9_part : ByteArray := prog_11_method_25_code
def yX9_part : MethodName := ⟨RX9, "part", "(II)D"⟩
abbrev cX9_rank : ByteArray := prog_11_method_26_code
def yX9_rank : MethodName := ⟨RX9, "rank", "(II)I"⟩
abbrev cX9_result : ByteArray := prog_11_method_27_code
def yX9_result : MethodName := ⟨RX9, "result", "(I)I"⟩
abbrev cX9_score : ByteArray := prog_11_method_28_code
def yX9_score : MethodName := ⟨RX9, "score", "(I)D"⟩
abbrev cX9_byteOf : ByteArray := prog_11_method_29_code
def yX9_byteOf : MethodName := ⟨RX9, "byteOf", "(II)I"⟩
abbrev cX9_run : ByteArray := prog_11_method_30_code
def yX9_run : MethodName := ⟨RX9, "run", "(II)I"⟩
abbrev cX9_count : ByteArray := prog_11_method_31_code
def yX9_count : MethodName := ⟨RX9, "count", "(I)I"⟩
abbrev cL_cell : ByteArray := method_2_code
def yL_cell : MethodName := ⟨RL, "cell", "([II)I"⟩
abbrev cL_word : ByteArray := method_3_code
def yL_word : MethodName := ⟨RL, "word", "(LIndexBuilder;I[J)I"⟩
abbrev cL_close : ByteArray := method_4_code
def yL_close : MethodName := ⟨RL, "close", "(LIndexBuilder;[J)I"⟩
abbrev cL_drop : ByteArray := method_5_code
def yL_drop : MethodName := ⟨RL, "drop", "(LIndexBuilder;I[J)I"⟩
abbrev cL_flush : ByteArray := method_6_code
def yL_flush : MethodName := ⟨RL, "flush", "(LIndexBuilder;[J)I"⟩
abbrev cL_finish : ByteArray := method_7_code
def yL_finish : MethodName := ⟨RL, "finish", "(LIndexBuilder;[J)I"⟩
abbrev cL_find : ByteArray := method_8_code
def yL_find : MethodName := ⟨RL, "find", "(LIndexBuilder;III[J)I"⟩
abbrev cL_rank : ByteArray := method_9_code
def yL_rank : MethodName := ⟨RL, "rank", "(LIndexBuilder;II[J)I"⟩
abbrev cL_result : ByteArray := method_10_code
def yL_result : MethodName := ⟨RL, "result", "(LIndexBuilder;I[J)I"⟩
abbrev cL_score : ByteArray := method_11_code
def yL_score : MethodName := ⟨RL, "score", "(LIndexBuilder;I[D)I"⟩
abbrev cL_byteOf : ByteArray := method_12_code
def yL_byteOf : MethodName := ⟨RL, "byteOf", "(LIndexBuilder;II[J)I"⟩
abbrev cL_run : ByteArray := method_13_code
def yL_run : MethodName := ⟨RL, "run", "(LIndexBuilder;II[J)I"⟩
abbrev cJ0_init : ByteArray := prog_32_method_2_code
def yJ0_init : MethodName := ⟨RJ0, "<init>", "()V"⟩
abbrev cJ0_size : ByteArray := prog_32_method_8_code
def yJ0_size : MethodName := ⟨RJ0, "size", "()I"⟩
abbrev cJ0_isEmpty : ByteArray := prog_32_method_9_code
def yJ0_isEmpty : MethodName := ⟨RJ0, "isEmpty", "()Z"⟩
abbrev cJ0_get : ByteArray := prog_32_method_20_code
def yJ0_get : MethodName := ⟨RJ0, "get", "(I)Ljava/lang/Object;"⟩
abbrev cJ0_elementData : ByteArray := prog_32_method_18_code
def yJ0_elementData : MethodName := ⟨RJ0, "elementData", "(I)Ljava/lang/Object;"⟩
abbrev cJ0_add : ByteArray := prog_32_method_26_code
def yJ0_add : MethodName := ⟨RJ0, "add", "(ILjava/lang/Object;)V"⟩
abbrev cJ0_rangeCheckForAdd : ByteArray := prog_32_method_45_code
def yJ0_rangeCheckForAdd : MethodName := ⟨RJ0, "rangeCheckForAdd", "(I)V"⟩
abbrev cJ0_grow : ByteArray := prog_32_method_7_code
def yJ0_grow : MethodName := ⟨RJ0, "grow", "()[Ljava/lang/Object;"⟩
abbrev cJ0_grow1 : ByteArray := prog_32_method_6_code
def yJ0_grow1 : MethodName := ⟨RJ0, "grow", "(I)[Ljava/lang/Object;"⟩
abbrev cJ0_remove : ByteArray := prog_32_method_29_code
def yJ0_remove : MethodName := ⟨RJ0, "remove", "(I)Ljava/lang/Object;"⟩
abbrev cJ0_fastRemove : ByteArray := prog_32_method_39_code
def yJ0_fastRemove : MethodName := ⟨RJ0, "fastRemove", "([Ljava/lang/Object;I)V"⟩
abbrev cJ1_init : ByteArray := prog_31_method_1_code
def yJ1_init : MethodName := ⟨RJ1, "<init>", "()V"⟩
abbrev cJ2_init : ByteArray := prog_30_method_1_code
def yJ2_init : MethodName := ⟨RJ2, "<init>", "()V"⟩
abbrev cJ3_checkIndex : ByteArray := prog_37_method_17_code
def yJ3_checkIndex : MethodName := ⟨RJ3, "checkIndex", "(II)I"⟩
abbrev cJ4_checkIndex : ByteArray := prog_41_method_11_code
def yJ4_checkIndex : MethodName := ⟨RJ4, "checkIndex", "(IILjava/util/function/BiFunction;)I"⟩
abbrev cJ5_fill : ByteArray := prog_33_method_103_code
def yJ5_fill : MethodName := ⟨RJ5, "fill", "([II)V"⟩
abbrev cJ5_copyOf : ByteArray := prog_33_method_119_code
def yJ5_copyOf : MethodName := ⟨RJ5, "copyOf", "([Ljava/lang/Object;I)[Ljava/lang/Object;"⟩
abbrev cJ5_copyOf1 : ByteArray := prog_33_method_120_code
def yJ5_copyOf1 : MethodName := ⟨RJ5, "copyOf", "([Ljava/lang/Object;ILjava/lang/Class;)[Ljava/lang/Object;"⟩
abbrev cJ6_newLength : ByteArray := prog_40_method_27_code
def yJ6_newLength : MethodName := ⟨RJ6, "newLength", "(III)I"⟩
abbrev cJ6_hugeLength : ByteArray := prog_40_method_28_code
def yJ6_hugeLength : MethodName := ⟨RJ6, "hugeLength", "(II)I"⟩
abbrev cJ7_max : ByteArray := prog_21_method_65_code
def yJ7_max : MethodName := ⟨RJ7, "max", "(II)I"⟩
abbrev cJ7_min : ByteArray := prog_21_method_69_code
def yJ7_min : MethodName := ⟨RJ7, "min", "(II)I"⟩
abbrev cJ8_bitCount : ByteArray := prog_19_method_49_code
def yJ8_bitCount : MethodName := ⟨RJ8, "bitCount", "(I)I"⟩
end
section
theorem dX3_init_0 : decode cX3_init 0 = .ok (.aload_n 0, 1) := by decide +kernel
theorem dX3_init_1 : decode cX3_init 1 = .ok (.invokespecial 3, 3) := by decide +kernel
theorem dX3_init_4 : decode cX3_init 4 = .ok (.aload_n 0, 1) := by decide +kernel
theorem dX3_init_5 : decode cX3_init 5 = .ok (.bipush 40, 2) := by decide +kernel
theorem dX3_init_7 : decode cX3_init 7 = .ok (.newarray .boolean, 2) := by decide +kernel
theorem dX3_init_9 : decode cX3_init 9 = .ok (.putfield 9, 3) := by decide +kernel
theorem dX3_init_12 : decode cX3_init 12 = .ok (.aload_n 0, 1) := by decide +kernel
theorem dX3_init_13 : decode cX3_init 13 = .ok (.iconst 0, 1) := by decide +kernel
theorem dX3_init_14 : decode cX3_init 14 = .ok (.putfield 15, 3) := by decide +kernel
theorem dX3_init_17 : decode cX3_init 17 = .ok (.aload_n 0, 1) := by decide +kernel
theorem dX3_init_18 : decode cX3_init 18 = .ok (.iconst 0, 1) := by decide +kernel
theorem dX3_init_19 : decode cX3_init 19 = .ok (.putfield 19, 3) := by decide +kernel
theorem dX3_init_22 : decode cX3_init 22 = .ok (.return_, 1) := by decide +kernel
theorem dX3_size_0 : decode cX3_size 0 = .ok (.aload_n 0, 1) := by decide +kernel
theorem dX3_size_1 : decode cX3_size 1 = .ok (.getfield 15, 3) := by decide +kernel
theorem dX3_size_4 : decode cX3_size 4 = .ok (.ireturn, 1) := by decide +kernel
theorem dX3_live_0 : decode cX3_live 0 = .ok (.aload_n 0, 1) := by decide +kernel
theorem dX3_live_1 : decode cX3_live 1 = .ok (.getfield 19, 3) := by decide +kernel
theorem dX3_live_4 : decode cX3_live 4 = .ok (.ireturn, 1) := by decide +kernel
theorem dX3_addNext_0 : decode cX3_addNext 0 = .ok (.aload_n 0, 1) := by decide +kernel
theorem dX3_addNext_1 : decode cX3_addNext 1 = .ok (.dup, 1) := by decide +kernel
theorem dX3_addNext_2 : decode cX3_addNext 2 = .ok (.getfield 15, 3) := by decide +kernel
theorem dX3_addNext_5 : decode cX3_addNext 5 = .ok (.iconst 1, 1) := by decide +kernel
theorem dX3_addNext_6 : decode cX3_addNext 6 = .ok (.iadd, 1) := by decide +kernel
theorem dX3_addNext_7 : decode cX3_addNext 7 = .ok (.putfield 15, 3) := by decide +kernel
theorem dX3_addNext_10 : decode cX3_addNext 10 = .ok (.aload_n 0, 1) := by decide +kernel
theorem dX3_addNext_11 : decode cX3_addNext 11 = .ok (.dup, 1) := by decide +kernel
theorem dX3_addNext_12 : decode cX3_addNext 12 = .ok (.getfield 19, 3) := by decide +kernel
theorem dX3_addNext_15 : decode cX3_addNext 15 = .ok (.iconst 1, 1) := by decide +kernel
theorem dX3_addNext_16 : decode cX3_addNext 16 = .ok (.iadd, 1) := by decide +kernel
theorem dX3_addNext_17 : decode cX3_addNext 17 = .ok (.putfield 19, 3) := by decide +kernel
theorem dX3_addNext_20 : decode cX3_addNext 20 = .ok (.aload_n 0, 1) := by decide +kernel
theorem dX3_addNext_21 : decode cX3_addNext 21 = .ok (.getfield 15, 3) := by decide +kernel
theorem dX3_addNext_24 : decode cX3_addNext 24 = .ok (.iconst 1, 1) := by decide +kernel
theorem dX3_addNext_25 : decode cX3_addNext 25 = .ok (.isub, 1) := by decide +kernel
theorem dX3_addNext_26 : decode cX3_addNext 26 = .ok (.ireturn, 1) := by decide +kernel
theorem dX3_isLive_0 : decode cX3_isLive 0 = .ok (.iload_n 1, 1) := by decide +kernel
theorem dX3_isLive_1 : decode cX3_isLive 1 = .ok (.ifCond .lt 33, 3) := by decide +kernel
theorem dX3_isLive_4 : decode cX3_isLive 4 = .ok (.iload_n 1, 1) := by decide +kernel
theorem dX3_isLive_5 : decode cX3_isLive 5 = .ok (.aload_n 0, 1) := by decide +kernel
theorem dX3_isLive_6 : decode cX3_isLive 6 = .ok (.getfield 15, 3) := by decide +kernel
theorem dX3_isLive_9 : decode cX3_isLive 9 = .ok (.if_icmp .ge 25, 3) := by decide +kernel
theorem dX3_isLive_12 : decode cX3_isLive 12 = .ok (.iload_n 1, 1) := by decide +kernel
theorem dX3_isLive_13 : decode cX3_isLive 13 = .ok (.aload_n 0, 1) := by decide +kernel
theorem dX3_isLive_14 : decode cX3_isLive 14 = .ok (.getfield 9, 3) := by decide +kernel
theorem dX3_isLive_17 : decode cX3_isLive 17 = .ok (.arraylength, 1) := by decide +kernel
theorem dX3_isLive_18 : decode cX3_isLive 18 = .ok (.if_icmp .ge 16, 3) := by decide +kernel
theorem dX3_isLive_21 : decode cX3_isLive 21 = .ok (.aload_n 0, 1) := by decide +kernel
theorem dX3_isLive_22 : decode cX3_isLive 22 = .ok (.getfield 9, 3) := by decide +kernel
theorem dX3_isLive_25 : decode cX3_isLive 25 = .ok (.iload_n 1, 1) := by decide +kernel
theorem dX3_isLive_26 : decode cX3_isLive 26 = .ok (.baload, 1) := by decide +kernel
theorem dX3_isLive_27 : decode cX3_isLive 27 = .ok (.ifCond .ne 7, 3) := by decide +kernel
theorem dX3_isLive_30 : decode cX3_isLive 30 = .ok (.iconst 1, 1) := by decide +kernel
theorem dX3_isLive_31 : decode cX3_isLive 31 = .ok (.goto 4, 3) := by decide +kernel
theorem dX3_isLive_34 : decode cX3_isLive 34 = .ok (.iconst 0, 1) := by decide +kernel
theorem dX3_isLive_35 : decode cX3_isLive 35 = .ok (.ireturn, 1) := by decide +kernel
theorem dX3_leaveOut_0 : decode cX3_leaveOut 0 = .ok (.aload_n 0, 1) := by decide +kernel
theorem dX3_leaveOut_1 : decode cX3_leaveOut 1 = .ok (.iload_n 1, 1) := by decide +kernel
theorem dX3_leaveOut_2 : decode cX3_leaveOut 2 = .ok (.invokevirtual 22, 3) := by decide +kernel
theorem dX3_leaveOut_5 : decode cX3_leaveOut 5 = .ok (.ifCond .eq 20, 3) := by decide +kernel
theorem dX3_leaveOut_8 : decode cX3_leaveOut 8 = .ok (.aload_n 0, 1) := by decide +kernel
theorem dX3_leaveOut_9 : decode cX3_leaveOut 9 = .ok (.getfield 9, 3) := by decide +kernel
theorem dX3_leaveOut_12 : decode cX3_leaveOut 12 = .ok (.iload_n 1, 1) := by decide +kernel
theorem dX3_leaveOut_13 : decode cX3_leaveOut 13 = .ok (.iconst 1, 1) := by decide +kernel
theorem dX3_leaveOut_14 : decode cX3_leaveOut 14 = .ok (.bastore, 1) := by decide +kernel
theorem dX3_leaveOut_15 : decode cX3_leaveOut 15 = .ok (.aload_n 0, 1) := by decide +kernel
theorem dX3_leaveOut_16 : decode cX3_leaveOut 16 = .ok (.dup, 1) := by decide +kernel
theorem dX3_leaveOut_17 : decode cX3_leaveOut 17 = .ok (.getfield 19, 3) := by decide +kernel
theorem dX3_leaveOut_20 : decode cX3_leaveOut 20 = .ok (.iconst 1, 1) := by decide +kernel
theorem dX3_leaveOut_21 : decode cX3_leaveOut 21 = .ok (.isub, 1) := by decide +kernel
theorem dX3_leaveOut_22 : decode cX3_leaveOut 22 = .ok (.putfield 19, 3) := by decide +kernel
theorem dX3_leaveOut_25 : decode cX3_leaveOut 25 = .ok (.return_, 1) := by decide +kernel
end
section
theorem dX5_init_0 : decode cX5_init 0 = .ok (.aload_n 0, 1) := by decide +kernel
theorem dX5_init_1 : decode cX5_init 1 = .ok (.invokespecial 3, 3) := by decide +kernel
theorem dX5_init_4 : decode cX5_init 4 = .ok (.aload_n 0, 1) := by decide +kernel
theorem dX5_init_5 : decode cX5_init 5 = .ok (.iload_n 1, 1) := by decide +kernel
theorem dX5_init_6 : decode cX5_init 6 = .ok (.newarray .int, 2) := by decide +kernel
theorem dX5_init_8 : decode cX5_init 8 = .ok (.putfield 9, 3) := by decide +kernel
theorem dX5_init_11 : decode cX5_init 11 = .ok (.aload_n 0, 1) := by decide +kernel
theorem dX5_init_12 : decode cX5_init 12 = .ok (.iconst 0, 1) := by decide +kernel
theorem dX5_init_13 : decode cX5_init 13 = .ok (.putfield 15, 3) := by decide +kernel
theorem dX5_init_16 : decode cX5_init 16 = .ok (.return_, 1) := by decide +kernel
theorem dX5_keyOf_0 : decode cX5_keyOf 0 = .ok (.iload_n 0, 1) := by decide +kernel
theorem dX5_keyOf_1 : decode cX5_keyOf 1 = .ok (.bipush 40, 2) := by decide +kernel
theorem dX5_keyOf_3 : decode cX5_keyOf 3 = .ok (.imul, 1) := by decide +kernel
theorem dX5_keyOf_4 : decode cX5_keyOf 4 = .ok (.iload_n 1, 1) := by decide +kernel
theorem dX5_keyOf_5 : decode cX5_keyOf 5 = .ok (.iadd, 1) := by decide +kernel
theorem dX5_keyOf_6 : decode cX5_keyOf 6 = .ok (.bipush 20, 2) := by decide +kernel
theorem dX5_keyOf_8 : decode cX5_keyOf 8 = .ok (.imul, 1) := by decide +kernel
theorem dX5_keyOf_9 : decode cX5_keyOf 9 = .ok (.iload_n 2, 1) := by decide +kernel
theorem dX5_keyOf_10 : decode cX5_keyOf 10 = .ok (.iadd, 1) := by decide +kernel
theorem dX5_keyOf_11 : decode cX5_keyOf 11 = .ok (.ireturn, 1) := by decide +kernel
theorem dX5_wordOf_0 : decode cX5_wordOf 0 = .ok (.iload_n 0, 1) := by decide +kernel
theorem dX5_wordOf_1 : decode cX5_wordOf 1 = .ok (.sipush 800, 3) := by decide +kernel
theorem dX5_wordOf_4 : decode cX5_wordOf 4 = .ok (.idiv, 1) := by decide +kernel
theorem dX5_wordOf_5 : decode cX5_wordOf 5 = .ok (.ireturn, 1) := by decide +kernel
theorem dX5_documentOf_0 : decode cX5_documentOf 0 = .ok (.iload_n 0, 1) := by decide +kernel
theorem dX5_documentOf_1 : decode cX5_documentOf 1 = .ok (.bipush 20, 2) := by decide +kernel
theorem dX5_documentOf_3 : decode cX5_documentOf 3 = .ok (.idiv, 1) := by decide +kernel
theorem dX5_documentOf_4 : decode cX5_documentOf 4 = .ok (.bipush 40, 2) := by decide +kernel
theorem dX5_documentOf_6 : decode cX5_documentOf 6 = .ok (.irem, 1) := by decide +kernel
theorem dX5_documentOf_7 : decode cX5_documentOf 7 = .ok (.ireturn, 1) := by decide +kernel
theorem dX5_placeOf_0 : decode cX5_placeOf 0 = .ok (.iload_n 0, 1) := by decide +kernel
theorem dX5_placeOf_1 : decode cX5_placeOf 1 = .ok (.bipush 20, 2) := by decide +kernel
theorem dX5_placeOf_3 : decode cX5_placeOf 3 = .ok (.irem, 1) := by decide +kernel
theorem dX5_placeOf_4 : decode cX5_placeOf 4 = .ok (.ireturn, 1) := by decide +kernel
theorem dX5_size_0 : decode cX5_size 0 = .ok (.aload_n 0, 1) := by decide +kernel
theorem dX5_size_1 : decode cX5_size 1 = .ok (.getfield 15, 3) := by decide +kernel
theorem dX5_size_4 : decode cX5_size 4 = .ok (.ireturn, 1) := by decide +kernel
theorem dX5_keyAt_0 : decode cX5_keyAt 0 = .ok (.iload_n 1, 1) := by decide +kernel
theorem dX5_keyAt_1 : decode cX5_keyAt 1 = .ok (.ifCond .lt 20, 3) := by decide +kernel
theorem dX5_keyAt_4 : decode cX5_keyAt 4 = .ok (.iload_n 1, 1) := by decide +kernel
theorem dX5_keyAt_5 : decode cX5_keyAt 5 = .ok (.aload_n 0, 1) := by decide +kernel
theorem dX5_keyAt_6 : decode cX5_keyAt 6 = .ok (.getfield 15, 3) := by decide +kernel
theorem dX5_keyAt_9 : decode cX5_keyAt 9 = .ok (.if_icmp .ge 12, 3) := by decide +kernel
theorem dX5_keyAt_12 : decode cX5_keyAt 12 = .ok (.aload_n 0, 1) := by decide +kernel
theorem dX5_keyAt_13 : decode cX5_keyAt 13 = .ok (.getfield 9, 3) := by decide +kernel
theorem dX5_keyAt_16 : decode cX5_keyAt 16 = .ok (.iload_n 1, 1) := by decide +kernel
theorem dX5_keyAt_17 : decode cX5_keyAt 17 = .ok (.iaload, 1) := by decide +kernel
theorem dX5_keyAt_18 : decode cX5_keyAt 18 = .ok (.goto 4, 3) := by decide +kernel
theorem dX5_keyAt_21 : decode cX5_keyAt 21 = .ok (.iconst 0, 1) := by decide +kernel
theorem dX5_keyAt_22 : decode cX5_keyAt 22 = .ok (.ireturn, 1) := by decide +kernel
theorem dX5_clear_0 : decode cX5_clear 0 = .ok (.aload_n 0, 1) := by decide +kernel
theorem dX5_clear_1 : decode cX5_clear 1 = .ok (.iconst 0, 1) := by decide +kernel
theorem dX5_clear_2 : decode cX5_clear 2 = .ok (.putfield 15, 3) := by decide +kernel
theorem dX5_clear_5 : decode cX5_clear 5 = .ok (.return_, 1) := by decide +kernel
theorem dX5_insert_0 : decode cX5_insert 0 = .ok (.aload_n 0, 1) := by decide +kernel
theorem dX5_insert_1 : decode cX5_insert 1 = .ok (.getfield 15, 3) := by decide +kernel
theorem dX5_insert_4 : decode cX5_insert 4 = .ok (.aload_n 0, 1) := by decide +kernel
theorem dX5_insert_5 : decode cX5_insert 5 = .ok (.getfield 9, 3) := by decide +kernel
theorem dX5_insert_8 : decode cX5_insert 8 = .ok (.arraylength, 1) := by decide +kernel
theorem dX5_insert_9 : decode cX5_insert 9 = .ok (.if_icmp .lt 4, 3) := by decide +kernel
theorem dX5_insert_12 : decode cX5_insert 12 = .ok (.return_, 1) := by decide +kernel
theorem dX5_insert_13 : decode cX5_insert 13 = .ok (.aload_n 0, 1) := by decide +kernel
theorem dX5_insert_14 : decode cX5_insert 14 = .ok (.getfield 15, 3) := by decide +kernel
theorem dX5_insert_17 : decode cX5_insert 17 = .ok (.istore_n 2, 1) := by decide +kernel
theorem dX5_insert_18 : decode cX5_insert 18 = .ok (.iload_n 2, 1) := by decide +kernel
theorem dX5_insert_19 : decode cX5_insert 19 = .ok (.ifCond .le 35, 3) := by decide +kernel
theorem dX5_insert_22 : decode cX5_insert 22 = .ok (.aload_n 0, 1) := by decide +kernel
theorem dX5_insert_23 : decode cX5_insert 23 = .ok (.getfield 9, 3) := by decide +kernel
theorem dX5_insert_26 : decode cX5_insert 26 = .ok (.iload_n 2, 1) := by decide +kernel
theorem dX5_insert_27 : decode cX5_insert 27 = .ok (.iconst 1, 1) := by decide +kernel
theorem dX5_insert_28 : decode cX5_insert 28 = .ok (.isub, 1) := by decide +kernel
theorem dX5_insert_29 : decode cX5_insert 29 = .ok (.iaload, 1) := by decide +kernel
theorem dX5_insert_30 : decode cX5_insert 30 = .ok (.iload_n 1, 1) := by decide +kernel
theorem dX5_insert_31 : decode cX5_insert 31 = .ok (.if_icmp .le 23, 3) := by decide +kernel
theorem dX5_insert_34 : decode cX5_insert 34 = .ok (.aload_n 0, 1) := by decide +kernel
theorem dX5_insert_35 : decode cX5_insert 35 = .ok (.getfield 9, 3) := by decide +kernel
theorem dX5_insert_38 : decode cX5_insert 38 = .ok (.iload_n 2, 1) := by decide +kernel
theorem dX5_insert_39 : decode cX5_insert 39 = .ok (.aload_n 0, 1) := by decide +kernel
theorem dX5_insert_40 : decode cX5_insert 40 = .ok (.getfield 9, 3) := by decide +kernel
theorem dX5_insert_43 : decode cX5_insert 43 = .ok (.iload_n 2, 1) := by decide +kernel
theorem dX5_insert_44 : decode cX5_insert 44 = .ok (.iconst 1, 1) := by decide +kernel
theorem dX5_insert_45 : decode cX5_insert 45 = .ok (.isub, 1) := by decide +kernel
theorem dX5_insert_46 : decode cX5_insert 46 = .ok (.iaload, 1) := by decide +kernel
theorem dX5_insert_47 : decode cX5_insert 47 = .ok (.iastore, 1) := by decide +kernel
theorem dX5_insert_48 : decode cX5_insert 48 = .ok (.iinc 2 (-1), 3) := by decide +kernel
theorem dX5_insert_51 : decode cX5_insert 51 = .ok (.goto (-33), 3) := by decide +kernel
theorem dX5_insert_54 : decode cX5_insert 54 = .ok (.aload_n 0, 1) := by decide +kernel
theorem dX5_insert_55 : decode cX5_insert 55 = .ok (.getfield 9, 3) := by decide +kernel
theorem dX5_insert_58 : decode cX5_insert 58 = .ok (.iload_n 2, 1) := by decide +kernel
theorem dX5_insert_59 : decode cX5_insert 59 = .ok (.iload_n 1, 1) := by decide +kernel
theorem dX5_insert_60 : decode cX5_insert 60 = .ok (.iastore, 1) := by decide +kernel
theorem dX5_insert_61 : decode cX5_insert 61 = .ok (.aload_n 0, 1) := by decide +kernel
theorem dX5_insert_62 : decode cX5_insert 62 = .ok (.dup, 1) := by decide +kernel
theorem dX5_insert_63 : decode cX5_insert 63 = .ok (.getfield 15, 3) := by decide +kernel
theorem dX5_insert_66 : decode cX5_insert 66 = .ok (.iconst 1, 1) := by decide +kernel
theorem dX5_insert_67 : decode cX5_insert 67 = .ok (.iadd, 1) := by decide +kernel
theorem dX5_insert_68 : decode cX5_insert 68 = .ok (.putfield 15, 3) := by decide +kernel
theorem dX5_insert_71 : decode cX5_insert 71 = .ok (.return_, 1) := by decide +kernel
theorem dX5_mergeIn_0 : decode cX5_mergeIn 0 = .ok (.aload_n 0, 1) := by decide +kernel
theorem dX5_mergeIn_1 : decode cX5_mergeIn 1 = .ok (.getfield 15, 3) := by decide +kernel
theorem dX5_mergeIn_4 : decode cX5_mergeIn 4 = .ok (.aload_n 1, 1) := by decide +kernel
theorem dX5_mergeIn_5 : decode cX5_mergeIn 5 = .ok (.getfield 15, 3) := by decide +kernel
theorem dX5_mergeIn_8 : decode cX5_mergeIn 8 = .ok (.iadd, 1) := by decide +kernel
theorem dX5_mergeIn_9 : decode cX5_mergeIn 9 = .ok (.istore_n 2, 1) := by decide +kernel
theorem dX5_mergeIn_10 : decode cX5_mergeIn 10 = .ok (.iload_n 2, 1) := by decide +kernel
theorem dX5_mergeIn_11 : decode cX5_mergeIn 11 = .ok (.aload_n 0, 1) := by decide +kernel
theorem dX5_mergeIn_12 : decode cX5_mergeIn 12 = .ok (.getfield 9, 3) := by decide +kernel
theorem dX5_mergeIn_15 : decode cX5_mergeIn 15 = .ok (.arraylength, 1) := by decide +kernel
theorem dX5_mergeIn_16 : decode cX5_mergeIn 16 = .ok (.if_icmp .le 4, 3) := by decide +kernel
theorem dX5_mergeIn_19 : decode cX5_mergeIn 19 = .ok (.return_, 1) := by decide +kernel
theorem dX5_mergeIn_20 : decode cX5_mergeIn 20 = .ok (.aload_n 0, 1) := by decide +kernel
theorem dX5_mergeIn_21 : decode cX5_mergeIn 21 = .ok (.getfield 15, 3) := by decide +kernel
theorem dX5_mergeIn_24 : decode cX5_mergeIn 24 = .ok (.iconst 1, 1) := by decide +kernel
theorem dX5_mergeIn_25 : decode cX5_mergeIn 25 = .ok (.isub, 1) := by decide +kernel
theorem dX5_mergeIn_26 : decode cX5_mergeIn 26 = .ok (.istore_n 3, 1) := by decide +kernel
theorem dX5_mergeIn_27 : decode cX5_mergeIn 27 = .ok (.aload_n 1, 1) := by decide +kernel
theorem dX5_mergeIn_28 : decode cX5_mergeIn 28 = .ok (.getfield 15, 3) := by decide +kernel
theorem dX5_mergeIn_31 : decode cX5_mergeIn 31 = .ok (.iconst 1, 1) := by decide +kernel
theorem dX5_mergeIn_32 : decode cX5_mergeIn 32 = .ok (.isub, 1) := by decide +kernel
theorem dX5_mergeIn_33 : decode cX5_mergeIn 33 = .ok (.istore 4, 2) := by decide +kernel
theorem dX5_mergeIn_35 : decode cX5_mergeIn 35 = .ok (.iload_n 2, 1) := by decide +kernel
theorem dX5_mergeIn_36 : decode cX5_mergeIn 36 = .ok (.iconst 1, 1) := by decide +kernel
theorem dX5_mergeIn_37 : decode cX5_mergeIn 37 = .ok (.isub, 1) := by decide +kernel
theorem dX5_mergeIn_38 : decode cX5_mergeIn 38 = .ok (.istore 5, 2) := by decide +kernel
theorem dX5_mergeIn_40 : decode cX5_mergeIn 40 = .ok (.iload 5, 2) := by decide +kernel
theorem dX5_mergeIn_42 : decode cX5_mergeIn 42 = .ok (.ifCond .lt 70, 3) := by decide +kernel
theorem dX5_mergeIn_45 : decode cX5_mergeIn 45 = .ok (.iload 4, 2) := by decide +kernel
theorem dX5_mergeIn_47 : decode cX5_mergeIn 47 = .ok (.ifCond .lt 65, 3) := by decide +kernel
theorem dX5_mergeIn_50 : decode cX5_mergeIn 50 = .ok (.iload_n 3, 1) := by decide +kernel
theorem dX5_mergeIn_51 : decode cX5_mergeIn 51 = .ok (.ifCond .lt 38, 3) := by decide +kernel
theorem dX5_mergeIn_54 : decode cX5_mergeIn 54 = .ok (.aload_n 0, 1) := by decide +kernel
theorem dX5_mergeIn_55 : decode cX5_mergeIn 55 = .ok (.getfield 9, 3) := by decide +kernel
theorem dX5_mergeIn_58 : decode cX5_mergeIn 58 = .ok (.iload_n 3, 1) := by decide +kernel
theorem dX5_mergeIn_59 : decode cX5_mergeIn 59 = .ok (.iaload, 1) := by decide +kernel
theorem dX5_mergeIn_60 : decode cX5_mergeIn 60 = .ok (.aload_n 1, 1) := by decide +kernel
theorem dX5_mergeIn_61 : decode cX5_mergeIn 61 = .ok (.getfield 9, 3) := by decide +kernel
theorem dX5_mergeIn_64 : decode cX5_mergeIn 64 = .ok (.iload 4, 2) := by decide +kernel
theorem dX5_mergeIn_66 : decode cX5_mergeIn 66 = .ok (.iaload, 1) := by decide +kernel
theorem dX5_mergeIn_67 : decode cX5_mergeIn 67 = .ok (.if_icmp .le 22, 3) := by decide +kernel
theorem dX5_mergeIn_70 : decode cX5_mergeIn 70 = .ok (.aload_n 0, 1) := by decide +kernel
theorem dX5_mergeIn_71 : decode cX5_mergeIn 71 = .ok (.getfield 9, 3) := by decide +kernel
theorem dX5_mergeIn_74 : decode cX5_mergeIn 74 = .ok (.iload 5, 2) := by decide +kernel
theorem dX5_mergeIn_76 : decode cX5_mergeIn 76 = .ok (.aload_n 0, 1) := by decide +kernel
theorem dX5_mergeIn_77 : decode cX5_mergeIn 77 = .ok (.getfield 9, 3) := by decide +kernel
theorem dX5_mergeIn_80 : decode cX5_mergeIn 80 = .ok (.iload_n 3, 1) := by decide +kernel
theorem dX5_mergeIn_81 : decode cX5_mergeIn 81 = .ok (.iaload, 1) := by decide +kernel
theorem dX5_mergeIn_82 : decode cX5_mergeIn 82 = .ok (.iastore, 1) := by decide +kernel
theorem dX5_mergeIn_83 : decode cX5_mergeIn 83 = .ok (.iinc 3 (-1), 3) := by decide +kernel
theorem dX5_mergeIn_86 : decode cX5_mergeIn 86 = .ok (.goto 20, 3) := by decide +kernel
theorem dX5_mergeIn_89 : decode cX5_mergeIn 89 = .ok (.aload_n 0, 1) := by decide +kernel
theorem dX5_mergeIn_90 : decode cX5_mergeIn 90 = .ok (.getfield 9, 3) := by decide +kernel
theorem dX5_mergeIn_93 : decode cX5_mergeIn 93 = .ok (.iload 5, 2) := by decide +kernel
theorem dX5_mergeIn_95 : decode cX5_mergeIn 95 = .ok (.aload_n 1, 1) := by decide +kernel
theorem dX5_mergeIn_96 : decode cX5_mergeIn 96 = .ok (.getfield 9, 3) := by decide +kernel
theorem dX5_mergeIn_99 : decode cX5_mergeIn 99 = .ok (.iload 4, 2) := by decide +kernel
theorem dX5_mergeIn_101 : decode cX5_mergeIn 101 = .ok (.iaload, 1) := by decide +kernel
theorem dX5_mergeIn_102 : decode cX5_mergeIn 102 = .ok (.iastore, 1) := by decide +kernel
theorem dX5_mergeIn_103 : decode cX5_mergeIn 103 = .ok (.iinc 4 (-1), 3) := by decide +kernel
theorem dX5_mergeIn_106 : decode cX5_mergeIn 106 = .ok (.iinc 5 (-1), 3) := by decide +kernel
theorem dX5_mergeIn_109 : decode cX5_mergeIn 109 = .ok (.goto (-69), 3) := by decide +kernel
theorem dX5_mergeIn_112 : decode cX5_mergeIn 112 = .ok (.aload_n 0, 1) := by decide +kernel
theorem dX5_mergeIn_113 : decode cX5_mergeIn 113 = .ok (.iload_n 2, 1) := by decide +kernel
theorem dX5_mergeIn_114 : decode cX5_mergeIn 114 = .ok (.putfield 15, 3) := by decide +kernel
theorem dX5_mergeIn_117 : decode cX5_mergeIn 117 = .ok (.return_, 1) := by decide +kernel
theorem dX5_keepLive_0 : decode cX5_keepLive 0 = .ok (.iconst 0, 1) := by decide +kernel
theorem dX5_keepLive_1 : decode cX5_keepLive 1 = .ok (.istore_n 2, 1) := by decide +kernel
theorem dX5_keepLive_2 : decode cX5_keepLive 2 = .ok (.iconst 0, 1) := by decide +kernel
theorem dX5_keepLive_3 : decode cX5_keepLive 3 = .ok (.istore_n 3, 1) := by decide +kernel
theorem dX5_keepLive_4 : decode cX5_keepLive 4 = .ok (.iload_n 3, 1) := by decide +kernel
theorem dX5_keepLive_5 : decode cX5_keepLive 5 = .ok (.aload_n 0, 1) := by decide +kernel
theorem dX5_keepLive_6 : decode cX5_keepLive 6 = .ok (.getfield 15, 3) := by decide +kernel
theorem dX5_keepLive_9 : decode cX5_keepLive 9 = .ok (.if_icmp .ge 40, 3) := by decide +kernel
theorem dX5_keepLive_12 : decode cX5_keepLive 12 = .ok (.aload_n 1, 1) := by decide +kernel
theorem dX5_keepLive_13 : decode cX5_keepLive 13 = .ok (.aload_n 0, 1) := by decide +kernel
theorem dX5_keepLive_14 : decode cX5_keepLive 14 = .ok (.getfield 9, 3) := by decide +kernel
theorem dX5_keepLive_17 : decode cX5_keepLive 17 = .ok (.iload_n 3, 1) := by decide +kernel
theorem dX5_keepLive_18 : decode cX5_keepLive 18 = .ok (.iaload, 1) := by decide +kernel
theorem dX5_keepLive_19 : decode cX5_keepLive 19 = .ok (.invokestatic 19, 3) := by decide +kernel
theorem dX5_keepLive_22 : decode cX5_keepLive 22 = .ok (.invokevirtual 23, 3) := by decide +kernel
theorem dX5_keepLive_25 : decode cX5_keepLive 25 = .ok (.ifCond .eq 18, 3) := by decide +kernel
theorem dX5_keepLive_28 : decode cX5_keepLive 28 = .ok (.aload_n 0, 1) := by decide +kernel
theorem dX5_keepLive_29 : decode cX5_keepLive 29 = .ok (.getfield 9, 3) := by decide +kernel
theorem dX5_keepLive_32 : decode cX5_keepLive 32 = .ok (.iload_n 2, 1) := by decide +kernel
theorem dX5_keepLive_33 : decode cX5_keepLive 33 = .ok (.aload_n 0, 1) := by decide +kernel
theorem dX5_keepLive_34 : decode cX5_keepLive 34 = .ok (.getfield 9, 3) := by decide +kernel
theorem dX5_keepLive_37 : decode cX5_keepLive 37 = .ok (.iload_n 3, 1) := by decide +kernel
theorem dX5_keepLive_38 : decode cX5_keepLive 38 = .ok (.iaload, 1) := by decide +kernel
theorem dX5_keepLive_39 : decode cX5_keepLive 39 = .ok (.iastore, 1) := by decide +kernel
theorem dX5_keepLive_40 : decode cX5_keepLive 40 = .ok (.iinc 2 1, 3) := by decide +kernel
theorem dX5_keepLive_43 : decode cX5_keepLive 43 = .ok (.iinc 3 1, 3) := by decide +kernel
theorem dX5_keepLive_46 : decode cX5_keepLive 46 = .ok (.goto (-42), 3) := by decide +kernel
theorem dX5_keepLive_49 : decode cX5_keepLive 49 = .ok (.aload_n 0, 1) := by decide +kernel
theorem dX5_keepLive_50 : decode cX5_keepLive 50 = .ok (.iload_n 2, 1) := by decide +kernel
theorem dX5_keepLive_51 : decode cX5_keepLive 51 = .ok (.putfield 15, 3) := by decide +kernel
theorem dX5_keepLive_54 : decode cX5_keepLive 54 = .ok (.return_, 1) := by decide +kernel
end
section
theorem dX0_init_0 : decode cX0_init 0 = .ok (.aload_n 0, 1) := by decide +kernel
theorem dX0_init_1 : decode cX0_init 1 = .ok (.invokespecial 3, 3) := by decide +kernel
theorem dX0_init_4 : decode cX0_init 4 = .ok (.aload_n 0, 1) := by decide +kernel
theorem dX0_init_5 : decode cX0_init 5 = .ok (.bipush 40, 2) := by decide +kernel
theorem dX0_init_7 : decode cX0_init 7 = .ok (.newarray .int, 2) := by decide +kernel
theorem dX0_init_9 : decode cX0_init 9 = .ok (.putfield 9, 3) := by decide +kernel
theorem dX0_init_12 : decode cX0_init 12 = .ok (.aload_n 0, 1) := by decide +kernel
theorem dX0_init_13 : decode cX0_init 13 = .ok (.bipush 40, 2) := by decide +kernel
theorem dX0_init_15 : decode cX0_init 15 = .ok (.newarray .double, 2) := by decide +kernel
theorem dX0_init_17 : decode cX0_init 17 = .ok (.putfield 15, 3) := by decide +kernel
theorem dX0_init_20 : decode cX0_init 20 = .ok (.aload_n 0, 1) := by decide +kernel
theorem dX0_init_21 : decode cX0_init 21 = .ok (.iconst 0, 1) := by decide +kernel
theorem dX0_init_22 : decode cX0_init 22 = .ok (.putfield 19, 3) := by decide +kernel
theorem dX0_init_25 : decode cX0_init 25 = .ok (.aload_n 0, 1) := by decide +kernel
theorem dX0_init_26 : decode cX0_init 26 = .ok (.iconst 0, 1) := by decide +kernel
theorem dX0_init_27 : decode cX0_init 27 = .ok (.putfield 23, 3) := by decide +kernel
theorem dX0_init_30 : decode cX0_init 30 = .ok (.return_, 1) := by decide +kernel
theorem dX0_begin_0 : decode cX0_begin 0 = .ok (.aload_n 0, 1) := by decide +kernel
theorem dX0_begin_1 : decode cX0_begin 1 = .ok (.iconst 0, 1) := by decide +kernel
theorem dX0_begin_2 : decode cX0_begin 2 = .ok (.putfield 19, 3) := by decide +kernel
theorem dX0_begin_5 : decode cX0_begin 5 = .ok (.aload_n 0, 1) := by decide +kernel
theorem dX0_begin_6 : decode cX0_begin 6 = .ok (.iload_n 1, 1) := by decide +kernel
theorem dX0_begin_7 : decode cX0_begin 7 = .ok (.putfield 23, 3) := by decide +kernel
theorem dX0_begin_10 : decode cX0_begin 10 = .ok (.return_, 1) := by decide +kernel
theorem dX0_put_0 : decode cX0_put 0 = .ok (.aload_n 0, 1) := by decide +kernel
theorem dX0_put_1 : decode cX0_put 1 = .ok (.getfield 19, 3) := by decide +kernel
theorem dX0_put_4 : decode cX0_put 4 = .ok (.aload_n 0, 1) := by decide +kernel
theorem dX0_put_5 : decode cX0_put 5 = .ok (.getfield 9, 3) := by decide +kernel
theorem dX0_put_8 : decode cX0_put 8 = .ok (.arraylength, 1) := by decide +kernel
theorem dX0_put_9 : decode cX0_put 9 = .ok (.if_icmp .lt 4, 3) := by decide +kernel
theorem dX0_put_12 : decode cX0_put 12 = .ok (.return_, 1) := by decide +kernel
theorem dX0_put_13 : decode cX0_put 13 = .ok (.aload_n 0, 1) := by decide +kernel
theorem dX0_put_14 : decode cX0_put 14 = .ok (.getfield 19, 3) := by decide +kernel
theorem dX0_put_17 : decode cX0_put 17 = .ok (.istore 4, 2) := by decide +kernel
theorem dX0_put_19 : decode cX0_put 19 = .ok (.iload 4, 2) := by decide +kernel
theorem dX0_put_21 : decode cX0_put 21 = .ok (.ifCond .le 55, 3) := by decide +kernel
theorem dX0_put_24 : decode cX0_put 24 = .ok (.aload_n 0, 1) := by decide +kernel
theorem dX0_put_25 : decode cX0_put 25 = .ok (.getfield 15, 3) := by decide +kernel
theorem dX0_put_28 : decode cX0_put 28 = .ok (.iload 4, 2) := by decide +kernel
theorem dX0_put_30 : decode cX0_put 30 = .ok (.iconst 1, 1) := by decide +kernel
theorem dX0_put_31 : decode cX0_put 31 = .ok (.isub, 1) := by decide +kernel
theorem dX0_put_32 : decode cX0_put 32 = .ok (.daload, 1) := by decide +kernel
theorem dX0_put_33 : decode cX0_put 33 = .ok (.dload_n 2, 1) := by decide +kernel
theorem dX0_put_34 : decode cX0_put 34 = .ok (.dcmp .g, 1) := by decide +kernel
theorem dX0_put_35 : decode cX0_put 35 = .ok (.ifCond .ge 41, 3) := by decide +kernel
theorem dX0_put_38 : decode cX0_put 38 = .ok (.aload_n 0, 1) := by decide +kernel
theorem dX0_put_39 : decode cX0_put 39 = .ok (.getfield 15, 3) := by decide +kernel
theorem dX0_put_42 : decode cX0_put 42 = .ok (.iload 4, 2) := by decide +kernel
theorem dX0_put_44 : decode cX0_put 44 = .ok (.aload_n 0, 1) := by decide +kernel
theorem dX0_put_45 : decode cX0_put 45 = .ok (.getfield 15, 3) := by decide +kernel
theorem dX0_put_48 : decode cX0_put 48 = .ok (.iload 4, 2) := by decide +kernel
theorem dX0_put_50 : decode cX0_put 50 = .ok (.iconst 1, 1) := by decide +kernel
theorem dX0_put_51 : decode cX0_put 51 = .ok (.isub, 1) := by decide +kernel
theorem dX0_put_52 : decode cX0_put 52 = .ok (.daload, 1) := by decide +kernel
theorem dX0_put_53 : decode cX0_put 53 = .ok (.dastore, 1) := by decide +kernel
theorem dX0_put_54 : decode cX0_put 54 = .ok (.aload_n 0, 1) := by decide +kernel
theorem dX0_put_55 : decode cX0_put 55 = .ok (.getfield 9, 3) := by decide +kernel
theorem dX0_put_58 : decode cX0_put 58 = .ok (.iload 4, 2) := by decide +kernel
theorem dX0_put_60 : decode cX0_put 60 = .ok (.aload_n 0, 1) := by decide +kernel
theorem dX0_put_61 : decode cX0_put 61 = .ok (.getfield 9, 3) := by decide +kernel
theorem dX0_put_64 : decode cX0_put 64 = .ok (.iload 4, 2) := by decide +kernel
theorem dX0_put_66 : decode cX0_put 66 = .ok (.iconst 1, 1) := by decide +kernel
theorem dX0_put_67 : decode cX0_put 67 = .ok (.isub, 1) := by decide +kernel
theorem dX0_put_68 : decode cX0_put 68 = .ok (.iaload, 1) := by decide +kernel
theorem dX0_put_69 : decode cX0_put 69 = .ok (.iastore, 1) := by decide +kernel
theorem dX0_put_70 : decode cX0_put 70 = .ok (.iinc 4 (-1), 3) := by decide +kernel
theorem dX0_put_73 : decode cX0_put 73 = .ok (.goto (-54), 3) := by decide +kernel
theorem dX0_put_76 : decode cX0_put 76 = .ok (.aload_n 0, 1) := by decide +kernel
theorem dX0_put_77 : decode cX0_put 77 = .ok (.getfield 15, 3) := by decide +kernel
theorem dX0_put_80 : decode cX0_put 80 = .ok (.iload 4, 2) := by decide +kernel
theorem dX0_put_82 : decode cX0_put 82 = .ok (.dload_n 2, 1) := by decide +kernel
theorem dX0_put_83 : decode cX0_put 83 = .ok (.dastore, 1) := by decide +kernel
theorem dX0_put_84 : decode cX0_put 84 = .ok (.aload_n 0, 1) := by decide +kernel
theorem dX0_put_85 : decode cX0_put 85 = .ok (.getfield 9, 3) := by decide +kernel
theorem dX0_put_88 : decode cX0_put 88 = .ok (.iload 4, 2) := by decide +kernel
theorem dX0_put_90 : decode cX0_put 90 = .ok (.iload_n 1, 1) := by decide +kernel
theorem dX0_put_91 : decode cX0_put 91 = .ok (.iastore, 1) := by decide +kernel
theorem dX0_put_92 : decode cX0_put 92 = .ok (.aload_n 0, 1) := by decide +kernel
theorem dX0_put_93 : decode cX0_put 93 = .ok (.dup, 1) := by decide +kernel
theorem dX0_put_94 : decode cX0_put 94 = .ok (.getfield 19, 3) := by decide +kernel
theorem dX0_put_97 : decode cX0_put 97 = .ok (.iconst 1, 1) := by decide +kernel
theorem dX0_put_98 : decode cX0_put 98 = .ok (.iadd, 1) := by decide +kernel
theorem dX0_put_99 : decode cX0_put 99 = .ok (.putfield 19, 3) := by decide +kernel
theorem dX0_put_102 : decode cX0_put 102 = .ok (.return_, 1) := by decide +kernel
theorem dX0_size_0 : decode cX0_size 0 = .ok (.aload_n 0, 1) := by decide +kernel
theorem dX0_size_1 : decode cX0_size 1 = .ok (.getfield 19, 3) := by decide +kernel
theorem dX0_size_4 : decode cX0_size 4 = .ok (.ireturn, 1) := by decide +kernel
theorem dX0_isRanked_0 : decode cX0_isRanked 0 = .ok (.aload_n 0, 1) := by decide +kernel
theorem dX0_isRanked_1 : decode cX0_isRanked 1 = .ok (.getfield 23, 3) := by decide +kernel
theorem dX0_isRanked_4 : decode cX0_isRanked 4 = .ok (.ireturn, 1) := by decide +kernel
theorem dX0_documentAt_0 : decode cX0_documentAt 0 = .ok (.iload_n 1, 1) := by decide +kernel
theorem dX0_documentAt_1 : decode cX0_documentAt 1 = .ok (.ifCond .lt 20, 3) := by decide +kernel
theorem dX0_documentAt_4 : decode cX0_documentAt 4 = .ok (.iload_n 1, 1) := by decide +kernel
theorem dX0_documentAt_5 : decode cX0_documentAt 5 = .ok (.aload_n 0, 1) := by decide +kernel
theorem dX0_documentAt_6 : decode cX0_documentAt 6 = .ok (.getfield 19, 3) := by decide +kernel
theorem dX0_documentAt_9 : decode cX0_documentAt 9 = .ok (.if_icmp .ge 12, 3) := by decide +kernel
theorem dX0_documentAt_12 : decode cX0_documentAt 12 = .ok (.aload_n 0, 1) := by decide +kernel
theorem dX0_documentAt_13 : decode cX0_documentAt 13 = .ok (.getfield 9, 3) := by decide +kernel
theorem dX0_documentAt_16 : decode cX0_documentAt 16 = .ok (.iload_n 1, 1) := by decide +kernel
theorem dX0_documentAt_17 : decode cX0_documentAt 17 = .ok (.iaload, 1) := by decide +kernel
theorem dX0_documentAt_18 : decode cX0_documentAt 18 = .ok (.goto 4, 3) := by decide +kernel
theorem dX0_documentAt_21 : decode cX0_documentAt 21 = .ok (.iconst 0, 1) := by decide +kernel
theorem dX0_documentAt_22 : decode cX0_documentAt 22 = .ok (.ireturn, 1) := by decide +kernel
theorem dX0_scoreAt_0 : decode cX0_scoreAt 0 = .ok (.iload_n 1, 1) := by decide +kernel
theorem dX0_scoreAt_1 : decode cX0_scoreAt 1 = .ok (.ifCond .lt 20, 3) := by decide +kernel
theorem dX0_scoreAt_4 : decode cX0_scoreAt 4 = .ok (.iload_n 1, 1) := by decide +kernel
theorem dX0_scoreAt_5 : decode cX0_scoreAt 5 = .ok (.aload_n 0, 1) := by decide +kernel
theorem dX0_scoreAt_6 : decode cX0_scoreAt 6 = .ok (.getfield 19, 3) := by decide +kernel
theorem dX0_scoreAt_9 : decode cX0_scoreAt 9 = .ok (.if_icmp .ge 12, 3) := by decide +kernel
theorem dX0_scoreAt_12 : decode cX0_scoreAt 12 = .ok (.aload_n 0, 1) := by decide +kernel
theorem dX0_scoreAt_13 : decode cX0_scoreAt 13 = .ok (.getfield 15, 3) := by decide +kernel
theorem dX0_scoreAt_16 : decode cX0_scoreAt 16 = .ok (.iload_n 1, 1) := by decide +kernel
theorem dX0_scoreAt_17 : decode cX0_scoreAt 17 = .ok (.daload, 1) := by decide +kernel
theorem dX0_scoreAt_18 : decode cX0_scoreAt 18 = .ok (.goto 4, 3) := by decide +kernel
theorem dX0_scoreAt_21 : decode cX0_scoreAt 21 = .ok (.dconst 0, 1) := by decide +kernel
theorem dX0_scoreAt_22 : decode cX0_scoreAt 22 = .ok (.dreturn, 1) := by decide +kernel
end
section
theorem dX1_init_0 : decode cX1_init 0 = .ok (.aload_n 0, 1) := by decide +kernel
theorem dX1_init_1 : decode cX1_init 1 = .ok (.invokespecial 3, 3) := by decide +kernel
theorem dX1_init_4 : decode cX1_init 4 = .ok (.aload_n 0, 1) := by decide +kernel
theorem dX1_init_5 : decode cX1_init 5 = .ok (.iload_n 1, 1) := by decide +kernel
theorem dX1_init_6 : decode cX1_init 6 = .ok (.newarray .int, 2) := by decide +kernel
theorem dX1_init_8 : decode cX1_init 8 = .ok (.putfield 9, 3) := by decide +kernel
theorem dX1_init_11 : decode cX1_init 11 = .ok (.aload_n 0, 1) := by decide +kernel
theorem dX1_init_12 : decode cX1_init 12 = .ok (.iconst 0, 1) := by decide +kernel
theorem dX1_init_13 : decode cX1_init 13 = .ok (.putfield 15, 3) := by decide +kernel
theorem dX1_init_16 : decode cX1_init 16 = .ok (.aload_n 0, 1) := by decide +kernel
theorem dX1_init_17 : decode cX1_init 17 = .ok (.iconst 0, 1) := by decide +kernel
theorem dX1_init_18 : decode cX1_init 18 = .ok (.putfield 19, 3) := by decide +kernel
theorem dX1_init_21 : decode cX1_init 21 = .ok (.return_, 1) := by decide +kernel
theorem dX1_size_0 : decode cX1_size 0 = .ok (.aload_n 0, 1) := by decide +kernel
theorem dX1_size_1 : decode cX1_size 1 = .ok (.getfield 15, 3) := by decide +kernel
theorem dX1_size_4 : decode cX1_size 4 = .ok (.ireturn, 1) := by decide +kernel
theorem dX1_at_0 : decode cX1_at 0 = .ok (.iload_n 1, 1) := by decide +kernel
theorem dX1_at_1 : decode cX1_at 1 = .ok (.ifCond .lt 29, 3) := by decide +kernel
theorem dX1_at_4 : decode cX1_at 4 = .ok (.iload_n 1, 1) := by decide +kernel
theorem dX1_at_5 : decode cX1_at 5 = .ok (.aload_n 0, 1) := by decide +kernel
theorem dX1_at_6 : decode cX1_at 6 = .ok (.getfield 15, 3) := by decide +kernel
theorem dX1_at_9 : decode cX1_at 9 = .ok (.if_icmp .ge 21, 3) := by decide +kernel
theorem dX1_at_12 : decode cX1_at 12 = .ok (.iload_n 1, 1) := by decide +kernel
theorem dX1_at_13 : decode cX1_at 13 = .ok (.aload_n 0, 1) := by decide +kernel
theorem dX1_at_14 : decode cX1_at 14 = .ok (.getfield 9, 3) := by decide +kernel
theorem dX1_at_17 : decode cX1_at 17 = .ok (.arraylength, 1) := by decide +kernel
theorem dX1_at_18 : decode cX1_at 18 = .ok (.if_icmp .ge 12, 3) := by decide +kernel
theorem dX1_at_21 : decode cX1_at 21 = .ok (.aload_n 0, 1) := by decide +kernel
theorem dX1_at_22 : decode cX1_at 22 = .ok (.getfield 9, 3) := by decide +kernel
theorem dX1_at_25 : decode cX1_at 25 = .ok (.iload_n 1, 1) := by decide +kernel
theorem dX1_at_26 : decode cX1_at 26 = .ok (.iaload, 1) := by decide +kernel
theorem dX1_at_27 : decode cX1_at 27 = .ok (.goto 4, 3) := by decide +kernel
theorem dX1_at_30 : decode cX1_at 30 = .ok (.iconst 0, 1) := by decide +kernel
theorem dX1_at_31 : decode cX1_at 31 = .ok (.ireturn, 1) := by decide +kernel
theorem dX1_clear_0 : decode cX1_clear 0 = .ok (.aload_n 0, 1) := by decide +kernel
theorem dX1_clear_1 : decode cX1_clear 1 = .ok (.iconst 0, 1) := by decide +kernel
theorem dX1_clear_2 : decode cX1_clear 2 = .ok (.putfield 15, 3) := by decide +kernel
theorem dX1_clear_5 : decode cX1_clear 5 = .ok (.aload_n 0, 1) := by decide +kernel
theorem dX1_clear_6 : decode cX1_clear 6 = .ok (.iconst 0, 1) := by decide +kernel
theorem dX1_clear_7 : decode cX1_clear 7 = .ok (.putfield 19, 3) := by decide +kernel
theorem dX1_clear_10 : decode cX1_clear 10 = .ok (.return_, 1) := by decide +kernel
theorem dX1_put_0 : decode cX1_put 0 = .ok (.aload_n 0, 1) := by decide +kernel
theorem dX1_put_1 : decode cX1_put 1 = .ok (.getfield 15, 3) := by decide +kernel
theorem dX1_put_4 : decode cX1_put 4 = .ok (.aload_n 0, 1) := by decide +kernel
theorem dX1_put_5 : decode cX1_put 5 = .ok (.getfield 9, 3) := by decide +kernel
theorem dX1_put_8 : decode cX1_put 8 = .ok (.arraylength, 1) := by decide +kernel
theorem dX1_put_9 : decode cX1_put 9 = .ok (.if_icmp .ge 13, 3) := by decide +kernel
theorem dX1_put_12 : decode cX1_put 12 = .ok (.aload_n 0, 1) := by decide +kernel
theorem dX1_put_13 : decode cX1_put 13 = .ok (.getfield 9, 3) := by decide +kernel
theorem dX1_put_16 : decode cX1_put 16 = .ok (.aload_n 0, 1) := by decide +kernel
theorem dX1_put_17 : decode cX1_put 17 = .ok (.getfield 15, 3) := by decide +kernel
theorem dX1_put_20 : decode cX1_put 20 = .ok (.iload_n 1, 1) := by decide +kernel
theorem dX1_put_21 : decode cX1_put 21 = .ok (.iastore, 1) := by decide +kernel
theorem dX1_put_22 : decode cX1_put 22 = .ok (.aload_n 0, 1) := by decide +kernel
theorem dX1_put_23 : decode cX1_put 23 = .ok (.dup, 1) := by decide +kernel
theorem dX1_put_24 : decode cX1_put 24 = .ok (.getfield 15, 3) := by decide +kernel
theorem dX1_put_27 : decode cX1_put 27 = .ok (.iconst 1, 1) := by decide +kernel
theorem dX1_put_28 : decode cX1_put 28 = .ok (.iadd, 1) := by decide +kernel
theorem dX1_put_29 : decode cX1_put 29 = .ok (.putfield 15, 3) := by decide +kernel
theorem dX1_put_32 : decode cX1_put 32 = .ok (.aload_n 0, 1) := by decide +kernel
theorem dX1_put_33 : decode cX1_put 33 = .ok (.getfield 15, 3) := by decide +kernel
theorem dX1_put_36 : decode cX1_put 36 = .ok (.iconst 1, 1) := by decide +kernel
theorem dX1_put_37 : decode cX1_put 37 = .ok (.isub, 1) := by decide +kernel
theorem dX1_put_38 : decode cX1_put 38 = .ok (.ireturn, 1) := by decide +kernel
theorem dX1_encode_0 : decode cX1_encode 0 = .ok (.aload_n 0, 1) := by decide +kernel
theorem dX1_encode_1 : decode cX1_encode 1 = .ok (.invokevirtual 22, 3) := by decide +kernel
theorem dX1_encode_4 : decode cX1_encode 4 = .ok (.iconst 0, 1) := by decide +kernel
theorem dX1_encode_5 : decode cX1_encode 5 = .ok (.istore_n 2, 1) := by decide +kernel
theorem dX1_encode_6 : decode cX1_encode 6 = .ok (.iconst 0, 1) := by decide +kernel
theorem dX1_encode_7 : decode cX1_encode 7 = .ok (.istore_n 3, 1) := by decide +kernel
theorem dX1_encode_8 : decode cX1_encode 8 = .ok (.iconst 0, 1) := by decide +kernel
theorem dX1_encode_9 : decode cX1_encode 9 = .ok (.istore 4, 2) := by decide +kernel
theorem dX1_encode_11 : decode cX1_encode 11 = .ok (.iconst 0, 1) := by decide +kernel
theorem dX1_encode_12 : decode cX1_encode 12 = .ok (.istore 5, 2) := by decide +kernel
theorem dX1_encode_14 : decode cX1_encode 14 = .ok (.iconst 0, 1) := by decide +kernel
theorem dX1_encode_15 : decode cX1_encode 15 = .ok (.istore 6, 2) := by decide +kernel
theorem dX1_encode_17 : decode cX1_encode 17 = .ok (.iconst 0, 1) := by decide +kernel
theorem dX1_encode_18 : decode cX1_encode 18 = .ok (.istore 7, 2) := by decide +kernel
theorem dX1_encode_20 : decode cX1_encode 20 = .ok (.iload 7, 2) := by decide +kernel
theorem dX1_encode_22 : decode cX1_encode 22 = .ok (.aload_n 1, 1) := by decide +kernel
theorem dX1_encode_23 : decode cX1_encode 23 = .ok (.invokevirtual 25, 3) := by decide +kernel
theorem dX1_encode_26 : decode cX1_encode 26 = .ok (.if_icmp .ge 144, 3) := by decide +kernel
theorem dX1_encode_29 : decode cX1_encode 29 = .ok (.aload_n 1, 1) := by decide +kernel
theorem dX1_encode_30 : decode cX1_encode 30 = .ok (.iload 7, 2) := by decide +kernel
theorem dX1_encode_32 : decode cX1_encode 32 = .ok (.invokevirtual 30, 3) := by decide +kernel
theorem dX1_encode_35 : decode cX1_encode 35 = .ok (.istore 8, 2) := by decide +kernel
theorem dX1_encode_37 : decode cX1_encode 37 = .ok (.iload 7, 2) := by decide +kernel
theorem dX1_encode_39 : decode cX1_encode 39 = .ok (.ifCond .eq 12, 3) := by decide +kernel
theorem dX1_encode_42 : decode cX1_encode 42 = .ok (.iload 8, 2) := by decide +kernel
theorem dX1_encode_44 : decode cX1_encode 44 = .ok (.invokestatic 34, 3) := by decide +kernel
theorem dX1_encode_47 : decode cX1_encode 47 = .ok (.iload_n 2, 1) := by decide +kernel
theorem dX1_encode_48 : decode cX1_encode 48 = .ok (.if_icmp .eq 7, 3) := by decide +kernel
theorem dX1_encode_51 : decode cX1_encode 51 = .ok (.iconst 1, 1) := by decide +kernel
theorem dX1_encode_52 : decode cX1_encode 52 = .ok (.goto 4, 3) := by decide +kernel
theorem dX1_encode_55 : decode cX1_encode 55 = .ok (.iconst 0, 1) := by decide +kernel
theorem dX1_encode_56 : decode cX1_encode 56 = .ok (.istore 9, 2) := by decide +kernel
theorem dX1_encode_58 : decode cX1_encode 58 = .ok (.iload 9, 2) := by decide +kernel
theorem dX1_encode_60 : decode cX1_encode 60 = .ok (.ifCond .eq 30, 3) := by decide +kernel
theorem dX1_encode_63 : decode cX1_encode 63 = .ok (.aload_n 0, 1) := by decide +kernel
theorem dX1_encode_64 : decode cX1_encode 64 = .ok (.iload 8, 2) := by decide +kernel
theorem dX1_encode_66 : decode cX1_encode 66 = .ok (.invokestatic 34, 3) := by decide +kernel
theorem dX1_encode_69 : decode cX1_encode 69 = .ok (.iload_n 2, 1) := by decide +kernel
theorem dX1_encode_70 : decode cX1_encode 70 = .ok (.isub, 1) := by decide +kernel
theorem dX1_encode_71 : decode cX1_encode 71 = .ok (.invokevirtual 37, 3) := by decide +kernel
theorem dX1_encode_74 : decode cX1_encode 74 = .ok (.pop, 1) := by decide +kernel
theorem dX1_encode_75 : decode cX1_encode 75 = .ok (.iload 8, 2) := by decide +kernel
theorem dX1_encode_77 : decode cX1_encode 77 = .ok (.invokestatic 34, 3) := by decide +kernel
theorem dX1_encode_80 : decode cX1_encode 80 = .ok (.istore_n 2, 1) := by decide +kernel
theorem dX1_encode_81 : decode cX1_encode 81 = .ok (.aload_n 0, 1) := by decide +kernel
theorem dX1_encode_82 : decode cX1_encode 82 = .ok (.iconst 0, 1) := by decide +kernel
theorem dX1_encode_83 : decode cX1_encode 83 = .ok (.invokevirtual 37, 3) := by decide +kernel
theorem dX1_encode_86 : decode cX1_encode 86 = .ok (.istore 5, 2) := by decide +kernel
theorem dX1_encode_88 : decode cX1_encode 88 = .ok (.iconst 0, 1) := by decide +kernel
theorem dX1_encode_89 : decode cX1_encode 89 = .ok (.istore_n 3, 1) := by decide +kernel
theorem dX1_encode_90 : decode cX1_encode 90 = .ok (.iload 9, 2) := by decide +kernel
theorem dX1_encode_92 : decode cX1_encode 92 = .ok (.ifCond .ne 12, 3) := by decide +kernel
theorem dX1_encode_95 : decode cX1_encode 95 = .ok (.iload 8, 2) := by decide +kernel
theorem dX1_encode_97 : decode cX1_encode 97 = .ok (.invokestatic 40, 3) := by decide +kernel
theorem dX1_encode_100 : decode cX1_encode 100 = .ok (.iload_n 3, 1) := by decide +kernel
theorem dX1_encode_101 : decode cX1_encode 101 = .ok (.if_icmp .eq 37, 3) := by decide +kernel
theorem dX1_encode_104 : decode cX1_encode 104 = .ok (.aload_n 0, 1) := by decide +kernel
theorem dX1_encode_105 : decode cX1_encode 105 = .ok (.iload 8, 2) := by decide +kernel
theorem dX1_encode_107 : decode cX1_encode 107 = .ok (.invokestatic 40, 3) := by decide +kernel
theorem dX1_encode_110 : decode cX1_encode 110 = .ok (.iload_n 3, 1) := by decide +kernel
theorem dX1_encode_111 : decode cX1_encode 111 = .ok (.isub, 1) := by decide +kernel
theorem dX1_encode_112 : decode cX1_encode 112 = .ok (.invokevirtual 37, 3) := by decide +kernel
theorem dX1_encode_115 : decode cX1_encode 115 = .ok (.pop, 1) := by decide +kernel
theorem dX1_encode_116 : decode cX1_encode 116 = .ok (.iload 8, 2) := by decide +kernel
theorem dX1_encode_118 : decode cX1_encode 118 = .ok (.invokestatic 40, 3) := by decide +kernel
theorem dX1_encode_121 : decode cX1_encode 121 = .ok (.istore_n 3, 1) := by decide +kernel
theorem dX1_encode_122 : decode cX1_encode 122 = .ok (.aload_n 0, 1) := by decide +kernel
theorem dX1_encode_123 : decode cX1_encode 123 = .ok (.iload 5, 2) := by decide +kernel
theorem dX1_encode_125 : decode cX1_encode 125 = .ok (.invokevirtual 43, 3) := by decide +kernel
theorem dX1_encode_128 : decode cX1_encode 128 = .ok (.aload_n 0, 1) := by decide +kernel
theorem dX1_encode_129 : decode cX1_encode 129 = .ok (.iconst 0, 1) := by decide +kernel
theorem dX1_encode_130 : decode cX1_encode 130 = .ok (.invokevirtual 37, 3) := by decide +kernel
theorem dX1_encode_133 : decode cX1_encode 133 = .ok (.istore 6, 2) := by decide +kernel
theorem dX1_encode_135 : decode cX1_encode 135 = .ok (.iconst 0, 1) := by decide +kernel
theorem dX1_encode_136 : decode cX1_encode 136 = .ok (.istore 4, 2) := by decide +kernel
theorem dX1_encode_138 : decode cX1_encode 138 = .ok (.aload_n 0, 1) := by decide +kernel
theorem dX1_encode_139 : decode cX1_encode 139 = .ok (.iload 8, 2) := by decide +kernel
theorem dX1_encode_141 : decode cX1_encode 141 = .ok (.invokestatic 47, 3) := by decide +kernel
theorem dX1_encode_144 : decode cX1_encode 144 = .ok (.iload 4, 2) := by decide +kernel
theorem dX1_encode_146 : decode cX1_encode 146 = .ok (.isub, 1) := by decide +kernel
theorem dX1_encode_147 : decode cX1_encode 147 = .ok (.invokevirtual 37, 3) := by decide +kernel
theorem dX1_encode_150 : decode cX1_encode 150 = .ok (.pop, 1) := by decide +kernel
theorem dX1_encode_151 : decode cX1_encode 151 = .ok (.iload 8, 2) := by decide +kernel
theorem dX1_encode_153 : decode cX1_encode 153 = .ok (.invokestatic 47, 3) := by decide +kernel
theorem dX1_encode_156 : decode cX1_encode 156 = .ok (.istore 4, 2) := by decide +kernel
theorem dX1_encode_158 : decode cX1_encode 158 = .ok (.aload_n 0, 1) := by decide +kernel
theorem dX1_encode_159 : decode cX1_encode 159 = .ok (.iload 6, 2) := by decide +kernel
theorem dX1_encode_161 : decode cX1_encode 161 = .ok (.invokevirtual 43, 3) := by decide +kernel
theorem dX1_encode_164 : decode cX1_encode 164 = .ok (.iinc 7 1, 3) := by decide +kernel
theorem dX1_encode_167 : decode cX1_encode 167 = .ok (.goto (-147), 3) := by decide +kernel
theorem dX1_encode_170 : decode cX1_encode 170 = .ok (.aload_n 0, 1) := by decide +kernel
theorem dX1_encode_171 : decode cX1_encode 171 = .ok (.getfield 15, 3) := by decide +kernel
theorem dX1_encode_174 : decode cX1_encode 174 = .ok (.ifCond .le 10, 3) := by decide +kernel
theorem dX1_encode_177 : decode cX1_encode 177 = .ok (.aload_n 0, 1) := by decide +kernel
theorem dX1_encode_178 : decode cX1_encode 178 = .ok (.bipush 127, 2) := by decide +kernel
theorem dX1_encode_180 : decode cX1_encode 180 = .ok (.invokevirtual 37, 3) := by decide +kernel
theorem dX1_encode_183 : decode cX1_encode 183 = .ok (.pop, 1) := by decide +kernel
theorem dX1_encode_184 : decode cX1_encode 184 = .ok (.return_, 1) := by decide +kernel
theorem dX1_decode_0 : decode cX1_decode 0 = .ok (.aload_n 1, 1) := by decide +kernel
theorem dX1_decode_1 : decode cX1_decode 1 = .ok (.invokevirtual 50, 3) := by decide +kernel
theorem dX1_decode_4 : decode cX1_decode 4 = .ok (.aload_n 0, 1) := by decide +kernel
theorem dX1_decode_5 : decode cX1_decode 5 = .ok (.iconst 0, 1) := by decide +kernel
theorem dX1_decode_6 : decode cX1_decode 6 = .ok (.putfield 19, 3) := by decide +kernel
theorem dX1_decode_9 : decode cX1_decode 9 = .ok (.iconst 0, 1) := by decide +kernel
theorem dX1_decode_10 : decode cX1_decode 10 = .ok (.istore_n 2, 1) := by decide +kernel
theorem dX1_decode_11 : decode cX1_decode 11 = .ok (.aload_n 0, 1) := by decide +kernel
theorem dX1_decode_12 : decode cX1_decode 12 = .ok (.invokevirtual 51, 3) := by decide +kernel
theorem dX1_decode_15 : decode cX1_decode 15 = .ok (.istore_n 3, 1) := by decide +kernel
theorem dX1_decode_16 : decode cX1_decode 16 = .ok (.iconst 0, 1) := by decide +kernel
theorem dX1_decode_17 : decode cX1_decode 17 = .ok (.istore 4, 2) := by decide +kernel
theorem dX1_decode_19 : decode cX1_decode 19 = .ok (.iload 4, 2) := by decide +kernel
theorem dX1_decode_21 : decode cX1_decode 21 = .ok (.bipush 100, 2) := by decide +kernel
theorem dX1_decode_23 : decode cX1_decode 23 = .ok (.if_icmp .ge 104, 3) := by decide +kernel
theorem dX1_decode_26 : decode cX1_decode 26 = .ok (.iload_n 3, 1) := by decide +kernel
theorem dX1_decode_27 : decode cX1_decode 27 = .ok (.bipush 127, 2) := by decide +kernel
theorem dX1_decode_29 : decode cX1_decode 29 = .ok (.if_icmp .eq 98, 3) := by decide +kernel
theorem dX1_decode_32 : decode cX1_decode 32 = .ok (.iload_n 2, 1) := by decide +kernel
theorem dX1_decode_33 : decode cX1_decode 33 = .ok (.iload_n 3, 1) := by decide +kernel
theorem dX1_decode_34 : decode cX1_decode 34 = .ok (.iadd, 1) := by decide +kernel
theorem dX1_decode_35 : decode cX1_decode 35 = .ok (.istore_n 2, 1) := by decide +kernel
theorem dX1_decode_36 : decode cX1_decode 36 = .ok (.aload_n 0, 1) := by decide +kernel
theorem dX1_decode_37 : decode cX1_decode 37 = .ok (.invokevirtual 51, 3) := by decide +kernel
theorem dX1_decode_40 : decode cX1_decode 40 = .ok (.istore 5, 2) := by decide +kernel
theorem dX1_decode_42 : decode cX1_decode 42 = .ok (.iconst 0, 1) := by decide +kernel
theorem dX1_decode_43 : decode cX1_decode 43 = .ok (.istore 6, 2) := by decide +kernel
theorem dX1_decode_45 : decode cX1_decode 45 = .ok (.iconst 0, 1) := by decide +kernel
theorem dX1_decode_46 : decode cX1_decode 46 = .ok (.istore 7, 2) := by decide +kernel
theorem dX1_decode_48 : decode cX1_decode 48 = .ok (.iload 7, 2) := by decide +kernel
theorem dX1_decode_50 : decode cX1_decode 50 = .ok (.iload 5, 2) := by decide +kernel
theorem dX1_decode_52 : decode cX1_decode 52 = .ok (.if_icmp .ge 64, 3) := by decide +kernel
theorem dX1_decode_55 : decode cX1_decode 55 = .ok (.iload 6, 2) := by decide +kernel
theorem dX1_decode_57 : decode cX1_decode 57 = .ok (.aload_n 0, 1) := by decide +kernel
theorem dX1_decode_58 : decode cX1_decode 58 = .ok (.invokevirtual 51, 3) := by decide +kernel
theorem dX1_decode_61 : decode cX1_decode 61 = .ok (.iadd, 1) := by decide +kernel
theorem dX1_decode_62 : decode cX1_decode 62 = .ok (.istore 6, 2) := by decide +kernel
theorem dX1_decode_64 : decode cX1_decode 64 = .ok (.aload_n 0, 1) := by decide +kernel
theorem dX1_decode_65 : decode cX1_decode 65 = .ok (.invokevirtual 51, 3) := by decide +kernel
theorem dX1_decode_68 : decode cX1_decode 68 = .ok (.istore 8, 2) := by decide +kernel
theorem dX1_decode_70 : decode cX1_decode 70 = .ok (.iconst 0, 1) := by decide +kernel
theorem dX1_decode_71 : decode cX1_decode 71 = .ok (.istore 9, 2) := by decide +kernel
theorem dX1_decode_73 : decode cX1_decode 73 = .ok (.iconst 0, 1) := by decide +kernel
theorem dX1_decode_74 : decode cX1_decode 74 = .ok (.istore 10, 2) := by decide +kernel
theorem dX1_decode_76 : decode cX1_decode 76 = .ok (.iload 10, 2) := by decide +kernel
theorem dX1_decode_78 : decode cX1_decode 78 = .ok (.iload 8, 2) := by decide +kernel
theorem dX1_decode_80 : decode cX1_decode 80 = .ok (.if_icmp .ge 30, 3) := by decide +kernel
theorem dX1_decode_83 : decode cX1_decode 83 = .ok (.iload 9, 2) := by decide +kernel
theorem dX1_decode_85 : decode cX1_decode 85 = .ok (.aload_n 0, 1) := by decide +kernel
theorem dX1_decode_86 : decode cX1_decode 86 = .ok (.invokevirtual 51, 3) := by decide +kernel
theorem dX1_decode_89 : decode cX1_decode 89 = .ok (.iadd, 1) := by decide +kernel
theorem dX1_decode_90 : decode cX1_decode 90 = .ok (.istore 9, 2) := by decide +kernel
theorem dX1_decode_92 : decode cX1_decode 92 = .ok (.aload_n 1, 1) := by decide +kernel
theorem dX1_decode_93 : decode cX1_decode 93 = .ok (.iload_n 2, 1) := by decide +kernel
theorem dX1_decode_94 : decode cX1_decode 94 = .ok (.iload 6, 2) := by decide +kernel
theorem dX1_decode_96 : decode cX1_decode 96 = .ok (.iload 9, 2) := by decide +kernel
theorem dX1_decode_98 : decode cX1_decode 98 = .ok (.invokestatic 54, 3) := by decide +kernel
theorem dX1_decode_101 : decode cX1_decode 101 = .ok (.invokevirtual 58, 3) := by decide +kernel
theorem dX1_decode_104 : decode cX1_decode 104 = .ok (.iinc 10 1, 3) := by decide +kernel
theorem dX1_decode_107 : decode cX1_decode 107 = .ok (.goto (-31), 3) := by decide +kernel
theorem dX1_decode_110 : decode cX1_decode 110 = .ok (.iinc 7 1, 3) := by decide +kernel
theorem dX1_decode_113 : decode cX1_decode 113 = .ok (.goto (-65), 3) := by decide +kernel
theorem dX1_decode_116 : decode cX1_decode 116 = .ok (.aload_n 0, 1) := by decide +kernel
theorem dX1_decode_117 : decode cX1_decode 117 = .ok (.invokevirtual 51, 3) := by decide +kernel
theorem dX1_decode_120 : decode cX1_decode 120 = .ok (.istore_n 3, 1) := by decide +kernel
theorem dX1_decode_121 : decode cX1_decode 121 = .ok (.iinc 4 1, 3) := by decide +kernel
theorem dX1_decode_124 : decode cX1_decode 124 = .ok (.goto (-105), 3) := by decide +kernel
theorem dX1_decode_127 : decode cX1_decode 127 = .ok (.return_, 1) := by decide +kernel
theorem dX1_raise_0 : decode cX1_raise 0 = .ok (.iload_n 1, 1) := by decide +kernel
theorem dX1_raise_1 : decode cX1_raise 1 = .ok (.ifCond .lt 22, 3) := by decide +kernel
theorem dX1_raise_4 : decode cX1_raise 4 = .ok (.iload_n 1, 1) := by decide +kernel
theorem dX1_raise_5 : decode cX1_raise 5 = .ok (.aload_n 0, 1) := by decide +kernel
theorem dX1_raise_6 : decode cX1_raise 6 = .ok (.getfield 9, 3) := by decide +kernel
theorem dX1_raise_9 : decode cX1_raise 9 = .ok (.arraylength, 1) := by decide +kernel
theorem dX1_raise_10 : decode cX1_raise 10 = .ok (.if_icmp .ge 13, 3) := by decide +kernel
theorem dX1_raise_13 : decode cX1_raise 13 = .ok (.aload_n 0, 1) := by decide +kernel
theorem dX1_raise_14 : decode cX1_raise 14 = .ok (.getfield 9, 3) := by decide +kernel
theorem dX1_raise_17 : decode cX1_raise 17 = .ok (.iload_n 1, 1) := by decide +kernel
theorem dX1_raise_18 : decode cX1_raise 18 = .ok (.dup2, 1) := by decide +kernel
theorem dX1_raise_19 : decode cX1_raise 19 = .ok (.iaload, 1) := by decide +kernel
theorem dX1_raise_20 : decode cX1_raise 20 = .ok (.iconst 1, 1) := by decide +kernel
theorem dX1_raise_21 : decode cX1_raise 21 = .ok (.iadd, 1) := by decide +kernel
theorem dX1_raise_22 : decode cX1_raise 22 = .ok (.iastore, 1) := by decide +kernel
theorem dX1_raise_23 : decode cX1_raise 23 = .ok (.return_, 1) := by decide +kernel
theorem dX1_read_0 : decode cX1_read 0 = .ok (.aload_n 0, 1) := by decide +kernel
theorem dX1_read_1 : decode cX1_read 1 = .ok (.getfield 19, 3) := by decide +kernel
theorem dX1_read_4 : decode cX1_read 4 = .ok (.aload_n 0, 1) := by decide +kernel
theorem dX1_read_5 : decode cX1_read 5 = .ok (.getfield 15, 3) := by decide +kernel
theorem dX1_read_8 : decode cX1_read 8 = .ok (.if_icmp .ge 15, 3) := by decide +kernel
theorem dX1_read_11 : decode cX1_read 11 = .ok (.aload_n 0, 1) := by decide +kernel
theorem dX1_read_12 : decode cX1_read 12 = .ok (.getfield 19, 3) := by decide +kernel
theorem dX1_read_15 : decode cX1_read 15 = .ok (.aload_n 0, 1) := by decide +kernel
theorem dX1_read_16 : decode cX1_read 16 = .ok (.getfield 9, 3) := by decide +kernel
theorem dX1_read_19 : decode cX1_read 19 = .ok (.arraylength, 1) := by decide +kernel
theorem dX1_read_20 : decode cX1_read 20 = .ok (.if_icmp .lt 6, 3) := by decide +kernel
theorem dX1_read_23 : decode cX1_read 23 = .ok (.bipush 127, 2) := by decide +kernel
theorem dX1_read_25 : decode cX1_read 25 = .ok (.ireturn, 1) := by decide +kernel
theorem dX1_read_26 : decode cX1_read 26 = .ok (.aload_n 0, 1) := by decide +kernel
theorem dX1_read_27 : decode cX1_read 27 = .ok (.dup, 1) := by decide +kernel
theorem dX1_read_28 : decode cX1_read 28 = .ok (.getfield 19, 3) := by decide +kernel
theorem dX1_read_31 : decode cX1_read 31 = .ok (.iconst 1, 1) := by decide +kernel
theorem dX1_read_32 : decode cX1_read 32 = .ok (.iadd, 1) := by decide +kernel
theorem dX1_read_33 : decode cX1_read 33 = .ok (.putfield 19, 3) := by decide +kernel
theorem dX1_read_36 : decode cX1_read 36 = .ok (.aload_n 0, 1) := by decide +kernel
theorem dX1_read_37 : decode cX1_read 37 = .ok (.getfield 9, 3) := by decide +kernel
theorem dX1_read_40 : decode cX1_read 40 = .ok (.aload_n 0, 1) := by decide +kernel
theorem dX1_read_41 : decode cX1_read 41 = .ok (.getfield 19, 3) := by decide +kernel
theorem dX1_read_44 : decode cX1_read 44 = .ok (.iconst 1, 1) := by decide +kernel
theorem dX1_read_45 : decode cX1_read 45 = .ok (.isub, 1) := by decide +kernel
theorem dX1_read_46 : decode cX1_read 46 = .ok (.iaload, 1) := by decide +kernel
theorem dX1_read_47 : decode cX1_read 47 = .ok (.ireturn, 1) := by decide +kernel
end
section
theorem dX6_init_0 : decode cX6_init 0 = .ok (.aload_n 0, 1) := by decide +kernel
theorem dX6_init_1 : decode cX6_init 1 = .ok (.invokespecial 1, 3) := by decide +kernel
theorem dX6_init_4 : decode cX6_init 4 = .ok (.aload_n 0, 1) := by decide +kernel
theorem dX6_init_5 : decode cX6_init 5 = .ok (.iload_n 1, 1) := by decide +kernel
theorem dX6_init_6 : decode cX6_init 6 = .ok (.putfield 7, 3) := by decide +kernel
theorem dX6_init_9 : decode cX6_init 9 = .ok (.aload_n 0, 1) := by decide +kernel
theorem dX6_init_10 : decode cX6_init 10 = .ok (.aload_n 2, 1) := by decide +kernel
theorem dX6_init_11 : decode cX6_init 11 = .ok (.putfield 13, 3) := by decide +kernel
theorem dX6_init_14 : decode cX6_init 14 = .ok (.aload_n 0, 1) := by decide +kernel
theorem dX6_init_15 : decode cX6_init 15 = .ok (.iload_n 3, 1) := by decide +kernel
theorem dX6_init_16 : decode cX6_init 16 = .ok (.putfield 17, 3) := by decide +kernel
theorem dX6_init_19 : decode cX6_init 19 = .ok (.return_, 1) := by decide +kernel
theorem dX6_isBetween_0 : decode cX6_isBetween 0 = .ok (.aload_n 0, 1) := by decide +kernel
theorem dX6_isBetween_1 : decode cX6_isBetween 1 = .ok (.getfield 7, 3) := by decide +kernel
theorem dX6_isBetween_4 : decode cX6_isBetween 4 = .ok (.iload_n 1, 1) := by decide +kernel
theorem dX6_isBetween_5 : decode cX6_isBetween 5 = .ok (.if_icmp .lt 15, 3) := by decide +kernel
theorem dX6_isBetween_8 : decode cX6_isBetween 8 = .ok (.aload_n 0, 1) := by decide +kernel
theorem dX6_isBetween_9 : decode cX6_isBetween 9 = .ok (.getfield 7, 3) := by decide +kernel
theorem dX6_isBetween_12 : decode cX6_isBetween 12 = .ok (.iload_n 2, 1) := by decide +kernel
theorem dX6_isBetween_13 : decode cX6_isBetween 13 = .ok (.if_icmp .gt 7, 3) := by decide +kernel
theorem dX6_isBetween_16 : decode cX6_isBetween 16 = .ok (.iconst 1, 1) := by decide +kernel
theorem dX6_isBetween_17 : decode cX6_isBetween 17 = .ok (.goto 4, 3) := by decide +kernel
theorem dX6_isBetween_20 : decode cX6_isBetween 20 = .ok (.iconst 0, 1) := by decide +kernel
theorem dX6_isBetween_21 : decode cX6_isBetween 21 = .ok (.ireturn, 1) := by decide +kernel
end
section
theorem dX2_init_0 : decode cX2_init 0 = .ok (.aload_n 0, 1) := by decide +kernel
theorem dX2_init_1 : decode cX2_init 1 = .ok (.invokespecial 3, 3) := by decide +kernel
theorem dX2_init_4 : decode cX2_init 4 = .ok (.aload_n 0, 1) := by decide +kernel
theorem dX2_init_5 : decode cX2_init 5 = .ok (.iload_n 1, 1) := by decide +kernel
theorem dX2_init_6 : decode cX2_init 6 = .ok (.bipush 16, 2) := by decide +kernel
theorem dX2_init_8 : decode cX2_init 8 = .ok (.imul, 1) := by decide +kernel
theorem dX2_init_9 : decode cX2_init 9 = .ok (.newarray .int, 2) := by decide +kernel
theorem dX2_init_11 : decode cX2_init 11 = .ok (.putfield 9, 3) := by decide +kernel
theorem dX2_init_14 : decode cX2_init 14 = .ok (.aload_n 0, 1) := by decide +kernel
theorem dX2_init_15 : decode cX2_init 15 = .ok (.iload_n 1, 1) := by decide +kernel
theorem dX2_init_16 : decode cX2_init 16 = .ok (.newarray .boolean, 2) := by decide +kernel
theorem dX2_init_18 : decode cX2_init 18 = .ok (.putfield 15, 3) := by decide +kernel
theorem dX2_init_21 : decode cX2_init 21 = .ok (.aload_n 0, 1) := by decide +kernel
theorem dX2_init_22 : decode cX2_init 22 = .ok (.iload_n 1, 1) := by decide +kernel
theorem dX2_init_23 : decode cX2_init 23 = .ok (.putfield 19, 3) := by decide +kernel
theorem dX2_init_26 : decode cX2_init 26 = .ok (.return_, 1) := by decide +kernel
theorem dX2_size_0 : decode cX2_size 0 = .ok (.aload_n 0, 1) := by decide +kernel
theorem dX2_size_1 : decode cX2_size 1 = .ok (.getfield 9, 3) := by decide +kernel
theorem dX2_size_4 : decode cX2_size 4 = .ok (.arraylength, 1) := by decide +kernel
theorem dX2_size_5 : decode cX2_size 5 = .ok (.ireturn, 1) := by decide +kernel
theorem dX2_free_0 : decode cX2_free 0 = .ok (.aload_n 0, 1) := by decide +kernel
theorem dX2_free_1 : decode cX2_free 1 = .ok (.getfield 19, 3) := by decide +kernel
theorem dX2_free_4 : decode cX2_free 4 = .ok (.ireturn, 1) := by decide +kernel
theorem dX2_has_0 : decode cX2_has 0 = .ok (.iload_n 1, 1) := by decide +kernel
theorem dX2_has_1 : decode cX2_has 1 = .ok (.ifCond .lt 26, 3) := by decide +kernel
theorem dX2_has_4 : decode cX2_has 4 = .ok (.iload_n 1, 1) := by decide +kernel
theorem dX2_has_5 : decode cX2_has 5 = .ok (.aload_n 0, 1) := by decide +kernel
theorem dX2_has_6 : decode cX2_has 6 = .ok (.getfield 15, 3) := by decide +kernel
theorem dX2_has_9 : decode cX2_has 9 = .ok (.arraylength, 1) := by decide +kernel
theorem dX2_has_10 : decode cX2_has 10 = .ok (.if_icmp .ge 17, 3) := by decide +kernel
theorem dX2_has_13 : decode cX2_has 13 = .ok (.iload_n 2, 1) := by decide +kernel
theorem dX2_has_14 : decode cX2_has 14 = .ok (.ifCond .lt 13, 3) := by decide +kernel
theorem dX2_has_17 : decode cX2_has 17 = .ok (.iload_n 2, 1) := by decide +kernel
theorem dX2_has_18 : decode cX2_has 18 = .ok (.bipush 16, 2) := by decide +kernel
theorem dX2_has_20 : decode cX2_has 20 = .ok (.if_icmp .ge 7, 3) := by decide +kernel
theorem dX2_has_23 : decode cX2_has 23 = .ok (.iconst 1, 1) := by decide +kernel
theorem dX2_has_24 : decode cX2_has 24 = .ok (.goto 4, 3) := by decide +kernel
theorem dX2_has_27 : decode cX2_has 27 = .ok (.iconst 0, 1) := by decide +kernel
theorem dX2_has_28 : decode cX2_has 28 = .ok (.ireturn, 1) := by decide +kernel
theorem dX2_cellAt_0 : decode cX2_cellAt 0 = .ok (.aload_n 0, 1) := by decide +kernel
theorem dX2_cellAt_1 : decode cX2_cellAt 1 = .ok (.iload_n 1, 1) := by decide +kernel
theorem dX2_cellAt_2 : decode cX2_cellAt 2 = .ok (.iload_n 2, 1) := by decide +kernel
theorem dX2_cellAt_3 : decode cX2_cellAt 3 = .ok (.invokevirtual 23, 3) := by decide +kernel
theorem dX2_cellAt_6 : decode cX2_cellAt 6 = .ok (.ifCond .eq 17, 3) := by decide +kernel
theorem dX2_cellAt_9 : decode cX2_cellAt 9 = .ok (.aload_n 0, 1) := by decide +kernel
theorem dX2_cellAt_10 : decode cX2_cellAt 10 = .ok (.getfield 9, 3) := by decide +kernel
theorem dX2_cellAt_13 : decode cX2_cellAt 13 = .ok (.iload_n 1, 1) := by decide +kernel
theorem dX2_cellAt_14 : decode cX2_cellAt 14 = .ok (.bipush 16, 2) := by decide +kernel
theorem dX2_cellAt_16 : decode cX2_cellAt 16 = .ok (.imul, 1) := by decide +kernel
theorem dX2_cellAt_17 : decode cX2_cellAt 17 = .ok (.iload_n 2, 1) := by decide +kernel
theorem dX2_cellAt_18 : decode cX2_cellAt 18 = .ok (.iadd, 1) := by decide +kernel
theorem dX2_cellAt_19 : decode cX2_cellAt 19 = .ok (.iaload, 1) := by decide +kernel
theorem dX2_cellAt_20 : decode cX2_cellAt 20 = .ok (.goto 4, 3) := by decide +kernel
theorem dX2_cellAt_23 : decode cX2_cellAt 23 = .ok (.iconst 0, 1) := by decide +kernel
theorem dX2_cellAt_24 : decode cX2_cellAt 24 = .ok (.ireturn, 1) := by decide +kernel
theorem dX2_hasRoomFor_0 : decode cX2_hasRoomFor 0 = .ok (.iload_n 1, 1) := by decide +kernel
theorem dX2_hasRoomFor_1 : decode cX2_hasRoomFor 1 = .ok (.invokestatic 27, 3) := by decide +kernel
theorem dX2_hasRoomFor_4 : decode cX2_hasRoomFor 4 = .ok (.aload_n 0, 1) := by decide +kernel
theorem dX2_hasRoomFor_5 : decode cX2_hasRoomFor 5 = .ok (.getfield 19, 3) := by decide +kernel
theorem dX2_hasRoomFor_8 : decode cX2_hasRoomFor 8 = .ok (.if_icmp .gt 7, 3) := by decide +kernel
theorem dX2_hasRoomFor_11 : decode cX2_hasRoomFor 11 = .ok (.iconst 1, 1) := by decide +kernel
theorem dX2_hasRoomFor_12 : decode cX2_hasRoomFor 12 = .ok (.goto 4, 3) := by decide +kernel
theorem dX2_hasRoomFor_15 : decode cX2_hasRoomFor 15 = .ok (.iconst 0, 1) := by decide +kernel
theorem dX2_hasRoomFor_16 : decode cX2_hasRoomFor 16 = .ok (.ireturn, 1) := by decide +kernel
theorem dX2_write_0 : decode cX2_write 0 = .ok (.aload_n 0, 1) := by decide +kernel
theorem dX2_write_1 : decode cX2_write 1 = .ok (.aload_n 1, 1) := by decide +kernel
theorem dX2_write_2 : decode cX2_write 2 = .ok (.invokevirtual 31, 3) := by decide +kernel
theorem dX2_write_5 : decode cX2_write 5 = .ok (.invokestatic 27, 3) := by decide +kernel
theorem dX2_write_8 : decode cX2_write 8 = .ok (.aload_n 0, 1) := by decide +kernel
theorem dX2_write_9 : decode cX2_write 9 = .ok (.getfield 19, 3) := by decide +kernel
theorem dX2_write_12 : decode cX2_write 12 = .ok (.invokestatic 37, 3) := by decide +kernel
theorem dX2_write_15 : decode cX2_write 15 = .ok (.invokevirtual 43, 3) := by decide +kernel
theorem dX2_write_18 : decode cX2_write 18 = .ok (.astore_n 3, 1) := by decide +kernel
theorem dX2_write_19 : decode cX2_write 19 = .ok (.iconst 0, 1) := by decide +kernel
theorem dX2_write_20 : decode cX2_write 20 = .ok (.istore 4, 2) := by decide +kernel
theorem dX2_write_22 : decode cX2_write 22 = .ok (.iload 4, 2) := by decide +kernel
theorem dX2_write_24 : decode cX2_write 24 = .ok (.aload_n 3, 1) := by decide +kernel
theorem dX2_write_25 : decode cX2_write 25 = .ok (.arraylength, 1) := by decide +kernel
theorem dX2_write_26 : decode cX2_write 26 = .ok (.if_icmp .ge 69, 3) := by decide +kernel
theorem dX2_write_29 : decode cX2_write 29 = .ok (.aload_n 3, 1) := by decide +kernel
theorem dX2_write_30 : decode cX2_write 30 = .ok (.iload 4, 2) := by decide +kernel
theorem dX2_write_32 : decode cX2_write 32 = .ok (.iaload, 1) := by decide +kernel
theorem dX2_write_33 : decode cX2_write 33 = .ok (.bipush 16, 2) := by decide +kernel
theorem dX2_write_35 : decode cX2_write 35 = .ok (.imul, 1) := by decide +kernel
theorem dX2_write_36 : decode cX2_write 36 = .ok (.istore 5, 2) := by decide +kernel
theorem dX2_write_38 : decode cX2_write 38 = .ok (.iconst 0, 1) := by decide +kernel
theorem dX2_write_39 : decode cX2_write 39 = .ok (.istore 6, 2) := by decide +kernel
theorem dX2_write_41 : decode cX2_write 41 = .ok (.iload 6, 2) := by decide +kernel
theorem dX2_write_43 : decode cX2_write 43 = .ok (.bipush 16, 2) := by decide +kernel
theorem dX2_write_45 : decode cX2_write 45 = .ok (.if_icmp .ge 44, 3) := by decide +kernel
theorem dX2_write_48 : decode cX2_write 48 = .ok (.iload 5, 2) := by decide +kernel
theorem dX2_write_50 : decode cX2_write 50 = .ok (.iload 6, 2) := by decide +kernel
theorem dX2_write_52 : decode cX2_write 52 = .ok (.iadd, 1) := by decide +kernel
theorem dX2_write_53 : decode cX2_write 53 = .ok (.aload_n 0, 1) := by decide +kernel
theorem dX2_write_54 : decode cX2_write 54 = .ok (.getfield 9, 3) := by decide +kernel
theorem dX2_write_57 : decode cX2_write 57 = .ok (.arraylength, 1) := by decide +kernel
theorem dX2_write_58 : decode cX2_write 58 = .ok (.if_icmp .ge 31, 3) := by decide +kernel
theorem dX2_write_61 : decode cX2_write 61 = .ok (.aload_n 0, 1) := by decide +kernel
theorem dX2_write_62 : decode cX2_write 62 = .ok (.getfield 9, 3) := by decide +kernel
theorem dX2_write_65 : decode cX2_write 65 = .ok (.iload 5, 2) := by decide +kernel
theorem dX2_write_67 : decode cX2_write 67 = .ok (.iload 6, 2) := by decide +kernel
theorem dX2_write_69 : decode cX2_write 69 = .ok (.iadd, 1) := by decide +kernel
theorem dX2_write_70 : decode cX2_write 70 = .ok (.aload_n 1, 1) := by decide +kernel
theorem dX2_write_71 : decode cX2_write 71 = .ok (.iload 4, 2) := by decide +kernel
theorem dX2_write_73 : decode cX2_write 73 = .ok (.bipush 16, 2) := by decide +kernel
theorem dX2_write_75 : decode cX2_write 75 = .ok (.imul, 1) := by decide +kernel
theorem dX2_write_76 : decode cX2_write 76 = .ok (.iload 6, 2) := by decide +kernel
theorem dX2_write_78 : decode cX2_write 78 = .ok (.iadd, 1) := by decide +kernel
theorem dX2_write_79 : decode cX2_write 79 = .ok (.invokevirtual 47, 3) := by decide +kernel
theorem dX2_write_82 : decode cX2_write 82 = .ok (.iastore, 1) := by decide +kernel
theorem dX2_write_83 : decode cX2_write 83 = .ok (.iinc 6 1, 3) := by decide +kernel
theorem dX2_write_86 : decode cX2_write 86 = .ok (.goto (-45), 3) := by decide +kernel
theorem dX2_write_89 : decode cX2_write 89 = .ok (.iinc 4 1, 3) := by decide +kernel
theorem dX2_write_92 : decode cX2_write 92 = .ok (.goto (-70), 3) := by decide +kernel
theorem dX2_write_95 : decode cX2_write 95 = .ok (.new 50, 3) := by decide +kernel
theorem dX2_write_98 : decode cX2_write 98 = .ok (.dup, 1) := by decide +kernel
theorem dX2_write_99 : decode cX2_write 99 = .ok (.iload_n 2, 1) := by decide +kernel
theorem dX2_write_100 : decode cX2_write 100 = .ok (.aload_n 3, 1) := by decide +kernel
theorem dX2_write_101 : decode cX2_write 101 = .ok (.aload_n 1, 1) := by decide +kernel
theorem dX2_write_102 : decode cX2_write 102 = .ok (.invokevirtual 31, 3) := by decide +kernel
theorem dX2_write_105 : decode cX2_write 105 = .ok (.invokespecial 52, 3) := by decide +kernel
theorem dX2_write_108 : decode cX2_write 108 = .ok (.areturn, 1) := by decide +kernel
theorem dX2_read_0 : decode cX2_read 0 = .ok (.aload_n 2, 1) := by decide +kernel
theorem dX2_read_1 : decode cX2_read 1 = .ok (.invokevirtual 55, 3) := by decide +kernel
theorem dX2_read_4 : decode cX2_read 4 = .ok (.iconst 0, 1) := by decide +kernel
theorem dX2_read_5 : decode cX2_read 5 = .ok (.istore_n 3, 1) := by decide +kernel
theorem dX2_read_6 : decode cX2_read 6 = .ok (.iload_n 3, 1) := by decide +kernel
theorem dX2_read_7 : decode cX2_read 7 = .ok (.aload_n 1, 1) := by decide +kernel
theorem dX2_read_8 : decode cX2_read 8 = .ok (.getfield 58, 3) := by decide +kernel
theorem dX2_read_11 : decode cX2_read 11 = .ok (.if_icmp .ge 62, 3) := by decide +kernel
theorem dX2_read_14 : decode cX2_read 14 = .ok (.iload_n 3, 1) := by decide +kernel
theorem dX2_read_15 : decode cX2_read 15 = .ok (.bipush 16, 2) := by decide +kernel
theorem dX2_read_17 : decode cX2_read 17 = .ok (.idiv, 1) := by decide +kernel
theorem dX2_read_18 : decode cX2_read 18 = .ok (.aload_n 1, 1) := by decide +kernel
theorem dX2_read_19 : decode cX2_read 19 = .ok (.getfield 61, 3) := by decide +kernel
theorem dX2_read_22 : decode cX2_read 22 = .ok (.arraylength, 1) := by decide +kernel
theorem dX2_read_23 : decode cX2_read 23 = .ok (.if_icmp .ge 50, 3) := by decide +kernel
theorem dX2_read_26 : decode cX2_read 26 = .ok (.aload_n 1, 1) := by decide +kernel
theorem dX2_read_27 : decode cX2_read 27 = .ok (.getfield 61, 3) := by decide +kernel
theorem dX2_read_30 : decode cX2_read 30 = .ok (.iload_n 3, 1) := by decide +kernel
theorem dX2_read_31 : decode cX2_read 31 = .ok (.bipush 16, 2) := by decide +kernel
theorem dX2_read_33 : decode cX2_read 33 = .ok (.idiv, 1) := by decide +kernel
theorem dX2_read_34 : decode cX2_read 34 = .ok (.iaload, 1) := by decide +kernel
theorem dX2_read_35 : decode cX2_read 35 = .ok (.bipush 16, 2) := by decide +kernel
theorem dX2_read_37 : decode cX2_read 37 = .ok (.imul, 1) := by decide +kernel
theorem dX2_read_38 : decode cX2_read 38 = .ok (.iload_n 3, 1) := by decide +kernel
theorem dX2_read_39 : decode cX2_read 39 = .ok (.bipush 16, 2) := by decide +kernel
theorem dX2_read_41 : decode cX2_read 41 = .ok (.irem, 1) := by decide +kernel
theorem dX2_read_42 : decode cX2_read 42 = .ok (.iadd, 1) := by decide +kernel
theorem dX2_read_43 : decode cX2_read 43 = .ok (.istore 4, 2) := by decide +kernel
theorem dX2_read_45 : decode cX2_read 45 = .ok (.iload 4, 2) := by decide +kernel
theorem dX2_read_47 : decode cX2_read 47 = .ok (.aload_n 0, 1) := by decide +kernel
theorem dX2_read_48 : decode cX2_read 48 = .ok (.getfield 9, 3) := by decide +kernel
theorem dX2_read_51 : decode cX2_read 51 = .ok (.arraylength, 1) := by decide +kernel
theorem dX2_read_52 : decode cX2_read 52 = .ok (.if_icmp .ge 15, 3) := by decide +kernel
theorem dX2_read_55 : decode cX2_read 55 = .ok (.aload_n 2, 1) := by decide +kernel
theorem dX2_read_56 : decode cX2_read 56 = .ok (.aload_n 0, 1) := by decide +kernel
theorem dX2_read_57 : decode cX2_read 57 = .ok (.getfield 9, 3) := by decide +kernel
theorem dX2_read_60 : decode cX2_read 60 = .ok (.iload 4, 2) := by decide +kernel
theorem dX2_read_62 : decode cX2_read 62 = .ok (.iaload, 1) := by decide +kernel
theorem dX2_read_63 : decode cX2_read 63 = .ok (.invokevirtual 64, 3) := by decide +kernel
theorem dX2_read_66 : decode cX2_read 66 = .ok (.pop, 1) := by decide +kernel
theorem dX2_read_67 : decode cX2_read 67 = .ok (.iinc 3 1, 3) := by decide +kernel
theorem dX2_read_70 : decode cX2_read 70 = .ok (.goto (-64), 3) := by decide +kernel
theorem dX2_read_73 : decode cX2_read 73 = .ok (.return_, 1) := by decide +kernel
theorem dX2_release_0 : decode cX2_release 0 = .ok (.aload_n 1, 1) := by decide +kernel
theorem dX2_release_1 : decode cX2_release 1 = .ok (.getfield 61, 3) := by decide +kernel
theorem dX2_release_4 : decode cX2_release 4 = .ok (.astore_n 2, 1) := by decide +kernel
theorem dX2_release_5 : decode cX2_release 5 = .ok (.aload_n 2, 1) := by decide +kernel
theorem dX2_release_6 : decode cX2_release 6 = .ok (.arraylength, 1) := by decide +kernel
theorem dX2_release_7 : decode cX2_release 7 = .ok (.istore_n 3, 1) := by decide +kernel
theorem dX2_release_8 : decode cX2_release 8 = .ok (.iconst 0, 1) := by decide +kernel
theorem dX2_release_9 : decode cX2_release 9 = .ok (.istore 4, 2) := by decide +kernel
theorem dX2_release_11 : decode cX2_release 11 = .ok (.iload 4, 2) := by decide +kernel
theorem dX2_release_13 : decode cX2_release 13 = .ok (.iload_n 3, 1) := by decide +kernel
theorem dX2_release_14 : decode cX2_release 14 = .ok (.if_icmp .ge 62, 3) := by decide +kernel
theorem dX2_release_17 : decode cX2_release 17 = .ok (.aload_n 2, 1) := by decide +kernel
theorem dX2_release_18 : decode cX2_release 18 = .ok (.iload 4, 2) := by decide +kernel
theorem dX2_release_20 : decode cX2_release 20 = .ok (.iaload, 1) := by decide +kernel
theorem dX2_release_21 : decode cX2_release 21 = .ok (.istore 5, 2) := by decide +kernel
theorem dX2_release_23 : decode cX2_release 23 = .ok (.iload 5, 2) := by decide +kernel
theorem dX2_release_25 : decode cX2_release 25 = .ok (.aload_n 0, 1) := by decide +kernel
theorem dX2_release_26 : decode cX2_release 26 = .ok (.getfield 15, 3) := by decide +kernel
theorem dX2_release_29 : decode cX2_release 29 = .ok (.arraylength, 1) := by decide +kernel
theorem dX2_release_30 : decode cX2_release 30 = .ok (.if_icmp .ge 40, 3) := by decide +kernel
theorem dX2_release_33 : decode cX2_release 33 = .ok (.aload_n 0, 1) := by decide +kernel
theorem dX2_release_34 : decode cX2_release 34 = .ok (.getfield 15, 3) := by decide +kernel
theorem dX2_release_37 : decode cX2_release 37 = .ok (.iload 5, 2) := by decide +kernel
theorem dX2_release_39 : decode cX2_release 39 = .ok (.baload, 1) := by decide +kernel
theorem dX2_release_40 : decode cX2_release 40 = .ok (.ifCond .eq 30, 3) := by decide +kernel
theorem dX2_release_43 : decode cX2_release 43 = .ok (.aload_n 0, 1) := by decide +kernel
theorem dX2_release_44 : decode cX2_release 44 = .ok (.getfield 15, 3) := by decide +kernel
theorem dX2_release_47 : decode cX2_release 47 = .ok (.iload 5, 2) := by decide +kernel
theorem dX2_release_49 : decode cX2_release 49 = .ok (.iconst 0, 1) := by decide +kernel
theorem dX2_release_50 : decode cX2_release 50 = .ok (.bastore, 1) := by decide +kernel
theorem dX2_release_51 : decode cX2_release 51 = .ok (.aload_n 0, 1) := by decide +kernel
theorem dX2_release_52 : decode cX2_release 52 = .ok (.dup, 1) := by decide +kernel
theorem dX2_release_53 : decode cX2_release 53 = .ok (.getfield 19, 3) := by decide +kernel
theorem dX2_release_56 : decode cX2_release 56 = .ok (.iconst 1, 1) := by decide +kernel
theorem dX2_release_57 : decode cX2_release 57 = .ok (.iadd, 1) := by decide +kernel
theorem dX2_release_58 : decode cX2_release 58 = .ok (.putfield 19, 3) := by decide +kernel
theorem dX2_release_61 : decode cX2_release 61 = .ok (.aload_n 0, 1) := by decide +kernel
theorem dX2_release_62 : decode cX2_release 62 = .ok (.iload 5, 2) := by decide +kernel
theorem dX2_release_64 : decode cX2_release 64 = .ok (.bipush 16, 2) := by decide +kernel
theorem dX2_release_66 : decode cX2_release 66 = .ok (.imul, 1) := by decide +kernel
theorem dX2_release_67 : decode cX2_release 67 = .ok (.invokevirtual 67, 3) := by decide +kernel
theorem dX2_release_70 : decode cX2_release 70 = .ok (.iinc 4 1, 3) := by decide +kernel
theorem dX2_release_73 : decode cX2_release 73 = .ok (.goto (-62), 3) := by decide +kernel
theorem dX2_release_76 : decode cX2_release 76 = .ok (.return_, 1) := by decide +kernel
theorem dX2_clear_0 : decode cX2_clear 0 = .ok (.iconst 0, 1) := by decide +kernel
theorem dX2_clear_1 : decode cX2_clear 1 = .ok (.istore_n 2, 1) := by decide +kernel
theorem dX2_clear_2 : decode cX2_clear 2 = .ok (.iload_n 2, 1) := by decide +kernel
theorem dX2_clear_3 : decode cX2_clear 3 = .ok (.bipush 16, 2) := by decide +kernel
theorem dX2_clear_5 : decode cX2_clear 5 = .ok (.if_icmp .ge 29, 3) := by decide +kernel
theorem dX2_clear_8 : decode cX2_clear 8 = .ok (.iload_n 1, 1) := by decide +kernel
theorem dX2_clear_9 : decode cX2_clear 9 = .ok (.iload_n 2, 1) := by decide +kernel
theorem dX2_clear_10 : decode cX2_clear 10 = .ok (.iadd, 1) := by decide +kernel
theorem dX2_clear_11 : decode cX2_clear 11 = .ok (.aload_n 0, 1) := by decide +kernel
theorem dX2_clear_12 : decode cX2_clear 12 = .ok (.getfield 9, 3) := by decide +kernel
theorem dX2_clear_15 : decode cX2_clear 15 = .ok (.arraylength, 1) := by decide +kernel
theorem dX2_clear_16 : decode cX2_clear 16 = .ok (.if_icmp .ge 18, 3) := by decide +kernel
theorem dX2_clear_19 : decode cX2_clear 19 = .ok (.aload_n 0, 1) := by decide +kernel
theorem dX2_clear_20 : decode cX2_clear 20 = .ok (.getfield 9, 3) := by decide +kernel
theorem dX2_clear_23 : decode cX2_clear 23 = .ok (.iload_n 1, 1) := by decide +kernel
theorem dX2_clear_24 : decode cX2_clear 24 = .ok (.iload_n 2, 1) := by decide +kernel
theorem dX2_clear_25 : decode cX2_clear 25 = .ok (.iadd, 1) := by decide +kernel
theorem dX2_clear_26 : decode cX2_clear 26 = .ok (.iconst 0, 1) := by decide +kernel
theorem dX2_clear_27 : decode cX2_clear 27 = .ok (.iastore, 1) := by decide +kernel
theorem dX2_clear_28 : decode cX2_clear 28 = .ok (.iinc 2 1, 3) := by decide +kernel
theorem dX2_clear_31 : decode cX2_clear 31 = .ok (.goto (-29), 3) := by decide +kernel
theorem dX2_clear_34 : decode cX2_clear 34 = .ok (.return_, 1) := by decide +kernel
theorem dX2_blocksFor_0 : decode cX2_blocksFor 0 = .ok (.iload_n 0, 1) := by decide +kernel
theorem dX2_blocksFor_1 : decode cX2_blocksFor 1 = .ok (.bipush 16, 2) := by decide +kernel
theorem dX2_blocksFor_3 : decode cX2_blocksFor 3 = .ok (.iadd, 1) := by decide +kernel
theorem dX2_blocksFor_4 : decode cX2_blocksFor 4 = .ok (.iconst 1, 1) := by decide +kernel
theorem dX2_blocksFor_5 : decode cX2_blocksFor 5 = .ok (.isub, 1) := by decide +kernel
theorem dX2_blocksFor_6 : decode cX2_blocksFor 6 = .ok (.bipush 16, 2) := by decide +kernel
theorem dX2_blocksFor_8 : decode cX2_blocksFor 8 = .ok (.idiv, 1) := by decide +kernel
theorem dX2_blocksFor_9 : decode cX2_blocksFor 9 = .ok (.ireturn, 1) := by decide +kernel
theorem dX2_takeLeast_0 : decode cX2_takeLeast 0 = .ok (.iload_n 1, 1) := by decide +kernel
theorem dX2_takeLeast_1 : decode cX2_takeLeast 1 = .ok (.newarray .int, 2) := by decide +kernel
theorem dX2_takeLeast_3 : decode cX2_takeLeast 3 = .ok (.astore_n 2, 1) := by decide +kernel
theorem dX2_takeLeast_4 : decode cX2_takeLeast 4 = .ok (.iconst 0, 1) := by decide +kernel
theorem dX2_takeLeast_5 : decode cX2_takeLeast 5 = .ok (.istore_n 3, 1) := by decide +kernel
theorem dX2_takeLeast_6 : decode cX2_takeLeast 6 = .ok (.iconst 0, 1) := by decide +kernel
theorem dX2_takeLeast_7 : decode cX2_takeLeast 7 = .ok (.istore 4, 2) := by decide +kernel
theorem dX2_takeLeast_9 : decode cX2_takeLeast 9 = .ok (.iload 4, 2) := by decide +kernel
theorem dX2_takeLeast_11 : decode cX2_takeLeast 11 = .ok (.aload_n 0, 1) := by decide +kernel
theorem dX2_takeLeast_12 : decode cX2_takeLeast 12 = .ok (.getfield 15, 3) := by decide +kernel
theorem dX2_takeLeast_15 : decode cX2_takeLeast 15 = .ok (.arraylength, 1) := by decide +kernel
theorem dX2_takeLeast_16 : decode cX2_takeLeast 16 = .ok (.if_icmp .ge 50, 3) := by decide +kernel
theorem dX2_takeLeast_19 : decode cX2_takeLeast 19 = .ok (.iload_n 3, 1) := by decide +kernel
theorem dX2_takeLeast_20 : decode cX2_takeLeast 20 = .ok (.iload_n 1, 1) := by decide +kernel
theorem dX2_takeLeast_21 : decode cX2_takeLeast 21 = .ok (.if_icmp .ge 45, 3) := by decide +kernel
theorem dX2_takeLeast_24 : decode cX2_takeLeast 24 = .ok (.aload_n 0, 1) := by decide +kernel
theorem dX2_takeLeast_25 : decode cX2_takeLeast 25 = .ok (.getfield 15, 3) := by decide +kernel
theorem dX2_takeLeast_28 : decode cX2_takeLeast 28 = .ok (.iload 4, 2) := by decide +kernel
theorem dX2_takeLeast_30 : decode cX2_takeLeast 30 = .ok (.baload, 1) := by decide +kernel
theorem dX2_takeLeast_31 : decode cX2_takeLeast 31 = .ok (.ifCond .ne 29, 3) := by decide +kernel
theorem dX2_takeLeast_34 : decode cX2_takeLeast 34 = .ok (.aload_n 0, 1) := by decide +kernel
theorem dX2_takeLeast_35 : decode cX2_takeLeast 35 = .ok (.getfield 15, 3) := by decide +kernel
theorem dX2_takeLeast_38 : decode cX2_takeLeast 38 = .ok (.iload 4, 2) := by decide +kernel
theorem dX2_takeLeast_40 : decode cX2_takeLeast 40 = .ok (.iconst 1, 1) := by decide +kernel
theorem dX2_takeLeast_41 : decode cX2_takeLeast 41 = .ok (.bastore, 1) := by decide +kernel
theorem dX2_takeLeast_42 : decode cX2_takeLeast 42 = .ok (.aload_n 0, 1) := by decide +kernel
theorem dX2_takeLeast_43 : decode cX2_takeLeast 43 = .ok (.dup, 1) := by decide +kernel
theorem dX2_takeLeast_44 : decode cX2_takeLeast 44 = .ok (.getfield 19, 3) := by decide +kernel
theorem dX2_takeLeast_47 : decode cX2_takeLeast 47 = .ok (.iconst 1, 1) := by decide +kernel
theorem dX2_takeLeast_48 : decode cX2_takeLeast 48 = .ok (.isub, 1) := by decide +kernel
theorem dX2_takeLeast_49 : decode cX2_takeLeast 49 = .ok (.putfield 19, 3) := by decide +kernel
theorem dX2_takeLeast_52 : decode cX2_takeLeast 52 = .ok (.aload_n 2, 1) := by decide +kernel
theorem dX2_takeLeast_53 : decode cX2_takeLeast 53 = .ok (.iload_n 3, 1) := by decide +kernel
theorem dX2_takeLeast_54 : decode cX2_takeLeast 54 = .ok (.iload 4, 2) := by decide +kernel
theorem dX2_takeLeast_56 : decode cX2_takeLeast 56 = .ok (.iastore, 1) := by decide +kernel
theorem dX2_takeLeast_57 : decode cX2_takeLeast 57 = .ok (.iinc 3 1, 3) := by decide +kernel
theorem dX2_takeLeast_60 : decode cX2_takeLeast 60 = .ok (.iinc 4 1, 3) := by decide +kernel
theorem dX2_takeLeast_63 : decode cX2_takeLeast 63 = .ok (.goto (-54), 3) := by decide +kernel
theorem dX2_takeLeast_66 : decode cX2_takeLeast 66 = .ok (.aload_n 2, 1) := by decide +kernel
theorem dX2_takeLeast_67 : decode cX2_takeLeast 67 = .ok (.areturn, 1) := by decide +kernel
end
section
theorem dX4_init_0 : decode cX4_init 0 = .ok (.aload_n 0, 1) := by decide +kernel
theorem dX4_init_1 : decode cX4_init 1 = .ok (.invokespecial 3, 3) := by decide +kernel
theorem dX4_init_4 : decode cX4_init 4 = .ok (.aload_n 0, 1) := by decide +kernel
theorem dX4_init_5 : decode cX4_init 5 = .ok (.bipush 40, 2) := by decide +kernel
theorem dX4_init_7 : decode cX4_init 7 = .ok (.newarray .int, 2) := by decide +kernel
theorem dX4_init_9 : decode cX4_init 9 = .ok (.putfield 9, 3) := by decide +kernel
theorem dX4_init_12 : decode cX4_init 12 = .ok (.aload_n 0, 1) := by decide +kernel
theorem dX4_init_13 : decode cX4_init 13 = .ok (.iconst 0, 1) := by decide +kernel
theorem dX4_init_14 : decode cX4_init 14 = .ok (.putfield 15, 3) := by decide +kernel
theorem dX4_init_17 : decode cX4_init 17 = .ok (.return_, 1) := by decide +kernel
theorem dX4_begin_0 : decode cX4_begin 0 = .ok (.aload_n 0, 1) := by decide +kernel
theorem dX4_begin_1 : decode cX4_begin 1 = .ok (.iload_n 1, 1) := by decide +kernel
theorem dX4_begin_2 : decode cX4_begin 2 = .ok (.putfield 15, 3) := by decide +kernel
theorem dX4_begin_5 : decode cX4_begin 5 = .ok (.aload_n 0, 1) := by decide +kernel
theorem dX4_begin_6 : decode cX4_begin 6 = .ok (.getfield 9, 3) := by decide +kernel
theorem dX4_begin_9 : decode cX4_begin 9 = .ok (.iconst 0, 1) := by decide +kernel
theorem dX4_begin_10 : decode cX4_begin 10 = .ok (.invokestatic 19, 3) := by decide +kernel
theorem dX4_begin_13 : decode cX4_begin 13 = .ok (.return_, 1) := by decide +kernel
theorem dX4_take_0 : decode cX4_take 0 = .ok (.iconst 0, 1) := by decide +kernel
theorem dX4_take_1 : decode cX4_take 1 = .ok (.istore_n 3, 1) := by decide +kernel
theorem dX4_take_2 : decode cX4_take 2 = .ok (.iload_n 3, 1) := by decide +kernel
theorem dX4_take_3 : decode cX4_take 3 = .ok (.aload_n 1, 1) := by decide +kernel
theorem dX4_take_4 : decode cX4_take 4 = .ok (.invokevirtual 25, 3) := by decide +kernel
theorem dX4_take_7 : decode cX4_take 7 = .ok (.if_icmp .ge 61, 3) := by decide +kernel
theorem dX4_take_10 : decode cX4_take 10 = .ok (.aload_n 1, 1) := by decide +kernel
theorem dX4_take_11 : decode cX4_take 11 = .ok (.iload_n 3, 1) := by decide +kernel
theorem dX4_take_12 : decode cX4_take 12 = .ok (.invokevirtual 31, 3) := by decide +kernel
theorem dX4_take_15 : decode cX4_take 15 = .ok (.istore 4, 2) := by decide +kernel
theorem dX4_take_17 : decode cX4_take 17 = .ok (.iload 4, 2) := by decide +kernel
theorem dX4_take_19 : decode cX4_take 19 = .ok (.invokestatic 35, 3) := by decide +kernel
theorem dX4_take_22 : decode cX4_take 22 = .ok (.istore 5, 2) := by decide +kernel
theorem dX4_take_24 : decode cX4_take 24 = .ok (.iload 4, 2) := by decide +kernel
theorem dX4_take_26 : decode cX4_take 26 = .ok (.invokestatic 38, 3) := by decide +kernel
theorem dX4_take_29 : decode cX4_take 29 = .ok (.aload_n 0, 1) := by decide +kernel
theorem dX4_take_30 : decode cX4_take 30 = .ok (.getfield 15, 3) := by decide +kernel
theorem dX4_take_33 : decode cX4_take 33 = .ok (.if_icmp .ne 29, 3) := by decide +kernel
theorem dX4_take_36 : decode cX4_take 36 = .ok (.aload_n 2, 1) := by decide +kernel
theorem dX4_take_37 : decode cX4_take 37 = .ok (.iload 5, 2) := by decide +kernel
theorem dX4_take_39 : decode cX4_take 39 = .ok (.invokevirtual 41, 3) := by decide +kernel
theorem dX4_take_42 : decode cX4_take 42 = .ok (.ifCond .eq 20, 3) := by decide +kernel
theorem dX4_take_45 : decode cX4_take 45 = .ok (.aload_n 0, 1) := by decide +kernel
theorem dX4_take_46 : decode cX4_take 46 = .ok (.getfield 9, 3) := by decide +kernel
theorem dX4_take_49 : decode cX4_take 49 = .ok (.iload 5, 2) := by decide +kernel
theorem dX4_take_51 : decode cX4_take 51 = .ok (.dup2, 1) := by decide +kernel
theorem dX4_take_52 : decode cX4_take 52 = .ok (.iaload, 1) := by decide +kernel
theorem dX4_take_53 : decode cX4_take 53 = .ok (.iconst 1, 1) := by decide +kernel
theorem dX4_take_54 : decode cX4_take 54 = .ok (.iload 4, 2) := by decide +kernel
theorem dX4_take_56 : decode cX4_take 56 = .ok (.invokestatic 47, 3) := by decide +kernel
theorem dX4_take_59 : decode cX4_take 59 = .ok (.ishl, 1) := by decide +kernel
theorem dX4_take_60 : decode cX4_take 60 = .ok (.ior, 1) := by decide +kernel
theorem dX4_take_61 : decode cX4_take 61 = .ok (.iastore, 1) := by decide +kernel
theorem dX4_take_62 : decode cX4_take 62 = .ok (.iinc 3 1, 3) := by decide +kernel
theorem dX4_take_65 : decode cX4_take 65 = .ok (.goto (-63), 3) := by decide +kernel
theorem dX4_take_68 : decode cX4_take 68 = .ok (.return_, 1) := by decide +kernel
theorem dX4_bitsOf_0 : decode cX4_bitsOf 0 = .ok (.iload_n 1, 1) := by decide +kernel
theorem dX4_bitsOf_1 : decode cX4_bitsOf 1 = .ok (.ifCond .lt 21, 3) := by decide +kernel
theorem dX4_bitsOf_4 : decode cX4_bitsOf 4 = .ok (.iload_n 1, 1) := by decide +kernel
theorem dX4_bitsOf_5 : decode cX4_bitsOf 5 = .ok (.aload_n 0, 1) := by decide +kernel
theorem dX4_bitsOf_6 : decode cX4_bitsOf 6 = .ok (.getfield 9, 3) := by decide +kernel
theorem dX4_bitsOf_9 : decode cX4_bitsOf 9 = .ok (.arraylength, 1) := by decide +kernel
theorem dX4_bitsOf_10 : decode cX4_bitsOf 10 = .ok (.if_icmp .ge 12, 3) := by decide +kernel
theorem dX4_bitsOf_13 : decode cX4_bitsOf 13 = .ok (.aload_n 0, 1) := by decide +kernel
theorem dX4_bitsOf_14 : decode cX4_bitsOf 14 = .ok (.getfield 9, 3) := by decide +kernel
theorem dX4_bitsOf_17 : decode cX4_bitsOf 17 = .ok (.iload_n 1, 1) := by decide +kernel
theorem dX4_bitsOf_18 : decode cX4_bitsOf 18 = .ok (.iaload, 1) := by decide +kernel
theorem dX4_bitsOf_19 : decode cX4_bitsOf 19 = .ok (.goto 4, 3) := by decide +kernel
theorem dX4_bitsOf_22 : decode cX4_bitsOf 22 = .ok (.iconst 0, 1) := by decide +kernel
theorem dX4_bitsOf_23 : decode cX4_bitsOf 23 = .ok (.ireturn, 1) := by decide +kernel
theorem dX4_frequency_0 : decode cX4_frequency 0 = .ok (.iconst 0, 1) := by decide +kernel
theorem dX4_frequency_1 : decode cX4_frequency 1 = .ok (.istore_n 1, 1) := by decide +kernel
theorem dX4_frequency_2 : decode cX4_frequency 2 = .ok (.aload_n 0, 1) := by decide +kernel
theorem dX4_frequency_3 : decode cX4_frequency 3 = .ok (.getfield 9, 3) := by decide +kernel
theorem dX4_frequency_6 : decode cX4_frequency 6 = .ok (.astore_n 2, 1) := by decide +kernel
theorem dX4_frequency_7 : decode cX4_frequency 7 = .ok (.aload_n 2, 1) := by decide +kernel
theorem dX4_frequency_8 : decode cX4_frequency 8 = .ok (.arraylength, 1) := by decide +kernel
theorem dX4_frequency_9 : decode cX4_frequency 9 = .ok (.istore_n 3, 1) := by decide +kernel
theorem dX4_frequency_10 : decode cX4_frequency 10 = .ok (.iconst 0, 1) := by decide +kernel
theorem dX4_frequency_11 : decode cX4_frequency 11 = .ok (.istore 4, 2) := by decide +kernel
theorem dX4_frequency_13 : decode cX4_frequency 13 = .ok (.iload 4, 2) := by decide +kernel
theorem dX4_frequency_15 : decode cX4_frequency 15 = .ok (.iload_n 3, 1) := by decide +kernel
theorem dX4_frequency_16 : decode cX4_frequency 16 = .ok (.if_icmp .ge 23, 3) := by decide +kernel
theorem dX4_frequency_19 : decode cX4_frequency 19 = .ok (.aload_n 2, 1) := by decide +kernel
theorem dX4_frequency_20 : decode cX4_frequency 20 = .ok (.iload 4, 2) := by decide +kernel
theorem dX4_frequency_22 : decode cX4_frequency 22 = .ok (.iaload, 1) := by decide +kernel
theorem dX4_frequency_23 : decode cX4_frequency 23 = .ok (.istore 5, 2) := by decide +kernel
theorem dX4_frequency_25 : decode cX4_frequency 25 = .ok (.iload 5, 2) := by decide +kernel
theorem dX4_frequency_27 : decode cX4_frequency 27 = .ok (.ifCond .eq 6, 3) := by decide +kernel
theorem dX4_frequency_30 : decode cX4_frequency 30 = .ok (.iinc 1 1, 3) := by decide +kernel
theorem dX4_frequency_33 : decode cX4_frequency 33 = .ok (.iinc 4 1, 3) := by decide +kernel
theorem dX4_frequency_36 : decode cX4_frequency 36 = .ok (.goto (-23), 3) := by decide +kernel
theorem dX4_frequency_39 : decode cX4_frequency 39 = .ok (.iload_n 1, 1) := by decide +kernel
theorem dX4_frequency_40 : decode cX4_frequency 40 = .ok (.ireturn, 1) := by decide +kernel
theorem dX4_share_0 : decode cX4_share 0 = .ok (.aload_n 0, 1) := by decide +kernel
theorem dX4_share_1 : decode cX4_share 1 = .ok (.iload_n 1, 1) := by decide +kernel
theorem dX4_share_2 : decode cX4_share 2 = .ok (.invokevirtual 50, 3) := by decide +kernel
theorem dX4_share_5 : decode cX4_share 5 = .ok (.invokestatic 53, 3) := by decide +kernel
theorem dX4_share_8 : decode cX4_share 8 = .ok (.istore_n 3, 1) := by decide +kernel
theorem dX4_share_9 : decode cX4_share 9 = .ok (.iload_n 3, 1) := by decide +kernel
theorem dX4_share_10 : decode cX4_share 10 = .ok (.ifCond .eq 7, 3) := by decide +kernel
theorem dX4_share_13 : decode cX4_share 13 = .ok (.iload_n 2, 1) := by decide +kernel
theorem dX4_share_14 : decode cX4_share 14 = .ok (.ifCond .ne 7, 3) := by decide +kernel
theorem dX4_share_17 : decode cX4_share 17 = .ok (.dconst 0, 1) := by decide +kernel
theorem dX4_share_18 : decode cX4_share 18 = .ok (.goto 8, 3) := by decide +kernel
theorem dX4_share_21 : decode cX4_share 21 = .ok (.iload_n 3, 1) := by decide +kernel
theorem dX4_share_22 : decode cX4_share 22 = .ok (.i2d, 1) := by decide +kernel
theorem dX4_share_23 : decode cX4_share 23 = .ok (.iload_n 2, 1) := by decide +kernel
theorem dX4_share_24 : decode cX4_share 24 = .ok (.i2d, 1) := by decide +kernel
theorem dX4_share_25 : decode cX4_share 25 = .ok (.ddiv, 1) := by decide +kernel
theorem dX4_share_26 : decode cX4_share 26 = .ok (.dreturn, 1) := by decide +kernel
end
section
theorem dX9_init_0 : decode cX9_init 0 = .ok (.aload_n 0, 1) := by decide +kernel
theorem dX9_init_1 : decode cX9_init 1 = .ok (.invokespecial 1, 3) := by decide +kernel
theorem dX9_init_4 : decode cX9_init 4 = .ok (.aload_n 0, 1) := by decide +kernel
theorem dX9_init_5 : decode cX9_init 5 = .ok (.bipush 20, 2) := by decide +kernel
theorem dX9_init_7 : decode cX9_init 7 = .ok (.newarray .int, 2) := by decide +kernel
theorem dX9_init_9 : decode cX9_init 9 = .ok (.putfield 7, 3) := by decide +kernel
theorem dX9_init_12 : decode cX9_init 12 = .ok (.aload_n 0, 1) := by decide +kernel
theorem dX9_init_13 : decode cX9_init 13 = .ok (.sipush 800, 3) := by decide +kernel
theorem dX9_init_16 : decode cX9_init 16 = .ok (.newarray .int, 2) := by decide +kernel
theorem dX9_init_18 : decode cX9_init 18 = .ok (.putfield 13, 3) := by decide +kernel
theorem dX9_init_21 : decode cX9_init 21 = .ok (.aload_n 0, 1) := by decide +kernel
theorem dX9_init_22 : decode cX9_init 22 = .ok (.bipush 40, 2) := by decide +kernel
theorem dX9_init_24 : decode cX9_init 24 = .ok (.newarray .int, 2) := by decide +kernel
theorem dX9_init_26 : decode cX9_init 26 = .ok (.putfield 16, 3) := by decide +kernel
theorem dX9_init_29 : decode cX9_init 29 = .ok (.aload_n 0, 1) := by decide +kernel
theorem dX9_init_30 : decode cX9_init 30 = .ok (.sipush 4000, 3) := by decide +kernel
theorem dX9_init_33 : decode cX9_init 33 = .ok (.newarray .int, 2) := by decide +kernel
theorem dX9_init_35 : decode cX9_init 35 = .ok (.putfield 19, 3) := by decide +kernel
theorem dX9_init_38 : decode cX9_init 38 = .ok (.aload_n 0, 1) := by decide +kernel
theorem dX9_init_39 : decode cX9_init 39 = .ok (.bipush 60, 2) := by decide +kernel
theorem dX9_init_41 : decode cX9_init 41 = .ok (.newarray .long, 2) := by decide +kernel
theorem dX9_init_43 : decode cX9_init 43 = .ok (.putfield 22, 3) := by decide +kernel
theorem dX9_init_46 : decode cX9_init 46 = .ok (.aload_n 0, 1) := by decide +kernel
theorem dX9_init_47 : decode cX9_init 47 = .ok (.bipush 60, 2) := by decide +kernel
theorem dX9_init_49 : decode cX9_init 49 = .ok (.newarray .long, 2) := by decide +kernel
theorem dX9_init_51 : decode cX9_init 51 = .ok (.putfield 26, 3) := by decide +kernel
theorem dX9_init_54 : decode cX9_init 54 = .ok (.aload_n 0, 1) := by decide +kernel
theorem dX9_init_55 : decode cX9_init 55 = .ok (.bipush 60, 2) := by decide +kernel
theorem dX9_init_57 : decode cX9_init 57 = .ok (.newarray .int, 2) := by decide +kernel
theorem dX9_init_59 : decode cX9_init 59 = .ok (.putfield 29, 3) := by decide +kernel
theorem dX9_init_62 : decode cX9_init 62 = .ok (.aload_n 0, 1) := by decide +kernel
theorem dX9_init_63 : decode cX9_init 63 = .ok (.bipush 40, 2) := by decide +kernel
theorem dX9_init_65 : decode cX9_init 65 = .ok (.newarray .int, 2) := by decide +kernel
theorem dX9_init_67 : decode cX9_init 67 = .ok (.putfield 32, 3) := by decide +kernel
theorem dX9_init_70 : decode cX9_init 70 = .ok (.aload_n 0, 1) := by decide +kernel
theorem dX9_init_71 : decode cX9_init 71 = .ok (.bipush 40, 2) := by decide +kernel
theorem dX9_init_73 : decode cX9_init 73 = .ok (.newarray .double, 2) := by decide +kernel
theorem dX9_init_75 : decode cX9_init 75 = .ok (.putfield 35, 3) := by decide +kernel
theorem dX9_init_78 : decode cX9_init 78 = .ok (.aload_n 0, 1) := by decide +kernel
theorem dX9_init_79 : decode cX9_init 79 = .ok (.sipush 4001, 3) := by decide +kernel
theorem dX9_init_82 : decode cX9_init 82 = .ok (.newarray .byte, 2) := by decide +kernel
theorem dX9_init_84 : decode cX9_init 84 = .ok (.putfield 39, 3) := by decide +kernel
theorem dX9_init_87 : decode cX9_init 87 = .ok (.aload_n 0, 1) := by decide +kernel
theorem dX9_init_88 : decode cX9_init 88 = .ok (.iload_n 1, 1) := by decide +kernel
theorem dX9_init_89 : decode cX9_init 89 = .ok (.bipush 20, 2) := by decide +kernel
theorem dX9_init_91 : decode cX9_init 91 = .ok (.bipush 48, 2) := by decide +kernel
theorem dX9_init_93 : decode cX9_init 93 = .ok (.invokestatic 43, 3) := by decide +kernel
theorem dX9_init_96 : decode cX9_init 96 = .ok (.putfield 47, 3) := by decide +kernel
theorem dX9_init_99 : decode cX9_init 99 = .ok (.aload_n 0, 1) := by decide +kernel
theorem dX9_init_100 : decode cX9_init 100 = .ok (.iload_n 2, 1) := by decide +kernel
theorem dX9_init_101 : decode cX9_init 101 = .ok (.iconst 2, 1) := by decide +kernel
theorem dX9_init_102 : decode cX9_init 102 = .ok (.iconst 4, 1) := by decide +kernel
theorem dX9_init_103 : decode cX9_init 103 = .ok (.invokestatic 43, 3) := by decide +kernel
theorem dX9_init_106 : decode cX9_init 106 = .ok (.putfield 51, 3) := by decide +kernel
theorem dX9_init_109 : decode cX9_init 109 = .ok (.aload_n 0, 1) := by decide +kernel
theorem dX9_init_110 : decode cX9_init 110 = .ok (.iload_n 3, 1) := by decide +kernel
theorem dX9_init_111 : decode cX9_init 111 = .ok (.bipush 8, 2) := by decide +kernel
theorem dX9_init_113 : decode cX9_init 113 = .ok (.bipush 60, 2) := by decide +kernel
theorem dX9_init_115 : decode cX9_init 115 = .ok (.invokestatic 43, 3) := by decide +kernel
theorem dX9_init_118 : decode cX9_init 118 = .ok (.putfield 54, 3) := by decide +kernel
theorem dX9_init_121 : decode cX9_init 121 = .ok (.return_, 1) := by decide +kernel
theorem dX9_clamp_0 : decode cX9_clamp 0 = .ok (.iload_n 0, 1) := by decide +kernel
theorem dX9_clamp_1 : decode cX9_clamp 1 = .ok (.iload_n 1, 1) := by decide +kernel
theorem dX9_clamp_2 : decode cX9_clamp 2 = .ok (.if_icmp .ge 7, 3) := by decide +kernel
theorem dX9_clamp_5 : decode cX9_clamp 5 = .ok (.iload_n 1, 1) := by decide +kernel
theorem dX9_clamp_6 : decode cX9_clamp 6 = .ok (.goto 13, 3) := by decide +kernel
theorem dX9_clamp_9 : decode cX9_clamp 9 = .ok (.iload_n 0, 1) := by decide +kernel
theorem dX9_clamp_10 : decode cX9_clamp 10 = .ok (.iload_n 2, 1) := by decide +kernel
theorem dX9_clamp_11 : decode cX9_clamp 11 = .ok (.if_icmp .le 7, 3) := by decide +kernel
theorem dX9_clamp_14 : decode cX9_clamp 14 = .ok (.iload_n 2, 1) := by decide +kernel
theorem dX9_clamp_15 : decode cX9_clamp 15 = .ok (.goto 4, 3) := by decide +kernel
theorem dX9_clamp_18 : decode cX9_clamp 18 = .ok (.iload_n 0, 1) := by decide +kernel
theorem dX9_clamp_19 : decode cX9_clamp 19 = .ok (.ireturn, 1) := by decide +kernel
theorem dX9_thrown_0 : decode cX9_thrown 0 = .ok (.aload_n 0, 1) := by decide +kernel
theorem dX9_thrown_1 : decode cX9_thrown 1 = .ok (.getfield 57, 3) := by decide +kernel
theorem dX9_thrown_4 : decode cX9_thrown 4 = .ok (.ireturn, 1) := by decide +kernel
theorem dX9_fail_0 : decode cX9_fail 0 = .ok (.aload_n 0, 1) := by decide +kernel
theorem dX9_fail_1 : decode cX9_fail 1 = .ok (.iload_n 1, 1) := by decide +kernel
theorem dX9_fail_2 : decode cX9_fail 2 = .ok (.putfield 57, 3) := by decide +kernel
theorem dX9_fail_5 : decode cX9_fail 5 = .ok (.iconst 0, 1) := by decide +kernel
theorem dX9_fail_6 : decode cX9_fail 6 = .ok (.ireturn, 1) := by decide +kernel
theorem dX9_bits_0 : decode cX9_bits 0 = .ok (.iconst 0, 1) := by decide +kernel
theorem dX9_bits_1 : decode cX9_bits 1 = .ok (.istore_n 2, 1) := by decide +kernel
theorem dX9_bits_2 : decode cX9_bits 2 = .ok (.iconst 0, 1) := by decide +kernel
theorem dX9_bits_3 : decode cX9_bits 3 = .ok (.istore_n 3, 1) := by decide +kernel
theorem dX9_bits_4 : decode cX9_bits 4 = .ok (.iload_n 3, 1) := by decide +kernel
theorem dX9_bits_5 : decode cX9_bits 5 = .ok (.bipush 64, 2) := by decide +kernel
theorem dX9_bits_7 : decode cX9_bits 7 = .ok (.if_icmp .ge 22, 3) := by decide +kernel
theorem dX9_bits_10 : decode cX9_bits 10 = .ok (.lload_n 0, 1) := by decide +kernel
theorem dX9_bits_11 : decode cX9_bits 11 = .ok (.iload_n 3, 1) := by decide +kernel
theorem dX9_bits_12 : decode cX9_bits 12 = .ok (.lushr, 1) := by decide +kernel
theorem dX9_bits_13 : decode cX9_bits 13 = .ok (.lconst 1, 1) := by decide +kernel
theorem dX9_bits_14 : decode cX9_bits 14 = .ok (.land, 1) := by decide +kernel
theorem dX9_bits_15 : decode cX9_bits 15 = .ok (.lconst 0, 1) := by decide +kernel
theorem dX9_bits_16 : decode cX9_bits 16 = .ok (.lcmp, 1) := by decide +kernel
theorem dX9_bits_17 : decode cX9_bits 17 = .ok (.ifCond .eq 6, 3) := by decide +kernel
theorem dX9_bits_20 : decode cX9_bits 20 = .ok (.iinc 2 1, 3) := by decide +kernel
theorem dX9_bits_23 : decode cX9_bits 23 = .ok (.iinc 3 1, 3) := by decide +kernel
theorem dX9_bits_26 : decode cX9_bits 26 = .ok (.goto (-22), 3) := by decide +kernel
theorem dX9_bits_29 : decode cX9_bits 29 = .ok (.iload_n 2, 1) := by decide +kernel
theorem dX9_bits_30 : decode cX9_bits 30 = .ok (.ireturn, 1) := by decide +kernel
theorem dX9_in_0 : decode cX9_in 0 = .ok (.lload_n 0, 1) := by decide +kernel
theorem dX9_in_1 : decode cX9_in 1 = .ok (.iload_n 2, 1) := by decide +kernel
theorem dX9_in_2 : decode cX9_in 2 = .ok (.lushr, 1) := by decide +kernel
theorem dX9_in_3 : decode cX9_in 3 = .ok (.lconst 1, 1) := by decide +kernel
theorem dX9_in_4 : decode cX9_in 4 = .ok (.land, 1) := by decide +kernel
theorem dX9_in_5 : decode cX9_in 5 = .ok (.lconst 0, 1) := by decide +kernel
theorem dX9_in_6 : decode cX9_in 6 = .ok (.lcmp, 1) := by decide +kernel
theorem dX9_in_7 : decode cX9_in 7 = .ok (.ifCond .eq 7, 3) := by decide +kernel
theorem dX9_in_10 : decode cX9_in 10 = .ok (.iconst 1, 1) := by decide +kernel
theorem dX9_in_11 : decode cX9_in 11 = .ok (.goto 4, 3) := by decide +kernel
theorem dX9_in_14 : decode cX9_in 14 = .ok (.iconst 0, 1) := by decide +kernel
theorem dX9_in_15 : decode cX9_in 15 = .ok (.ireturn, 1) := by decide +kernel
theorem dX9_noWord_0 : decode cX9_noWord 0 = .ok (.iload_n 0, 1) := by decide +kernel
theorem dX9_noWord_1 : decode cX9_noWord 1 = .ok (.ifCond .lt 9, 3) := by decide +kernel
theorem dX9_noWord_4 : decode cX9_noWord 4 = .ok (.iload_n 0, 1) := by decide +kernel
theorem dX9_noWord_5 : decode cX9_noWord 5 = .ok (.bipush 99, 2) := by decide +kernel
theorem dX9_noWord_7 : decode cX9_noWord 7 = .ok (.if_icmp .le 7, 3) := by decide +kernel
theorem dX9_noWord_10 : decode cX9_noWord 10 = .ok (.iconst 1, 1) := by decide +kernel
theorem dX9_noWord_11 : decode cX9_noWord 11 = .ok (.goto 4, 3) := by decide +kernel
theorem dX9_noWord_14 : decode cX9_noWord 14 = .ok (.iconst 0, 1) := by decide +kernel
theorem dX9_noWord_15 : decode cX9_noWord 15 = .ok (.ireturn, 1) := by decide +kernel
theorem dX9_often_0 : decode cX9_often 0 = .ok (.aload_n 0, 1) := by decide +kernel
theorem dX9_often_1 : decode cX9_often 1 = .ok (.getfield 19, 3) := by decide +kernel
theorem dX9_often_4 : decode cX9_often 4 = .ok (.bipush 100, 2) := by decide +kernel
theorem dX9_often_6 : decode cX9_often 6 = .ok (.iload_n 1, 1) := by decide +kernel
theorem dX9_often_7 : decode cX9_often 7 = .ok (.imul, 1) := by decide +kernel
theorem dX9_often_8 : decode cX9_often 8 = .ok (.iload_n 2, 1) := by decide +kernel
theorem dX9_often_9 : decode cX9_often 9 = .ok (.iadd, 1) := by decide +kernel
theorem dX9_often_10 : decode cX9_often 10 = .ok (.iaload, 1) := by decide +kernel
theorem dX9_often_11 : decode cX9_often 11 = .ok (.ireturn, 1) := by decide +kernel
theorem dX9_word_0 : decode cX9_word 0 = .ok (.aload_n 0, 1) := by decide +kernel
theorem dX9_word_1 : decode cX9_word 1 = .ok (.iconst 0, 1) := by decide +kernel
theorem dX9_word_2 : decode cX9_word 2 = .ok (.putfield 57, 3) := by decide +kernel
theorem dX9_word_5 : decode cX9_word 5 = .ok (.iload_n 1, 1) := by decide +kernel
theorem dX9_word_6 : decode cX9_word 6 = .ok (.invokestatic 60, 3) := by decide +kernel
theorem dX9_word_9 : decode cX9_word 9 = .ok (.ifCond .eq 9, 3) := by decide +kernel
theorem dX9_word_12 : decode cX9_word 12 = .ok (.aload_n 0, 1) := by decide +kernel
theorem dX9_word_13 : decode cX9_word 13 = .ok (.iconst 1, 1) := by decide +kernel
theorem dX9_word_14 : decode cX9_word 14 = .ok (.invokevirtual 64, 3) := by decide +kernel
theorem dX9_word_17 : decode cX9_word 17 = .ok (.ireturn, 1) := by decide +kernel
theorem dX9_word_18 : decode cX9_word 18 = .ok (.aload_n 0, 1) := by decide +kernel
theorem dX9_word_19 : decode cX9_word 19 = .ok (.getfield 68, 3) := by decide +kernel
theorem dX9_word_22 : decode cX9_word 22 = .ok (.bipush 20, 2) := by decide +kernel
theorem dX9_word_24 : decode cX9_word 24 = .ok (.if_icmp .ne 9, 3) := by decide +kernel
theorem dX9_word_27 : decode cX9_word 27 = .ok (.aload_n 0, 1) := by decide +kernel
theorem dX9_word_28 : decode cX9_word 28 = .ok (.iconst 2, 1) := by decide +kernel
theorem dX9_word_29 : decode cX9_word 29 = .ok (.invokevirtual 64, 3) := by decide +kernel
theorem dX9_word_32 : decode cX9_word 32 = .ok (.ireturn, 1) := by decide +kernel
theorem dX9_word_33 : decode cX9_word 33 = .ok (.aload_n 0, 1) := by decide +kernel
theorem dX9_word_34 : decode cX9_word 34 = .ok (.getfield 7, 3) := by decide +kernel
theorem dX9_word_37 : decode cX9_word 37 = .ok (.aload_n 0, 1) := by decide +kernel
theorem dX9_word_38 : decode cX9_word 38 = .ok (.getfield 68, 3) := by decide +kernel
theorem dX9_word_41 : decode cX9_word 41 = .ok (.iload_n 1, 1) := by decide +kernel
theorem dX9_word_42 : decode cX9_word 42 = .ok (.iastore, 1) := by decide +kernel
theorem dX9_word_43 : decode cX9_word 43 = .ok (.aload_n 0, 1) := by decide +kernel
theorem dX9_word_44 : decode cX9_word 44 = .ok (.dup, 1) := by decide +kernel
theorem dX9_word_45 : decode cX9_word 45 = .ok (.getfield 68, 3) := by decide +kernel
theorem dX9_word_48 : decode cX9_word 48 = .ok (.iconst 1, 1) := by decide +kernel
theorem dX9_word_49 : decode cX9_word 49 = .ok (.iadd, 1) := by decide +kernel
theorem dX9_word_50 : decode cX9_word 50 = .ok (.putfield 68, 3) := by decide +kernel
theorem dX9_word_53 : decode cX9_word 53 = .ok (.aload_n 0, 1) := by decide +kernel
theorem dX9_word_54 : decode cX9_word 54 = .ok (.getfield 68, 3) := by decide +kernel
theorem dX9_word_57 : decode cX9_word 57 = .ok (.iconst 1, 1) := by decide +kernel
theorem dX9_word_58 : decode cX9_word 58 = .ok (.isub, 1) := by decide +kernel
theorem dX9_word_59 : decode cX9_word 59 = .ok (.ireturn, 1) := by decide +kernel
theorem dX9_buffered_0 : decode cX9_buffered 0 = .ok (.iconst 0, 1) := by decide +kernel
theorem dX9_buffered_1 : decode cX9_buffered 1 = .ok (.istore_n 1, 1) := by decide +kernel
theorem dX9_buffered_2 : decode cX9_buffered 2 = .ok (.aload_n 0, 1) := by decide +kernel
theorem dX9_buffered_3 : decode cX9_buffered 3 = .ok (.getfield 71, 3) := by decide +kernel
theorem dX9_buffered_6 : decode cX9_buffered 6 = .ok (.istore_n 2, 1) := by decide +kernel
theorem dX9_buffered_7 : decode cX9_buffered 7 = .ok (.iload_n 2, 1) := by decide +kernel
theorem dX9_buffered_8 : decode cX9_buffered 8 = .ok (.aload_n 0, 1) := by decide +kernel
theorem dX9_buffered_9 : decode cX9_buffered 9 = .ok (.getfield 74, 3) := by decide +kernel
theorem dX9_buffered_12 : decode cX9_buffered 12 = .ok (.if_icmp .ge 18, 3) := by decide +kernel
theorem dX9_buffered_15 : decode cX9_buffered 15 = .ok (.iload_n 1, 1) := by decide +kernel
theorem dX9_buffered_16 : decode cX9_buffered 16 = .ok (.aload_n 0, 1) := by decide +kernel
theorem dX9_buffered_17 : decode cX9_buffered 17 = .ok (.getfield 16, 3) := by decide +kernel
theorem dX9_buffered_20 : decode cX9_buffered 20 = .ok (.iload_n 2, 1) := by decide +kernel
theorem dX9_buffered_21 : decode cX9_buffered 21 = .ok (.iaload, 1) := by decide +kernel
theorem dX9_buffered_22 : decode cX9_buffered 22 = .ok (.iadd, 1) := by decide +kernel
theorem dX9_buffered_23 : decode cX9_buffered 23 = .ok (.istore_n 1, 1) := by decide +kernel
theorem dX9_buffered_24 : decode cX9_buffered 24 = .ok (.iinc 2 1, 3) := by decide +kernel
theorem dX9_buffered_27 : decode cX9_buffered 27 = .ok (.goto (-20), 3) := by decide +kernel
theorem dX9_buffered_30 : decode cX9_buffered 30 = .ok (.iload_n 1, 1) := by decide +kernel
theorem dX9_buffered_31 : decode cX9_buffered 31 = .ok (.ireturn, 1) := by decide +kernel
theorem dX9_close_0 : decode cX9_close 0 = .ok (.aload_n 0, 1) := by decide +kernel
theorem dX9_close_1 : decode cX9_close 1 = .ok (.iconst 0, 1) := by decide +kernel
theorem dX9_close_2 : decode cX9_close 2 = .ok (.putfield 57, 3) := by decide +kernel
theorem dX9_close_5 : decode cX9_close 5 = .ok (.aload_n 0, 1) := by decide +kernel
theorem dX9_close_6 : decode cX9_close 6 = .ok (.getfield 74, 3) := by decide +kernel
theorem dX9_close_9 : decode cX9_close 9 = .ok (.bipush 40, 2) := by decide +kernel
theorem dX9_close_11 : decode cX9_close 11 = .ok (.if_icmp .ne 9, 3) := by decide +kernel
theorem dX9_close_14 : decode cX9_close 14 = .ok (.aload_n 0, 1) := by decide +kernel
theorem dX9_close_15 : decode cX9_close 15 = .ok (.iconst 1, 1) := by decide +kernel
theorem dX9_close_16 : decode cX9_close 16 = .ok (.invokevirtual 64, 3) := by decide +kernel
theorem dX9_close_19 : decode cX9_close 19 = .ok (.ireturn, 1) := by decide +kernel
theorem dX9_close_20 : decode cX9_close 20 = .ok (.aload_n 0, 1) := by decide +kernel
theorem dX9_close_21 : decode cX9_close 21 = .ok (.invokevirtual 77, 3) := by decide +kernel
theorem dX9_close_24 : decode cX9_close 24 = .ok (.aload_n 0, 1) := by decide +kernel
theorem dX9_close_25 : decode cX9_close 25 = .ok (.getfield 68, 3) := by decide +kernel
theorem dX9_close_28 : decode cX9_close 28 = .ok (.iadd, 1) := by decide +kernel
theorem dX9_close_29 : decode cX9_close 29 = .ok (.aload_n 0, 1) := by decide +kernel
theorem dX9_close_30 : decode cX9_close 30 = .ok (.getfield 47, 3) := by decide +kernel
theorem dX9_close_33 : decode cX9_close 33 = .ok (.if_icmp .le 16, 3) := by decide +kernel
theorem dX9_close_36 : decode cX9_close 36 = .ok (.aload_n 0, 1) := by decide +kernel
theorem dX9_close_37 : decode cX9_close 37 = .ok (.invokevirtual 81, 3) := by decide +kernel
theorem dX9_close_40 : decode cX9_close 40 = .ok (.ifCond .ne 9, 3) := by decide +kernel
theorem dX9_close_43 : decode cX9_close 43 = .ok (.aload_n 0, 1) := by decide +kernel
theorem dX9_close_44 : decode cX9_close 44 = .ok (.iconst 2, 1) := by decide +kernel
theorem dX9_close_45 : decode cX9_close 45 = .ok (.invokevirtual 64, 3) := by decide +kernel
theorem dX9_close_48 : decode cX9_close 48 = .ok (.ireturn, 1) := by decide +kernel
theorem dX9_close_49 : decode cX9_close 49 = .ok (.iconst 0, 1) := by decide +kernel
theorem dX9_close_50 : decode cX9_close 50 = .ok (.istore_n 1, 1) := by decide +kernel
theorem dX9_close_51 : decode cX9_close 51 = .ok (.iload_n 1, 1) := by decide +kernel
theorem dX9_close_52 : decode cX9_close 52 = .ok (.aload_n 0, 1) := by decide +kernel
theorem dX9_close_53 : decode cX9_close 53 = .ok (.getfield 68, 3) := by decide +kernel
theorem dX9_close_56 : decode cX9_close 56 = .ok (.if_icmp .ge 52, 3) := by decide +kernel
theorem dX9_close_59 : decode cX9_close 59 = .ok (.aload_n 0, 1) := by decide +kernel
theorem dX9_close_60 : decode cX9_close 60 = .ok (.getfield 13, 3) := by decide +kernel
theorem dX9_close_63 : decode cX9_close 63 = .ok (.bipush 20, 2) := by decide +kernel
theorem dX9_close_65 : decode cX9_close 65 = .ok (.aload_n 0, 1) := by decide +kernel
theorem dX9_close_66 : decode cX9_close 66 = .ok (.getfield 74, 3) := by decide +kernel
theorem dX9_close_69 : decode cX9_close 69 = .ok (.imul, 1) := by decide +kernel
theorem dX9_close_70 : decode cX9_close 70 = .ok (.iload_n 1, 1) := by decide +kernel
theorem dX9_close_71 : decode cX9_close 71 = .ok (.iadd, 1) := by decide +kernel
theorem dX9_close_72 : decode cX9_close 72 = .ok (.aload_n 0, 1) := by decide +kernel
theorem dX9_close_73 : decode cX9_close 73 = .ok (.getfield 7, 3) := by decide +kernel
theorem dX9_close_76 : decode cX9_close 76 = .ok (.iload_n 1, 1) := by decide +kernel
theorem dX9_close_77 : decode cX9_close 77 = .ok (.iaload, 1) := by decide +kernel
theorem dX9_close_78 : decode cX9_close 78 = .ok (.iastore, 1) := by decide +kernel
theorem dX9_close_79 : decode cX9_close 79 = .ok (.aload_n 0, 1) := by decide +kernel
theorem dX9_close_80 : decode cX9_close 80 = .ok (.getfield 19, 3) := by decide +kernel
theorem dX9_close_83 : decode cX9_close 83 = .ok (.bipush 100, 2) := by decide +kernel
theorem dX9_close_85 : decode cX9_close 85 = .ok (.aload_n 0, 1) := by decide +kernel
theorem dX9_close_86 : decode cX9_close 86 = .ok (.getfield 74, 3) := by decide +kernel
theorem dX9_close_89 : decode cX9_close 89 = .ok (.imul, 1) := by decide +kernel
theorem dX9_close_90 : decode cX9_close 90 = .ok (.aload_n 0, 1) := by decide +kernel
theorem dX9_close_91 : decode cX9_close 91 = .ok (.getfield 7, 3) := by decide +kernel
theorem dX9_close_94 : decode cX9_close 94 = .ok (.iload_n 1, 1) := by decide +kernel
theorem dX9_close_95 : decode cX9_close 95 = .ok (.iaload, 1) := by decide +kernel
theorem dX9_close_96 : decode cX9_close 96 = .ok (.iadd, 1) := by decide +kernel
theorem dX9_close_97 : decode cX9_close 97 = .ok (.dup2, 1) := by decide +kernel
theorem dX9_close_98 : decode cX9_close 98 = .ok (.iaload, 1) := by decide +kernel
theorem dX9_close_99 : decode cX9_close 99 = .ok (.iconst 1, 1) := by decide +kernel
theorem dX9_close_100 : decode cX9_close 100 = .ok (.iadd, 1) := by decide +kernel
theorem dX9_close_101 : decode cX9_close 101 = .ok (.iastore, 1) := by decide +kernel
theorem dX9_close_102 : decode cX9_close 102 = .ok (.iinc 1 1, 3) := by decide +kernel
theorem dX9_close_105 : decode cX9_close 105 = .ok (.goto (-54), 3) := by decide +kernel
theorem dX9_close_108 : decode cX9_close 108 = .ok (.aload_n 0, 1) := by decide +kernel
theorem dX9_close_109 : decode cX9_close 109 = .ok (.getfield 16, 3) := by decide +kernel
theorem dX9_close_112 : decode cX9_close 112 = .ok (.aload_n 0, 1) := by decide +kernel
theorem dX9_close_113 : decode cX9_close 113 = .ok (.getfield 74, 3) := by decide +kernel
theorem dX9_close_116 : decode cX9_close 116 = .ok (.aload_n 0, 1) := by decide +kernel
theorem dX9_close_117 : decode cX9_close 117 = .ok (.getfield 68, 3) := by decide +kernel
theorem dX9_close_120 : decode cX9_close 120 = .ok (.iastore, 1) := by decide +kernel
theorem dX9_close_121 : decode cX9_close 121 = .ok (.aload_n 0, 1) := by decide +kernel
theorem dX9_close_122 : decode cX9_close 122 = .ok (.iconst 0, 1) := by decide +kernel
theorem dX9_close_123 : decode cX9_close 123 = .ok (.putfield 68, 3) := by decide +kernel
theorem dX9_close_126 : decode cX9_close 126 = .ok (.aload_n 0, 1) := by decide +kernel
theorem dX9_close_127 : decode cX9_close 127 = .ok (.dup, 1) := by decide +kernel
theorem dX9_close_128 : decode cX9_close 128 = .ok (.getfield 74, 3) := by decide +kernel
theorem dX9_close_131 : decode cX9_close 131 = .ok (.iconst 1, 1) := by decide +kernel
theorem dX9_close_132 : decode cX9_close 132 = .ok (.iadd, 1) := by decide +kernel
theorem dX9_close_133 : decode cX9_close 133 = .ok (.putfield 74, 3) := by decide +kernel
theorem dX9_close_136 : decode cX9_close 136 = .ok (.aload_n 0, 1) := by decide +kernel
theorem dX9_close_137 : decode cX9_close 137 = .ok (.getfield 74, 3) := by decide +kernel
theorem dX9_close_140 : decode cX9_close 140 = .ok (.iconst 1, 1) := by decide +kernel
theorem dX9_close_141 : decode cX9_close 141 = .ok (.isub, 1) := by decide +kernel
theorem dX9_close_142 : decode cX9_close 142 = .ok (.ireturn, 1) := by decide +kernel
theorem dX9_drop_0 : decode cX9_drop 0 = .ok (.aload_n 0, 1) := by decide +kernel
theorem dX9_drop_1 : decode cX9_drop 1 = .ok (.iconst 0, 1) := by decide +kernel
theorem dX9_drop_2 : decode cX9_drop 2 = .ok (.putfield 57, 3) := by decide +kernel
theorem dX9_drop_5 : decode cX9_drop 5 = .ok (.iload_n 1, 1) := by decide +kernel
theorem dX9_drop_6 : decode cX9_drop 6 = .ok (.ifCond .lt 22, 3) := by decide +kernel
theorem dX9_drop_9 : decode cX9_drop 9 = .ok (.iload_n 1, 1) := by decide +kernel
theorem dX9_drop_10 : decode cX9_drop 10 = .ok (.aload_n 0, 1) := by decide +kernel
theorem dX9_drop_11 : decode cX9_drop 11 = .ok (.getfield 74, 3) := by decide +kernel
theorem dX9_drop_14 : decode cX9_drop 14 = .ok (.if_icmp .ge 14, 3) := by decide +kernel
theorem dX9_drop_17 : decode cX9_drop 17 = .ok (.aload_n 0, 1) := by decide +kernel
theorem dX9_drop_18 : decode cX9_drop 18 = .ok (.getfield 85, 3) := by decide +kernel
theorem dX9_drop_21 : decode cX9_drop 21 = .ok (.iload_n 1, 1) := by decide +kernel
theorem dX9_drop_22 : decode cX9_drop 22 = .ok (.invokestatic 89, 3) := by decide +kernel
theorem dX9_drop_25 : decode cX9_drop 25 = .ok (.ifCond .eq 9, 3) := by decide +kernel
theorem dX9_drop_28 : decode cX9_drop 28 = .ok (.aload_n 0, 1) := by decide +kernel
theorem dX9_drop_29 : decode cX9_drop 29 = .ok (.iconst 1, 1) := by decide +kernel
theorem dX9_drop_30 : decode cX9_drop 30 = .ok (.invokevirtual 64, 3) := by decide +kernel
theorem dX9_drop_33 : decode cX9_drop 33 = .ok (.ireturn, 1) := by decide +kernel
theorem dX9_drop_34 : decode cX9_drop 34 = .ok (.aload_n 0, 1) := by decide +kernel
theorem dX9_drop_35 : decode cX9_drop 35 = .ok (.dup, 1) := by decide +kernel
theorem dX9_drop_36 : decode cX9_drop 36 = .ok (.getfield 85, 3) := by decide +kernel
theorem dX9_drop_39 : decode cX9_drop 39 = .ok (.lconst 1, 1) := by decide +kernel
theorem dX9_drop_40 : decode cX9_drop 40 = .ok (.iload_n 1, 1) := by decide +kernel
theorem dX9_drop_41 : decode cX9_drop 41 = .ok (.lshl, 1) := by decide +kernel
theorem dX9_drop_42 : decode cX9_drop 42 = .ok (.lor, 1) := by decide +kernel
theorem dX9_drop_43 : decode cX9_drop 43 = .ok (.putfield 85, 3) := by decide +kernel
theorem dX9_drop_46 : decode cX9_drop 46 = .ok (.aload_n 0, 1) := by decide +kernel
theorem dX9_drop_47 : decode cX9_drop 47 = .ok (.getfield 74, 3) := by decide +kernel
theorem dX9_drop_50 : decode cX9_drop 50 = .ok (.aload_n 0, 1) := by decide +kernel
theorem dX9_drop_51 : decode cX9_drop 51 = .ok (.getfield 85, 3) := by decide +kernel
theorem dX9_drop_54 : decode cX9_drop 54 = .ok (.invokestatic 93, 3) := by decide +kernel
theorem dX9_drop_57 : decode cX9_drop 57 = .ok (.isub, 1) := by decide +kernel
theorem dX9_drop_58 : decode cX9_drop 58 = .ok (.ireturn, 1) := by decide +kernel
theorem dX9_put_0 : decode cX9_put 0 = .ok (.aload_n 0, 1) := by decide +kernel
theorem dX9_put_1 : decode cX9_put 1 = .ok (.getfield 39, 3) := by decide +kernel
theorem dX9_put_4 : decode cX9_put 4 = .ok (.aload_n 0, 1) := by decide +kernel
theorem dX9_put_5 : decode cX9_put 5 = .ok (.getfield 97, 3) := by decide +kernel
theorem dX9_put_8 : decode cX9_put 8 = .ok (.iload_n 1, 1) := by decide +kernel
theorem dX9_put_9 : decode cX9_put 9 = .ok (.i2b, 1) := by decide +kernel
theorem dX9_put_10 : decode cX9_put 10 = .ok (.bastore, 1) := by decide +kernel
theorem dX9_put_11 : decode cX9_put 11 = .ok (.aload_n 0, 1) := by decide +kernel
theorem dX9_put_12 : decode cX9_put 12 = .ok (.dup, 1) := by decide +kernel
theorem dX9_put_13 : decode cX9_put 13 = .ok (.getfield 97, 3) := by decide +kernel
theorem dX9_put_16 : decode cX9_put 16 = .ok (.iconst 1, 1) := by decide +kernel
theorem dX9_put_17 : decode cX9_put 17 = .ok (.iadd, 1) := by decide +kernel
theorem dX9_put_18 : decode cX9_put 18 = .ok (.putfield 97, 3) := by decide +kernel
theorem dX9_put_21 : decode cX9_put 21 = .ok (.return_, 1) := by decide +kernel
theorem dX9_putWord_0 : decode cX9_putWord 0 = .ok (.iconst 0, 1) := by decide +kernel
theorem dX9_putWord_1 : decode cX9_putWord 1 = .ok (.istore 4, 2) := by decide +kernel
theorem dX9_putWord_3 : decode cX9_putWord 3 = .ok (.iconst 0, 1) := by decide +kernel
theorem dX9_putWord_4 : decode cX9_putWord 4 = .ok (.istore 5, 2) := by decide +kernel
theorem dX9_putWord_6 : decode cX9_putWord 6 = .ok (.iload 5, 2) := by decide +kernel
theorem dX9_putWord_8 : decode cX9_putWord 8 = .ok (.aload_n 0, 1) := by decide +kernel
theorem dX9_putWord_9 : decode cX9_putWord 9 = .ok (.getfield 74, 3) := by decide +kernel
theorem dX9_putWord_12 : decode cX9_putWord 12 = .ok (.if_icmp .ge 112, 3) := by decide +kernel
theorem dX9_putWord_15 : decode cX9_putWord 15 = .ok (.lload_n 1, 1) := by decide +kernel
theorem dX9_putWord_16 : decode cX9_putWord 16 = .ok (.iload 5, 2) := by decide +kernel
theorem dX9_putWord_18 : decode cX9_putWord 18 = .ok (.invokestatic 89, 3) := by decide +kernel
theorem dX9_putWord_21 : decode cX9_putWord 21 = .ok (.ifCond .eq 97, 3) := by decide +kernel
theorem dX9_putWord_24 : decode cX9_putWord 24 = .ok (.aload_n 0, 1) := by decide +kernel
theorem dX9_putWord_25 : decode cX9_putWord 25 = .ok (.iload 5, 2) := by decide +kernel
theorem dX9_putWord_27 : decode cX9_putWord 27 = .ok (.iload_n 3, 1) := by decide +kernel
theorem dX9_putWord_28 : decode cX9_putWord 28 = .ok (.invokevirtual 100, 3) := by decide +kernel
theorem dX9_putWord_31 : decode cX9_putWord 31 = .ok (.ifCond .ne 6, 3) := by decide +kernel
theorem dX9_putWord_34 : decode cX9_putWord 34 = .ok (.goto 84, 3) := by decide +kernel
theorem dX9_putWord_37 : decode cX9_putWord 37 = .ok (.aload_n 0, 1) := by decide +kernel
theorem dX9_putWord_38 : decode cX9_putWord 38 = .ok (.iload 5, 2) := by decide +kernel
theorem dX9_putWord_40 : decode cX9_putWord 40 = .ok (.iload 4, 2) := by decide +kernel
theorem dX9_putWord_42 : decode cX9_putWord 42 = .ok (.isub, 1) := by decide +kernel
theorem dX9_putWord_43 : decode cX9_putWord 43 = .ok (.invokevirtual 103, 3) := by decide +kernel
theorem dX9_putWord_46 : decode cX9_putWord 46 = .ok (.iload 5, 2) := by decide +kernel
theorem dX9_putWord_48 : decode cX9_putWord 48 = .ok (.istore 4, 2) := by decide +kernel
theorem dX9_putWord_50 : decode cX9_putWord 50 = .ok (.aload_n 0, 1) := by decide +kernel
theorem dX9_putWord_51 : decode cX9_putWord 51 = .ok (.aload_n 0, 1) := by decide +kernel
theorem dX9_putWord_52 : decode cX9_putWord 52 = .ok (.iload 5, 2) := by decide +kernel
theorem dX9_putWord_54 : decode cX9_putWord 54 = .ok (.iload_n 3, 1) := by decide +kernel
theorem dX9_putWord_55 : decode cX9_putWord 55 = .ok (.invokevirtual 100, 3) := by decide +kernel
theorem dX9_putWord_58 : decode cX9_putWord 58 = .ok (.invokevirtual 103, 3) := by decide +kernel
theorem dX9_putWord_61 : decode cX9_putWord 61 = .ok (.iconst 0, 1) := by decide +kernel
theorem dX9_putWord_62 : decode cX9_putWord 62 = .ok (.istore 6, 2) := by decide +kernel
theorem dX9_putWord_64 : decode cX9_putWord 64 = .ok (.iconst 0, 1) := by decide +kernel
theorem dX9_putWord_65 : decode cX9_putWord 65 = .ok (.istore 7, 2) := by decide +kernel
theorem dX9_putWord_67 : decode cX9_putWord 67 = .ok (.iload 7, 2) := by decide +kernel
theorem dX9_putWord_69 : decode cX9_putWord 69 = .ok (.aload_n 0, 1) := by decide +kernel
theorem dX9_putWord_70 : decode cX9_putWord 70 = .ok (.getfield 16, 3) := by decide +kernel
theorem dX9_putWord_73 : decode cX9_putWord 73 = .ok (.iload 5, 2) := by decide +kernel
theorem dX9_putWord_75 : decode cX9_putWord 75 = .ok (.iaload, 1) := by decide +kernel
theorem dX9_putWord_76 : decode cX9_putWord 76 = .ok (.if_icmp .ge 42, 3) := by decide +kernel
theorem dX9_putWord_79 : decode cX9_putWord 79 = .ok (.aload_n 0, 1) := by decide +kernel
theorem dX9_putWord_80 : decode cX9_putWord 80 = .ok (.getfield 13, 3) := by decide +kernel
theorem dX9_putWord_83 : decode cX9_putWord 83 = .ok (.bipush 20, 2) := by decide +kernel
theorem dX9_putWord_85 : decode cX9_putWord 85 = .ok (.iload 5, 2) := by decide +kernel
theorem dX9_putWord_87 : decode cX9_putWord 87 = .ok (.imul, 1) := by decide +kernel
theorem dX9_putWord_88 : decode cX9_putWord 88 = .ok (.iload 7, 2) := by decide +kernel
theorem dX9_putWord_90 : decode cX9_putWord 90 = .ok (.iadd, 1) := by decide +kernel
theorem dX9_putWord_91 : decode cX9_putWord 91 = .ok (.iaload, 1) := by decide +kernel
theorem dX9_putWord_92 : decode cX9_putWord 92 = .ok (.iload_n 3, 1) := by decide +kernel
theorem dX9_putWord_93 : decode cX9_putWord 93 = .ok (.if_icmp .eq 6, 3) := by decide +kernel
theorem dX9_putWord_96 : decode cX9_putWord 96 = .ok (.goto 16, 3) := by decide +kernel
theorem dX9_putWord_99 : decode cX9_putWord 99 = .ok (.aload_n 0, 1) := by decide +kernel
theorem dX9_putWord_100 : decode cX9_putWord 100 = .ok (.iload 7, 2) := by decide +kernel
theorem dX9_putWord_102 : decode cX9_putWord 102 = .ok (.iload 6, 2) := by decide +kernel
theorem dX9_putWord_104 : decode cX9_putWord 104 = .ok (.isub, 1) := by decide +kernel
theorem dX9_putWord_105 : decode cX9_putWord 105 = .ok (.invokevirtual 103, 3) := by decide +kernel
theorem dX9_putWord_108 : decode cX9_putWord 108 = .ok (.iload 7, 2) := by decide +kernel
theorem dX9_putWord_110 : decode cX9_putWord 110 = .ok (.istore 6, 2) := by decide +kernel
theorem dX9_putWord_112 : decode cX9_putWord 112 = .ok (.iinc 7 1, 3) := by decide +kernel
theorem dX9_putWord_115 : decode cX9_putWord 115 = .ok (.goto (-48), 3) := by decide +kernel
theorem dX9_putWord_118 : decode cX9_putWord 118 = .ok (.iinc 5 1, 3) := by decide +kernel
theorem dX9_putWord_121 : decode cX9_putWord 121 = .ok (.goto (-115), 3) := by decide +kernel
theorem dX9_putWord_124 : decode cX9_putWord 124 = .ok (.return_, 1) := by decide +kernel
theorem dX9_encode_0 : decode cX9_encode 0 = .ok (.lload_n 1, 1) := by decide +kernel
theorem dX9_encode_1 : decode cX9_encode 1 = .ok (.aload_n 0, 1) := by decide +kernel
theorem dX9_encode_2 : decode cX9_encode 2 = .ok (.getfield 107, 3) := by decide +kernel
theorem dX9_encode_5 : decode cX9_encode 5 = .ok (.lcmp, 1) := by decide +kernel
theorem dX9_encode_6 : decode cX9_encode 6 = .ok (.ifCond .ne 4, 3) := by decide +kernel
theorem dX9_encode_9 : decode cX9_encode 9 = .ok (.return_, 1) := by decide +kernel
theorem dX9_encode_10 : decode cX9_encode 10 = .ok (.aload_n 0, 1) := by decide +kernel
theorem dX9_encode_11 : decode cX9_encode 11 = .ok (.lload_n 1, 1) := by decide +kernel
theorem dX9_encode_12 : decode cX9_encode 12 = .ok (.putfield 107, 3) := by decide +kernel
theorem dX9_encode_15 : decode cX9_encode 15 = .ok (.aload_n 0, 1) := by decide +kernel
theorem dX9_encode_16 : decode cX9_encode 16 = .ok (.iconst 0, 1) := by decide +kernel
theorem dX9_encode_17 : decode cX9_encode 17 = .ok (.putfield 97, 3) := by decide +kernel
theorem dX9_encode_20 : decode cX9_encode 20 = .ok (.iconst 0, 1) := by decide +kernel
theorem dX9_encode_21 : decode cX9_encode 21 = .ok (.istore_n 3, 1) := by decide +kernel
theorem dX9_encode_22 : decode cX9_encode 22 = .ok (.iconst 0, 1) := by decide +kernel
theorem dX9_encode_23 : decode cX9_encode 23 = .ok (.istore 4, 2) := by decide +kernel
theorem dX9_encode_25 : decode cX9_encode 25 = .ok (.iload 4, 2) := by decide +kernel
theorem dX9_encode_27 : decode cX9_encode 27 = .ok (.bipush 100, 2) := by decide +kernel
theorem dX9_encode_29 : decode cX9_encode 29 = .ok (.if_icmp .ge 85, 3) := by decide +kernel
theorem dX9_encode_32 : decode cX9_encode 32 = .ok (.iconst 0, 1) := by decide +kernel
theorem dX9_encode_33 : decode cX9_encode 33 = .ok (.istore 5, 2) := by decide +kernel
theorem dX9_encode_35 : decode cX9_encode 35 = .ok (.iconst 0, 1) := by decide +kernel
theorem dX9_encode_36 : decode cX9_encode 36 = .ok (.istore 6, 2) := by decide +kernel
theorem dX9_encode_38 : decode cX9_encode 38 = .ok (.iload 6, 2) := by decide +kernel
theorem dX9_encode_40 : decode cX9_encode 40 = .ok (.aload_n 0, 1) := by decide +kernel
theorem dX9_encode_41 : decode cX9_encode 41 = .ok (.getfield 74, 3) := by decide +kernel
theorem dX9_encode_44 : decode cX9_encode 44 = .ok (.if_icmp .ge 32, 3) := by decide +kernel
theorem dX9_encode_47 : decode cX9_encode 47 = .ok (.lload_n 1, 1) := by decide +kernel
theorem dX9_encode_48 : decode cX9_encode 48 = .ok (.iload 6, 2) := by decide +kernel
theorem dX9_encode_50 : decode cX9_encode 50 = .ok (.invokestatic 89, 3) := by decide +kernel
theorem dX9_encode_53 : decode cX9_encode 53 = .ok (.ifCond .eq 17, 3) := by decide +kernel
theorem dX9_encode_56 : decode cX9_encode 56 = .ok (.aload_n 0, 1) := by decide +kernel
theorem dX9_encode_57 : decode cX9_encode 57 = .ok (.iload 6, 2) := by decide +kernel
theorem dX9_encode_59 : decode cX9_encode 59 = .ok (.iload 4, 2) := by decide +kernel
theorem dX9_encode_61 : decode cX9_encode 61 = .ok (.invokevirtual 100, 3) := by decide +kernel
theorem dX9_encode_64 : decode cX9_encode 64 = .ok (.ifCond .le 6, 3) := by decide +kernel
theorem dX9_encode_67 : decode cX9_encode 67 = .ok (.iinc 5 1, 3) := by decide +kernel
theorem dX9_encode_70 : decode cX9_encode 70 = .ok (.iinc 6 1, 3) := by decide +kernel
theorem dX9_encode_73 : decode cX9_encode 73 = .ok (.goto (-35), 3) := by decide +kernel
theorem dX9_encode_76 : decode cX9_encode 76 = .ok (.iload 5, 2) := by decide +kernel
theorem dX9_encode_78 : decode cX9_encode 78 = .ok (.ifCond .ne 6, 3) := by decide +kernel
theorem dX9_encode_81 : decode cX9_encode 81 = .ok (.goto 27, 3) := by decide +kernel
theorem dX9_encode_84 : decode cX9_encode 84 = .ok (.aload_n 0, 1) := by decide +kernel
theorem dX9_encode_85 : decode cX9_encode 85 = .ok (.iload 4, 2) := by decide +kernel
theorem dX9_encode_87 : decode cX9_encode 87 = .ok (.iload_n 3, 1) := by decide +kernel
theorem dX9_encode_88 : decode cX9_encode 88 = .ok (.isub, 1) := by decide +kernel
theorem dX9_encode_89 : decode cX9_encode 89 = .ok (.invokevirtual 103, 3) := by decide +kernel
theorem dX9_encode_92 : decode cX9_encode 92 = .ok (.iload 4, 2) := by decide +kernel
theorem dX9_encode_94 : decode cX9_encode 94 = .ok (.istore_n 3, 1) := by decide +kernel
theorem dX9_encode_95 : decode cX9_encode 95 = .ok (.aload_n 0, 1) := by decide +kernel
theorem dX9_encode_96 : decode cX9_encode 96 = .ok (.iload 5, 2) := by decide +kernel
theorem dX9_encode_98 : decode cX9_encode 98 = .ok (.invokevirtual 103, 3) := by decide +kernel
theorem dX9_encode_101 : decode cX9_encode 101 = .ok (.aload_n 0, 1) := by decide +kernel
theorem dX9_encode_102 : decode cX9_encode 102 = .ok (.lload_n 1, 1) := by decide +kernel
theorem dX9_encode_103 : decode cX9_encode 103 = .ok (.iload 4, 2) := by decide +kernel
theorem dX9_encode_105 : decode cX9_encode 105 = .ok (.invokevirtual 110, 3) := by decide +kernel
theorem dX9_encode_108 : decode cX9_encode 108 = .ok (.iinc 4 1, 3) := by decide +kernel
theorem dX9_encode_111 : decode cX9_encode 111 = .ok (.goto (-86), 3) := by decide +kernel
theorem dX9_encode_114 : decode cX9_encode 114 = .ok (.aload_n 0, 1) := by decide +kernel
theorem dX9_encode_115 : decode cX9_encode 115 = .ok (.bipush 127, 2) := by decide +kernel
theorem dX9_encode_117 : decode cX9_encode 117 = .ok (.invokevirtual 103, 3) := by decide +kernel
theorem dX9_encode_120 : decode cX9_encode 120 = .ok (.return_, 1) := by decide +kernel
theorem dX9_room_0 : decode cX9_room 0 = .ok (.aload_n 0, 1) := by decide +kernel
theorem dX9_room_1 : decode cX9_room 1 = .ok (.lload_n 1, 1) := by decide +kernel
theorem dX9_room_2 : decode cX9_room 2 = .ok (.invokevirtual 114, 3) := by decide +kernel
theorem dX9_room_5 : decode cX9_room 5 = .ok (.aload_n 0, 1) := by decide +kernel
theorem dX9_room_6 : decode cX9_room 6 = .ok (.getfield 97, 3) := by decide +kernel
theorem dX9_room_9 : decode cX9_room 9 = .ok (.bipush 15, 2) := by decide +kernel
theorem dX9_room_11 : decode cX9_room 11 = .ok (.iadd, 1) := by decide +kernel
theorem dX9_room_12 : decode cX9_room 12 = .ok (.bipush 16, 2) := by decide +kernel
theorem dX9_room_14 : decode cX9_room 14 = .ok (.idiv, 1) := by decide +kernel
theorem dX9_room_15 : decode cX9_room 15 = .ok (.istore_n 3, 1) := by decide +kernel
theorem dX9_room_16 : decode cX9_room 16 = .ok (.lconst 0, 1) := by decide +kernel
theorem dX9_room_17 : decode cX9_room 17 = .ok (.lstore 4, 2) := by decide +kernel
theorem dX9_room_19 : decode cX9_room 19 = .ok (.iconst 0, 1) := by decide +kernel
theorem dX9_room_20 : decode cX9_room 20 = .ok (.istore 6, 2) := by decide +kernel
theorem dX9_room_22 : decode cX9_room 22 = .ok (.iload 6, 2) := by decide +kernel
theorem dX9_room_24 : decode cX9_room 24 = .ok (.aload_n 0, 1) := by decide +kernel
theorem dX9_room_25 : decode cX9_room 25 = .ok (.getfield 54, 3) := by decide +kernel
theorem dX9_room_28 : decode cX9_room 28 = .ok (.if_icmp .ge 40, 3) := by decide +kernel
theorem dX9_room_31 : decode cX9_room 31 = .ok (.iload_n 3, 1) := by decide +kernel
theorem dX9_room_32 : decode cX9_room 32 = .ok (.ifCond .eq 30, 3) := by decide +kernel
theorem dX9_room_35 : decode cX9_room 35 = .ok (.aload_n 0, 1) := by decide +kernel
theorem dX9_room_36 : decode cX9_room 36 = .ok (.getfield 118, 3) := by decide +kernel
theorem dX9_room_39 : decode cX9_room 39 = .ok (.iload 6, 2) := by decide +kernel
theorem dX9_room_41 : decode cX9_room 41 = .ok (.invokestatic 89, 3) := by decide +kernel
theorem dX9_room_44 : decode cX9_room 44 = .ok (.ifCond .eq 6, 3) := by decide +kernel
theorem dX9_room_47 : decode cX9_room 47 = .ok (.goto 15, 3) := by decide +kernel
theorem dX9_room_50 : decode cX9_room 50 = .ok (.lload 4, 2) := by decide +kernel
theorem dX9_room_52 : decode cX9_room 52 = .ok (.lconst 1, 1) := by decide +kernel
theorem dX9_room_53 : decode cX9_room 53 = .ok (.iload 6, 2) := by decide +kernel
theorem dX9_room_55 : decode cX9_room 55 = .ok (.lshl, 1) := by decide +kernel
theorem dX9_room_56 : decode cX9_room 56 = .ok (.lor, 1) := by decide +kernel
theorem dX9_room_57 : decode cX9_room 57 = .ok (.lstore 4, 2) := by decide +kernel
theorem dX9_room_59 : decode cX9_room 59 = .ok (.iinc 3 (-1), 3) := by decide +kernel
theorem dX9_room_62 : decode cX9_room 62 = .ok (.iinc 6 1, 3) := by decide +kernel
theorem dX9_room_65 : decode cX9_room 65 = .ok (.goto (-43), 3) := by decide +kernel
theorem dX9_room_68 : decode cX9_room 68 = .ok (.iload_n 3, 1) := by decide +kernel
theorem dX9_room_69 : decode cX9_room 69 = .ok (.ifCond .ne 8, 3) := by decide +kernel
theorem dX9_room_72 : decode cX9_room 72 = .ok (.lload 4, 2) := by decide +kernel
theorem dX9_room_74 : decode cX9_room 74 = .ok (.goto 4, 3) := by decide +kernel
theorem dX9_room_77 : decode cX9_room 77 = .ok (.lconst 0, 1) := by decide +kernel
theorem dX9_room_78 : decode cX9_room 78 = .ok (.lreturn, 1) := by decide +kernel
theorem dX9_flushing_0 : decode cX9_flushing 0 = .ok (.aload_n 0, 1) := by decide +kernel
theorem dX9_flushing_1 : decode cX9_flushing 1 = .ok (.invokevirtual 77, 3) := by decide +kernel
theorem dX9_flushing_4 : decode cX9_flushing 4 = .ok (.ifCond .ne 5, 3) := by decide +kernel
theorem dX9_flushing_7 : decode cX9_flushing 7 = .ok (.iconst 1, 1) := by decide +kernel
theorem dX9_flushing_8 : decode cX9_flushing 8 = .ok (.ireturn, 1) := by decide +kernel
theorem dX9_flushing_9 : decode cX9_flushing 9 = .ok (.lconst 0, 1) := by decide +kernel
theorem dX9_flushing_10 : decode cX9_flushing 10 = .ok (.lstore_n 1, 1) := by decide +kernel
theorem dX9_flushing_11 : decode cX9_flushing 11 = .ok (.aload_n 0, 1) := by decide +kernel
theorem dX9_flushing_12 : decode cX9_flushing 12 = .ok (.getfield 71, 3) := by decide +kernel
theorem dX9_flushing_15 : decode cX9_flushing 15 = .ok (.istore_n 3, 1) := by decide +kernel
theorem dX9_flushing_16 : decode cX9_flushing 16 = .ok (.iload_n 3, 1) := by decide +kernel
theorem dX9_flushing_17 : decode cX9_flushing 17 = .ok (.aload_n 0, 1) := by decide +kernel
theorem dX9_flushing_18 : decode cX9_flushing 18 = .ok (.getfield 74, 3) := by decide +kernel
theorem dX9_flushing_21 : decode cX9_flushing 21 = .ok (.if_icmp .ge 35, 3) := by decide +kernel
theorem dX9_flushing_24 : decode cX9_flushing 24 = .ok (.aload_n 0, 1) := by decide +kernel
theorem dX9_flushing_25 : decode cX9_flushing 25 = .ok (.getfield 85, 3) := by decide +kernel
end
section
theorem dX9_flushing_28 : decode cX9_flushing 28 = .ok (.iload_n 3, 1) := by decide +kernel
theorem dX9_flushing_29 : decode cX9_flushing 29 = .ok (.invokestatic 89, 3) := by decide +kernel
theorem dX9_flushing_32 : decode cX9_flushing 32 = .ok (.ifCond .ne 18, 3) := by decide +kernel
theorem dX9_flushing_35 : decode cX9_flushing 35 = .ok (.aload_n 0, 1) := by decide +kernel
theorem dX9_flushing_36 : decode cX9_flushing 36 = .ok (.getfield 16, 3) := by decide +kernel
theorem dX9_flushing_39 : decode cX9_flushing 39 = .ok (.iload_n 3, 1) := by decide +kernel
theorem dX9_flushing_40 : decode cX9_flushing 40 = .ok (.iaload, 1) := by decide +kernel
theorem dX9_flushing_41 : decode cX9_flushing 41 = .ok (.ifCond .le 9, 3) := by decide +kernel
theorem dX9_flushing_44 : decode cX9_flushing 44 = .ok (.lload_n 1, 1) := by decide +kernel
theorem dX9_flushing_45 : decode cX9_flushing 45 = .ok (.lconst 1, 1) := by decide +kernel
theorem dX9_flushing_46 : decode cX9_flushing 46 = .ok (.iload_n 3, 1) := by decide +kernel
theorem dX9_flushing_47 : decode cX9_flushing 47 = .ok (.lshl, 1) := by decide +kernel
theorem dX9_flushing_48 : decode cX9_flushing 48 = .ok (.lor, 1) := by decide +kernel
theorem dX9_flushing_49 : decode cX9_flushing 49 = .ok (.lstore_n 1, 1) := by decide +kernel
theorem dX9_flushing_50 : decode cX9_flushing 50 = .ok (.iinc 3 1, 3) := by decide +kernel
theorem dX9_flushing_53 : decode cX9_flushing 53 = .ok (.goto (-37), 3) := by decide +kernel
theorem dX9_flushing_56 : decode cX9_flushing 56 = .ok (.lload_n 1, 1) := by decide +kernel
theorem dX9_flushing_57 : decode cX9_flushing 57 = .ok (.lconst 0, 1) := by decide +kernel
theorem dX9_flushing_58 : decode cX9_flushing 58 = .ok (.lcmp, 1) := by decide +kernel
theorem dX9_flushing_59 : decode cX9_flushing 59 = .ok (.ifCond .eq 80, 3) := by decide +kernel
theorem dX9_flushing_62 : decode cX9_flushing 62 = .ok (.aload_n 0, 1) := by decide +kernel
theorem dX9_flushing_63 : decode cX9_flushing 63 = .ok (.lload_n 1, 1) := by decide +kernel
theorem dX9_flushing_64 : decode cX9_flushing 64 = .ok (.invokevirtual 121, 3) := by decide +kernel
theorem dX9_flushing_67 : decode cX9_flushing 67 = .ok (.lstore_n 3, 1) := by decide +kernel
theorem dX9_flushing_68 : decode cX9_flushing 68 = .ok (.lload_n 3, 1) := by decide +kernel
theorem dX9_flushing_69 : decode cX9_flushing 69 = .ok (.lconst 0, 1) := by decide +kernel
theorem dX9_flushing_70 : decode cX9_flushing 70 = .ok (.lcmp, 1) := by decide +kernel
theorem dX9_flushing_71 : decode cX9_flushing 71 = .ok (.ifCond .ne 5, 3) := by decide +kernel
theorem dX9_flushing_74 : decode cX9_flushing 74 = .ok (.iconst 0, 1) := by decide +kernel
theorem dX9_flushing_75 : decode cX9_flushing 75 = .ok (.ireturn, 1) := by decide +kernel
theorem dX9_flushing_76 : decode cX9_flushing 76 = .ok (.aload_n 0, 1) := by decide +kernel
theorem dX9_flushing_77 : decode cX9_flushing 77 = .ok (.getfield 22, 3) := by decide +kernel
theorem dX9_flushing_80 : decode cX9_flushing 80 = .ok (.aload_n 0, 1) := by decide +kernel
theorem dX9_flushing_81 : decode cX9_flushing 81 = .ok (.getfield 125, 3) := by decide +kernel
theorem dX9_flushing_84 : decode cX9_flushing 84 = .ok (.lload_n 1, 1) := by decide +kernel
theorem dX9_flushing_85 : decode cX9_flushing 85 = .ok (.lastore, 1) := by decide +kernel
theorem dX9_flushing_86 : decode cX9_flushing 86 = .ok (.aload_n 0, 1) := by decide +kernel
theorem dX9_flushing_87 : decode cX9_flushing 87 = .ok (.getfield 26, 3) := by decide +kernel
theorem dX9_flushing_90 : decode cX9_flushing 90 = .ok (.aload_n 0, 1) := by decide +kernel
theorem dX9_flushing_91 : decode cX9_flushing 91 = .ok (.getfield 125, 3) := by decide +kernel
theorem dX9_flushing_94 : decode cX9_flushing 94 = .ok (.lload_n 3, 1) := by decide +kernel
theorem dX9_flushing_95 : decode cX9_flushing 95 = .ok (.lastore, 1) := by decide +kernel
theorem dX9_flushing_96 : decode cX9_flushing 96 = .ok (.aload_n 0, 1) := by decide +kernel
theorem dX9_flushing_97 : decode cX9_flushing 97 = .ok (.getfield 29, 3) := by decide +kernel
theorem dX9_flushing_100 : decode cX9_flushing 100 = .ok (.aload_n 0, 1) := by decide +kernel
theorem dX9_flushing_101 : decode cX9_flushing 101 = .ok (.getfield 125, 3) := by decide +kernel
theorem dX9_flushing_104 : decode cX9_flushing 104 = .ok (.iconst 0, 1) := by decide +kernel
theorem dX9_flushing_105 : decode cX9_flushing 105 = .ok (.iastore, 1) := by decide +kernel
theorem dX9_flushing_106 : decode cX9_flushing 106 = .ok (.aload_n 0, 1) := by decide +kernel
theorem dX9_flushing_107 : decode cX9_flushing 107 = .ok (.dup, 1) := by decide +kernel
theorem dX9_flushing_108 : decode cX9_flushing 108 = .ok (.getfield 125, 3) := by decide +kernel
theorem dX9_flushing_111 : decode cX9_flushing 111 = .ok (.iconst 1, 1) := by decide +kernel
theorem dX9_flushing_112 : decode cX9_flushing 112 = .ok (.iadd, 1) := by decide +kernel
theorem dX9_flushing_113 : decode cX9_flushing 113 = .ok (.putfield 125, 3) := by decide +kernel
theorem dX9_flushing_116 : decode cX9_flushing 116 = .ok (.aload_n 0, 1) := by decide +kernel
theorem dX9_flushing_117 : decode cX9_flushing 117 = .ok (.dup, 1) := by decide +kernel
theorem dX9_flushing_118 : decode cX9_flushing 118 = .ok (.getfield 118, 3) := by decide +kernel
theorem dX9_flushing_121 : decode cX9_flushing 121 = .ok (.lload_n 3, 1) := by decide +kernel
theorem dX9_flushing_122 : decode cX9_flushing 122 = .ok (.lor, 1) := by decide +kernel
theorem dX9_flushing_123 : decode cX9_flushing 123 = .ok (.putfield 118, 3) := by decide +kernel
theorem dX9_flushing_126 : decode cX9_flushing 126 = .ok (.aload_n 0, 1) := by decide +kernel
theorem dX9_flushing_127 : decode cX9_flushing 127 = .ok (.dup, 1) := by decide +kernel
theorem dX9_flushing_128 : decode cX9_flushing 128 = .ok (.getfield 128, 3) := by decide +kernel
theorem dX9_flushing_131 : decode cX9_flushing 131 = .ok (.lload_n 3, 1) := by decide +kernel
theorem dX9_flushing_132 : decode cX9_flushing 132 = .ok (.invokestatic 93, 3) := by decide +kernel
theorem dX9_flushing_135 : decode cX9_flushing 135 = .ok (.iadd, 1) := by decide +kernel
theorem dX9_flushing_136 : decode cX9_flushing 136 = .ok (.putfield 128, 3) := by decide +kernel
theorem dX9_flushing_139 : decode cX9_flushing 139 = .ok (.aload_n 0, 1) := by decide +kernel
theorem dX9_flushing_140 : decode cX9_flushing 140 = .ok (.aload_n 0, 1) := by decide +kernel
theorem dX9_flushing_141 : decode cX9_flushing 141 = .ok (.getfield 74, 3) := by decide +kernel
theorem dX9_flushing_144 : decode cX9_flushing 144 = .ok (.putfield 71, 3) := by decide +kernel
theorem dX9_flushing_147 : decode cX9_flushing 147 = .ok (.iconst 0, 1) := by decide +kernel
theorem dX9_flushing_148 : decode cX9_flushing 148 = .ok (.istore_n 3, 1) := by decide +kernel
theorem dX9_flushing_149 : decode cX9_flushing 149 = .ok (.iload_n 3, 1) := by decide +kernel
theorem dX9_flushing_150 : decode cX9_flushing 150 = .ok (.bipush 64, 2) := by decide +kernel
theorem dX9_flushing_152 : decode cX9_flushing 152 = .ok (.if_icmp .ge 32, 3) := by decide +kernel
theorem dX9_flushing_155 : decode cX9_flushing 155 = .ok (.aload_n 0, 1) := by decide +kernel
theorem dX9_flushing_156 : decode cX9_flushing 156 = .ok (.invokevirtual 131, 3) := by decide +kernel
theorem dX9_flushing_159 : decode cX9_flushing 159 = .ok (.istore 4, 2) := by decide +kernel
theorem dX9_flushing_161 : decode cX9_flushing 161 = .ok (.iload 4, 2) := by decide +kernel
theorem dX9_flushing_163 : decode cX9_flushing 163 = .ok (.ifCond .lt 21, 3) := by decide +kernel
theorem dX9_flushing_166 : decode cX9_flushing 166 = .ok (.aload_n 0, 1) := by decide +kernel
theorem dX9_flushing_167 : decode cX9_flushing 167 = .ok (.iload 4, 2) := by decide +kernel
theorem dX9_flushing_169 : decode cX9_flushing 169 = .ok (.invokevirtual 134, 3) := by decide +kernel
theorem dX9_flushing_172 : decode cX9_flushing 172 = .ok (.ifCond .ne 6, 3) := by decide +kernel
theorem dX9_flushing_175 : decode cX9_flushing 175 = .ok (.goto 9, 3) := by decide +kernel
theorem dX9_flushing_178 : decode cX9_flushing 178 = .ok (.iinc 3 1, 3) := by decide +kernel
theorem dX9_flushing_181 : decode cX9_flushing 181 = .ok (.goto (-32), 3) := by decide +kernel
theorem dX9_flushing_184 : decode cX9_flushing 184 = .ok (.iconst 1, 1) := by decide +kernel
theorem dX9_flushing_185 : decode cX9_flushing 185 = .ok (.ireturn, 1) := by decide +kernel
theorem dX9_full_0 : decode cX9_full 0 = .ok (.iconst (-1), 1) := by decide +kernel
theorem dX9_full_1 : decode cX9_full 1 = .ok (.istore_n 1, 1) := by decide +kernel
theorem dX9_full_2 : decode cX9_full 2 = .ok (.iconst 0, 1) := by decide +kernel
theorem dX9_full_3 : decode cX9_full 3 = .ok (.istore_n 2, 1) := by decide +kernel
theorem dX9_full_4 : decode cX9_full 4 = .ok (.iload_n 2, 1) := by decide +kernel
theorem dX9_full_5 : decode cX9_full 5 = .ok (.aload_n 0, 1) := by decide +kernel
theorem dX9_full_6 : decode cX9_full 6 = .ok (.getfield 125, 3) := by decide +kernel
theorem dX9_full_9 : decode cX9_full 9 = .ok (.if_icmp .ge 77, 3) := by decide +kernel
theorem dX9_full_12 : decode cX9_full 12 = .ok (.iconst 0, 1) := by decide +kernel
theorem dX9_full_13 : decode cX9_full 13 = .ok (.istore_n 3, 1) := by decide +kernel
theorem dX9_full_14 : decode cX9_full 14 = .ok (.iconst 0, 1) := by decide +kernel
theorem dX9_full_15 : decode cX9_full 15 = .ok (.istore 4, 2) := by decide +kernel
theorem dX9_full_17 : decode cX9_full 17 = .ok (.iload 4, 2) := by decide +kernel
theorem dX9_full_19 : decode cX9_full 19 = .ok (.aload_n 0, 1) := by decide +kernel
theorem dX9_full_20 : decode cX9_full 20 = .ok (.getfield 125, 3) := by decide +kernel
theorem dX9_full_23 : decode cX9_full 23 = .ok (.if_icmp .ge 28, 3) := by decide +kernel
theorem dX9_full_26 : decode cX9_full 26 = .ok (.aload_n 0, 1) := by decide +kernel
theorem dX9_full_27 : decode cX9_full 27 = .ok (.getfield 29, 3) := by decide +kernel
theorem dX9_full_30 : decode cX9_full 30 = .ok (.iload 4, 2) := by decide +kernel
theorem dX9_full_32 : decode cX9_full 32 = .ok (.iaload, 1) := by decide +kernel
theorem dX9_full_33 : decode cX9_full 33 = .ok (.aload_n 0, 1) := by decide +kernel
theorem dX9_full_34 : decode cX9_full 34 = .ok (.getfield 29, 3) := by decide +kernel
theorem dX9_full_37 : decode cX9_full 37 = .ok (.iload_n 2, 1) := by decide +kernel
theorem dX9_full_38 : decode cX9_full 38 = .ok (.iaload, 1) := by decide +kernel
theorem dX9_full_39 : decode cX9_full 39 = .ok (.if_icmp .ne 6, 3) := by decide +kernel
theorem dX9_full_42 : decode cX9_full 42 = .ok (.iinc 3 1, 3) := by decide +kernel
theorem dX9_full_45 : decode cX9_full 45 = .ok (.iinc 4 1, 3) := by decide +kernel
theorem dX9_full_48 : decode cX9_full 48 = .ok (.goto (-31), 3) := by decide +kernel
theorem dX9_full_51 : decode cX9_full 51 = .ok (.iload_n 3, 1) := by decide +kernel
theorem dX9_full_52 : decode cX9_full 52 = .ok (.aload_n 0, 1) := by decide +kernel
theorem dX9_full_53 : decode cX9_full 53 = .ok (.getfield 51, 3) := by decide +kernel
theorem dX9_full_56 : decode cX9_full 56 = .ok (.if_icmp .lt 24, 3) := by decide +kernel
theorem dX9_full_59 : decode cX9_full 59 = .ok (.iload_n 1, 1) := by decide +kernel
theorem dX9_full_60 : decode cX9_full 60 = .ok (.ifCond .lt 13, 3) := by decide +kernel
theorem dX9_full_63 : decode cX9_full 63 = .ok (.aload_n 0, 1) := by decide +kernel
theorem dX9_full_64 : decode cX9_full 64 = .ok (.getfield 29, 3) := by decide +kernel
theorem dX9_full_67 : decode cX9_full 67 = .ok (.iload_n 2, 1) := by decide +kernel
theorem dX9_full_68 : decode cX9_full 68 = .ok (.iaload, 1) := by decide +kernel
theorem dX9_full_69 : decode cX9_full 69 = .ok (.iload_n 1, 1) := by decide +kernel
theorem dX9_full_70 : decode cX9_full 70 = .ok (.if_icmp .ge 10, 3) := by decide +kernel
theorem dX9_full_73 : decode cX9_full 73 = .ok (.aload_n 0, 1) := by decide +kernel
theorem dX9_full_74 : decode cX9_full 74 = .ok (.getfield 29, 3) := by decide +kernel
theorem dX9_full_77 : decode cX9_full 77 = .ok (.iload_n 2, 1) := by decide +kernel
theorem dX9_full_78 : decode cX9_full 78 = .ok (.iaload, 1) := by decide +kernel
theorem dX9_full_79 : decode cX9_full 79 = .ok (.istore_n 1, 1) := by decide +kernel
theorem dX9_full_80 : decode cX9_full 80 = .ok (.iinc 2 1, 3) := by decide +kernel
theorem dX9_full_83 : decode cX9_full 83 = .ok (.goto (-79), 3) := by decide +kernel
theorem dX9_full_86 : decode cX9_full 86 = .ok (.iload_n 1, 1) := by decide +kernel
theorem dX9_full_87 : decode cX9_full 87 = .ok (.ireturn, 1) := by decide +kernel
theorem dX9_merge_0 : decode cX9_merge 0 = .ok (.lconst 0, 1) := by decide +kernel
theorem dX9_merge_1 : decode cX9_merge 1 = .ok (.lstore_n 2, 1) := by decide +kernel
theorem dX9_merge_2 : decode cX9_merge 2 = .ok (.lconst 0, 1) := by decide +kernel
theorem dX9_merge_3 : decode cX9_merge 3 = .ok (.lstore 4, 2) := by decide +kernel
theorem dX9_merge_5 : decode cX9_merge 5 = .ok (.lconst 0, 1) := by decide +kernel
theorem dX9_merge_6 : decode cX9_merge 6 = .ok (.lstore 6, 2) := by decide +kernel
theorem dX9_merge_8 : decode cX9_merge 8 = .ok (.iconst (-1), 1) := by decide +kernel
theorem dX9_merge_9 : decode cX9_merge 9 = .ok (.istore 8, 2) := by decide +kernel
theorem dX9_merge_11 : decode cX9_merge 11 = .ok (.iconst 0, 1) := by decide +kernel
theorem dX9_merge_12 : decode cX9_merge 12 = .ok (.istore 9, 2) := by decide +kernel
theorem dX9_merge_14 : decode cX9_merge 14 = .ok (.iconst 0, 1) := by decide +kernel
theorem dX9_merge_15 : decode cX9_merge 15 = .ok (.istore 10, 2) := by decide +kernel
theorem dX9_merge_17 : decode cX9_merge 17 = .ok (.iload 10, 2) := by decide +kernel
theorem dX9_merge_19 : decode cX9_merge 19 = .ok (.aload_n 0, 1) := by decide +kernel
theorem dX9_merge_20 : decode cX9_merge 20 = .ok (.getfield 125, 3) := by decide +kernel
theorem dX9_merge_23 : decode cX9_merge 23 = .ok (.if_icmp .ge 79, 3) := by decide +kernel
theorem dX9_merge_26 : decode cX9_merge 26 = .ok (.iload_n 1, 1) := by decide +kernel
theorem dX9_merge_27 : decode cX9_merge 27 = .ok (.ifCond .lt 17, 3) := by decide +kernel
theorem dX9_merge_30 : decode cX9_merge 30 = .ok (.aload_n 0, 1) := by decide +kernel
theorem dX9_merge_31 : decode cX9_merge 31 = .ok (.getfield 29, 3) := by decide +kernel
theorem dX9_merge_34 : decode cX9_merge 34 = .ok (.iload 10, 2) := by decide +kernel
theorem dX9_merge_36 : decode cX9_merge 36 = .ok (.iaload, 1) := by decide +kernel
theorem dX9_merge_37 : decode cX9_merge 37 = .ok (.iload_n 1, 1) := by decide +kernel
theorem dX9_merge_38 : decode cX9_merge 38 = .ok (.if_icmp .eq 6, 3) := by decide +kernel
theorem dX9_merge_41 : decode cX9_merge 41 = .ok (.goto 55, 3) := by decide +kernel
theorem dX9_merge_44 : decode cX9_merge 44 = .ok (.lload_n 2, 1) := by decide +kernel
theorem dX9_merge_45 : decode cX9_merge 45 = .ok (.aload_n 0, 1) := by decide +kernel
theorem dX9_merge_46 : decode cX9_merge 46 = .ok (.getfield 22, 3) := by decide +kernel
theorem dX9_merge_49 : decode cX9_merge 49 = .ok (.iload 10, 2) := by decide +kernel
theorem dX9_merge_51 : decode cX9_merge 51 = .ok (.laload, 1) := by decide +kernel
theorem dX9_merge_52 : decode cX9_merge 52 = .ok (.lor, 1) := by decide +kernel
theorem dX9_merge_53 : decode cX9_merge 53 = .ok (.lstore_n 2, 1) := by decide +kernel
theorem dX9_merge_54 : decode cX9_merge 54 = .ok (.lload 4, 2) := by decide +kernel
theorem dX9_merge_56 : decode cX9_merge 56 = .ok (.aload_n 0, 1) := by decide +kernel
theorem dX9_merge_57 : decode cX9_merge 57 = .ok (.getfield 26, 3) := by decide +kernel
theorem dX9_merge_60 : decode cX9_merge 60 = .ok (.iload 10, 2) := by decide +kernel
theorem dX9_merge_62 : decode cX9_merge 62 = .ok (.laload, 1) := by decide +kernel
theorem dX9_merge_63 : decode cX9_merge 63 = .ok (.lor, 1) := by decide +kernel
theorem dX9_merge_64 : decode cX9_merge 64 = .ok (.lstore 4, 2) := by decide +kernel
theorem dX9_merge_66 : decode cX9_merge 66 = .ok (.iload 8, 2) := by decide +kernel
theorem dX9_merge_68 : decode cX9_merge 68 = .ok (.ifCond .ge 7, 3) := by decide +kernel
theorem dX9_merge_71 : decode cX9_merge 71 = .ok (.iload 10, 2) := by decide +kernel
theorem dX9_merge_73 : decode cX9_merge 73 = .ok (.istore 8, 2) := by decide +kernel
theorem dX9_merge_75 : decode cX9_merge 75 = .ok (.aload_n 0, 1) := by decide +kernel
theorem dX9_merge_76 : decode cX9_merge 76 = .ok (.getfield 29, 3) := by decide +kernel
theorem dX9_merge_79 : decode cX9_merge 79 = .ok (.iload 10, 2) := by decide +kernel
theorem dX9_merge_81 : decode cX9_merge 81 = .ok (.iaload, 1) := by decide +kernel
theorem dX9_merge_82 : decode cX9_merge 82 = .ok (.iload 9, 2) := by decide +kernel
theorem dX9_merge_84 : decode cX9_merge 84 = .ok (.if_icmp .le 12, 3) := by decide +kernel
theorem dX9_merge_87 : decode cX9_merge 87 = .ok (.aload_n 0, 1) := by decide +kernel
theorem dX9_merge_88 : decode cX9_merge 88 = .ok (.getfield 29, 3) := by decide +kernel
theorem dX9_merge_91 : decode cX9_merge 91 = .ok (.iload 10, 2) := by decide +kernel
theorem dX9_merge_93 : decode cX9_merge 93 = .ok (.iaload, 1) := by decide +kernel
theorem dX9_merge_94 : decode cX9_merge 94 = .ok (.istore 9, 2) := by decide +kernel
theorem dX9_merge_96 : decode cX9_merge 96 = .ok (.iinc 10 1, 3) := by decide +kernel
theorem dX9_merge_99 : decode cX9_merge 99 = .ok (.goto (-82), 3) := by decide +kernel
theorem dX9_merge_102 : decode cX9_merge 102 = .ok (.aload_n 0, 1) := by decide +kernel
theorem dX9_merge_103 : decode cX9_merge 103 = .ok (.dup, 1) := by decide +kernel
theorem dX9_merge_104 : decode cX9_merge 104 = .ok (.getfield 137, 3) := by decide +kernel
theorem dX9_merge_107 : decode cX9_merge 107 = .ok (.lload 4, 2) := by decide +kernel
theorem dX9_merge_109 : decode cX9_merge 109 = .ok (.invokestatic 93, 3) := by decide +kernel
theorem dX9_merge_112 : decode cX9_merge 112 = .ok (.iadd, 1) := by decide +kernel
theorem dX9_merge_113 : decode cX9_merge 113 = .ok (.putfield 137, 3) := by decide +kernel
theorem dX9_merge_116 : decode cX9_merge 116 = .ok (.lload_n 2, 1) := by decide +kernel
theorem dX9_merge_117 : decode cX9_merge 117 = .ok (.aload_n 0, 1) := by decide +kernel
theorem dX9_merge_118 : decode cX9_merge 118 = .ok (.getfield 85, 3) := by decide +kernel
theorem dX9_merge_121 : decode cX9_merge 121 = .ok (.ldc2_w 140, 3) := by decide +kernel
theorem dX9_merge_124 : decode cX9_merge 124 = .ok (.lxor, 1) := by decide +kernel
theorem dX9_merge_125 : decode cX9_merge 125 = .ok (.land, 1) := by decide +kernel
theorem dX9_merge_126 : decode cX9_merge 126 = .ok (.lstore_n 2, 1) := by decide +kernel
theorem dX9_merge_127 : decode cX9_merge 127 = .ok (.lload_n 2, 1) := by decide +kernel
theorem dX9_merge_128 : decode cX9_merge 128 = .ok (.lconst 0, 1) := by decide +kernel
theorem dX9_merge_129 : decode cX9_merge 129 = .ok (.lcmp, 1) := by decide +kernel
theorem dX9_merge_130 : decode cX9_merge 130 = .ok (.ifCond .eq 43, 3) := by decide +kernel
theorem dX9_merge_133 : decode cX9_merge 133 = .ok (.aload_n 0, 1) := by decide +kernel
theorem dX9_merge_134 : decode cX9_merge 134 = .ok (.lload_n 2, 1) := by decide +kernel
theorem dX9_merge_135 : decode cX9_merge 135 = .ok (.invokevirtual 121, 3) := by decide +kernel
theorem dX9_merge_138 : decode cX9_merge 138 = .ok (.lstore 6, 2) := by decide +kernel
theorem dX9_merge_140 : decode cX9_merge 140 = .ok (.lload 6, 2) := by decide +kernel
theorem dX9_merge_142 : decode cX9_merge 142 = .ok (.lconst 0, 1) := by decide +kernel
theorem dX9_merge_143 : decode cX9_merge 143 = .ok (.lcmp, 1) := by decide +kernel
theorem dX9_merge_144 : decode cX9_merge 144 = .ok (.ifCond .ne 15, 3) := by decide +kernel
theorem dX9_merge_147 : decode cX9_merge 147 = .ok (.aload_n 0, 1) := by decide +kernel
theorem dX9_merge_148 : decode cX9_merge 148 = .ok (.dup, 1) := by decide +kernel
theorem dX9_merge_149 : decode cX9_merge 149 = .ok (.getfield 142, 3) := by decide +kernel
theorem dX9_merge_152 : decode cX9_merge 152 = .ok (.iconst 1, 1) := by decide +kernel
theorem dX9_merge_153 : decode cX9_merge 153 = .ok (.iadd, 1) := by decide +kernel
theorem dX9_merge_154 : decode cX9_merge 154 = .ok (.putfield 142, 3) := by decide +kernel
theorem dX9_merge_157 : decode cX9_merge 157 = .ok (.iconst 0, 1) := by decide +kernel
theorem dX9_merge_158 : decode cX9_merge 158 = .ok (.ireturn, 1) := by decide +kernel
theorem dX9_merge_159 : decode cX9_merge 159 = .ok (.aload_n 0, 1) := by decide +kernel
theorem dX9_merge_160 : decode cX9_merge 160 = .ok (.dup, 1) := by decide +kernel
theorem dX9_merge_161 : decode cX9_merge 161 = .ok (.getfield 128, 3) := by decide +kernel
theorem dX9_merge_164 : decode cX9_merge 164 = .ok (.lload 6, 2) := by decide +kernel
theorem dX9_merge_166 : decode cX9_merge 166 = .ok (.invokestatic 93, 3) := by decide +kernel
theorem dX9_merge_169 : decode cX9_merge 169 = .ok (.iadd, 1) := by decide +kernel
theorem dX9_merge_170 : decode cX9_merge 170 = .ok (.putfield 128, 3) := by decide +kernel
theorem dX9_merge_173 : decode cX9_merge 173 = .ok (.iconst 0, 1) := by decide +kernel
theorem dX9_merge_174 : decode cX9_merge 174 = .ok (.istore 10, 2) := by decide +kernel
theorem dX9_merge_176 : decode cX9_merge 176 = .ok (.iconst 0, 1) := by decide +kernel
theorem dX9_merge_177 : decode cX9_merge 177 = .ok (.istore 11, 2) := by decide +kernel
theorem dX9_merge_179 : decode cX9_merge 179 = .ok (.iload 11, 2) := by decide +kernel
theorem dX9_merge_181 : decode cX9_merge 181 = .ok (.aload_n 0, 1) := by decide +kernel
theorem dX9_merge_182 : decode cX9_merge 182 = .ok (.getfield 125, 3) := by decide +kernel
theorem dX9_merge_185 : decode cX9_merge 185 = .ok (.if_icmp .ge 128, 3) := by decide +kernel
theorem dX9_merge_188 : decode cX9_merge 188 = .ok (.iload_n 1, 1) := by decide +kernel
theorem dX9_merge_189 : decode cX9_merge 189 = .ok (.ifCond .lt 14, 3) := by decide +kernel
theorem dX9_merge_192 : decode cX9_merge 192 = .ok (.aload_n 0, 1) := by decide +kernel
theorem dX9_merge_193 : decode cX9_merge 193 = .ok (.getfield 29, 3) := by decide +kernel
theorem dX9_merge_196 : decode cX9_merge 196 = .ok (.iload 11, 2) := by decide +kernel
theorem dX9_merge_198 : decode cX9_merge 198 = .ok (.iaload, 1) := by decide +kernel
theorem dX9_merge_199 : decode cX9_merge 199 = .ok (.iload_n 1, 1) := by decide +kernel
theorem dX9_merge_200 : decode cX9_merge 200 = .ok (.if_icmp .ne 7, 3) := by decide +kernel
theorem dX9_merge_203 : decode cX9_merge 203 = .ok (.iconst 1, 1) := by decide +kernel
theorem dX9_merge_204 : decode cX9_merge 204 = .ok (.goto 4, 3) := by decide +kernel
theorem dX9_merge_207 : decode cX9_merge 207 = .ok (.iconst 0, 1) := by decide +kernel
theorem dX9_merge_208 : decode cX9_merge 208 = .ok (.istore 12, 2) := by decide +kernel
theorem dX9_merge_210 : decode cX9_merge 210 = .ok (.iload 12, 2) := by decide +kernel
theorem dX9_merge_212 : decode cX9_merge 212 = .ok (.ifCond .eq 19, 3) := by decide +kernel
theorem dX9_merge_215 : decode cX9_merge 215 = .ok (.iload 11, 2) := by decide +kernel
theorem dX9_merge_217 : decode cX9_merge 217 = .ok (.iload 8, 2) := by decide +kernel
theorem dX9_merge_219 : decode cX9_merge 219 = .ok (.if_icmp .ne 88, 3) := by decide +kernel
theorem dX9_merge_222 : decode cX9_merge 222 = .ok (.lload_n 2, 1) := by decide +kernel
theorem dX9_merge_223 : decode cX9_merge 223 = .ok (.lconst 0, 1) := by decide +kernel
theorem dX9_merge_224 : decode cX9_merge 224 = .ok (.lcmp, 1) := by decide +kernel
theorem dX9_merge_225 : decode cX9_merge 225 = .ok (.ifCond .ne 6, 3) := by decide +kernel
theorem dX9_merge_228 : decode cX9_merge 228 = .ok (.goto 79, 3) := by decide +kernel
theorem dX9_merge_231 : decode cX9_merge 231 = .ok (.aload_n 0, 1) := by decide +kernel
theorem dX9_merge_232 : decode cX9_merge 232 = .ok (.getfield 22, 3) := by decide +kernel
theorem dX9_merge_235 : decode cX9_merge 235 = .ok (.iload 10, 2) := by decide +kernel
theorem dX9_merge_237 : decode cX9_merge 237 = .ok (.iload 12, 2) := by decide +kernel
theorem dX9_merge_239 : decode cX9_merge 239 = .ok (.ifCond .eq 7, 3) := by decide +kernel
theorem dX9_merge_242 : decode cX9_merge 242 = .ok (.lload_n 2, 1) := by decide +kernel
theorem dX9_merge_243 : decode cX9_merge 243 = .ok (.goto 10, 3) := by decide +kernel
theorem dX9_merge_246 : decode cX9_merge 246 = .ok (.aload_n 0, 1) := by decide +kernel
theorem dX9_merge_247 : decode cX9_merge 247 = .ok (.getfield 22, 3) := by decide +kernel
theorem dX9_merge_250 : decode cX9_merge 250 = .ok (.iload 11, 2) := by decide +kernel
theorem dX9_merge_252 : decode cX9_merge 252 = .ok (.laload, 1) := by decide +kernel
theorem dX9_merge_253 : decode cX9_merge 253 = .ok (.lastore, 1) := by decide +kernel
theorem dX9_merge_254 : decode cX9_merge 254 = .ok (.aload_n 0, 1) := by decide +kernel
theorem dX9_merge_255 : decode cX9_merge 255 = .ok (.getfield 26, 3) := by decide +kernel
theorem dX9_merge_258 : decode cX9_merge 258 = .ok (.iload 10, 2) := by decide +kernel
theorem dX9_merge_260 : decode cX9_merge 260 = .ok (.iload 12, 2) := by decide +kernel
theorem dX9_merge_262 : decode cX9_merge 262 = .ok (.ifCond .eq 8, 3) := by decide +kernel
theorem dX9_merge_265 : decode cX9_merge 265 = .ok (.lload 6, 2) := by decide +kernel
theorem dX9_merge_267 : decode cX9_merge 267 = .ok (.goto 10, 3) := by decide +kernel
theorem dX9_merge_270 : decode cX9_merge 270 = .ok (.aload_n 0, 1) := by decide +kernel
theorem dX9_merge_271 : decode cX9_merge 271 = .ok (.getfield 26, 3) := by decide +kernel
theorem dX9_merge_274 : decode cX9_merge 274 = .ok (.iload 11, 2) := by decide +kernel
theorem dX9_merge_276 : decode cX9_merge 276 = .ok (.laload, 1) := by decide +kernel
theorem dX9_merge_277 : decode cX9_merge 277 = .ok (.lastore, 1) := by decide +kernel
theorem dX9_merge_278 : decode cX9_merge 278 = .ok (.aload_n 0, 1) := by decide +kernel
theorem dX9_merge_279 : decode cX9_merge 279 = .ok (.getfield 29, 3) := by decide +kernel
theorem dX9_merge_282 : decode cX9_merge 282 = .ok (.iload 10, 2) := by decide +kernel
theorem dX9_merge_284 : decode cX9_merge 284 = .ok (.iload 12, 2) := by decide +kernel
theorem dX9_merge_286 : decode cX9_merge 286 = .ok (.ifCond .eq 10, 3) := by decide +kernel
theorem dX9_merge_289 : decode cX9_merge 289 = .ok (.iload 9, 2) := by decide +kernel
theorem dX9_merge_291 : decode cX9_merge 291 = .ok (.iconst 1, 1) := by decide +kernel
theorem dX9_merge_292 : decode cX9_merge 292 = .ok (.iadd, 1) := by decide +kernel
theorem dX9_merge_293 : decode cX9_merge 293 = .ok (.goto 10, 3) := by decide +kernel
theorem dX9_merge_296 : decode cX9_merge 296 = .ok (.aload_n 0, 1) := by decide +kernel
theorem dX9_merge_297 : decode cX9_merge 297 = .ok (.getfield 29, 3) := by decide +kernel
theorem dX9_merge_300 : decode cX9_merge 300 = .ok (.iload 11, 2) := by decide +kernel
theorem dX9_merge_302 : decode cX9_merge 302 = .ok (.iaload, 1) := by decide +kernel
theorem dX9_merge_303 : decode cX9_merge 303 = .ok (.iastore, 1) := by decide +kernel
theorem dX9_merge_304 : decode cX9_merge 304 = .ok (.iinc 10 1, 3) := by decide +kernel
theorem dX9_merge_307 : decode cX9_merge 307 = .ok (.iinc 11 1, 3) := by decide +kernel
theorem dX9_merge_310 : decode cX9_merge 310 = .ok (.goto (-131), 3) := by decide +kernel
theorem dX9_merge_313 : decode cX9_merge 313 = .ok (.aload_n 0, 1) := by decide +kernel
theorem dX9_merge_314 : decode cX9_merge 314 = .ok (.iload 10, 2) := by decide +kernel
theorem dX9_merge_316 : decode cX9_merge 316 = .ok (.putfield 125, 3) := by decide +kernel
theorem dX9_merge_319 : decode cX9_merge 319 = .ok (.aload_n 0, 1) := by decide +kernel
theorem dX9_merge_320 : decode cX9_merge 320 = .ok (.aload_n 0, 1) := by decide +kernel
theorem dX9_merge_321 : decode cX9_merge 321 = .ok (.getfield 118, 3) := by decide +kernel
theorem dX9_merge_324 : decode cX9_merge 324 = .ok (.lload 4, 2) := by decide +kernel
theorem dX9_merge_326 : decode cX9_merge 326 = .ok (.ldc2_w 140, 3) := by decide +kernel
theorem dX9_merge_329 : decode cX9_merge 329 = .ok (.lxor, 1) := by decide +kernel
theorem dX9_merge_330 : decode cX9_merge 330 = .ok (.land, 1) := by decide +kernel
theorem dX9_merge_331 : decode cX9_merge 331 = .ok (.lload 6, 2) := by decide +kernel
theorem dX9_merge_333 : decode cX9_merge 333 = .ok (.lor, 1) := by decide +kernel
theorem dX9_merge_334 : decode cX9_merge 334 = .ok (.putfield 118, 3) := by decide +kernel
theorem dX9_merge_337 : decode cX9_merge 337 = .ok (.aload_n 0, 1) := by decide +kernel
theorem dX9_merge_338 : decode cX9_merge 338 = .ok (.dup, 1) := by decide +kernel
theorem dX9_merge_339 : decode cX9_merge 339 = .ok (.getfield 145, 3) := by decide +kernel
theorem dX9_merge_342 : decode cX9_merge 342 = .ok (.iconst 1, 1) := by decide +kernel
theorem dX9_merge_343 : decode cX9_merge 343 = .ok (.iadd, 1) := by decide +kernel
theorem dX9_merge_344 : decode cX9_merge 344 = .ok (.putfield 145, 3) := by decide +kernel
theorem dX9_merge_347 : decode cX9_merge 347 = .ok (.iconst 1, 1) := by decide +kernel
theorem dX9_merge_348 : decode cX9_merge 348 = .ok (.ireturn, 1) := by decide +kernel
theorem dX9_flush_0 : decode cX9_flush 0 = .ok (.aload_n 0, 1) := by decide +kernel
theorem dX9_flush_1 : decode cX9_flush 1 = .ok (.iconst 0, 1) := by decide +kernel
theorem dX9_flush_2 : decode cX9_flush 2 = .ok (.putfield 57, 3) := by decide +kernel
theorem dX9_flush_5 : decode cX9_flush 5 = .ok (.aload_n 0, 1) := by decide +kernel
theorem dX9_flush_6 : decode cX9_flush 6 = .ok (.invokevirtual 81, 3) := by decide +kernel
theorem dX9_flush_9 : decode cX9_flush 9 = .ok (.ifCond .ne 9, 3) := by decide +kernel
theorem dX9_flush_12 : decode cX9_flush 12 = .ok (.aload_n 0, 1) := by decide +kernel
theorem dX9_flush_13 : decode cX9_flush 13 = .ok (.iconst 1, 1) := by decide +kernel
theorem dX9_flush_14 : decode cX9_flush 14 = .ok (.invokevirtual 64, 3) := by decide +kernel
theorem dX9_flush_17 : decode cX9_flush 17 = .ok (.ireturn, 1) := by decide +kernel
theorem dX9_flush_18 : decode cX9_flush 18 = .ok (.aload_n 0, 1) := by decide +kernel
theorem dX9_flush_19 : decode cX9_flush 19 = .ok (.getfield 125, 3) := by decide +kernel
theorem dX9_flush_22 : decode cX9_flush 22 = .ok (.ireturn, 1) := by decide +kernel
theorem dX9_finish_0 : decode cX9_finish 0 = .ok (.aload_n 0, 1) := by decide +kernel
theorem dX9_finish_1 : decode cX9_finish 1 = .ok (.iconst 0, 1) := by decide +kernel
theorem dX9_finish_2 : decode cX9_finish 2 = .ok (.putfield 57, 3) := by decide +kernel
theorem dX9_finish_5 : decode cX9_finish 5 = .ok (.aload_n 0, 1) := by decide +kernel
theorem dX9_finish_6 : decode cX9_finish 6 = .ok (.invokevirtual 81, 3) := by decide +kernel
theorem dX9_finish_9 : decode cX9_finish 9 = .ok (.ifCond .ne 9, 3) := by decide +kernel
theorem dX9_finish_12 : decode cX9_finish 12 = .ok (.aload_n 0, 1) := by decide +kernel
theorem dX9_finish_13 : decode cX9_finish 13 = .ok (.iconst 1, 1) := by decide +kernel
theorem dX9_finish_14 : decode cX9_finish 14 = .ok (.invokevirtual 64, 3) := by decide +kernel
theorem dX9_finish_17 : decode cX9_finish 17 = .ok (.ireturn, 1) := by decide +kernel
theorem dX9_finish_18 : decode cX9_finish 18 = .ok (.aload_n 0, 1) := by decide +kernel
theorem dX9_finish_19 : decode cX9_finish 19 = .ok (.getfield 125, 3) := by decide +kernel
theorem dX9_finish_22 : decode cX9_finish 22 = .ok (.ifCond .le 17, 3) := by decide +kernel
theorem dX9_finish_25 : decode cX9_finish 25 = .ok (.aload_n 0, 1) := by decide +kernel
theorem dX9_finish_26 : decode cX9_finish 26 = .ok (.iconst (-1), 1) := by decide +kernel
theorem dX9_finish_27 : decode cX9_finish 27 = .ok (.invokevirtual 134, 3) := by decide +kernel
theorem dX9_finish_30 : decode cX9_finish 30 = .ok (.ifCond .ne 9, 3) := by decide +kernel
theorem dX9_finish_33 : decode cX9_finish 33 = .ok (.aload_n 0, 1) := by decide +kernel
theorem dX9_finish_34 : decode cX9_finish 34 = .ok (.iconst 1, 1) := by decide +kernel
theorem dX9_finish_35 : decode cX9_finish 35 = .ok (.invokevirtual 64, 3) := by decide +kernel
theorem dX9_finish_38 : decode cX9_finish 38 = .ok (.ireturn, 1) := by decide +kernel
theorem dX9_finish_39 : decode cX9_finish 39 = .ok (.aload_n 0, 1) := by decide +kernel
theorem dX9_finish_40 : decode cX9_finish 40 = .ok (.getfield 125, 3) := by decide +kernel
theorem dX9_finish_43 : decode cX9_finish 43 = .ok (.ireturn, 1) := by decide +kernel
theorem dX9_adjacent_0 : decode cX9_adjacent 0 = .ok (.iconst 0, 1) := by decide +kernel
theorem dX9_adjacent_1 : decode cX9_adjacent 1 = .ok (.istore 4, 2) := by decide +kernel
theorem dX9_adjacent_3 : decode cX9_adjacent 3 = .ok (.iload 4, 2) := by decide +kernel
theorem dX9_adjacent_5 : decode cX9_adjacent 5 = .ok (.iconst 1, 1) := by decide +kernel
theorem dX9_adjacent_6 : decode cX9_adjacent 6 = .ok (.iadd, 1) := by decide +kernel
theorem dX9_adjacent_7 : decode cX9_adjacent 7 = .ok (.aload_n 0, 1) := by decide +kernel
theorem dX9_adjacent_8 : decode cX9_adjacent 8 = .ok (.getfield 16, 3) := by decide +kernel
theorem dX9_adjacent_11 : decode cX9_adjacent 11 = .ok (.iload_n 1, 1) := by decide +kernel
theorem dX9_adjacent_12 : decode cX9_adjacent 12 = .ok (.iaload, 1) := by decide +kernel
theorem dX9_adjacent_13 : decode cX9_adjacent 13 = .ok (.if_icmp .ge 45, 3) := by decide +kernel
theorem dX9_adjacent_16 : decode cX9_adjacent 16 = .ok (.aload_n 0, 1) := by decide +kernel
theorem dX9_adjacent_17 : decode cX9_adjacent 17 = .ok (.getfield 13, 3) := by decide +kernel
theorem dX9_adjacent_20 : decode cX9_adjacent 20 = .ok (.bipush 20, 2) := by decide +kernel
theorem dX9_adjacent_22 : decode cX9_adjacent 22 = .ok (.iload_n 1, 1) := by decide +kernel
theorem dX9_adjacent_23 : decode cX9_adjacent 23 = .ok (.imul, 1) := by decide +kernel
theorem dX9_adjacent_24 : decode cX9_adjacent 24 = .ok (.iload 4, 2) := by decide +kernel
theorem dX9_adjacent_26 : decode cX9_adjacent 26 = .ok (.iadd, 1) := by decide +kernel
theorem dX9_adjacent_27 : decode cX9_adjacent 27 = .ok (.iaload, 1) := by decide +kernel
theorem dX9_adjacent_28 : decode cX9_adjacent 28 = .ok (.iload_n 2, 1) := by decide +kernel
theorem dX9_adjacent_29 : decode cX9_adjacent 29 = .ok (.if_icmp .ne 23, 3) := by decide +kernel
theorem dX9_adjacent_32 : decode cX9_adjacent 32 = .ok (.aload_n 0, 1) := by decide +kernel
theorem dX9_adjacent_33 : decode cX9_adjacent 33 = .ok (.getfield 13, 3) := by decide +kernel
theorem dX9_adjacent_36 : decode cX9_adjacent 36 = .ok (.bipush 20, 2) := by decide +kernel
theorem dX9_adjacent_38 : decode cX9_adjacent 38 = .ok (.iload_n 1, 1) := by decide +kernel
theorem dX9_adjacent_39 : decode cX9_adjacent 39 = .ok (.imul, 1) := by decide +kernel
theorem dX9_adjacent_40 : decode cX9_adjacent 40 = .ok (.iload 4, 2) := by decide +kernel
theorem dX9_adjacent_42 : decode cX9_adjacent 42 = .ok (.iadd, 1) := by decide +kernel
theorem dX9_adjacent_43 : decode cX9_adjacent 43 = .ok (.iconst 1, 1) := by decide +kernel
theorem dX9_adjacent_44 : decode cX9_adjacent 44 = .ok (.iadd, 1) := by decide +kernel
theorem dX9_adjacent_45 : decode cX9_adjacent 45 = .ok (.iaload, 1) := by decide +kernel
theorem dX9_adjacent_46 : decode cX9_adjacent 46 = .ok (.iload_n 3, 1) := by decide +kernel
theorem dX9_adjacent_47 : decode cX9_adjacent 47 = .ok (.if_icmp .ne 5, 3) := by decide +kernel
theorem dX9_adjacent_50 : decode cX9_adjacent 50 = .ok (.iconst 1, 1) := by decide +kernel
theorem dX9_adjacent_51 : decode cX9_adjacent 51 = .ok (.ireturn, 1) := by decide +kernel
theorem dX9_adjacent_52 : decode cX9_adjacent 52 = .ok (.iinc 4 1, 3) := by decide +kernel
theorem dX9_adjacent_55 : decode cX9_adjacent 55 = .ok (.goto (-52), 3) := by decide +kernel
theorem dX9_adjacent_58 : decode cX9_adjacent 58 = .ok (.iconst 0, 1) := by decide +kernel
theorem dX9_adjacent_59 : decode cX9_adjacent 59 = .ok (.ireturn, 1) := by decide +kernel
theorem dX9_fits_0 : decode cX9_fits 0 = .ok (.aload_n 0, 1) := by decide +kernel
theorem dX9_fits_1 : decode cX9_fits 1 = .ok (.iload_n 1, 1) := by decide +kernel
theorem dX9_fits_2 : decode cX9_fits 2 = .ok (.iload_n 2, 1) := by decide +kernel
theorem dX9_fits_3 : decode cX9_fits 3 = .ok (.invokevirtual 100, 3) := by decide +kernel
theorem dX9_fits_6 : decode cX9_fits 6 = .ok (.ifCond .le 7, 3) := by decide +kernel
theorem dX9_fits_9 : decode cX9_fits 9 = .ok (.iconst 1, 1) := by decide +kernel
theorem dX9_fits_10 : decode cX9_fits 10 = .ok (.goto 4, 3) := by decide +kernel
theorem dX9_fits_13 : decode cX9_fits 13 = .ok (.iconst 0, 1) := by decide +kernel
theorem dX9_fits_14 : decode cX9_fits 14 = .ok (.istore 5, 2) := by decide +kernel
theorem dX9_fits_16 : decode cX9_fits 16 = .ok (.aload_n 0, 1) := by decide +kernel
theorem dX9_fits_17 : decode cX9_fits 17 = .ok (.iload_n 1, 1) := by decide +kernel
theorem dX9_fits_18 : decode cX9_fits 18 = .ok (.iload_n 3, 1) := by decide +kernel
theorem dX9_fits_19 : decode cX9_fits 19 = .ok (.invokevirtual 100, 3) := by decide +kernel
theorem dX9_fits_22 : decode cX9_fits 22 = .ok (.ifCond .le 7, 3) := by decide +kernel
theorem dX9_fits_25 : decode cX9_fits 25 = .ok (.iconst 1, 1) := by decide +kernel
theorem dX9_fits_26 : decode cX9_fits 26 = .ok (.goto 4, 3) := by decide +kernel
theorem dX9_fits_29 : decode cX9_fits 29 = .ok (.iconst 0, 1) := by decide +kernel
theorem dX9_fits_30 : decode cX9_fits 30 = .ok (.istore 6, 2) := by decide +kernel
theorem dX9_fits_32 : decode cX9_fits 32 = .ok (.iload 4, 2) := by decide +kernel
theorem dX9_fits_34 : decode cX9_fits 34 = .ok (.ifCond .ne 19, 3) := by decide +kernel
theorem dX9_fits_37 : decode cX9_fits 37 = .ok (.iload 5, 2) := by decide +kernel
theorem dX9_fits_39 : decode cX9_fits 39 = .ok (.ifCond .eq 12, 3) := by decide +kernel
theorem dX9_fits_42 : decode cX9_fits 42 = .ok (.iload 6, 2) := by decide +kernel
theorem dX9_fits_44 : decode cX9_fits 44 = .ok (.ifCond .eq 7, 3) := by decide +kernel
theorem dX9_fits_47 : decode cX9_fits 47 = .ok (.iconst 1, 1) := by decide +kernel
theorem dX9_fits_48 : decode cX9_fits 48 = .ok (.goto 4, 3) := by decide +kernel
theorem dX9_fits_51 : decode cX9_fits 51 = .ok (.iconst 0, 1) := by decide +kernel
theorem dX9_fits_52 : decode cX9_fits 52 = .ok (.ireturn, 1) := by decide +kernel
theorem dX9_fits_53 : decode cX9_fits 53 = .ok (.iload 4, 2) := by decide +kernel
theorem dX9_fits_55 : decode cX9_fits 55 = .ok (.iconst 1, 1) := by decide +kernel
theorem dX9_fits_56 : decode cX9_fits 56 = .ok (.if_icmp .ne 19, 3) := by decide +kernel
theorem dX9_fits_59 : decode cX9_fits 59 = .ok (.iload 5, 2) := by decide +kernel
theorem dX9_fits_61 : decode cX9_fits 61 = .ok (.ifCond .ne 8, 3) := by decide +kernel
theorem dX9_fits_64 : decode cX9_fits 64 = .ok (.iload 6, 2) := by decide +kernel
theorem dX9_fits_66 : decode cX9_fits 66 = .ok (.ifCond .eq 7, 3) := by decide +kernel
theorem dX9_fits_69 : decode cX9_fits 69 = .ok (.iconst 1, 1) := by decide +kernel
theorem dX9_fits_70 : decode cX9_fits 70 = .ok (.goto 4, 3) := by decide +kernel
theorem dX9_fits_73 : decode cX9_fits 73 = .ok (.iconst 0, 1) := by decide +kernel
theorem dX9_fits_74 : decode cX9_fits 74 = .ok (.ireturn, 1) := by decide +kernel
theorem dX9_fits_75 : decode cX9_fits 75 = .ok (.iload 4, 2) := by decide +kernel
theorem dX9_fits_77 : decode cX9_fits 77 = .ok (.iconst 2, 1) := by decide +kernel
theorem dX9_fits_78 : decode cX9_fits 78 = .ok (.if_icmp .ne 11, 3) := by decide +kernel
theorem dX9_fits_81 : decode cX9_fits 81 = .ok (.aload_n 0, 1) := by decide +kernel
theorem dX9_fits_82 : decode cX9_fits 82 = .ok (.iload_n 1, 1) := by decide +kernel
theorem dX9_fits_83 : decode cX9_fits 83 = .ok (.iload_n 2, 1) := by decide +kernel
theorem dX9_fits_84 : decode cX9_fits 84 = .ok (.iload_n 3, 1) := by decide +kernel
theorem dX9_fits_85 : decode cX9_fits 85 = .ok (.invokevirtual 148, 3) := by decide +kernel
theorem dX9_fits_88 : decode cX9_fits 88 = .ok (.ireturn, 1) := by decide +kernel
theorem dX9_fits_89 : decode cX9_fits 89 = .ok (.iload 5, 2) := by decide +kernel
theorem dX9_fits_91 : decode cX9_fits 91 = .ok (.ifCond .eq 12, 3) := by decide +kernel
theorem dX9_fits_94 : decode cX9_fits 94 = .ok (.iload 6, 2) := by decide +kernel
theorem dX9_fits_96 : decode cX9_fits 96 = .ok (.ifCond .ne 7, 3) := by decide +kernel
theorem dX9_fits_99 : decode cX9_fits 99 = .ok (.iconst 1, 1) := by decide +kernel
theorem dX9_fits_100 : decode cX9_fits 100 = .ok (.goto 4, 3) := by decide +kernel
theorem dX9_fits_103 : decode cX9_fits 103 = .ok (.iconst 0, 1) := by decide +kernel
theorem dX9_fits_104 : decode cX9_fits 104 = .ok (.ireturn, 1) := by decide +kernel
theorem dX9_find_0 : decode cX9_find 0 = .ok (.aload_n 0, 1) := by decide +kernel
theorem dX9_find_1 : decode cX9_find 1 = .ok (.iconst 0, 1) := by decide +kernel
theorem dX9_find_2 : decode cX9_find 2 = .ok (.putfield 57, 3) := by decide +kernel
theorem dX9_find_5 : decode cX9_find 5 = .ok (.iload_n 1, 1) := by decide +kernel
theorem dX9_find_6 : decode cX9_find 6 = .ok (.invokestatic 60, 3) := by decide +kernel
theorem dX9_find_9 : decode cX9_find 9 = .ok (.ifCond .ne 19, 3) := by decide +kernel
theorem dX9_find_12 : decode cX9_find 12 = .ok (.iload_n 2, 1) := by decide +kernel
theorem dX9_find_13 : decode cX9_find 13 = .ok (.invokestatic 60, 3) := by decide +kernel
theorem dX9_find_16 : decode cX9_find 16 = .ok (.ifCond .ne 12, 3) := by decide +kernel
theorem dX9_find_19 : decode cX9_find 19 = .ok (.iload_n 3, 1) := by decide +kernel
theorem dX9_find_20 : decode cX9_find 20 = .ok (.ifCond .lt 8, 3) := by decide +kernel
theorem dX9_find_23 : decode cX9_find 23 = .ok (.iload_n 3, 1) := by decide +kernel
theorem dX9_find_24 : decode cX9_find 24 = .ok (.iconst 3, 1) := by decide +kernel
theorem dX9_find_25 : decode cX9_find 25 = .ok (.if_icmp .le 9, 3) := by decide +kernel
theorem dX9_find_28 : decode cX9_find 28 = .ok (.aload_n 0, 1) := by decide +kernel
theorem dX9_find_29 : decode cX9_find 29 = .ok (.iconst 1, 1) := by decide +kernel
theorem dX9_find_30 : decode cX9_find 30 = .ok (.invokevirtual 64, 3) := by decide +kernel
theorem dX9_find_33 : decode cX9_find 33 = .ok (.ireturn, 1) := by decide +kernel
theorem dX9_find_34 : decode cX9_find 34 = .ok (.aload_n 0, 1) := by decide +kernel
theorem dX9_find_35 : decode cX9_find 35 = .ok (.dup, 1) := by decide +kernel
theorem dX9_find_36 : decode cX9_find 36 = .ok (.getfield 137, 3) := by decide +kernel
theorem dX9_find_39 : decode cX9_find 39 = .ok (.aload_n 0, 1) := by decide +kernel
theorem dX9_find_40 : decode cX9_find 40 = .ok (.getfield 118, 3) := by decide +kernel
theorem dX9_find_43 : decode cX9_find 43 = .ok (.invokestatic 93, 3) := by decide +kernel
theorem dX9_find_46 : decode cX9_find 46 = .ok (.iadd, 1) := by decide +kernel
theorem dX9_find_47 : decode cX9_find 47 = .ok (.putfield 137, 3) := by decide +kernel
theorem dX9_find_50 : decode cX9_find 50 = .ok (.aload_n 0, 1) := by decide +kernel
theorem dX9_find_51 : decode cX9_find 51 = .ok (.iconst 0, 1) := by decide +kernel
theorem dX9_find_52 : decode cX9_find 52 = .ok (.putfield 152, 3) := by decide +kernel
theorem dX9_find_55 : decode cX9_find 55 = .ok (.aload_n 0, 1) := by decide +kernel
theorem dX9_find_56 : decode cX9_find 56 = .ok (.iconst 0, 1) := by decide +kernel
theorem dX9_find_57 : decode cX9_find 57 = .ok (.putfield 155, 3) := by decide +kernel
theorem dX9_find_60 : decode cX9_find 60 = .ok (.iconst 0, 1) := by decide +kernel
theorem dX9_find_61 : decode cX9_find 61 = .ok (.istore 4, 2) := by decide +kernel
theorem dX9_find_63 : decode cX9_find 63 = .ok (.iload 4, 2) := by decide +kernel
theorem dX9_find_65 : decode cX9_find 65 = .ok (.aload_n 0, 1) := by decide +kernel
theorem dX9_find_66 : decode cX9_find 66 = .ok (.getfield 74, 3) := by decide +kernel
theorem dX9_find_69 : decode cX9_find 69 = .ok (.if_icmp .ge 57, 3) := by decide +kernel
theorem dX9_find_72 : decode cX9_find 72 = .ok (.aload_n 0, 1) := by decide +kernel
theorem dX9_find_73 : decode cX9_find 73 = .ok (.getfield 85, 3) := by decide +kernel
theorem dX9_find_76 : decode cX9_find 76 = .ok (.iload 4, 2) := by decide +kernel
end
section
theorem dX9_find_78 : decode cX9_find 78 = .ok (.invokestatic 89, 3) := by decide +kernel
theorem dX9_find_81 : decode cX9_find 81 = .ok (.ifCond .ne 39, 3) := by decide +kernel
theorem dX9_find_84 : decode cX9_find 84 = .ok (.aload_n 0, 1) := by decide +kernel
theorem dX9_find_85 : decode cX9_find 85 = .ok (.iload 4, 2) := by decide +kernel
theorem dX9_find_87 : decode cX9_find 87 = .ok (.iload_n 1, 1) := by decide +kernel
theorem dX9_find_88 : decode cX9_find 88 = .ok (.iload_n 2, 1) := by decide +kernel
theorem dX9_find_89 : decode cX9_find 89 = .ok (.iload_n 3, 1) := by decide +kernel
theorem dX9_find_90 : decode cX9_find 90 = .ok (.invokevirtual 159, 3) := by decide +kernel
theorem dX9_find_93 : decode cX9_find 93 = .ok (.ifCond .ne 6, 3) := by decide +kernel
theorem dX9_find_96 : decode cX9_find 96 = .ok (.goto 24, 3) := by decide +kernel
theorem dX9_find_99 : decode cX9_find 99 = .ok (.aload_n 0, 1) := by decide +kernel
theorem dX9_find_100 : decode cX9_find 100 = .ok (.getfield 32, 3) := by decide +kernel
theorem dX9_find_103 : decode cX9_find 103 = .ok (.aload_n 0, 1) := by decide +kernel
theorem dX9_find_104 : decode cX9_find 104 = .ok (.getfield 152, 3) := by decide +kernel
theorem dX9_find_107 : decode cX9_find 107 = .ok (.iload 4, 2) := by decide +kernel
theorem dX9_find_109 : decode cX9_find 109 = .ok (.iastore, 1) := by decide +kernel
theorem dX9_find_110 : decode cX9_find 110 = .ok (.aload_n 0, 1) := by decide +kernel
theorem dX9_find_111 : decode cX9_find 111 = .ok (.dup, 1) := by decide +kernel
theorem dX9_find_112 : decode cX9_find 112 = .ok (.getfield 152, 3) := by decide +kernel
theorem dX9_find_115 : decode cX9_find 115 = .ok (.iconst 1, 1) := by decide +kernel
theorem dX9_find_116 : decode cX9_find 116 = .ok (.iadd, 1) := by decide +kernel
theorem dX9_find_117 : decode cX9_find 117 = .ok (.putfield 152, 3) := by decide +kernel
theorem dX9_find_120 : decode cX9_find 120 = .ok (.iinc 4 1, 3) := by decide +kernel
theorem dX9_find_123 : decode cX9_find 123 = .ok (.goto (-60), 3) := by decide +kernel
theorem dX9_find_126 : decode cX9_find 126 = .ok (.aload_n 0, 1) := by decide +kernel
theorem dX9_find_127 : decode cX9_find 127 = .ok (.getfield 152, 3) := by decide +kernel
theorem dX9_find_130 : decode cX9_find 130 = .ok (.ireturn, 1) := by decide +kernel
theorem dX9_part_0 : decode cX9_part 0 = .ok (.aload_n 0, 1) := by decide +kernel
theorem dX9_part_1 : decode cX9_part 1 = .ok (.iload_n 1, 1) := by decide +kernel
theorem dX9_part_2 : decode cX9_part 2 = .ok (.iload_n 2, 1) := by decide +kernel
theorem dX9_part_3 : decode cX9_part 3 = .ok (.invokevirtual 100, 3) := by decide +kernel
theorem dX9_part_6 : decode cX9_part 6 = .ok (.ifCond .ne 5, 3) := by decide +kernel
theorem dX9_part_9 : decode cX9_part 9 = .ok (.dconst 0, 1) := by decide +kernel
theorem dX9_part_10 : decode cX9_part 10 = .ok (.dreturn, 1) := by decide +kernel
theorem dX9_part_11 : decode cX9_part 11 = .ok (.iconst 0, 1) := by decide +kernel
theorem dX9_part_12 : decode cX9_part 12 = .ok (.istore_n 3, 1) := by decide +kernel
theorem dX9_part_13 : decode cX9_part 13 = .ok (.iconst 0, 1) := by decide +kernel
theorem dX9_part_14 : decode cX9_part 14 = .ok (.istore 4, 2) := by decide +kernel
theorem dX9_part_16 : decode cX9_part 16 = .ok (.iload 4, 2) := by decide +kernel
theorem dX9_part_18 : decode cX9_part 18 = .ok (.aload_n 0, 1) := by decide +kernel
theorem dX9_part_19 : decode cX9_part 19 = .ok (.getfield 74, 3) := by decide +kernel
theorem dX9_part_22 : decode cX9_part 22 = .ok (.if_icmp .ge 34, 3) := by decide +kernel
theorem dX9_part_25 : decode cX9_part 25 = .ok (.aload_n 0, 1) := by decide +kernel
theorem dX9_part_26 : decode cX9_part 26 = .ok (.getfield 85, 3) := by decide +kernel
theorem dX9_part_29 : decode cX9_part 29 = .ok (.iload 4, 2) := by decide +kernel
theorem dX9_part_31 : decode cX9_part 31 = .ok (.invokestatic 89, 3) := by decide +kernel
theorem dX9_part_34 : decode cX9_part 34 = .ok (.ifCond .ne 16, 3) := by decide +kernel
theorem dX9_part_37 : decode cX9_part 37 = .ok (.aload_n 0, 1) := by decide +kernel
theorem dX9_part_38 : decode cX9_part 38 = .ok (.iload 4, 2) := by decide +kernel
theorem dX9_part_40 : decode cX9_part 40 = .ok (.iload_n 2, 1) := by decide +kernel
theorem dX9_part_41 : decode cX9_part 41 = .ok (.invokevirtual 100, 3) := by decide +kernel
theorem dX9_part_44 : decode cX9_part 44 = .ok (.ifCond .le 6, 3) := by decide +kernel
theorem dX9_part_47 : decode cX9_part 47 = .ok (.iinc 3 1, 3) := by decide +kernel
theorem dX9_part_50 : decode cX9_part 50 = .ok (.iinc 4 1, 3) := by decide +kernel
theorem dX9_part_53 : decode cX9_part 53 = .ok (.goto (-37), 3) := by decide +kernel
theorem dX9_part_56 : decode cX9_part 56 = .ok (.aload_n 0, 1) := by decide +kernel
theorem dX9_part_57 : decode cX9_part 57 = .ok (.iload_n 1, 1) := by decide +kernel
theorem dX9_part_58 : decode cX9_part 58 = .ok (.iload_n 2, 1) := by decide +kernel
theorem dX9_part_59 : decode cX9_part 59 = .ok (.invokevirtual 100, 3) := by decide +kernel
theorem dX9_part_62 : decode cX9_part 62 = .ok (.i2d, 1) := by decide +kernel
theorem dX9_part_63 : decode cX9_part 63 = .ok (.iload_n 3, 1) := by decide +kernel
theorem dX9_part_64 : decode cX9_part 64 = .ok (.i2d, 1) := by decide +kernel
theorem dX9_part_65 : decode cX9_part 65 = .ok (.ddiv, 1) := by decide +kernel
theorem dX9_part_66 : decode cX9_part 66 = .ok (.dreturn, 1) := by decide +kernel
theorem dX9_rank_0 : decode cX9_rank 0 = .ok (.aload_n 0, 1) := by decide +kernel
theorem dX9_rank_1 : decode cX9_rank 1 = .ok (.iconst 0, 1) := by decide +kernel
theorem dX9_rank_2 : decode cX9_rank 2 = .ok (.putfield 57, 3) := by decide +kernel
theorem dX9_rank_5 : decode cX9_rank 5 = .ok (.iload_n 1, 1) := by decide +kernel
theorem dX9_rank_6 : decode cX9_rank 6 = .ok (.invokestatic 60, 3) := by decide +kernel
theorem dX9_rank_9 : decode cX9_rank 9 = .ok (.ifCond .ne 10, 3) := by decide +kernel
theorem dX9_rank_12 : decode cX9_rank 12 = .ok (.iload_n 2, 1) := by decide +kernel
theorem dX9_rank_13 : decode cX9_rank 13 = .ok (.invokestatic 60, 3) := by decide +kernel
theorem dX9_rank_16 : decode cX9_rank 16 = .ok (.ifCond .eq 9, 3) := by decide +kernel
theorem dX9_rank_19 : decode cX9_rank 19 = .ok (.aload_n 0, 1) := by decide +kernel
theorem dX9_rank_20 : decode cX9_rank 20 = .ok (.iconst 1, 1) := by decide +kernel
theorem dX9_rank_21 : decode cX9_rank 21 = .ok (.invokevirtual 64, 3) := by decide +kernel
theorem dX9_rank_24 : decode cX9_rank 24 = .ok (.ireturn, 1) := by decide +kernel
theorem dX9_rank_25 : decode cX9_rank 25 = .ok (.aload_n 0, 1) := by decide +kernel
theorem dX9_rank_26 : decode cX9_rank 26 = .ok (.dup, 1) := by decide +kernel
theorem dX9_rank_27 : decode cX9_rank 27 = .ok (.getfield 137, 3) := by decide +kernel
theorem dX9_rank_30 : decode cX9_rank 30 = .ok (.aload_n 0, 1) := by decide +kernel
theorem dX9_rank_31 : decode cX9_rank 31 = .ok (.getfield 118, 3) := by decide +kernel
theorem dX9_rank_34 : decode cX9_rank 34 = .ok (.invokestatic 93, 3) := by decide +kernel
theorem dX9_rank_37 : decode cX9_rank 37 = .ok (.iadd, 1) := by decide +kernel
theorem dX9_rank_38 : decode cX9_rank 38 = .ok (.putfield 137, 3) := by decide +kernel
theorem dX9_rank_41 : decode cX9_rank 41 = .ok (.aload_n 0, 1) := by decide +kernel
theorem dX9_rank_42 : decode cX9_rank 42 = .ok (.iconst 0, 1) := by decide +kernel
theorem dX9_rank_43 : decode cX9_rank 43 = .ok (.putfield 152, 3) := by decide +kernel
theorem dX9_rank_46 : decode cX9_rank 46 = .ok (.aload_n 0, 1) := by decide +kernel
theorem dX9_rank_47 : decode cX9_rank 47 = .ok (.iconst 1, 1) := by decide +kernel
theorem dX9_rank_48 : decode cX9_rank 48 = .ok (.putfield 155, 3) := by decide +kernel
theorem dX9_rank_51 : decode cX9_rank 51 = .ok (.iconst 0, 1) := by decide +kernel
theorem dX9_rank_52 : decode cX9_rank 52 = .ok (.istore_n 3, 1) := by decide +kernel
theorem dX9_rank_53 : decode cX9_rank 53 = .ok (.iload_n 3, 1) := by decide +kernel
theorem dX9_rank_54 : decode cX9_rank 54 = .ok (.aload_n 0, 1) := by decide +kernel
theorem dX9_rank_55 : decode cX9_rank 55 = .ok (.getfield 74, 3) := by decide +kernel
theorem dX9_rank_58 : decode cX9_rank 58 = .ok (.if_icmp .ge 140, 3) := by decide +kernel
theorem dX9_rank_61 : decode cX9_rank 61 = .ok (.aload_n 0, 1) := by decide +kernel
theorem dX9_rank_62 : decode cX9_rank 62 = .ok (.getfield 85, 3) := by decide +kernel
theorem dX9_rank_65 : decode cX9_rank 65 = .ok (.iload_n 3, 1) := by decide +kernel
theorem dX9_rank_66 : decode cX9_rank 66 = .ok (.invokestatic 89, 3) := by decide +kernel
theorem dX9_rank_69 : decode cX9_rank 69 = .ok (.ifCond .ne 123, 3) := by decide +kernel
theorem dX9_rank_72 : decode cX9_rank 72 = .ok (.aload_n 0, 1) := by decide +kernel
theorem dX9_rank_73 : decode cX9_rank 73 = .ok (.iload_n 3, 1) := by decide +kernel
theorem dX9_rank_74 : decode cX9_rank 74 = .ok (.iload_n 1, 1) := by decide +kernel
theorem dX9_rank_75 : decode cX9_rank 75 = .ok (.iload_n 2, 1) := by decide +kernel
theorem dX9_rank_76 : decode cX9_rank 76 = .ok (.iconst 1, 1) := by decide +kernel
theorem dX9_rank_77 : decode cX9_rank 77 = .ok (.invokevirtual 159, 3) := by decide +kernel
theorem dX9_rank_80 : decode cX9_rank 80 = .ok (.ifCond .ne 6, 3) := by decide +kernel
theorem dX9_rank_83 : decode cX9_rank 83 = .ok (.goto 109, 3) := by decide +kernel
theorem dX9_rank_86 : decode cX9_rank 86 = .ok (.aload_n 0, 1) := by decide +kernel
theorem dX9_rank_87 : decode cX9_rank 87 = .ok (.iload_n 3, 1) := by decide +kernel
theorem dX9_rank_88 : decode cX9_rank 88 = .ok (.iload_n 1, 1) := by decide +kernel
theorem dX9_rank_89 : decode cX9_rank 89 = .ok (.invokevirtual 163, 3) := by decide +kernel
theorem dX9_rank_92 : decode cX9_rank 92 = .ok (.aload_n 0, 1) := by decide +kernel
theorem dX9_rank_93 : decode cX9_rank 93 = .ok (.iload_n 3, 1) := by decide +kernel
theorem dX9_rank_94 : decode cX9_rank 94 = .ok (.iload_n 2, 1) := by decide +kernel
theorem dX9_rank_95 : decode cX9_rank 95 = .ok (.invokevirtual 163, 3) := by decide +kernel
theorem dX9_rank_98 : decode cX9_rank 98 = .ok (.dadd, 1) := by decide +kernel
theorem dX9_rank_99 : decode cX9_rank 99 = .ok (.dstore 4, 2) := by decide +kernel
theorem dX9_rank_101 : decode cX9_rank 101 = .ok (.aload_n 0, 1) := by decide +kernel
theorem dX9_rank_102 : decode cX9_rank 102 = .ok (.getfield 152, 3) := by decide +kernel
theorem dX9_rank_105 : decode cX9_rank 105 = .ok (.istore 6, 2) := by decide +kernel
theorem dX9_rank_107 : decode cX9_rank 107 = .ok (.iload 6, 2) := by decide +kernel
theorem dX9_rank_109 : decode cX9_rank 109 = .ok (.ifCond .le 56, 3) := by decide +kernel
theorem dX9_rank_112 : decode cX9_rank 112 = .ok (.aload_n 0, 1) := by decide +kernel
theorem dX9_rank_113 : decode cX9_rank 113 = .ok (.getfield 35, 3) := by decide +kernel
theorem dX9_rank_116 : decode cX9_rank 116 = .ok (.iload 6, 2) := by decide +kernel
theorem dX9_rank_118 : decode cX9_rank 118 = .ok (.iconst 1, 1) := by decide +kernel
theorem dX9_rank_119 : decode cX9_rank 119 = .ok (.isub, 1) := by decide +kernel
theorem dX9_rank_120 : decode cX9_rank 120 = .ok (.daload, 1) := by decide +kernel
theorem dX9_rank_121 : decode cX9_rank 121 = .ok (.dload 4, 2) := by decide +kernel
theorem dX9_rank_123 : decode cX9_rank 123 = .ok (.dcmp .g, 1) := by decide +kernel
theorem dX9_rank_124 : decode cX9_rank 124 = .ok (.ifCond .ge 41, 3) := by decide +kernel
theorem dX9_rank_127 : decode cX9_rank 127 = .ok (.aload_n 0, 1) := by decide +kernel
theorem dX9_rank_128 : decode cX9_rank 128 = .ok (.getfield 32, 3) := by decide +kernel
theorem dX9_rank_131 : decode cX9_rank 131 = .ok (.iload 6, 2) := by decide +kernel
theorem dX9_rank_133 : decode cX9_rank 133 = .ok (.aload_n 0, 1) := by decide +kernel
theorem dX9_rank_134 : decode cX9_rank 134 = .ok (.getfield 32, 3) := by decide +kernel
theorem dX9_rank_137 : decode cX9_rank 137 = .ok (.iload 6, 2) := by decide +kernel
theorem dX9_rank_139 : decode cX9_rank 139 = .ok (.iconst 1, 1) := by decide +kernel
theorem dX9_rank_140 : decode cX9_rank 140 = .ok (.isub, 1) := by decide +kernel
theorem dX9_rank_141 : decode cX9_rank 141 = .ok (.iaload, 1) := by decide +kernel
theorem dX9_rank_142 : decode cX9_rank 142 = .ok (.iastore, 1) := by decide +kernel
theorem dX9_rank_143 : decode cX9_rank 143 = .ok (.aload_n 0, 1) := by decide +kernel
theorem dX9_rank_144 : decode cX9_rank 144 = .ok (.getfield 35, 3) := by decide +kernel
theorem dX9_rank_147 : decode cX9_rank 147 = .ok (.iload 6, 2) := by decide +kernel
theorem dX9_rank_149 : decode cX9_rank 149 = .ok (.aload_n 0, 1) := by decide +kernel
theorem dX9_rank_150 : decode cX9_rank 150 = .ok (.getfield 35, 3) := by decide +kernel
theorem dX9_rank_153 : decode cX9_rank 153 = .ok (.iload 6, 2) := by decide +kernel
theorem dX9_rank_155 : decode cX9_rank 155 = .ok (.iconst 1, 1) := by decide +kernel
theorem dX9_rank_156 : decode cX9_rank 156 = .ok (.isub, 1) := by decide +kernel
theorem dX9_rank_157 : decode cX9_rank 157 = .ok (.daload, 1) := by decide +kernel
theorem dX9_rank_158 : decode cX9_rank 158 = .ok (.dastore, 1) := by decide +kernel
theorem dX9_rank_159 : decode cX9_rank 159 = .ok (.iinc 6 (-1), 3) := by decide +kernel
theorem dX9_rank_162 : decode cX9_rank 162 = .ok (.goto (-55), 3) := by decide +kernel
theorem dX9_rank_165 : decode cX9_rank 165 = .ok (.aload_n 0, 1) := by decide +kernel
theorem dX9_rank_166 : decode cX9_rank 166 = .ok (.getfield 32, 3) := by decide +kernel
theorem dX9_rank_169 : decode cX9_rank 169 = .ok (.iload 6, 2) := by decide +kernel
theorem dX9_rank_171 : decode cX9_rank 171 = .ok (.iload_n 3, 1) := by decide +kernel
theorem dX9_rank_172 : decode cX9_rank 172 = .ok (.iastore, 1) := by decide +kernel
theorem dX9_rank_173 : decode cX9_rank 173 = .ok (.aload_n 0, 1) := by decide +kernel
theorem dX9_rank_174 : decode cX9_rank 174 = .ok (.getfield 35, 3) := by decide +kernel
theorem dX9_rank_177 : decode cX9_rank 177 = .ok (.iload 6, 2) := by decide +kernel
theorem dX9_rank_179 : decode cX9_rank 179 = .ok (.dload 4, 2) := by decide +kernel
theorem dX9_rank_181 : decode cX9_rank 181 = .ok (.dastore, 1) := by decide +kernel
theorem dX9_rank_182 : decode cX9_rank 182 = .ok (.aload_n 0, 1) := by decide +kernel
theorem dX9_rank_183 : decode cX9_rank 183 = .ok (.dup, 1) := by decide +kernel
theorem dX9_rank_184 : decode cX9_rank 184 = .ok (.getfield 152, 3) := by decide +kernel
theorem dX9_rank_187 : decode cX9_rank 187 = .ok (.iconst 1, 1) := by decide +kernel
theorem dX9_rank_188 : decode cX9_rank 188 = .ok (.iadd, 1) := by decide +kernel
theorem dX9_rank_189 : decode cX9_rank 189 = .ok (.putfield 152, 3) := by decide +kernel
theorem dX9_rank_192 : decode cX9_rank 192 = .ok (.iinc 3 1, 3) := by decide +kernel
theorem dX9_rank_195 : decode cX9_rank 195 = .ok (.goto (-142), 3) := by decide +kernel
theorem dX9_rank_198 : decode cX9_rank 198 = .ok (.aload_n 0, 1) := by decide +kernel
theorem dX9_rank_199 : decode cX9_rank 199 = .ok (.getfield 152, 3) := by decide +kernel
theorem dX9_rank_202 : decode cX9_rank 202 = .ok (.ireturn, 1) := by decide +kernel
theorem dX9_result_0 : decode cX9_result 0 = .ok (.aload_n 0, 1) := by decide +kernel
theorem dX9_result_1 : decode cX9_result 1 = .ok (.iconst 0, 1) := by decide +kernel
theorem dX9_result_2 : decode cX9_result 2 = .ok (.putfield 57, 3) := by decide +kernel
theorem dX9_result_5 : decode cX9_result 5 = .ok (.iload_n 1, 1) := by decide +kernel
theorem dX9_result_6 : decode cX9_result 6 = .ok (.ifCond .lt 11, 3) := by decide +kernel
theorem dX9_result_9 : decode cX9_result 9 = .ok (.iload_n 1, 1) := by decide +kernel
theorem dX9_result_10 : decode cX9_result 10 = .ok (.aload_n 0, 1) := by decide +kernel
theorem dX9_result_11 : decode cX9_result 11 = .ok (.getfield 152, 3) := by decide +kernel
theorem dX9_result_14 : decode cX9_result 14 = .ok (.if_icmp .lt 9, 3) := by decide +kernel
theorem dX9_result_17 : decode cX9_result 17 = .ok (.aload_n 0, 1) := by decide +kernel
theorem dX9_result_18 : decode cX9_result 18 = .ok (.iconst 1, 1) := by decide +kernel
theorem dX9_result_19 : decode cX9_result 19 = .ok (.invokevirtual 64, 3) := by decide +kernel
theorem dX9_result_22 : decode cX9_result 22 = .ok (.ireturn, 1) := by decide +kernel
theorem dX9_result_23 : decode cX9_result 23 = .ok (.aload_n 0, 1) := by decide +kernel
theorem dX9_result_24 : decode cX9_result 24 = .ok (.getfield 32, 3) := by decide +kernel
theorem dX9_result_27 : decode cX9_result 27 = .ok (.iload_n 1, 1) := by decide +kernel
theorem dX9_result_28 : decode cX9_result 28 = .ok (.iaload, 1) := by decide +kernel
theorem dX9_result_29 : decode cX9_result 29 = .ok (.ireturn, 1) := by decide +kernel
theorem dX9_score_0 : decode cX9_score 0 = .ok (.aload_n 0, 1) := by decide +kernel
theorem dX9_score_1 : decode cX9_score 1 = .ok (.iconst 0, 1) := by decide +kernel
theorem dX9_score_2 : decode cX9_score 2 = .ok (.putfield 57, 3) := by decide +kernel
theorem dX9_score_5 : decode cX9_score 5 = .ok (.iload_n 1, 1) := by decide +kernel
theorem dX9_score_6 : decode cX9_score 6 = .ok (.ifCond .lt 11, 3) := by decide +kernel
theorem dX9_score_9 : decode cX9_score 9 = .ok (.iload_n 1, 1) := by decide +kernel
theorem dX9_score_10 : decode cX9_score 10 = .ok (.aload_n 0, 1) := by decide +kernel
theorem dX9_score_11 : decode cX9_score 11 = .ok (.getfield 152, 3) := by decide +kernel
theorem dX9_score_14 : decode cX9_score 14 = .ok (.if_icmp .lt 10, 3) := by decide +kernel
theorem dX9_score_17 : decode cX9_score 17 = .ok (.aload_n 0, 1) := by decide +kernel
theorem dX9_score_18 : decode cX9_score 18 = .ok (.iconst 1, 1) := by decide +kernel
theorem dX9_score_19 : decode cX9_score 19 = .ok (.invokevirtual 64, 3) := by decide +kernel
theorem dX9_score_22 : decode cX9_score 22 = .ok (.i2d, 1) := by decide +kernel
theorem dX9_score_23 : decode cX9_score 23 = .ok (.dreturn, 1) := by decide +kernel
theorem dX9_score_24 : decode cX9_score 24 = .ok (.aload_n 0, 1) := by decide +kernel
theorem dX9_score_25 : decode cX9_score 25 = .ok (.getfield 155, 3) := by decide +kernel
theorem dX9_score_28 : decode cX9_score 28 = .ok (.ifCond .ne 10, 3) := by decide +kernel
theorem dX9_score_31 : decode cX9_score 31 = .ok (.aload_n 0, 1) := by decide +kernel
theorem dX9_score_32 : decode cX9_score 32 = .ok (.iconst 2, 1) := by decide +kernel
theorem dX9_score_33 : decode cX9_score 33 = .ok (.invokevirtual 64, 3) := by decide +kernel
theorem dX9_score_36 : decode cX9_score 36 = .ok (.i2d, 1) := by decide +kernel
theorem dX9_score_37 : decode cX9_score 37 = .ok (.dreturn, 1) := by decide +kernel
theorem dX9_score_38 : decode cX9_score 38 = .ok (.aload_n 0, 1) := by decide +kernel
theorem dX9_score_39 : decode cX9_score 39 = .ok (.getfield 35, 3) := by decide +kernel
theorem dX9_score_42 : decode cX9_score 42 = .ok (.iload_n 1, 1) := by decide +kernel
theorem dX9_score_43 : decode cX9_score 43 = .ok (.daload, 1) := by decide +kernel
theorem dX9_score_44 : decode cX9_score 44 = .ok (.dreturn, 1) := by decide +kernel
theorem dX9_byteOf_0 : decode cX9_byteOf 0 = .ok (.aload_n 0, 1) := by decide +kernel
theorem dX9_byteOf_1 : decode cX9_byteOf 1 = .ok (.iconst 0, 1) := by decide +kernel
theorem dX9_byteOf_2 : decode cX9_byteOf 2 = .ok (.putfield 57, 3) := by decide +kernel
theorem dX9_byteOf_5 : decode cX9_byteOf 5 = .ok (.iload_n 1, 1) := by decide +kernel
theorem dX9_byteOf_6 : decode cX9_byteOf 6 = .ok (.ifCond .lt 21, 3) := by decide +kernel
theorem dX9_byteOf_9 : decode cX9_byteOf 9 = .ok (.iload_n 1, 1) := by decide +kernel
theorem dX9_byteOf_10 : decode cX9_byteOf 10 = .ok (.aload_n 0, 1) := by decide +kernel
theorem dX9_byteOf_11 : decode cX9_byteOf 11 = .ok (.getfield 54, 3) := by decide +kernel
theorem dX9_byteOf_14 : decode cX9_byteOf 14 = .ok (.if_icmp .ge 13, 3) := by decide +kernel
theorem dX9_byteOf_17 : decode cX9_byteOf 17 = .ok (.iload_n 2, 1) := by decide +kernel
theorem dX9_byteOf_18 : decode cX9_byteOf 18 = .ok (.ifCond .lt 9, 3) := by decide +kernel
theorem dX9_byteOf_21 : decode cX9_byteOf 21 = .ok (.iload_n 2, 1) := by decide +kernel
theorem dX9_byteOf_22 : decode cX9_byteOf 22 = .ok (.bipush 15, 2) := by decide +kernel
theorem dX9_byteOf_24 : decode cX9_byteOf 24 = .ok (.if_icmp .le 9, 3) := by decide +kernel
theorem dX9_byteOf_27 : decode cX9_byteOf 27 = .ok (.aload_n 0, 1) := by decide +kernel
theorem dX9_byteOf_28 : decode cX9_byteOf 28 = .ok (.iconst 1, 1) := by decide +kernel
theorem dX9_byteOf_29 : decode cX9_byteOf 29 = .ok (.invokevirtual 64, 3) := by decide +kernel
theorem dX9_byteOf_32 : decode cX9_byteOf 32 = .ok (.ireturn, 1) := by decide +kernel
theorem dX9_byteOf_33 : decode cX9_byteOf 33 = .ok (.iconst 0, 1) := by decide +kernel
theorem dX9_byteOf_34 : decode cX9_byteOf 34 = .ok (.istore_n 3, 1) := by decide +kernel
theorem dX9_byteOf_35 : decode cX9_byteOf 35 = .ok (.iload_n 3, 1) := by decide +kernel
theorem dX9_byteOf_36 : decode cX9_byteOf 36 = .ok (.aload_n 0, 1) := by decide +kernel
theorem dX9_byteOf_37 : decode cX9_byteOf 37 = .ok (.getfield 125, 3) := by decide +kernel
theorem dX9_byteOf_40 : decode cX9_byteOf 40 = .ok (.if_icmp .ge 78, 3) := by decide +kernel
theorem dX9_byteOf_43 : decode cX9_byteOf 43 = .ok (.aload_n 0, 1) := by decide +kernel
theorem dX9_byteOf_44 : decode cX9_byteOf 44 = .ok (.getfield 26, 3) := by decide +kernel
theorem dX9_byteOf_47 : decode cX9_byteOf 47 = .ok (.iload_n 3, 1) := by decide +kernel
theorem dX9_byteOf_48 : decode cX9_byteOf 48 = .ok (.laload, 1) := by decide +kernel
theorem dX9_byteOf_49 : decode cX9_byteOf 49 = .ok (.iload_n 1, 1) := by decide +kernel
theorem dX9_byteOf_50 : decode cX9_byteOf 50 = .ok (.invokestatic 89, 3) := by decide +kernel
theorem dX9_byteOf_53 : decode cX9_byteOf 53 = .ok (.ifCond .ne 6, 3) := by decide +kernel
theorem dX9_byteOf_56 : decode cX9_byteOf 56 = .ok (.goto 56, 3) := by decide +kernel
theorem dX9_byteOf_59 : decode cX9_byteOf 59 = .ok (.aload_n 0, 1) := by decide +kernel
theorem dX9_byteOf_60 : decode cX9_byteOf 60 = .ok (.aload_n 0, 1) := by decide +kernel
theorem dX9_byteOf_61 : decode cX9_byteOf 61 = .ok (.getfield 22, 3) := by decide +kernel
theorem dX9_byteOf_64 : decode cX9_byteOf 64 = .ok (.iload_n 3, 1) := by decide +kernel
theorem dX9_byteOf_65 : decode cX9_byteOf 65 = .ok (.laload, 1) := by decide +kernel
theorem dX9_byteOf_66 : decode cX9_byteOf 66 = .ok (.invokevirtual 114, 3) := by decide +kernel
theorem dX9_byteOf_69 : decode cX9_byteOf 69 = .ok (.bipush 16, 2) := by decide +kernel
theorem dX9_byteOf_71 : decode cX9_byteOf 71 = .ok (.aload_n 0, 1) := by decide +kernel
theorem dX9_byteOf_72 : decode cX9_byteOf 72 = .ok (.getfield 26, 3) := by decide +kernel
theorem dX9_byteOf_75 : decode cX9_byteOf 75 = .ok (.iload_n 3, 1) := by decide +kernel
theorem dX9_byteOf_76 : decode cX9_byteOf 76 = .ok (.laload, 1) := by decide +kernel
theorem dX9_byteOf_77 : decode cX9_byteOf 77 = .ok (.lconst 1, 1) := by decide +kernel
theorem dX9_byteOf_78 : decode cX9_byteOf 78 = .ok (.iload_n 1, 1) := by decide +kernel
theorem dX9_byteOf_79 : decode cX9_byteOf 79 = .ok (.lshl, 1) := by decide +kernel
theorem dX9_byteOf_80 : decode cX9_byteOf 80 = .ok (.lconst 1, 1) := by decide +kernel
theorem dX9_byteOf_81 : decode cX9_byteOf 81 = .ok (.lsub, 1) := by decide +kernel
theorem dX9_byteOf_82 : decode cX9_byteOf 82 = .ok (.land, 1) := by decide +kernel
theorem dX9_byteOf_83 : decode cX9_byteOf 83 = .ok (.invokestatic 93, 3) := by decide +kernel
theorem dX9_byteOf_86 : decode cX9_byteOf 86 = .ok (.imul, 1) := by decide +kernel
theorem dX9_byteOf_87 : decode cX9_byteOf 87 = .ok (.iload_n 2, 1) := by decide +kernel
theorem dX9_byteOf_88 : decode cX9_byteOf 88 = .ok (.iadd, 1) := by decide +kernel
theorem dX9_byteOf_89 : decode cX9_byteOf 89 = .ok (.istore 4, 2) := by decide +kernel
theorem dX9_byteOf_91 : decode cX9_byteOf 91 = .ok (.iload 4, 2) := by decide +kernel
theorem dX9_byteOf_93 : decode cX9_byteOf 93 = .ok (.aload_n 0, 1) := by decide +kernel
theorem dX9_byteOf_94 : decode cX9_byteOf 94 = .ok (.getfield 97, 3) := by decide +kernel
theorem dX9_byteOf_97 : decode cX9_byteOf 97 = .ok (.if_icmp .ge 13, 3) := by decide +kernel
theorem dX9_byteOf_100 : decode cX9_byteOf 100 = .ok (.aload_n 0, 1) := by decide +kernel
theorem dX9_byteOf_101 : decode cX9_byteOf 101 = .ok (.getfield 39, 3) := by decide +kernel
theorem dX9_byteOf_104 : decode cX9_byteOf 104 = .ok (.iload 4, 2) := by decide +kernel
theorem dX9_byteOf_106 : decode cX9_byteOf 106 = .ok (.baload, 1) := by decide +kernel
theorem dX9_byteOf_107 : decode cX9_byteOf 107 = .ok (.goto 4, 3) := by decide +kernel
theorem dX9_byteOf_110 : decode cX9_byteOf 110 = .ok (.iconst 0, 1) := by decide +kernel
theorem dX9_byteOf_111 : decode cX9_byteOf 111 = .ok (.ireturn, 1) := by decide +kernel
theorem dX9_byteOf_112 : decode cX9_byteOf 112 = .ok (.iinc 3 1, 3) := by decide +kernel
theorem dX9_byteOf_115 : decode cX9_byteOf 115 = .ok (.goto (-80), 3) := by decide +kernel
theorem dX9_byteOf_118 : decode cX9_byteOf 118 = .ok (.iconst 0, 1) := by decide +kernel
theorem dX9_byteOf_119 : decode cX9_byteOf 119 = .ok (.ireturn, 1) := by decide +kernel
theorem dX9_run_0 : decode cX9_run 0 = .ok (.aload_n 0, 1) := by decide +kernel
theorem dX9_run_1 : decode cX9_run 1 = .ok (.iconst 0, 1) := by decide +kernel
theorem dX9_run_2 : decode cX9_run 2 = .ok (.putfield 57, 3) := by decide +kernel
theorem dX9_run_5 : decode cX9_run 5 = .ok (.iload_n 1, 1) := by decide +kernel
theorem dX9_run_6 : decode cX9_run 6 = .ok (.ifCond .lt 11, 3) := by decide +kernel
theorem dX9_run_9 : decode cX9_run 9 = .ok (.iload_n 1, 1) := by decide +kernel
theorem dX9_run_10 : decode cX9_run 10 = .ok (.aload_n 0, 1) := by decide +kernel
theorem dX9_run_11 : decode cX9_run 11 = .ok (.getfield 125, 3) := by decide +kernel
theorem dX9_run_14 : decode cX9_run 14 = .ok (.if_icmp .lt 9, 3) := by decide +kernel
theorem dX9_run_17 : decode cX9_run 17 = .ok (.aload_n 0, 1) := by decide +kernel
theorem dX9_run_18 : decode cX9_run 18 = .ok (.iconst 1, 1) := by decide +kernel
theorem dX9_run_19 : decode cX9_run 19 = .ok (.invokevirtual 64, 3) := by decide +kernel
theorem dX9_run_22 : decode cX9_run 22 = .ok (.ireturn, 1) := by decide +kernel
theorem dX9_run_23 : decode cX9_run 23 = .ok (.iload_n 2, 1) := by decide +kernel
theorem dX9_run_24 : decode cX9_run 24 = .ok (.ifCond .lt 8, 3) := by decide +kernel
theorem dX9_run_27 : decode cX9_run 27 = .ok (.iload_n 2, 1) := by decide +kernel
theorem dX9_run_28 : decode cX9_run 28 = .ok (.iconst 3, 1) := by decide +kernel
theorem dX9_run_29 : decode cX9_run 29 = .ok (.if_icmp .le 9, 3) := by decide +kernel
theorem dX9_run_32 : decode cX9_run 32 = .ok (.aload_n 0, 1) := by decide +kernel
theorem dX9_run_33 : decode cX9_run 33 = .ok (.iconst 2, 1) := by decide +kernel
theorem dX9_run_34 : decode cX9_run 34 = .ok (.invokevirtual 64, 3) := by decide +kernel
theorem dX9_run_37 : decode cX9_run 37 = .ok (.ireturn, 1) := by decide +kernel
theorem dX9_run_38 : decode cX9_run 38 = .ok (.iload_n 2, 1) := by decide +kernel
theorem dX9_run_39 : decode cX9_run 39 = .ok (.ifCond .ne 10, 3) := by decide +kernel
theorem dX9_run_42 : decode cX9_run 42 = .ok (.aload_n 0, 1) := by decide +kernel
theorem dX9_run_43 : decode cX9_run 43 = .ok (.getfield 29, 3) := by decide +kernel
theorem dX9_run_46 : decode cX9_run 46 = .ok (.iload_n 1, 1) := by decide +kernel
theorem dX9_run_47 : decode cX9_run 47 = .ok (.iaload, 1) := by decide +kernel
theorem dX9_run_48 : decode cX9_run 48 = .ok (.ireturn, 1) := by decide +kernel
theorem dX9_run_49 : decode cX9_run 49 = .ok (.iload_n 2, 1) := by decide +kernel
theorem dX9_run_50 : decode cX9_run 50 = .ok (.iconst 1, 1) := by decide +kernel
theorem dX9_run_51 : decode cX9_run 51 = .ok (.if_icmp .ne 13, 3) := by decide +kernel
theorem dX9_run_54 : decode cX9_run 54 = .ok (.aload_n 0, 1) := by decide +kernel
theorem dX9_run_55 : decode cX9_run 55 = .ok (.getfield 26, 3) := by decide +kernel
theorem dX9_run_58 : decode cX9_run 58 = .ok (.iload_n 1, 1) := by decide +kernel
theorem dX9_run_59 : decode cX9_run 59 = .ok (.laload, 1) := by decide +kernel
theorem dX9_run_60 : decode cX9_run 60 = .ok (.invokestatic 93, 3) := by decide +kernel
theorem dX9_run_63 : decode cX9_run 63 = .ok (.ireturn, 1) := by decide +kernel
theorem dX9_run_64 : decode cX9_run 64 = .ok (.iload_n 2, 1) := by decide +kernel
theorem dX9_run_65 : decode cX9_run 65 = .ok (.iconst 3, 1) := by decide +kernel
theorem dX9_run_66 : decode cX9_run 66 = .ok (.if_icmp .ne 18, 3) := by decide +kernel
theorem dX9_run_69 : decode cX9_run 69 = .ok (.aload_n 0, 1) := by decide +kernel
theorem dX9_run_70 : decode cX9_run 70 = .ok (.aload_n 0, 1) := by decide +kernel
theorem dX9_run_71 : decode cX9_run 71 = .ok (.getfield 22, 3) := by decide +kernel
theorem dX9_run_74 : decode cX9_run 74 = .ok (.iload_n 1, 1) := by decide +kernel
theorem dX9_run_75 : decode cX9_run 75 = .ok (.laload, 1) := by decide +kernel
theorem dX9_run_76 : decode cX9_run 76 = .ok (.invokevirtual 114, 3) := by decide +kernel
theorem dX9_run_79 : decode cX9_run 79 = .ok (.aload_n 0, 1) := by decide +kernel
theorem dX9_run_80 : decode cX9_run 80 = .ok (.getfield 97, 3) := by decide +kernel
theorem dX9_run_83 : decode cX9_run 83 = .ok (.ireturn, 1) := by decide +kernel
theorem dX9_run_84 : decode cX9_run 84 = .ok (.iconst 0, 1) := by decide +kernel
theorem dX9_run_85 : decode cX9_run 85 = .ok (.istore_n 3, 1) := by decide +kernel
theorem dX9_run_86 : decode cX9_run 86 = .ok (.iload_n 3, 1) := by decide +kernel
theorem dX9_run_87 : decode cX9_run 87 = .ok (.aload_n 0, 1) := by decide +kernel
theorem dX9_run_88 : decode cX9_run 88 = .ok (.getfield 54, 3) := by decide +kernel
theorem dX9_run_91 : decode cX9_run 91 = .ok (.if_icmp .ge 24, 3) := by decide +kernel
theorem dX9_run_94 : decode cX9_run 94 = .ok (.aload_n 0, 1) := by decide +kernel
theorem dX9_run_95 : decode cX9_run 95 = .ok (.getfield 26, 3) := by decide +kernel
theorem dX9_run_98 : decode cX9_run 98 = .ok (.iload_n 1, 1) := by decide +kernel
theorem dX9_run_99 : decode cX9_run 99 = .ok (.laload, 1) := by decide +kernel
theorem dX9_run_100 : decode cX9_run 100 = .ok (.iload_n 3, 1) := by decide +kernel
theorem dX9_run_101 : decode cX9_run 101 = .ok (.invokestatic 89, 3) := by decide +kernel
theorem dX9_run_104 : decode cX9_run 104 = .ok (.ifCond .eq 5, 3) := by decide +kernel
theorem dX9_run_107 : decode cX9_run 107 = .ok (.iload_n 3, 1) := by decide +kernel
theorem dX9_run_108 : decode cX9_run 108 = .ok (.ireturn, 1) := by decide +kernel
theorem dX9_run_109 : decode cX9_run 109 = .ok (.iinc 3 1, 3) := by decide +kernel
theorem dX9_run_112 : decode cX9_run 112 = .ok (.goto (-26), 3) := by decide +kernel
theorem dX9_run_115 : decode cX9_run 115 = .ok (.iconst (-1), 1) := by decide +kernel
theorem dX9_run_116 : decode cX9_run 116 = .ok (.ireturn, 1) := by decide +kernel
theorem dX9_count_0 : decode cX9_count 0 = .ok (.aload_n 0, 1) := by decide +kernel
theorem dX9_count_1 : decode cX9_count 1 = .ok (.iconst 0, 1) := by decide +kernel
theorem dX9_count_2 : decode cX9_count 2 = .ok (.putfield 57, 3) := by decide +kernel
theorem dX9_count_5 : decode cX9_count 5 = .ok (.iload_n 1, 1) := by decide +kernel
theorem dX9_count_6 : decode cX9_count 6 = .ok (.tableswitch 120 0 9 #[54, 59, 72, 77, 82, 95, 100, 105, 110, 115], 54) := by decide +kernel
theorem dX9_count_60 : decode cX9_count 60 = .ok (.aload_n 0, 1) := by decide +kernel
theorem dX9_count_61 : decode cX9_count 61 = .ok (.getfield 74, 3) := by decide +kernel
theorem dX9_count_64 : decode cX9_count 64 = .ok (.ireturn, 1) := by decide +kernel
theorem dX9_count_65 : decode cX9_count 65 = .ok (.aload_n 0, 1) := by decide +kernel
theorem dX9_count_66 : decode cX9_count 66 = .ok (.getfield 74, 3) := by decide +kernel
theorem dX9_count_69 : decode cX9_count 69 = .ok (.aload_n 0, 1) := by decide +kernel
theorem dX9_count_70 : decode cX9_count 70 = .ok (.getfield 85, 3) := by decide +kernel
theorem dX9_count_73 : decode cX9_count 73 = .ok (.invokestatic 93, 3) := by decide +kernel
theorem dX9_count_76 : decode cX9_count 76 = .ok (.isub, 1) := by decide +kernel
theorem dX9_count_77 : decode cX9_count 77 = .ok (.ireturn, 1) := by decide +kernel
theorem dX9_count_78 : decode cX9_count 78 = .ok (.aload_n 0, 1) := by decide +kernel
theorem dX9_count_79 : decode cX9_count 79 = .ok (.invokevirtual 77, 3) := by decide +kernel
theorem dX9_count_82 : decode cX9_count 82 = .ok (.ireturn, 1) := by decide +kernel
theorem dX9_count_83 : decode cX9_count 83 = .ok (.aload_n 0, 1) := by decide +kernel
theorem dX9_count_84 : decode cX9_count 84 = .ok (.getfield 125, 3) := by decide +kernel
theorem dX9_count_87 : decode cX9_count 87 = .ok (.ireturn, 1) := by decide +kernel
theorem dX9_count_88 : decode cX9_count 88 = .ok (.aload_n 0, 1) := by decide +kernel
theorem dX9_count_89 : decode cX9_count 89 = .ok (.getfield 54, 3) := by decide +kernel
theorem dX9_count_92 : decode cX9_count 92 = .ok (.aload_n 0, 1) := by decide +kernel
theorem dX9_count_93 : decode cX9_count 93 = .ok (.getfield 118, 3) := by decide +kernel
theorem dX9_count_96 : decode cX9_count 96 = .ok (.invokestatic 93, 3) := by decide +kernel
theorem dX9_count_99 : decode cX9_count 99 = .ok (.isub, 1) := by decide +kernel
theorem dX9_count_100 : decode cX9_count 100 = .ok (.ireturn, 1) := by decide +kernel
theorem dX9_count_101 : decode cX9_count 101 = .ok (.aload_n 0, 1) := by decide +kernel
theorem dX9_count_102 : decode cX9_count 102 = .ok (.getfield 137, 3) := by decide +kernel
theorem dX9_count_105 : decode cX9_count 105 = .ok (.ireturn, 1) := by decide +kernel
theorem dX9_count_106 : decode cX9_count 106 = .ok (.aload_n 0, 1) := by decide +kernel
theorem dX9_count_107 : decode cX9_count 107 = .ok (.getfield 128, 3) := by decide +kernel
theorem dX9_count_110 : decode cX9_count 110 = .ok (.ireturn, 1) := by decide +kernel
theorem dX9_count_111 : decode cX9_count 111 = .ok (.aload_n 0, 1) := by decide +kernel
theorem dX9_count_112 : decode cX9_count 112 = .ok (.getfield 145, 3) := by decide +kernel
theorem dX9_count_115 : decode cX9_count 115 = .ok (.ireturn, 1) := by decide +kernel
theorem dX9_count_116 : decode cX9_count 116 = .ok (.aload_n 0, 1) := by decide +kernel
theorem dX9_count_117 : decode cX9_count 117 = .ok (.getfield 142, 3) := by decide +kernel
theorem dX9_count_120 : decode cX9_count 120 = .ok (.ireturn, 1) := by decide +kernel
theorem dX9_count_121 : decode cX9_count 121 = .ok (.aload_n 0, 1) := by decide +kernel
theorem dX9_count_122 : decode cX9_count 122 = .ok (.getfield 68, 3) := by decide +kernel
theorem dX9_count_125 : decode cX9_count 125 = .ok (.ireturn, 1) := by decide +kernel
theorem dX9_count_126 : decode cX9_count 126 = .ok (.iconst (-1), 1) := by decide +kernel
theorem dX9_count_127 : decode cX9_count 127 = .ok (.ireturn, 1) := by decide +kernel
end
section
theorem dX7_init_0 : decode cX7_init 0 = .ok (.aload_n 0, 1) := by decide +kernel
theorem dX7_init_1 : decode cX7_init 1 = .ok (.invokespecial 3, 3) := by decide +kernel
theorem dX7_init_4 : decode cX7_init 4 = .ok (.aload_n 0, 1) := by decide +kernel
theorem dX7_init_5 : decode cX7_init 5 = .ok (.aload_n 1, 1) := by decide +kernel
theorem dX7_init_6 : decode cX7_init 6 = .ok (.putfield 9, 3) := by decide +kernel
theorem dX7_init_9 : decode cX7_init 9 = .ok (.aload_n 0, 1) := by decide +kernel
theorem dX7_init_10 : decode cX7_init 10 = .ok (.aload_n 2, 1) := by decide +kernel
theorem dX7_init_11 : decode cX7_init 11 = .ok (.putfield 15, 3) := by decide +kernel
theorem dX7_init_14 : decode cX7_init 14 = .ok (.aload_n 0, 1) := by decide +kernel
theorem dX7_init_15 : decode cX7_init 15 = .ok (.iload_n 3, 1) := by decide +kernel
theorem dX7_init_16 : decode cX7_init 16 = .ok (.putfield 19, 3) := by decide +kernel
theorem dX7_init_19 : decode cX7_init 19 = .ok (.aload_n 0, 1) := by decide +kernel
theorem dX7_init_20 : decode cX7_init 20 = .ok (.new 23, 3) := by decide +kernel
theorem dX7_init_23 : decode cX7_init 23 = .ok (.dup, 1) := by decide +kernel
theorem dX7_init_24 : decode cX7_init 24 = .ok (.invokespecial 25, 3) := by decide +kernel
theorem dX7_init_27 : decode cX7_init 27 = .ok (.putfield 26, 3) := by decide +kernel
theorem dX7_init_30 : decode cX7_init 30 = .ok (.aload_n 0, 1) := by decide +kernel
theorem dX7_init_31 : decode cX7_init 31 = .ok (.new 30, 3) := by decide +kernel
theorem dX7_init_34 : decode cX7_init 34 = .ok (.dup, 1) := by decide +kernel
theorem dX7_init_35 : decode cX7_init 35 = .ok (.sipush 800, 3) := by decide +kernel
theorem dX7_init_38 : decode cX7_init 38 = .ok (.invokespecial 32, 3) := by decide +kernel
theorem dX7_init_41 : decode cX7_init 41 = .ok (.putfield 35, 3) := by decide +kernel
theorem dX7_init_44 : decode cX7_init 44 = .ok (.aload_n 0, 1) := by decide +kernel
theorem dX7_init_45 : decode cX7_init 45 = .ok (.new 30, 3) := by decide +kernel
theorem dX7_init_48 : decode cX7_init 48 = .ok (.dup, 1) := by decide +kernel
theorem dX7_init_49 : decode cX7_init 49 = .ok (.sipush 800, 3) := by decide +kernel
theorem dX7_init_52 : decode cX7_init 52 = .ok (.invokespecial 32, 3) := by decide +kernel
theorem dX7_init_55 : decode cX7_init 55 = .ok (.putfield 39, 3) := by decide +kernel
theorem dX7_init_58 : decode cX7_init 58 = .ok (.aload_n 0, 1) := by decide +kernel
theorem dX7_init_59 : decode cX7_init 59 = .ok (.new 42, 3) := by decide +kernel
theorem dX7_init_62 : decode cX7_init 62 = .ok (.dup, 1) := by decide +kernel
theorem dX7_init_63 : decode cX7_init 63 = .ok (.aload_n 2, 1) := by decide +kernel
theorem dX7_init_64 : decode cX7_init 64 = .ok (.invokevirtual 44, 3) := by decide +kernel
theorem dX7_init_67 : decode cX7_init 67 = .ok (.invokespecial 50, 3) := by decide +kernel
theorem dX7_init_70 : decode cX7_init 70 = .ok (.putfield 51, 3) := by decide +kernel
theorem dX7_init_73 : decode cX7_init 73 = .ok (.aload_n 0, 1) := by decide +kernel
theorem dX7_init_74 : decode cX7_init 74 = .ok (.iconst 0, 1) := by decide +kernel
theorem dX7_init_75 : decode cX7_init 75 = .ok (.putfield 55, 3) := by decide +kernel
theorem dX7_init_78 : decode cX7_init 78 = .ok (.aload_n 0, 1) := by decide +kernel
theorem dX7_init_79 : decode cX7_init 79 = .ok (.iconst 0, 1) := by decide +kernel
theorem dX7_init_80 : decode cX7_init 80 = .ok (.putfield 58, 3) := by decide +kernel
theorem dX7_init_83 : decode cX7_init 83 = .ok (.aload_n 0, 1) := by decide +kernel
theorem dX7_init_84 : decode cX7_init 84 = .ok (.iconst 0, 1) := by decide +kernel
theorem dX7_init_85 : decode cX7_init 85 = .ok (.putfield 61, 3) := by decide +kernel
theorem dX7_init_88 : decode cX7_init 88 = .ok (.aload_n 0, 1) := by decide +kernel
theorem dX7_init_89 : decode cX7_init 89 = .ok (.iconst 0, 1) := by decide +kernel
theorem dX7_init_90 : decode cX7_init 90 = .ok (.putfield 64, 3) := by decide +kernel
theorem dX7_init_93 : decode cX7_init 93 = .ok (.return_, 1) := by decide +kernel
theorem dX7_size_0 : decode cX7_size 0 = .ok (.aload_n 0, 1) := by decide +kernel
theorem dX7_size_1 : decode cX7_size 1 = .ok (.getfield 26, 3) := by decide +kernel
theorem dX7_size_4 : decode cX7_size 4 = .ok (.invokevirtual 67, 3) := by decide +kernel
theorem dX7_size_7 : decode cX7_size 7 = .ok (.ireturn, 1) := by decide +kernel
theorem dX7_levelOf_0 : decode cX7_levelOf 0 = .ok (.aload_n 0, 1) := by decide +kernel
theorem dX7_levelOf_1 : decode cX7_levelOf 1 = .ok (.iload_n 1, 1) := by decide +kernel
theorem dX7_levelOf_2 : decode cX7_levelOf 2 = .ok (.invokevirtual 68, 3) := by decide +kernel
theorem dX7_levelOf_5 : decode cX7_levelOf 5 = .ok (.ifCond .eq 20, 3) := by decide +kernel
theorem dX7_levelOf_8 : decode cX7_levelOf 8 = .ok (.aload_n 0, 1) := by decide +kernel
theorem dX7_levelOf_9 : decode cX7_levelOf 9 = .ok (.getfield 26, 3) := by decide +kernel
theorem dX7_levelOf_12 : decode cX7_levelOf 12 = .ok (.iload_n 1, 1) := by decide +kernel
theorem dX7_levelOf_13 : decode cX7_levelOf 13 = .ok (.invokevirtual 72, 3) := by decide +kernel
theorem dX7_levelOf_16 : decode cX7_levelOf 16 = .ok (.checkcast 76, 3) := by decide +kernel
theorem dX7_levelOf_19 : decode cX7_levelOf 19 = .ok (.getfield 78, 3) := by decide +kernel
theorem dX7_levelOf_22 : decode cX7_levelOf 22 = .ok (.goto 4, 3) := by decide +kernel
theorem dX7_levelOf_25 : decode cX7_levelOf 25 = .ok (.iconst 0, 1) := by decide +kernel
theorem dX7_levelOf_26 : decode cX7_levelOf 26 = .ok (.ireturn, 1) := by decide +kernel
theorem dX7_blocksOf_0 : decode cX7_blocksOf 0 = .ok (.aload_n 0, 1) := by decide +kernel
theorem dX7_blocksOf_1 : decode cX7_blocksOf 1 = .ok (.iload_n 1, 1) := by decide +kernel
theorem dX7_blocksOf_2 : decode cX7_blocksOf 2 = .ok (.invokevirtual 68, 3) := by decide +kernel
theorem dX7_blocksOf_5 : decode cX7_blocksOf 5 = .ok (.ifCond .eq 21, 3) := by decide +kernel
theorem dX7_blocksOf_8 : decode cX7_blocksOf 8 = .ok (.aload_n 0, 1) := by decide +kernel
theorem dX7_blocksOf_9 : decode cX7_blocksOf 9 = .ok (.getfield 26, 3) := by decide +kernel
theorem dX7_blocksOf_12 : decode cX7_blocksOf 12 = .ok (.iload_n 1, 1) := by decide +kernel
theorem dX7_blocksOf_13 : decode cX7_blocksOf 13 = .ok (.invokevirtual 72, 3) := by decide +kernel
theorem dX7_blocksOf_16 : decode cX7_blocksOf 16 = .ok (.checkcast 76, 3) := by decide +kernel
theorem dX7_blocksOf_19 : decode cX7_blocksOf 19 = .ok (.getfield 81, 3) := by decide +kernel
theorem dX7_blocksOf_22 : decode cX7_blocksOf 22 = .ok (.arraylength, 1) := by decide +kernel
theorem dX7_blocksOf_23 : decode cX7_blocksOf 23 = .ok (.goto 4, 3) := by decide +kernel
theorem dX7_blocksOf_26 : decode cX7_blocksOf 26 = .ok (.iconst 0, 1) := by decide +kernel
theorem dX7_blocksOf_27 : decode cX7_blocksOf 27 = .ok (.ireturn, 1) := by decide +kernel
theorem dX7_firstBlockOf_0 : decode cX7_firstBlockOf 0 = .ok (.aload_n 0, 1) := by decide +kernel
theorem dX7_firstBlockOf_1 : decode cX7_firstBlockOf 1 = .ok (.iload_n 1, 1) := by decide +kernel
theorem dX7_firstBlockOf_2 : decode cX7_firstBlockOf 2 = .ok (.invokevirtual 85, 3) := by decide +kernel
theorem dX7_firstBlockOf_5 : decode cX7_firstBlockOf 5 = .ok (.ifCond .le 22, 3) := by decide +kernel
theorem dX7_firstBlockOf_8 : decode cX7_firstBlockOf 8 = .ok (.aload_n 0, 1) := by decide +kernel
theorem dX7_firstBlockOf_9 : decode cX7_firstBlockOf 9 = .ok (.getfield 26, 3) := by decide +kernel
theorem dX7_firstBlockOf_12 : decode cX7_firstBlockOf 12 = .ok (.iload_n 1, 1) := by decide +kernel
theorem dX7_firstBlockOf_13 : decode cX7_firstBlockOf 13 = .ok (.invokevirtual 72, 3) := by decide +kernel
theorem dX7_firstBlockOf_16 : decode cX7_firstBlockOf 16 = .ok (.checkcast 76, 3) := by decide +kernel
theorem dX7_firstBlockOf_19 : decode cX7_firstBlockOf 19 = .ok (.getfield 81, 3) := by decide +kernel
theorem dX7_firstBlockOf_22 : decode cX7_firstBlockOf 22 = .ok (.iconst 0, 1) := by decide +kernel
theorem dX7_firstBlockOf_23 : decode cX7_firstBlockOf 23 = .ok (.iaload, 1) := by decide +kernel
theorem dX7_firstBlockOf_24 : decode cX7_firstBlockOf 24 = .ok (.goto 4, 3) := by decide +kernel
theorem dX7_firstBlockOf_27 : decode cX7_firstBlockOf 27 = .ok (.iconst 0, 1) := by decide +kernel
theorem dX7_firstBlockOf_28 : decode cX7_firstBlockOf 28 = .ok (.ireturn, 1) := by decide +kernel
theorem dX7_bytesOf_0 : decode cX7_bytesOf 0 = .ok (.aload_n 0, 1) := by decide +kernel
theorem dX7_bytesOf_1 : decode cX7_bytesOf 1 = .ok (.iload_n 1, 1) := by decide +kernel
theorem dX7_bytesOf_2 : decode cX7_bytesOf 2 = .ok (.invokevirtual 68, 3) := by decide +kernel
theorem dX7_bytesOf_5 : decode cX7_bytesOf 5 = .ok (.ifCond .eq 20, 3) := by decide +kernel
theorem dX7_bytesOf_8 : decode cX7_bytesOf 8 = .ok (.aload_n 0, 1) := by decide +kernel
theorem dX7_bytesOf_9 : decode cX7_bytesOf 9 = .ok (.getfield 26, 3) := by decide +kernel
theorem dX7_bytesOf_12 : decode cX7_bytesOf 12 = .ok (.iload_n 1, 1) := by decide +kernel
theorem dX7_bytesOf_13 : decode cX7_bytesOf 13 = .ok (.invokevirtual 72, 3) := by decide +kernel
theorem dX7_bytesOf_16 : decode cX7_bytesOf 16 = .ok (.checkcast 76, 3) := by decide +kernel
theorem dX7_bytesOf_19 : decode cX7_bytesOf 19 = .ok (.getfield 89, 3) := by decide +kernel
theorem dX7_bytesOf_22 : decode cX7_bytesOf 22 = .ok (.goto 4, 3) := by decide +kernel
theorem dX7_bytesOf_25 : decode cX7_bytesOf 25 = .ok (.iconst 0, 1) := by decide +kernel
theorem dX7_bytesOf_26 : decode cX7_bytesOf 26 = .ok (.ireturn, 1) := by decide +kernel
theorem dX7_hasByte_0 : decode cX7_hasByte 0 = .ok (.aload_n 0, 1) := by decide +kernel
theorem dX7_hasByte_1 : decode cX7_hasByte 1 = .ok (.getfield 15, 3) := by decide +kernel
theorem dX7_hasByte_4 : decode cX7_hasByte 4 = .ok (.iload_n 1, 1) := by decide +kernel
theorem dX7_hasByte_5 : decode cX7_hasByte 5 = .ok (.iload_n 2, 1) := by decide +kernel
theorem dX7_hasByte_6 : decode cX7_hasByte 6 = .ok (.invokevirtual 91, 3) := by decide +kernel
theorem dX7_hasByte_9 : decode cX7_hasByte 9 = .ok (.ireturn, 1) := by decide +kernel
theorem dX7_byteAt_0 : decode cX7_byteAt 0 = .ok (.aload_n 0, 1) := by decide +kernel
theorem dX7_byteAt_1 : decode cX7_byteAt 1 = .ok (.getfield 15, 3) := by decide +kernel
theorem dX7_byteAt_4 : decode cX7_byteAt 4 = .ok (.iload_n 1, 1) := by decide +kernel
theorem dX7_byteAt_5 : decode cX7_byteAt 5 = .ok (.iload_n 2, 1) := by decide +kernel
theorem dX7_byteAt_6 : decode cX7_byteAt 6 = .ok (.invokevirtual 94, 3) := by decide +kernel
theorem dX7_byteAt_9 : decode cX7_byteAt 9 = .ok (.ireturn, 1) := by decide +kernel
theorem dX7_freeBlocks_0 : decode cX7_freeBlocks 0 = .ok (.aload_n 0, 1) := by decide +kernel
theorem dX7_freeBlocks_1 : decode cX7_freeBlocks 1 = .ok (.getfield 15, 3) := by decide +kernel
theorem dX7_freeBlocks_4 : decode cX7_freeBlocks 4 = .ok (.invokevirtual 98, 3) := by decide +kernel
theorem dX7_freeBlocks_7 : decode cX7_freeBlocks 7 = .ok (.ireturn, 1) := by decide +kernel
theorem dX7_blocksRead_0 : decode cX7_blocksRead 0 = .ok (.aload_n 0, 1) := by decide +kernel
theorem dX7_blocksRead_1 : decode cX7_blocksRead 1 = .ok (.getfield 55, 3) := by decide +kernel
theorem dX7_blocksRead_4 : decode cX7_blocksRead 4 = .ok (.ireturn, 1) := by decide +kernel
theorem dX7_blocksWritten_0 : decode cX7_blocksWritten 0 = .ok (.aload_n 0, 1) := by decide +kernel
theorem dX7_blocksWritten_1 : decode cX7_blocksWritten 1 = .ok (.getfield 58, 3) := by decide +kernel
theorem dX7_blocksWritten_4 : decode cX7_blocksWritten 4 = .ok (.ireturn, 1) := by decide +kernel
theorem dX7_mergesDone_0 : decode cX7_mergesDone 0 = .ok (.aload_n 0, 1) := by decide +kernel
theorem dX7_mergesDone_1 : decode cX7_mergesDone 1 = .ok (.getfield 61, 3) := by decide +kernel
theorem dX7_mergesDone_4 : decode cX7_mergesDone 4 = .ok (.ireturn, 1) := by decide +kernel
theorem dX7_mergesWithoutRoom_0 : decode cX7_mergesWithoutRoom 0 = .ok (.aload_n 0, 1) := by decide +kernel
theorem dX7_mergesWithoutRoom_1 : decode cX7_mergesWithoutRoom 1 = .ok (.getfield 64, 3) := by decide +kernel
theorem dX7_mergesWithoutRoom_4 : decode cX7_mergesWithoutRoom 4 = .ok (.ireturn, 1) := by decide +kernel
theorem dX7_append_0 : decode cX7_append 0 = .ok (.aload_n 0, 1) := by decide +kernel
theorem dX7_append_1 : decode cX7_append 1 = .ok (.getfield 35, 3) := by decide +kernel
theorem dX7_append_4 : decode cX7_append 4 = .ok (.invokevirtual 101, 3) := by decide +kernel
theorem dX7_append_7 : decode cX7_append 7 = .ok (.aload_n 0, 1) := by decide +kernel
theorem dX7_append_8 : decode cX7_append 8 = .ok (.getfield 35, 3) := by decide +kernel
theorem dX7_append_11 : decode cX7_append 11 = .ok (.aload_n 1, 1) := by decide +kernel
theorem dX7_append_12 : decode cX7_append 12 = .ok (.invokevirtual 104, 3) := by decide +kernel
theorem dX7_append_15 : decode cX7_append 15 = .ok (.aload_n 0, 1) := by decide +kernel
theorem dX7_append_16 : decode cX7_append 16 = .ok (.invokevirtual 108, 3) := by decide +kernel
theorem dX7_append_19 : decode cX7_append 19 = .ok (.ifCond .ne 5, 3) := by decide +kernel
theorem dX7_append_22 : decode cX7_append 22 = .ok (.iconst 0, 1) := by decide +kernel
theorem dX7_append_23 : decode cX7_append 23 = .ok (.ireturn, 1) := by decide +kernel
theorem dX7_append_24 : decode cX7_append 24 = .ok (.aload_n 0, 1) := by decide +kernel
theorem dX7_append_25 : decode cX7_append 25 = .ok (.aload_n 0, 1) := by decide +kernel
theorem dX7_append_26 : decode cX7_append 26 = .ok (.getfield 26, 3) := by decide +kernel
theorem dX7_append_29 : decode cX7_append 29 = .ok (.invokevirtual 67, 3) := by decide +kernel
theorem dX7_append_32 : decode cX7_append 32 = .ok (.iconst 0, 1) := by decide +kernel
theorem dX7_append_33 : decode cX7_append 33 = .ok (.invokevirtual 112, 3) := by decide +kernel
theorem dX7_append_36 : decode cX7_append 36 = .ok (.iconst 1, 1) := by decide +kernel
theorem dX7_append_37 : decode cX7_append 37 = .ok (.ireturn, 1) := by decide +kernel
theorem dX7_mergeFullLevels_0 : decode cX7_mergeFullLevels 0 = .ok (.iconst 0, 1) := by decide +kernel
theorem dX7_mergeFullLevels_1 : decode cX7_mergeFullLevels 1 = .ok (.istore_n 1, 1) := by decide +kernel
theorem dX7_mergeFullLevels_2 : decode cX7_mergeFullLevels 2 = .ok (.iload_n 1, 1) := by decide +kernel
theorem dX7_mergeFullLevels_3 : decode cX7_mergeFullLevels 3 = .ok (.bipush 60, 2) := by decide +kernel
theorem dX7_mergeFullLevels_5 : decode cX7_mergeFullLevels 5 = .ok (.if_icmp .ge 28, 3) := by decide +kernel
theorem dX7_mergeFullLevels_8 : decode cX7_mergeFullLevels 8 = .ok (.aload_n 0, 1) := by decide +kernel
theorem dX7_mergeFullLevels_9 : decode cX7_mergeFullLevels 9 = .ok (.invokevirtual 116, 3) := by decide +kernel
theorem dX7_mergeFullLevels_12 : decode cX7_mergeFullLevels 12 = .ok (.istore_n 2, 1) := by decide +kernel
theorem dX7_mergeFullLevels_13 : decode cX7_mergeFullLevels 13 = .ok (.iload_n 2, 1) := by decide +kernel
theorem dX7_mergeFullLevels_14 : decode cX7_mergeFullLevels 14 = .ok (.ifCond .lt 12, 3) := by decide +kernel
theorem dX7_mergeFullLevels_17 : decode cX7_mergeFullLevels 17 = .ok (.aload_n 0, 1) := by decide +kernel
theorem dX7_mergeFullLevels_18 : decode cX7_mergeFullLevels 18 = .ok (.iload_n 2, 1) := by decide +kernel
theorem dX7_mergeFullLevels_19 : decode cX7_mergeFullLevels 19 = .ok (.iload_n 2, 1) := by decide +kernel
theorem dX7_mergeFullLevels_20 : decode cX7_mergeFullLevels 20 = .ok (.invokevirtual 119, 3) := by decide +kernel
theorem dX7_mergeFullLevels_23 : decode cX7_mergeFullLevels 23 = .ok (.ifCond .ne 4, 3) := by decide +kernel
theorem dX7_mergeFullLevels_26 : decode cX7_mergeFullLevels 26 = .ok (.return_, 1) := by decide +kernel
theorem dX7_mergeFullLevels_27 : decode cX7_mergeFullLevels 27 = .ok (.iinc 1 1, 3) := by decide +kernel
theorem dX7_mergeFullLevels_30 : decode cX7_mergeFullLevels 30 = .ok (.goto (-28), 3) := by decide +kernel
theorem dX7_mergeFullLevels_33 : decode cX7_mergeFullLevels 33 = .ok (.return_, 1) := by decide +kernel
theorem dX7_mergeAll_0 : decode cX7_mergeAll 0 = .ok (.aload_n 0, 1) := by decide +kernel
theorem dX7_mergeAll_1 : decode cX7_mergeAll 1 = .ok (.getfield 26, 3) := by decide +kernel
theorem dX7_mergeAll_4 : decode cX7_mergeAll 4 = .ok (.invokevirtual 122, 3) := by decide +kernel
theorem dX7_mergeAll_7 : decode cX7_mergeAll 7 = .ok (.ifCond .eq 5, 3) := by decide +kernel
theorem dX7_mergeAll_10 : decode cX7_mergeAll 10 = .ok (.iconst 1, 1) := by decide +kernel
theorem dX7_mergeAll_11 : decode cX7_mergeAll 11 = .ok (.ireturn, 1) := by decide +kernel
theorem dX7_mergeAll_12 : decode cX7_mergeAll 12 = .ok (.iconst 0, 1) := by decide +kernel
theorem dX7_mergeAll_13 : decode cX7_mergeAll 13 = .ok (.istore_n 1, 1) := by decide +kernel
theorem dX7_mergeAll_14 : decode cX7_mergeAll 14 = .ok (.iconst 0, 1) := by decide +kernel
theorem dX7_mergeAll_15 : decode cX7_mergeAll 15 = .ok (.istore_n 2, 1) := by decide +kernel
theorem dX7_mergeAll_16 : decode cX7_mergeAll 16 = .ok (.iload_n 2, 1) := by decide +kernel
theorem dX7_mergeAll_17 : decode cX7_mergeAll 17 = .ok (.aload_n 0, 1) := by decide +kernel
theorem dX7_mergeAll_18 : decode cX7_mergeAll 18 = .ok (.getfield 26, 3) := by decide +kernel
theorem dX7_mergeAll_21 : decode cX7_mergeAll 21 = .ok (.invokevirtual 67, 3) := by decide +kernel
theorem dX7_mergeAll_24 : decode cX7_mergeAll 24 = .ok (.if_icmp .ge 28, 3) := by decide +kernel
theorem dX7_mergeAll_27 : decode cX7_mergeAll 27 = .ok (.iload_n 1, 1) := by decide +kernel
theorem dX7_mergeAll_28 : decode cX7_mergeAll 28 = .ok (.aload_n 0, 1) := by decide +kernel
theorem dX7_mergeAll_29 : decode cX7_mergeAll 29 = .ok (.getfield 26, 3) := by decide +kernel
theorem dX7_mergeAll_32 : decode cX7_mergeAll 32 = .ok (.iload_n 2, 1) := by decide +kernel
theorem dX7_mergeAll_33 : decode cX7_mergeAll 33 = .ok (.invokevirtual 72, 3) := by decide +kernel
theorem dX7_mergeAll_36 : decode cX7_mergeAll 36 = .ok (.checkcast 76, 3) := by decide +kernel
theorem dX7_mergeAll_39 : decode cX7_mergeAll 39 = .ok (.getfield 78, 3) := by decide +kernel
theorem dX7_mergeAll_42 : decode cX7_mergeAll 42 = .ok (.invokestatic 125, 3) := by decide +kernel
theorem dX7_mergeAll_45 : decode cX7_mergeAll 45 = .ok (.istore_n 1, 1) := by decide +kernel
theorem dX7_mergeAll_46 : decode cX7_mergeAll 46 = .ok (.iinc 2 1, 3) := by decide +kernel
theorem dX7_mergeAll_49 : decode cX7_mergeAll 49 = .ok (.goto (-33), 3) := by decide +kernel
theorem dX7_mergeAll_52 : decode cX7_mergeAll 52 = .ok (.aload_n 0, 1) := by decide +kernel
theorem dX7_mergeAll_53 : decode cX7_mergeAll 53 = .ok (.iconst 0, 1) := by decide +kernel
theorem dX7_mergeAll_54 : decode cX7_mergeAll 54 = .ok (.iload_n 1, 1) := by decide +kernel
theorem dX7_mergeAll_55 : decode cX7_mergeAll 55 = .ok (.invokevirtual 119, 3) := by decide +kernel
theorem dX7_mergeAll_58 : decode cX7_mergeAll 58 = .ok (.ireturn, 1) := by decide +kernel
theorem dX7_readAll_0 : decode cX7_readAll 0 = .ok (.iconst 0, 1) := by decide +kernel
theorem dX7_readAll_1 : decode cX7_readAll 1 = .ok (.istore_n 3, 1) := by decide +kernel
theorem dX7_readAll_2 : decode cX7_readAll 2 = .ok (.iload_n 3, 1) := by decide +kernel
theorem dX7_readAll_3 : decode cX7_readAll 3 = .ok (.aload_n 0, 1) := by decide +kernel
theorem dX7_readAll_4 : decode cX7_readAll 4 = .ok (.getfield 26, 3) := by decide +kernel
theorem dX7_readAll_7 : decode cX7_readAll 7 = .ok (.invokevirtual 67, 3) := by decide +kernel
theorem dX7_readAll_10 : decode cX7_readAll 10 = .ok (.if_icmp .ge 48, 3) := by decide +kernel
theorem dX7_readAll_13 : decode cX7_readAll 13 = .ok (.aload_n 0, 1) := by decide +kernel
theorem dX7_readAll_14 : decode cX7_readAll 14 = .ok (.aload_n 0, 1) := by decide +kernel
theorem dX7_readAll_15 : decode cX7_readAll 15 = .ok (.getfield 26, 3) := by decide +kernel
theorem dX7_readAll_18 : decode cX7_readAll 18 = .ok (.iload_n 3, 1) := by decide +kernel
theorem dX7_readAll_19 : decode cX7_readAll 19 = .ok (.invokevirtual 72, 3) := by decide +kernel
theorem dX7_readAll_22 : decode cX7_readAll 22 = .ok (.checkcast 76, 3) := by decide +kernel
theorem dX7_readAll_25 : decode cX7_readAll 25 = .ok (.invokevirtual 130, 3) := by decide +kernel
theorem dX7_readAll_28 : decode cX7_readAll 28 = .ok (.aload_n 1, 1) := by decide +kernel
theorem dX7_readAll_29 : decode cX7_readAll 29 = .ok (.aload_n 0, 1) := by decide +kernel
theorem dX7_readAll_30 : decode cX7_readAll 30 = .ok (.getfield 39, 3) := by decide +kernel
theorem dX7_readAll_33 : decode cX7_readAll 33 = .ok (.aload_n 0, 1) := by decide +kernel
theorem dX7_readAll_34 : decode cX7_readAll 34 = .ok (.getfield 9, 3) := by decide +kernel
theorem dX7_readAll_37 : decode cX7_readAll 37 = .ok (.invokevirtual 134, 3) := by decide +kernel
theorem dX7_readAll_40 : decode cX7_readAll 40 = .ok (.aload_n 2, 1) := by decide +kernel
theorem dX7_readAll_41 : decode cX7_readAll 41 = .ok (.aload_n 0, 1) := by decide +kernel
theorem dX7_readAll_42 : decode cX7_readAll 42 = .ok (.getfield 39, 3) := by decide +kernel
theorem dX7_readAll_45 : decode cX7_readAll 45 = .ok (.aload_n 0, 1) := by decide +kernel
theorem dX7_readAll_46 : decode cX7_readAll 46 = .ok (.getfield 9, 3) := by decide +kernel
theorem dX7_readAll_49 : decode cX7_readAll 49 = .ok (.invokevirtual 134, 3) := by decide +kernel
theorem dX7_readAll_52 : decode cX7_readAll 52 = .ok (.iinc 3 1, 3) := by decide +kernel
theorem dX7_readAll_55 : decode cX7_readAll 55 = .ok (.goto (-53), 3) := by decide +kernel
theorem dX7_readAll_58 : decode cX7_readAll 58 = .ok (.return_, 1) := by decide +kernel
theorem dX7_has_0 : decode cX7_has 0 = .ok (.iload_n 1, 1) := by decide +kernel
theorem dX7_has_1 : decode cX7_has 1 = .ok (.ifCond .lt 18, 3) := by decide +kernel
theorem dX7_has_4 : decode cX7_has 4 = .ok (.iload_n 1, 1) := by decide +kernel
theorem dX7_has_5 : decode cX7_has 5 = .ok (.aload_n 0, 1) := by decide +kernel
theorem dX7_has_6 : decode cX7_has 6 = .ok (.getfield 26, 3) := by decide +kernel
theorem dX7_has_9 : decode cX7_has 9 = .ok (.invokevirtual 67, 3) := by decide +kernel
theorem dX7_has_12 : decode cX7_has 12 = .ok (.if_icmp .ge 7, 3) := by decide +kernel
theorem dX7_has_15 : decode cX7_has 15 = .ok (.iconst 1, 1) := by decide +kernel
theorem dX7_has_16 : decode cX7_has 16 = .ok (.goto 4, 3) := by decide +kernel
theorem dX7_has_19 : decode cX7_has 19 = .ok (.iconst 0, 1) := by decide +kernel
theorem dX7_has_20 : decode cX7_has 20 = .ok (.ireturn, 1) := by decide +kernel
theorem dX7_leastFullLevel_0 : decode cX7_leastFullLevel 0 = .ok (.iconst (-1), 1) := by decide +kernel
theorem dX7_leastFullLevel_1 : decode cX7_leastFullLevel 1 = .ok (.istore_n 1, 1) := by decide +kernel
theorem dX7_leastFullLevel_2 : decode cX7_leastFullLevel 2 = .ok (.iconst 0, 1) := by decide +kernel
theorem dX7_leastFullLevel_3 : decode cX7_leastFullLevel 3 = .ok (.istore_n 2, 1) := by decide +kernel
theorem dX7_leastFullLevel_4 : decode cX7_leastFullLevel 4 = .ok (.iload_n 2, 1) := by decide +kernel
theorem dX7_leastFullLevel_5 : decode cX7_leastFullLevel 5 = .ok (.aload_n 0, 1) := by decide +kernel
theorem dX7_leastFullLevel_6 : decode cX7_leastFullLevel 6 = .ok (.getfield 26, 3) := by decide +kernel
theorem dX7_leastFullLevel_9 : decode cX7_leastFullLevel 9 = .ok (.invokevirtual 67, 3) := by decide +kernel
theorem dX7_leastFullLevel_12 : decode cX7_leastFullLevel 12 = .ok (.if_icmp .ge 47, 3) := by decide +kernel
theorem dX7_leastFullLevel_15 : decode cX7_leastFullLevel 15 = .ok (.aload_n 0, 1) := by decide +kernel
theorem dX7_leastFullLevel_16 : decode cX7_leastFullLevel 16 = .ok (.getfield 26, 3) := by decide +kernel
theorem dX7_leastFullLevel_19 : decode cX7_leastFullLevel 19 = .ok (.iload_n 2, 1) := by decide +kernel
theorem dX7_leastFullLevel_20 : decode cX7_leastFullLevel 20 = .ok (.invokevirtual 72, 3) := by decide +kernel
theorem dX7_leastFullLevel_23 : decode cX7_leastFullLevel 23 = .ok (.checkcast 76, 3) := by decide +kernel
theorem dX7_leastFullLevel_26 : decode cX7_leastFullLevel 26 = .ok (.getfield 78, 3) := by decide +kernel
theorem dX7_leastFullLevel_29 : decode cX7_leastFullLevel 29 = .ok (.istore_n 3, 1) := by decide +kernel
theorem dX7_leastFullLevel_30 : decode cX7_leastFullLevel 30 = .ok (.iload_n 1, 1) := by decide +kernel
theorem dX7_leastFullLevel_31 : decode cX7_leastFullLevel 31 = .ok (.ifCond .lt 8, 3) := by decide +kernel
theorem dX7_leastFullLevel_34 : decode cX7_leastFullLevel 34 = .ok (.iload_n 3, 1) := by decide +kernel
theorem dX7_leastFullLevel_35 : decode cX7_leastFullLevel 35 = .ok (.iload_n 1, 1) := by decide +kernel
theorem dX7_leastFullLevel_36 : decode cX7_leastFullLevel 36 = .ok (.if_icmp .ge 17, 3) := by decide +kernel
theorem dX7_leastFullLevel_39 : decode cX7_leastFullLevel 39 = .ok (.aload_n 0, 1) := by decide +kernel
theorem dX7_leastFullLevel_40 : decode cX7_leastFullLevel 40 = .ok (.iload_n 3, 1) := by decide +kernel
theorem dX7_leastFullLevel_41 : decode cX7_leastFullLevel 41 = .ok (.invokevirtual 140, 3) := by decide +kernel
theorem dX7_leastFullLevel_44 : decode cX7_leastFullLevel 44 = .ok (.aload_n 0, 1) := by decide +kernel
theorem dX7_leastFullLevel_45 : decode cX7_leastFullLevel 45 = .ok (.getfield 19, 3) := by decide +kernel
theorem dX7_leastFullLevel_48 : decode cX7_leastFullLevel 48 = .ok (.if_icmp .lt 5, 3) := by decide +kernel
theorem dX7_leastFullLevel_51 : decode cX7_leastFullLevel 51 = .ok (.iload_n 3, 1) := by decide +kernel
theorem dX7_leastFullLevel_52 : decode cX7_leastFullLevel 52 = .ok (.istore_n 1, 1) := by decide +kernel
theorem dX7_leastFullLevel_53 : decode cX7_leastFullLevel 53 = .ok (.iinc 2 1, 3) := by decide +kernel
theorem dX7_leastFullLevel_56 : decode cX7_leastFullLevel 56 = .ok (.goto (-52), 3) := by decide +kernel
theorem dX7_leastFullLevel_59 : decode cX7_leastFullLevel 59 = .ok (.iload_n 1, 1) := by decide +kernel
theorem dX7_leastFullLevel_60 : decode cX7_leastFullLevel 60 = .ok (.ireturn, 1) := by decide +kernel
theorem dX7_runsOf_0 : decode cX7_runsOf 0 = .ok (.iconst 0, 1) := by decide +kernel
theorem dX7_runsOf_1 : decode cX7_runsOf 1 = .ok (.istore_n 2, 1) := by decide +kernel
theorem dX7_runsOf_2 : decode cX7_runsOf 2 = .ok (.iconst 0, 1) := by decide +kernel
theorem dX7_runsOf_3 : decode cX7_runsOf 3 = .ok (.istore_n 3, 1) := by decide +kernel
theorem dX7_runsOf_4 : decode cX7_runsOf 4 = .ok (.iload_n 3, 1) := by decide +kernel
theorem dX7_runsOf_5 : decode cX7_runsOf 5 = .ok (.aload_n 0, 1) := by decide +kernel
theorem dX7_runsOf_6 : decode cX7_runsOf 6 = .ok (.getfield 26, 3) := by decide +kernel
theorem dX7_runsOf_9 : decode cX7_runsOf 9 = .ok (.invokevirtual 67, 3) := by decide +kernel
theorem dX7_runsOf_12 : decode cX7_runsOf 12 = .ok (.if_icmp .ge 30, 3) := by decide +kernel
theorem dX7_runsOf_15 : decode cX7_runsOf 15 = .ok (.aload_n 0, 1) := by decide +kernel
theorem dX7_runsOf_16 : decode cX7_runsOf 16 = .ok (.getfield 26, 3) := by decide +kernel
theorem dX7_runsOf_19 : decode cX7_runsOf 19 = .ok (.iload_n 3, 1) := by decide +kernel
theorem dX7_runsOf_20 : decode cX7_runsOf 20 = .ok (.invokevirtual 72, 3) := by decide +kernel
theorem dX7_runsOf_23 : decode cX7_runsOf 23 = .ok (.checkcast 76, 3) := by decide +kernel
theorem dX7_runsOf_26 : decode cX7_runsOf 26 = .ok (.getfield 78, 3) := by decide +kernel
theorem dX7_runsOf_29 : decode cX7_runsOf 29 = .ok (.iload_n 1, 1) := by decide +kernel
theorem dX7_runsOf_30 : decode cX7_runsOf 30 = .ok (.if_icmp .ne 6, 3) := by decide +kernel
theorem dX7_runsOf_33 : decode cX7_runsOf 33 = .ok (.iinc 2 1, 3) := by decide +kernel
theorem dX7_runsOf_36 : decode cX7_runsOf 36 = .ok (.iinc 3 1, 3) := by decide +kernel
theorem dX7_runsOf_39 : decode cX7_runsOf 39 = .ok (.goto (-35), 3) := by decide +kernel
theorem dX7_runsOf_42 : decode cX7_runsOf 42 = .ok (.iload_n 2, 1) := by decide +kernel
theorem dX7_runsOf_43 : decode cX7_runsOf 43 = .ok (.ireturn, 1) := by decide +kernel
theorem dX7_mergeLevels_0 : decode cX7_mergeLevels 0 = .ok (.aload_n 0, 1) := by decide +kernel
theorem dX7_mergeLevels_1 : decode cX7_mergeLevels 1 = .ok (.getfield 35, 3) := by decide +kernel
theorem dX7_mergeLevels_4 : decode cX7_mergeLevels 4 = .ok (.invokevirtual 101, 3) := by decide +kernel
theorem dX7_mergeLevels_7 : decode cX7_mergeLevels 7 = .ok (.aload_n 0, 1) := by decide +kernel
theorem dX7_mergeLevels_8 : decode cX7_mergeLevels 8 = .ok (.getfield 26, 3) := by decide +kernel
theorem dX7_mergeLevels_11 : decode cX7_mergeLevels 11 = .ok (.invokevirtual 67, 3) := by decide +kernel
theorem dX7_mergeLevels_14 : decode cX7_mergeLevels 14 = .ok (.istore_n 3, 1) := by decide +kernel
theorem dX7_mergeLevels_15 : decode cX7_mergeLevels 15 = .ok (.iconst 0, 1) := by decide +kernel
theorem dX7_mergeLevels_16 : decode cX7_mergeLevels 16 = .ok (.istore 4, 2) := by decide +kernel
theorem dX7_mergeLevels_18 : decode cX7_mergeLevels 18 = .ok (.iload 4, 2) := by decide +kernel
theorem dX7_mergeLevels_20 : decode cX7_mergeLevels 20 = .ok (.aload_n 0, 1) := by decide +kernel
theorem dX7_mergeLevels_21 : decode cX7_mergeLevels 21 = .ok (.getfield 26, 3) := by decide +kernel
theorem dX7_mergeLevels_24 : decode cX7_mergeLevels 24 = .ok (.invokevirtual 67, 3) := by decide +kernel
theorem dX7_mergeLevels_27 : decode cX7_mergeLevels 27 = .ok (.if_icmp .ge 57, 3) := by decide +kernel
theorem dX7_mergeLevels_30 : decode cX7_mergeLevels 30 = .ok (.aload_n 0, 1) := by decide +kernel
theorem dX7_mergeLevels_31 : decode cX7_mergeLevels 31 = .ok (.getfield 26, 3) := by decide +kernel
theorem dX7_mergeLevels_34 : decode cX7_mergeLevels 34 = .ok (.iload 4, 2) := by decide +kernel
theorem dX7_mergeLevels_36 : decode cX7_mergeLevels 36 = .ok (.invokevirtual 72, 3) := by decide +kernel
theorem dX7_mergeLevels_39 : decode cX7_mergeLevels 39 = .ok (.checkcast 76, 3) := by decide +kernel
theorem dX7_mergeLevels_42 : decode cX7_mergeLevels 42 = .ok (.astore 5, 2) := by decide +kernel
theorem dX7_mergeLevels_44 : decode cX7_mergeLevels 44 = .ok (.aload 5, 2) := by decide +kernel
theorem dX7_mergeLevels_46 : decode cX7_mergeLevels 46 = .ok (.iload_n 1, 1) := by decide +kernel
theorem dX7_mergeLevels_47 : decode cX7_mergeLevels 47 = .ok (.iload_n 2, 1) := by decide +kernel
theorem dX7_mergeLevels_48 : decode cX7_mergeLevels 48 = .ok (.invokevirtual 143, 3) := by decide +kernel
theorem dX7_mergeLevels_51 : decode cX7_mergeLevels 51 = .ok (.ifCond .eq 27, 3) := by decide +kernel
theorem dX7_mergeLevels_54 : decode cX7_mergeLevels 54 = .ok (.iload_n 3, 1) := by decide +kernel
theorem dX7_mergeLevels_55 : decode cX7_mergeLevels 55 = .ok (.iload 4, 2) := by decide +kernel
theorem dX7_mergeLevels_57 : decode cX7_mergeLevels 57 = .ok (.invokestatic 146, 3) := by decide +kernel
theorem dX7_mergeLevels_60 : decode cX7_mergeLevels 60 = .ok (.istore_n 3, 1) := by decide +kernel
theorem dX7_mergeLevels_61 : decode cX7_mergeLevels 61 = .ok (.aload_n 0, 1) := by decide +kernel
theorem dX7_mergeLevels_62 : decode cX7_mergeLevels 62 = .ok (.aload 5, 2) := by decide +kernel
theorem dX7_mergeLevels_64 : decode cX7_mergeLevels 64 = .ok (.invokevirtual 130, 3) := by decide +kernel
theorem dX7_mergeLevels_67 : decode cX7_mergeLevels 67 = .ok (.aload_n 0, 1) := by decide +kernel
theorem dX7_mergeLevels_68 : decode cX7_mergeLevels 68 = .ok (.getfield 35, 3) := by decide +kernel
theorem dX7_mergeLevels_71 : decode cX7_mergeLevels 71 = .ok (.aload_n 0, 1) := by decide +kernel
theorem dX7_mergeLevels_72 : decode cX7_mergeLevels 72 = .ok (.getfield 39, 3) := by decide +kernel
theorem dX7_mergeLevels_75 : decode cX7_mergeLevels 75 = .ok (.invokevirtual 104, 3) := by decide +kernel
theorem dX7_mergeLevels_78 : decode cX7_mergeLevels 78 = .ok (.iinc 4 1, 3) := by decide +kernel
theorem dX7_mergeLevels_81 : decode cX7_mergeLevels 81 = .ok (.goto (-63), 3) := by decide +kernel
theorem dX7_mergeLevels_84 : decode cX7_mergeLevels 84 = .ok (.aload_n 0, 1) := by decide +kernel
theorem dX7_mergeLevels_85 : decode cX7_mergeLevels 85 = .ok (.invokevirtual 108, 3) := by decide +kernel
theorem dX7_mergeLevels_88 : decode cX7_mergeLevels 88 = .ok (.ifCond .ne 15, 3) := by decide +kernel
theorem dX7_mergeLevels_91 : decode cX7_mergeLevels 91 = .ok (.aload_n 0, 1) := by decide +kernel
theorem dX7_mergeLevels_92 : decode cX7_mergeLevels 92 = .ok (.dup, 1) := by decide +kernel
theorem dX7_mergeLevels_93 : decode cX7_mergeLevels 93 = .ok (.getfield 64, 3) := by decide +kernel
theorem dX7_mergeLevels_96 : decode cX7_mergeLevels 96 = .ok (.iconst 1, 1) := by decide +kernel
theorem dX7_mergeLevels_97 : decode cX7_mergeLevels 97 = .ok (.iadd, 1) := by decide +kernel
theorem dX7_mergeLevels_98 : decode cX7_mergeLevels 98 = .ok (.putfield 64, 3) := by decide +kernel
theorem dX7_mergeLevels_101 : decode cX7_mergeLevels 101 = .ok (.iconst 0, 1) := by decide +kernel
theorem dX7_mergeLevels_102 : decode cX7_mergeLevels 102 = .ok (.ireturn, 1) := by decide +kernel
theorem dX7_mergeLevels_103 : decode cX7_mergeLevels 103 = .ok (.aload_n 0, 1) := by decide +kernel
theorem dX7_mergeLevels_104 : decode cX7_mergeLevels 104 = .ok (.iload_n 3, 1) := by decide +kernel
theorem dX7_mergeLevels_105 : decode cX7_mergeLevels 105 = .ok (.iload_n 2, 1) := by decide +kernel
theorem dX7_mergeLevels_106 : decode cX7_mergeLevels 106 = .ok (.iconst 1, 1) := by decide +kernel
theorem dX7_mergeLevels_107 : decode cX7_mergeLevels 107 = .ok (.iadd, 1) := by decide +kernel
theorem dX7_mergeLevels_108 : decode cX7_mergeLevels 108 = .ok (.invokevirtual 112, 3) := by decide +kernel
theorem dX7_mergeLevels_111 : decode cX7_mergeLevels 111 = .ok (.aload_n 0, 1) := by decide +kernel
theorem dX7_mergeLevels_112 : decode cX7_mergeLevels 112 = .ok (.iload_n 1, 1) := by decide +kernel
theorem dX7_mergeLevels_113 : decode cX7_mergeLevels 113 = .ok (.iload_n 2, 1) := by decide +kernel
theorem dX7_mergeLevels_114 : decode cX7_mergeLevels 114 = .ok (.invokevirtual 149, 3) := by decide +kernel
theorem dX7_mergeLevels_117 : decode cX7_mergeLevels 117 = .ok (.aload_n 0, 1) := by decide +kernel
theorem dX7_mergeLevels_118 : decode cX7_mergeLevels 118 = .ok (.dup, 1) := by decide +kernel
theorem dX7_mergeLevels_119 : decode cX7_mergeLevels 119 = .ok (.getfield 61, 3) := by decide +kernel
theorem dX7_mergeLevels_122 : decode cX7_mergeLevels 122 = .ok (.iconst 1, 1) := by decide +kernel
theorem dX7_mergeLevels_123 : decode cX7_mergeLevels 123 = .ok (.iadd, 1) := by decide +kernel
theorem dX7_mergeLevels_124 : decode cX7_mergeLevels 124 = .ok (.putfield 61, 3) := by decide +kernel
theorem dX7_mergeLevels_127 : decode cX7_mergeLevels 127 = .ok (.iconst 1, 1) := by decide +kernel
theorem dX7_mergeLevels_128 : decode cX7_mergeLevels 128 = .ok (.ireturn, 1) := by decide +kernel
theorem dX7_readPart_0 : decode cX7_readPart 0 = .ok (.aload_n 0, 1) := by decide +kernel
theorem dX7_readPart_1 : decode cX7_readPart 1 = .ok (.getfield 15, 3) := by decide +kernel
theorem dX7_readPart_4 : decode cX7_readPart 4 = .ok (.aload_n 1, 1) := by decide +kernel
theorem dX7_readPart_5 : decode cX7_readPart 5 = .ok (.aload_n 0, 1) := by decide +kernel
theorem dX7_readPart_6 : decode cX7_readPart 6 = .ok (.getfield 51, 3) := by decide +kernel
theorem dX7_readPart_9 : decode cX7_readPart 9 = .ok (.invokevirtual 152, 3) := by decide +kernel
theorem dX7_readPart_12 : decode cX7_readPart 12 = .ok (.aload_n 0, 1) := by decide +kernel
theorem dX7_readPart_13 : decode cX7_readPart 13 = .ok (.getfield 51, 3) := by decide +kernel
theorem dX7_readPart_16 : decode cX7_readPart 16 = .ok (.aload_n 0, 1) := by decide +kernel
theorem dX7_readPart_17 : decode cX7_readPart 17 = .ok (.getfield 39, 3) := by decide +kernel
theorem dX7_readPart_20 : decode cX7_readPart 20 = .ok (.invokevirtual 156, 3) := by decide +kernel
theorem dX7_readPart_23 : decode cX7_readPart 23 = .ok (.aload_n 0, 1) := by decide +kernel
theorem dX7_readPart_24 : decode cX7_readPart 24 = .ok (.dup, 1) := by decide +kernel
theorem dX7_readPart_25 : decode cX7_readPart 25 = .ok (.getfield 55, 3) := by decide +kernel
theorem dX7_readPart_28 : decode cX7_readPart 28 = .ok (.aload_n 1, 1) := by decide +kernel
theorem dX7_readPart_29 : decode cX7_readPart 29 = .ok (.getfield 81, 3) := by decide +kernel
theorem dX7_readPart_32 : decode cX7_readPart 32 = .ok (.arraylength, 1) := by decide +kernel
theorem dX7_readPart_33 : decode cX7_readPart 33 = .ok (.iadd, 1) := by decide +kernel
theorem dX7_readPart_34 : decode cX7_readPart 34 = .ok (.putfield 55, 3) := by decide +kernel
theorem dX7_readPart_37 : decode cX7_readPart 37 = .ok (.return_, 1) := by decide +kernel
theorem dX7_fitsOnDisk_0 : decode cX7_fitsOnDisk 0 = .ok (.aload_n 0, 1) := by decide +kernel
theorem dX7_fitsOnDisk_1 : decode cX7_fitsOnDisk 1 = .ok (.getfield 35, 3) := by decide +kernel
theorem dX7_fitsOnDisk_4 : decode cX7_fitsOnDisk 4 = .ok (.aload_n 0, 1) := by decide +kernel
theorem dX7_fitsOnDisk_5 : decode cX7_fitsOnDisk 5 = .ok (.getfield 9, 3) := by decide +kernel
theorem dX7_fitsOnDisk_8 : decode cX7_fitsOnDisk 8 = .ok (.invokevirtual 159, 3) := by decide +kernel
theorem dX7_fitsOnDisk_11 : decode cX7_fitsOnDisk 11 = .ok (.aload_n 0, 1) := by decide +kernel
theorem dX7_fitsOnDisk_12 : decode cX7_fitsOnDisk 12 = .ok (.getfield 51, 3) := by decide +kernel
theorem dX7_fitsOnDisk_15 : decode cX7_fitsOnDisk 15 = .ok (.aload_n 0, 1) := by decide +kernel
theorem dX7_fitsOnDisk_16 : decode cX7_fitsOnDisk 16 = .ok (.getfield 35, 3) := by decide +kernel
theorem dX7_fitsOnDisk_19 : decode cX7_fitsOnDisk 19 = .ok (.invokevirtual 163, 3) := by decide +kernel
theorem dX7_fitsOnDisk_22 : decode cX7_fitsOnDisk 22 = .ok (.aload_n 0, 1) := by decide +kernel
theorem dX7_fitsOnDisk_23 : decode cX7_fitsOnDisk 23 = .ok (.getfield 15, 3) := by decide +kernel
theorem dX7_fitsOnDisk_26 : decode cX7_fitsOnDisk 26 = .ok (.aload_n 0, 1) := by decide +kernel
theorem dX7_fitsOnDisk_27 : decode cX7_fitsOnDisk 27 = .ok (.getfield 51, 3) := by decide +kernel
theorem dX7_fitsOnDisk_30 : decode cX7_fitsOnDisk 30 = .ok (.invokevirtual 166, 3) := by decide +kernel
theorem dX7_fitsOnDisk_33 : decode cX7_fitsOnDisk 33 = .ok (.invokevirtual 167, 3) := by decide +kernel
theorem dX7_fitsOnDisk_36 : decode cX7_fitsOnDisk 36 = .ok (.ireturn, 1) := by decide +kernel
theorem dX7_writeAt_0 : decode cX7_writeAt 0 = .ok (.aload_n 0, 1) := by decide +kernel
theorem dX7_writeAt_1 : decode cX7_writeAt 1 = .ok (.getfield 51, 3) := by decide +kernel
theorem dX7_writeAt_4 : decode cX7_writeAt 4 = .ok (.invokevirtual 166, 3) := by decide +kernel
theorem dX7_writeAt_7 : decode cX7_writeAt 7 = .ok (.ifCond .le 54, 3) := by decide +kernel
theorem dX7_writeAt_10 : decode cX7_writeAt 10 = .ok (.iload_n 1, 1) := by decide +kernel
theorem dX7_writeAt_11 : decode cX7_writeAt 11 = .ok (.ifCond .lt 50, 3) := by decide +kernel
theorem dX7_writeAt_14 : decode cX7_writeAt 14 = .ok (.iload_n 1, 1) := by decide +kernel
theorem dX7_writeAt_15 : decode cX7_writeAt 15 = .ok (.aload_n 0, 1) := by decide +kernel
theorem dX7_writeAt_16 : decode cX7_writeAt 16 = .ok (.getfield 26, 3) := by decide +kernel
theorem dX7_writeAt_19 : decode cX7_writeAt 19 = .ok (.invokevirtual 67, 3) := by decide +kernel
theorem dX7_writeAt_22 : decode cX7_writeAt 22 = .ok (.if_icmp .gt 39, 3) := by decide +kernel
theorem dX7_writeAt_25 : decode cX7_writeAt 25 = .ok (.aload_n 0, 1) := by decide +kernel
theorem dX7_writeAt_26 : decode cX7_writeAt 26 = .ok (.getfield 15, 3) := by decide +kernel
theorem dX7_writeAt_29 : decode cX7_writeAt 29 = .ok (.aload_n 0, 1) := by decide +kernel
theorem dX7_writeAt_30 : decode cX7_writeAt 30 = .ok (.getfield 51, 3) := by decide +kernel
theorem dX7_writeAt_33 : decode cX7_writeAt 33 = .ok (.iload_n 2, 1) := by decide +kernel
theorem dX7_writeAt_34 : decode cX7_writeAt 34 = .ok (.invokevirtual 170, 3) := by decide +kernel
theorem dX7_writeAt_37 : decode cX7_writeAt 37 = .ok (.astore_n 3, 1) := by decide +kernel
theorem dX7_writeAt_38 : decode cX7_writeAt 38 = .ok (.aload_n 0, 1) := by decide +kernel
theorem dX7_writeAt_39 : decode cX7_writeAt 39 = .ok (.dup, 1) := by decide +kernel
theorem dX7_writeAt_40 : decode cX7_writeAt 40 = .ok (.getfield 58, 3) := by decide +kernel
theorem dX7_writeAt_43 : decode cX7_writeAt 43 = .ok (.aload_n 3, 1) := by decide +kernel
theorem dX7_writeAt_44 : decode cX7_writeAt 44 = .ok (.getfield 81, 3) := by decide +kernel
theorem dX7_writeAt_47 : decode cX7_writeAt 47 = .ok (.arraylength, 1) := by decide +kernel
theorem dX7_writeAt_48 : decode cX7_writeAt 48 = .ok (.iadd, 1) := by decide +kernel
theorem dX7_writeAt_49 : decode cX7_writeAt 49 = .ok (.putfield 58, 3) := by decide +kernel
theorem dX7_writeAt_52 : decode cX7_writeAt 52 = .ok (.aload_n 0, 1) := by decide +kernel
theorem dX7_writeAt_53 : decode cX7_writeAt 53 = .ok (.getfield 26, 3) := by decide +kernel
theorem dX7_writeAt_56 : decode cX7_writeAt 56 = .ok (.iload_n 1, 1) := by decide +kernel
theorem dX7_writeAt_57 : decode cX7_writeAt 57 = .ok (.aload_n 3, 1) := by decide +kernel
theorem dX7_writeAt_58 : decode cX7_writeAt 58 = .ok (.invokevirtual 174, 3) := by decide +kernel
theorem dX7_writeAt_61 : decode cX7_writeAt 61 = .ok (.return_, 1) := by decide +kernel
theorem dX7_removeLevels_0 : decode cX7_removeLevels 0 = .ok (.aload_n 0, 1) := by decide +kernel
theorem dX7_removeLevels_1 : decode cX7_removeLevels 1 = .ok (.getfield 26, 3) := by decide +kernel
theorem dX7_removeLevels_4 : decode cX7_removeLevels 4 = .ok (.invokevirtual 67, 3) := by decide +kernel
theorem dX7_removeLevels_7 : decode cX7_removeLevels 7 = .ok (.iconst 1, 1) := by decide +kernel
theorem dX7_removeLevels_8 : decode cX7_removeLevels 8 = .ok (.isub, 1) := by decide +kernel
theorem dX7_removeLevels_9 : decode cX7_removeLevels 9 = .ok (.istore_n 3, 1) := by decide +kernel
theorem dX7_removeLevels_10 : decode cX7_removeLevels 10 = .ok (.iload_n 3, 1) := by decide +kernel
theorem dX7_removeLevels_11 : decode cX7_removeLevels 11 = .ok (.ifCond .lt 50, 3) := by decide +kernel
theorem dX7_removeLevels_14 : decode cX7_removeLevels 14 = .ok (.aload_n 0, 1) := by decide +kernel
theorem dX7_removeLevels_15 : decode cX7_removeLevels 15 = .ok (.getfield 26, 3) := by decide +kernel
theorem dX7_removeLevels_18 : decode cX7_removeLevels 18 = .ok (.iload_n 3, 1) := by decide +kernel
theorem dX7_removeLevels_19 : decode cX7_removeLevels 19 = .ok (.invokevirtual 72, 3) := by decide +kernel
theorem dX7_removeLevels_22 : decode cX7_removeLevels 22 = .ok (.checkcast 76, 3) := by decide +kernel
theorem dX7_removeLevels_25 : decode cX7_removeLevels 25 = .ok (.astore 4, 2) := by decide +kernel
theorem dX7_removeLevels_27 : decode cX7_removeLevels 27 = .ok (.aload 4, 2) := by decide +kernel
theorem dX7_removeLevels_29 : decode cX7_removeLevels 29 = .ok (.iload_n 1, 1) := by decide +kernel
theorem dX7_removeLevels_30 : decode cX7_removeLevels 30 = .ok (.iload_n 2, 1) := by decide +kernel
theorem dX7_removeLevels_31 : decode cX7_removeLevels 31 = .ok (.invokevirtual 143, 3) := by decide +kernel
theorem dX7_removeLevels_34 : decode cX7_removeLevels 34 = .ok (.ifCond .eq 21, 3) := by decide +kernel
theorem dX7_removeLevels_37 : decode cX7_removeLevels 37 = .ok (.aload_n 0, 1) := by decide +kernel
theorem dX7_removeLevels_38 : decode cX7_removeLevels 38 = .ok (.getfield 15, 3) := by decide +kernel
theorem dX7_removeLevels_41 : decode cX7_removeLevels 41 = .ok (.aload 4, 2) := by decide +kernel
theorem dX7_removeLevels_43 : decode cX7_removeLevels 43 = .ok (.invokevirtual 178, 3) := by decide +kernel
theorem dX7_removeLevels_46 : decode cX7_removeLevels 46 = .ok (.aload_n 0, 1) := by decide +kernel
theorem dX7_removeLevels_47 : decode cX7_removeLevels 47 = .ok (.getfield 26, 3) := by decide +kernel
theorem dX7_removeLevels_50 : decode cX7_removeLevels 50 = .ok (.iload_n 3, 1) := by decide +kernel
theorem dX7_removeLevels_51 : decode cX7_removeLevels 51 = .ok (.invokevirtual 181, 3) := by decide +kernel
theorem dX7_removeLevels_54 : decode cX7_removeLevels 54 = .ok (.pop, 1) := by decide +kernel
theorem dX7_removeLevels_55 : decode cX7_removeLevels 55 = .ok (.iinc 3 (-1), 3) := by decide +kernel
theorem dX7_removeLevels_58 : decode cX7_removeLevels 58 = .ok (.goto (-48), 3) := by decide +kernel
theorem dX7_removeLevels_61 : decode cX7_removeLevels 61 = .ok (.return_, 1) := by decide +kernel
end
section
theorem dX8_init_0 : decode cX8_init 0 = .ok (.aload_n 0, 1) := by decide +kernel
theorem dX8_init_1 : decode cX8_init 1 = .ok (.invokespecial 1, 3) := by decide +kernel
theorem dX8_init_4 : decode cX8_init 4 = .ok (.aload_n 0, 1) := by decide +kernel
theorem dX8_init_5 : decode cX8_init 5 = .ok (.iload_n 1, 1) := by decide +kernel
theorem dX8_init_6 : decode cX8_init 6 = .ok (.bipush 20, 2) := by decide +kernel
theorem dX8_init_8 : decode cX8_init 8 = .ok (.bipush 48, 2) := by decide +kernel
theorem dX8_init_10 : decode cX8_init 10 = .ok (.invokestatic 9, 3) := by decide +kernel
theorem dX8_init_13 : decode cX8_init 13 = .ok (.putfield 13, 3) := by decide +kernel
theorem dX8_init_16 : decode cX8_init 16 = .ok (.aload_n 0, 1) := by decide +kernel
theorem dX8_init_17 : decode cX8_init 17 = .ok (.bipush 20, 2) := by decide +kernel
theorem dX8_init_19 : decode cX8_init 19 = .ok (.newarray .int, 2) := by decide +kernel
theorem dX8_init_21 : decode cX8_init 21 = .ok (.putfield 17, 3) := by decide +kernel
theorem dX8_init_24 : decode cX8_init 24 = .ok (.aload_n 0, 1) := by decide +kernel
theorem dX8_init_25 : decode cX8_init 25 = .ok (.iconst 0, 1) := by decide +kernel
theorem dX8_init_26 : decode cX8_init 26 = .ok (.putfield 21, 3) := by decide +kernel
theorem dX8_init_29 : decode cX8_init 29 = .ok (.aload_n 0, 1) := by decide +kernel
theorem dX8_init_30 : decode cX8_init 30 = .ok (.new 24, 3) := by decide +kernel
theorem dX8_init_33 : decode cX8_init 33 = .ok (.dup, 1) := by decide +kernel
theorem dX8_init_34 : decode cX8_init 34 = .ok (.invokespecial 26, 3) := by decide +kernel
theorem dX8_init_37 : decode cX8_init 37 = .ok (.putfield 27, 3) := by decide +kernel
theorem dX8_init_40 : decode cX8_init 40 = .ok (.aload_n 0, 1) := by decide +kernel
theorem dX8_init_41 : decode cX8_init 41 = .ok (.new 31, 3) := by decide +kernel
theorem dX8_init_44 : decode cX8_init 44 = .ok (.dup, 1) := by decide +kernel
theorem dX8_init_45 : decode cX8_init 45 = .ok (.aload_n 0, 1) := by decide +kernel
theorem dX8_init_46 : decode cX8_init 46 = .ok (.getfield 13, 3) := by decide +kernel
theorem dX8_init_49 : decode cX8_init 49 = .ok (.invokespecial 33, 3) := by decide +kernel
theorem dX8_init_52 : decode cX8_init 52 = .ok (.putfield 36, 3) := by decide +kernel
theorem dX8_init_55 : decode cX8_init 55 = .ok (.new 40, 3) := by decide +kernel
theorem dX8_init_58 : decode cX8_init 58 = .ok (.dup, 1) := by decide +kernel
theorem dX8_init_59 : decode cX8_init 59 = .ok (.iload_n 3, 1) := by decide +kernel
theorem dX8_init_60 : decode cX8_init 60 = .ok (.bipush 8, 2) := by decide +kernel
theorem dX8_init_62 : decode cX8_init 62 = .ok (.bipush 60, 2) := by decide +kernel
theorem dX8_init_64 : decode cX8_init 64 = .ok (.invokestatic 9, 3) := by decide +kernel
theorem dX8_init_67 : decode cX8_init 67 = .ok (.invokespecial 42, 3) := by decide +kernel
theorem dX8_init_70 : decode cX8_init 70 = .ok (.astore 4, 2) := by decide +kernel
theorem dX8_init_72 : decode cX8_init 72 = .ok (.aload_n 0, 1) := by decide +kernel
theorem dX8_init_73 : decode cX8_init 73 = .ok (.new 43, 3) := by decide +kernel
theorem dX8_init_76 : decode cX8_init 76 = .ok (.dup, 1) := by decide +kernel
theorem dX8_init_77 : decode cX8_init 77 = .ok (.aload_n 0, 1) := by decide +kernel
theorem dX8_init_78 : decode cX8_init 78 = .ok (.getfield 27, 3) := by decide +kernel
theorem dX8_init_81 : decode cX8_init 81 = .ok (.aload 4, 2) := by decide +kernel
theorem dX8_init_83 : decode cX8_init 83 = .ok (.iload_n 2, 1) := by decide +kernel
theorem dX8_init_84 : decode cX8_init 84 = .ok (.iconst 2, 1) := by decide +kernel
theorem dX8_init_85 : decode cX8_init 85 = .ok (.iconst 4, 1) := by decide +kernel
theorem dX8_init_86 : decode cX8_init 86 = .ok (.invokestatic 9, 3) := by decide +kernel
theorem dX8_init_89 : decode cX8_init 89 = .ok (.invokespecial 45, 3) := by decide +kernel
theorem dX8_init_92 : decode cX8_init 92 = .ok (.putfield 48, 3) := by decide +kernel
theorem dX8_init_95 : decode cX8_init 95 = .ok (.aload_n 0, 1) := by decide +kernel
theorem dX8_init_96 : decode cX8_init 96 = .ok (.new 52, 3) := by decide +kernel
theorem dX8_init_99 : decode cX8_init 99 = .ok (.dup, 1) := by decide +kernel
theorem dX8_init_100 : decode cX8_init 100 = .ok (.invokespecial 54, 3) := by decide +kernel
theorem dX8_init_103 : decode cX8_init 103 = .ok (.putfield 55, 3) := by decide +kernel
theorem dX8_init_106 : decode cX8_init 106 = .ok (.aload_n 0, 1) := by decide +kernel
theorem dX8_init_107 : decode cX8_init 107 = .ok (.new 52, 3) := by decide +kernel
theorem dX8_init_110 : decode cX8_init 110 = .ok (.dup, 1) := by decide +kernel
theorem dX8_init_111 : decode cX8_init 111 = .ok (.invokespecial 54, 3) := by decide +kernel
theorem dX8_init_114 : decode cX8_init 114 = .ok (.putfield 59, 3) := by decide +kernel
theorem dX8_init_117 : decode cX8_init 117 = .ok (.aload_n 0, 1) := by decide +kernel
theorem dX8_init_118 : decode cX8_init 118 = .ok (.new 62, 3) := by decide +kernel
theorem dX8_init_121 : decode cX8_init 121 = .ok (.dup, 1) := by decide +kernel
theorem dX8_init_122 : decode cX8_init 122 = .ok (.invokespecial 64, 3) := by decide +kernel
theorem dX8_init_125 : decode cX8_init 125 = .ok (.putfield 65, 3) := by decide +kernel
theorem dX8_init_128 : decode cX8_init 128 = .ok (.return_, 1) := by decide +kernel
theorem dX8_word_0 : decode cX8_word 0 = .ok (.iload_n 1, 1) := by decide +kernel
theorem dX8_word_1 : decode cX8_word 1 = .ok (.invokestatic 69, 3) := by decide +kernel
theorem dX8_word_4 : decode cX8_word 4 = .ok (.ifCond .ne 13, 3) := by decide +kernel
theorem dX8_word_7 : decode cX8_word 7 = .ok (.new 73, 3) := by decide +kernel
theorem dX8_word_10 : decode cX8_word 10 = .ok (.dup, 1) := by decide +kernel
theorem dX8_word_11 : decode cX8_word 11 = .ok (.ldc 75, 2) := by decide +kernel
theorem dX8_word_13 : decode cX8_word 13 = .ok (.invokespecial 77, 3) := by decide +kernel
theorem dX8_word_16 : decode cX8_word 16 = .ok (.athrow, 1) := by decide +kernel
theorem dX8_word_17 : decode cX8_word 17 = .ok (.aload_n 0, 1) := by decide +kernel
theorem dX8_word_18 : decode cX8_word 18 = .ok (.getfield 21, 3) := by decide +kernel
theorem dX8_word_21 : decode cX8_word 21 = .ok (.bipush 20, 2) := by decide +kernel
theorem dX8_word_23 : decode cX8_word 23 = .ok (.if_icmp .lt 13, 3) := by decide +kernel
theorem dX8_word_26 : decode cX8_word 26 = .ok (.new 80, 3) := by decide +kernel
theorem dX8_word_29 : decode cX8_word 29 = .ok (.dup, 1) := by decide +kernel
theorem dX8_word_30 : decode cX8_word 30 = .ok (.ldc 82, 2) := by decide +kernel
theorem dX8_word_32 : decode cX8_word 32 = .ok (.invokespecial 84, 3) := by decide +kernel
theorem dX8_word_35 : decode cX8_word 35 = .ok (.athrow, 1) := by decide +kernel
theorem dX8_word_36 : decode cX8_word 36 = .ok (.aload_n 0, 1) := by decide +kernel
theorem dX8_word_37 : decode cX8_word 37 = .ok (.getfield 17, 3) := by decide +kernel
theorem dX8_word_40 : decode cX8_word 40 = .ok (.aload_n 0, 1) := by decide +kernel
theorem dX8_word_41 : decode cX8_word 41 = .ok (.getfield 21, 3) := by decide +kernel
theorem dX8_word_44 : decode cX8_word 44 = .ok (.iload_n 1, 1) := by decide +kernel
theorem dX8_word_45 : decode cX8_word 45 = .ok (.iastore, 1) := by decide +kernel
theorem dX8_word_46 : decode cX8_word 46 = .ok (.aload_n 0, 1) := by decide +kernel
theorem dX8_word_47 : decode cX8_word 47 = .ok (.dup, 1) := by decide +kernel
theorem dX8_word_48 : decode cX8_word 48 = .ok (.getfield 21, 3) := by decide +kernel
theorem dX8_word_51 : decode cX8_word 51 = .ok (.iconst 1, 1) := by decide +kernel
theorem dX8_word_52 : decode cX8_word 52 = .ok (.iadd, 1) := by decide +kernel
theorem dX8_word_53 : decode cX8_word 53 = .ok (.putfield 21, 3) := by decide +kernel
theorem dX8_word_56 : decode cX8_word 56 = .ok (.aload_n 0, 1) := by decide +kernel
theorem dX8_word_57 : decode cX8_word 57 = .ok (.getfield 21, 3) := by decide +kernel
theorem dX8_word_60 : decode cX8_word 60 = .ok (.iconst 1, 1) := by decide +kernel
theorem dX8_word_61 : decode cX8_word 61 = .ok (.isub, 1) := by decide +kernel
theorem dX8_word_62 : decode cX8_word 62 = .ok (.ireturn, 1) := by decide +kernel
theorem dX8_close_0 : decode cX8_close 0 = .ok (.aload_n 0, 1) := by decide +kernel
theorem dX8_close_1 : decode cX8_close 1 = .ok (.getfield 27, 3) := by decide +kernel
theorem dX8_close_4 : decode cX8_close 4 = .ok (.invokevirtual 85, 3) := by decide +kernel
theorem dX8_close_7 : decode cX8_close 7 = .ok (.bipush 40, 2) := by decide +kernel
theorem dX8_close_9 : decode cX8_close 9 = .ok (.if_icmp .lt 13, 3) := by decide +kernel
theorem dX8_close_12 : decode cX8_close 12 = .ok (.new 80, 3) := by decide +kernel
theorem dX8_close_15 : decode cX8_close 15 = .ok (.dup, 1) := by decide +kernel
theorem dX8_close_16 : decode cX8_close 16 = .ok (.ldc 89, 2) := by decide +kernel
theorem dX8_close_18 : decode cX8_close 18 = .ok (.invokespecial 84, 3) := by decide +kernel
theorem dX8_close_21 : decode cX8_close 21 = .ok (.athrow, 1) := by decide +kernel
theorem dX8_close_22 : decode cX8_close 22 = .ok (.aload_n 0, 1) := by decide +kernel
theorem dX8_close_23 : decode cX8_close 23 = .ok (.getfield 36, 3) := by decide +kernel
theorem dX8_close_26 : decode cX8_close 26 = .ok (.invokevirtual 91, 3) := by decide +kernel
theorem dX8_close_29 : decode cX8_close 29 = .ok (.aload_n 0, 1) := by decide +kernel
theorem dX8_close_30 : decode cX8_close 30 = .ok (.getfield 21, 3) := by decide +kernel
theorem dX8_close_33 : decode cX8_close 33 = .ok (.iadd, 1) := by decide +kernel
theorem dX8_close_34 : decode cX8_close 34 = .ok (.aload_n 0, 1) := by decide +kernel
theorem dX8_close_35 : decode cX8_close 35 = .ok (.getfield 13, 3) := by decide +kernel
theorem dX8_close_38 : decode cX8_close 38 = .ok (.if_icmp .le 20, 3) := by decide +kernel
theorem dX8_close_41 : decode cX8_close 41 = .ok (.aload_n 0, 1) := by decide +kernel
theorem dX8_close_42 : decode cX8_close 42 = .ok (.invokevirtual 92, 3) := by decide +kernel
theorem dX8_close_45 : decode cX8_close 45 = .ok (.ifCond .ne 13, 3) := by decide +kernel
theorem dX8_close_48 : decode cX8_close 48 = .ok (.new 96, 3) := by decide +kernel
theorem dX8_close_51 : decode cX8_close 51 = .ok (.dup, 1) := by decide +kernel
theorem dX8_close_52 : decode cX8_close 52 = .ok (.ldc 98, 2) := by decide +kernel
theorem dX8_close_54 : decode cX8_close 54 = .ok (.invokespecial 100, 3) := by decide +kernel
theorem dX8_close_57 : decode cX8_close 57 = .ok (.athrow, 1) := by decide +kernel
theorem dX8_close_58 : decode cX8_close 58 = .ok (.aload_n 0, 1) := by decide +kernel
theorem dX8_close_59 : decode cX8_close 59 = .ok (.getfield 27, 3) := by decide +kernel
theorem dX8_close_62 : decode cX8_close 62 = .ok (.invokevirtual 101, 3) := by decide +kernel
theorem dX8_close_65 : decode cX8_close 65 = .ok (.istore_n 1, 1) := by decide +kernel
theorem dX8_close_66 : decode cX8_close 66 = .ok (.iconst 0, 1) := by decide +kernel
theorem dX8_close_67 : decode cX8_close 67 = .ok (.istore_n 2, 1) := by decide +kernel
theorem dX8_close_68 : decode cX8_close 68 = .ok (.iload_n 2, 1) := by decide +kernel
theorem dX8_close_69 : decode cX8_close 69 = .ok (.aload_n 0, 1) := by decide +kernel
theorem dX8_close_70 : decode cX8_close 70 = .ok (.getfield 21, 3) := by decide +kernel
theorem dX8_close_73 : decode cX8_close 73 = .ok (.if_icmp .ge 27, 3) := by decide +kernel
theorem dX8_close_76 : decode cX8_close 76 = .ok (.aload_n 0, 1) := by decide +kernel
theorem dX8_close_77 : decode cX8_close 77 = .ok (.getfield 36, 3) := by decide +kernel
theorem dX8_close_80 : decode cX8_close 80 = .ok (.aload_n 0, 1) := by decide +kernel
theorem dX8_close_81 : decode cX8_close 81 = .ok (.getfield 17, 3) := by decide +kernel
theorem dX8_close_84 : decode cX8_close 84 = .ok (.iload_n 2, 1) := by decide +kernel
theorem dX8_close_85 : decode cX8_close 85 = .ok (.iaload, 1) := by decide +kernel
theorem dX8_close_86 : decode cX8_close 86 = .ok (.iload_n 1, 1) := by decide +kernel
theorem dX8_close_87 : decode cX8_close 87 = .ok (.iload_n 2, 1) := by decide +kernel
theorem dX8_close_88 : decode cX8_close 88 = .ok (.invokestatic 104, 3) := by decide +kernel
theorem dX8_close_91 : decode cX8_close 91 = .ok (.invokevirtual 107, 3) := by decide +kernel
theorem dX8_close_94 : decode cX8_close 94 = .ok (.iinc 2 1, 3) := by decide +kernel
theorem dX8_close_97 : decode cX8_close 97 = .ok (.goto (-29), 3) := by decide +kernel
theorem dX8_close_100 : decode cX8_close 100 = .ok (.aload_n 0, 1) := by decide +kernel
theorem dX8_close_101 : decode cX8_close 101 = .ok (.iconst 0, 1) := by decide +kernel
theorem dX8_close_102 : decode cX8_close 102 = .ok (.putfield 21, 3) := by decide +kernel
theorem dX8_close_105 : decode cX8_close 105 = .ok (.iload_n 1, 1) := by decide +kernel
theorem dX8_close_106 : decode cX8_close 106 = .ok (.ireturn, 1) := by decide +kernel
theorem dX8_drop_0 : decode cX8_drop 0 = .ok (.aload_n 0, 1) := by decide +kernel
theorem dX8_drop_1 : decode cX8_drop 1 = .ok (.getfield 27, 3) := by decide +kernel
theorem dX8_drop_4 : decode cX8_drop 4 = .ok (.iload_n 1, 1) := by decide +kernel
theorem dX8_drop_5 : decode cX8_drop 5 = .ok (.invokevirtual 110, 3) := by decide +kernel
theorem dX8_drop_8 : decode cX8_drop 8 = .ok (.ifCond .ne 13, 3) := by decide +kernel
theorem dX8_drop_11 : decode cX8_drop 11 = .ok (.new 113, 3) := by decide +kernel
theorem dX8_drop_14 : decode cX8_drop 14 = .ok (.dup, 1) := by decide +kernel
theorem dX8_drop_15 : decode cX8_drop 15 = .ok (.ldc 115, 2) := by decide +kernel
theorem dX8_drop_17 : decode cX8_drop 17 = .ok (.invokespecial 117, 3) := by decide +kernel
theorem dX8_drop_20 : decode cX8_drop 20 = .ok (.athrow, 1) := by decide +kernel
theorem dX8_drop_21 : decode cX8_drop 21 = .ok (.aload_n 0, 1) := by decide +kernel
theorem dX8_drop_22 : decode cX8_drop 22 = .ok (.getfield 27, 3) := by decide +kernel
theorem dX8_drop_25 : decode cX8_drop 25 = .ok (.iload_n 1, 1) := by decide +kernel
theorem dX8_drop_26 : decode cX8_drop 26 = .ok (.invokevirtual 118, 3) := by decide +kernel
theorem dX8_drop_29 : decode cX8_drop 29 = .ok (.aload_n 0, 1) := by decide +kernel
theorem dX8_drop_30 : decode cX8_drop 30 = .ok (.getfield 27, 3) := by decide +kernel
theorem dX8_drop_33 : decode cX8_drop 33 = .ok (.invokevirtual 121, 3) := by decide +kernel
theorem dX8_drop_36 : decode cX8_drop 36 = .ok (.ireturn, 1) := by decide +kernel
theorem dX8_flush_0 : decode cX8_flush 0 = .ok (.aload_n 0, 1) := by decide +kernel
theorem dX8_flush_1 : decode cX8_flush 1 = .ok (.invokevirtual 92, 3) := by decide +kernel
theorem dX8_flush_4 : decode cX8_flush 4 = .ok (.ifCond .ne 13, 3) := by decide +kernel
theorem dX8_flush_7 : decode cX8_flush 7 = .ok (.new 96, 3) := by decide +kernel
theorem dX8_flush_10 : decode cX8_flush 10 = .ok (.dup, 1) := by decide +kernel
theorem dX8_flush_11 : decode cX8_flush 11 = .ok (.ldc 98, 2) := by decide +kernel
theorem dX8_flush_13 : decode cX8_flush 13 = .ok (.invokespecial 100, 3) := by decide +kernel
theorem dX8_flush_16 : decode cX8_flush 16 = .ok (.athrow, 1) := by decide +kernel
theorem dX8_flush_17 : decode cX8_flush 17 = .ok (.aload_n 0, 1) := by decide +kernel
theorem dX8_flush_18 : decode cX8_flush 18 = .ok (.getfield 48, 3) := by decide +kernel
theorem dX8_flush_21 : decode cX8_flush 21 = .ok (.invokevirtual 124, 3) := by decide +kernel
theorem dX8_flush_24 : decode cX8_flush 24 = .ok (.ireturn, 1) := by decide +kernel
theorem dX8_finish_0 : decode cX8_finish 0 = .ok (.aload_n 0, 1) := by decide +kernel
theorem dX8_finish_1 : decode cX8_finish 1 = .ok (.invokevirtual 92, 3) := by decide +kernel
theorem dX8_finish_4 : decode cX8_finish 4 = .ok (.ifCond .ne 13, 3) := by decide +kernel
theorem dX8_finish_7 : decode cX8_finish 7 = .ok (.new 96, 3) := by decide +kernel
theorem dX8_finish_10 : decode cX8_finish 10 = .ok (.dup, 1) := by decide +kernel
theorem dX8_finish_11 : decode cX8_finish 11 = .ok (.ldc 98, 2) := by decide +kernel
theorem dX8_finish_13 : decode cX8_finish 13 = .ok (.invokespecial 100, 3) := by decide +kernel
theorem dX8_finish_16 : decode cX8_finish 16 = .ok (.athrow, 1) := by decide +kernel
theorem dX8_finish_17 : decode cX8_finish 17 = .ok (.aload_n 0, 1) := by decide +kernel
theorem dX8_finish_18 : decode cX8_finish 18 = .ok (.getfield 48, 3) := by decide +kernel
theorem dX8_finish_21 : decode cX8_finish 21 = .ok (.invokevirtual 125, 3) := by decide +kernel
theorem dX8_finish_24 : decode cX8_finish 24 = .ok (.ifCond .ne 13, 3) := by decide +kernel
theorem dX8_finish_27 : decode cX8_finish 27 = .ok (.new 96, 3) := by decide +kernel
theorem dX8_finish_30 : decode cX8_finish 30 = .ok (.dup, 1) := by decide +kernel
theorem dX8_finish_31 : decode cX8_finish 31 = .ok (.ldc 128, 2) := by decide +kernel
theorem dX8_finish_33 : decode cX8_finish 33 = .ok (.invokespecial 100, 3) := by decide +kernel
theorem dX8_finish_36 : decode cX8_finish 36 = .ok (.athrow, 1) := by decide +kernel
theorem dX8_finish_37 : decode cX8_finish 37 = .ok (.aload_n 0, 1) := by decide +kernel
theorem dX8_finish_38 : decode cX8_finish 38 = .ok (.getfield 48, 3) := by decide +kernel
theorem dX8_finish_41 : decode cX8_finish 41 = .ok (.invokevirtual 124, 3) := by decide +kernel
theorem dX8_finish_44 : decode cX8_finish 44 = .ok (.ireturn, 1) := by decide +kernel
theorem dX8_find_0 : decode cX8_find 0 = .ok (.iload_n 1, 1) := by decide +kernel
theorem dX8_find_1 : decode cX8_find 1 = .ok (.invokestatic 69, 3) := by decide +kernel
theorem dX8_find_4 : decode cX8_find 4 = .ok (.ifCond .eq 19, 3) := by decide +kernel
theorem dX8_find_7 : decode cX8_find 7 = .ok (.iload_n 2, 1) := by decide +kernel
theorem dX8_find_8 : decode cX8_find 8 = .ok (.invokestatic 69, 3) := by decide +kernel
theorem dX8_find_11 : decode cX8_find 11 = .ok (.ifCond .eq 12, 3) := by decide +kernel
theorem dX8_find_14 : decode cX8_find 14 = .ok (.iload_n 3, 1) := by decide +kernel
theorem dX8_find_15 : decode cX8_find 15 = .ok (.ifCond .lt 8, 3) := by decide +kernel
theorem dX8_find_18 : decode cX8_find 18 = .ok (.iload_n 3, 1) := by decide +kernel
theorem dX8_find_19 : decode cX8_find 19 = .ok (.iconst 3, 1) := by decide +kernel
theorem dX8_find_20 : decode cX8_find 20 = .ok (.if_icmp .le 13, 3) := by decide +kernel
theorem dX8_find_23 : decode cX8_find 23 = .ok (.new 73, 3) := by decide +kernel
theorem dX8_find_26 : decode cX8_find 26 = .ok (.dup, 1) := by decide +kernel
theorem dX8_find_27 : decode cX8_find 27 = .ok (.ldc 130, 2) := by decide +kernel
theorem dX8_find_29 : decode cX8_find 29 = .ok (.invokespecial 77, 3) := by decide +kernel
theorem dX8_find_32 : decode cX8_find 32 = .ok (.athrow, 1) := by decide +kernel
theorem dX8_find_33 : decode cX8_find 33 = .ok (.aload_n 0, 1) := by decide +kernel
theorem dX8_find_34 : decode cX8_find 34 = .ok (.iload_n 1, 1) := by decide +kernel
theorem dX8_find_35 : decode cX8_find 35 = .ok (.iload_n 2, 1) := by decide +kernel
theorem dX8_find_36 : decode cX8_find 36 = .ok (.invokevirtual 132, 3) := by decide +kernel
theorem dX8_find_39 : decode cX8_find 39 = .ok (.aload_n 0, 1) := by decide +kernel
theorem dX8_find_40 : decode cX8_find 40 = .ok (.getfield 65, 3) := by decide +kernel
theorem dX8_find_43 : decode cX8_find 43 = .ok (.iconst 0, 1) := by decide +kernel
theorem dX8_find_44 : decode cX8_find 44 = .ok (.invokevirtual 136, 3) := by decide +kernel
theorem dX8_find_47 : decode cX8_find 47 = .ok (.iconst 0, 1) := by decide +kernel
theorem dX8_find_48 : decode cX8_find 48 = .ok (.istore 4, 2) := by decide +kernel
theorem dX8_find_50 : decode cX8_find 50 = .ok (.iload 4, 2) := by decide +kernel
theorem dX8_find_52 : decode cX8_find 52 = .ok (.aload_n 0, 1) := by decide +kernel
theorem dX8_find_53 : decode cX8_find 53 = .ok (.getfield 27, 3) := by decide +kernel
theorem dX8_find_56 : decode cX8_find 56 = .ok (.invokevirtual 85, 3) := by decide +kernel
theorem dX8_find_59 : decode cX8_find 59 = .ok (.if_icmp .ge 29, 3) := by decide +kernel
theorem dX8_find_62 : decode cX8_find 62 = .ok (.aload_n 0, 1) := by decide +kernel
theorem dX8_find_63 : decode cX8_find 63 = .ok (.iload 4, 2) := by decide +kernel
theorem dX8_find_65 : decode cX8_find 65 = .ok (.iload_n 3, 1) := by decide +kernel
theorem dX8_find_66 : decode cX8_find 66 = .ok (.invokevirtual 140, 3) := by decide +kernel
theorem dX8_find_69 : decode cX8_find 69 = .ok (.ifCond .eq 13, 3) := by decide +kernel
theorem dX8_find_72 : decode cX8_find 72 = .ok (.aload_n 0, 1) := by decide +kernel
theorem dX8_find_73 : decode cX8_find 73 = .ok (.getfield 65, 3) := by decide +kernel
theorem dX8_find_76 : decode cX8_find 76 = .ok (.iload 4, 2) := by decide +kernel
theorem dX8_find_78 : decode cX8_find 78 = .ok (.dconst 0, 1) := by decide +kernel
theorem dX8_find_79 : decode cX8_find 79 = .ok (.invokevirtual 144, 3) := by decide +kernel
theorem dX8_find_82 : decode cX8_find 82 = .ok (.iinc 4 1, 3) := by decide +kernel
theorem dX8_find_85 : decode cX8_find 85 = .ok (.goto (-35), 3) := by decide +kernel
theorem dX8_find_88 : decode cX8_find 88 = .ok (.aload_n 0, 1) := by decide +kernel
theorem dX8_find_89 : decode cX8_find 89 = .ok (.getfield 65, 3) := by decide +kernel
theorem dX8_find_92 : decode cX8_find 92 = .ok (.invokevirtual 148, 3) := by decide +kernel
theorem dX8_find_95 : decode cX8_find 95 = .ok (.ireturn, 1) := by decide +kernel
theorem dX8_rank_0 : decode cX8_rank 0 = .ok (.iload_n 1, 1) := by decide +kernel
theorem dX8_rank_1 : decode cX8_rank 1 = .ok (.invokestatic 69, 3) := by decide +kernel
theorem dX8_rank_4 : decode cX8_rank 4 = .ok (.ifCond .eq 10, 3) := by decide +kernel
theorem dX8_rank_7 : decode cX8_rank 7 = .ok (.iload_n 2, 1) := by decide +kernel
theorem dX8_rank_8 : decode cX8_rank 8 = .ok (.invokestatic 69, 3) := by decide +kernel
theorem dX8_rank_11 : decode cX8_rank 11 = .ok (.ifCond .ne 13, 3) := by decide +kernel
theorem dX8_rank_14 : decode cX8_rank 14 = .ok (.new 73, 3) := by decide +kernel
theorem dX8_rank_17 : decode cX8_rank 17 = .ok (.dup, 1) := by decide +kernel
theorem dX8_rank_18 : decode cX8_rank 18 = .ok (.ldc 75, 2) := by decide +kernel
theorem dX8_rank_20 : decode cX8_rank 20 = .ok (.invokespecial 77, 3) := by decide +kernel
theorem dX8_rank_23 : decode cX8_rank 23 = .ok (.athrow, 1) := by decide +kernel
theorem dX8_rank_24 : decode cX8_rank 24 = .ok (.aload_n 0, 1) := by decide +kernel
theorem dX8_rank_25 : decode cX8_rank 25 = .ok (.iload_n 1, 1) := by decide +kernel
theorem dX8_rank_26 : decode cX8_rank 26 = .ok (.iload_n 2, 1) := by decide +kernel
theorem dX8_rank_27 : decode cX8_rank 27 = .ok (.invokevirtual 132, 3) := by decide +kernel
theorem dX8_rank_30 : decode cX8_rank 30 = .ok (.aload_n 0, 1) := by decide +kernel
theorem dX8_rank_31 : decode cX8_rank 31 = .ok (.getfield 55, 3) := by decide +kernel
theorem dX8_rank_34 : decode cX8_rank 34 = .ok (.invokevirtual 149, 3) := by decide +kernel
theorem dX8_rank_37 : decode cX8_rank 37 = .ok (.istore_n 3, 1) := by decide +kernel
theorem dX8_rank_38 : decode cX8_rank 38 = .ok (.aload_n 0, 1) := by decide +kernel
theorem dX8_rank_39 : decode cX8_rank 39 = .ok (.getfield 59, 3) := by decide +kernel
theorem dX8_rank_42 : decode cX8_rank 42 = .ok (.invokevirtual 149, 3) := by decide +kernel
theorem dX8_rank_45 : decode cX8_rank 45 = .ok (.istore 4, 2) := by decide +kernel
theorem dX8_rank_47 : decode cX8_rank 47 = .ok (.aload_n 0, 1) := by decide +kernel
theorem dX8_rank_48 : decode cX8_rank 48 = .ok (.getfield 65, 3) := by decide +kernel
theorem dX8_rank_51 : decode cX8_rank 51 = .ok (.iconst 1, 1) := by decide +kernel
theorem dX8_rank_52 : decode cX8_rank 52 = .ok (.invokevirtual 136, 3) := by decide +kernel
theorem dX8_rank_55 : decode cX8_rank 55 = .ok (.iconst 0, 1) := by decide +kernel
theorem dX8_rank_56 : decode cX8_rank 56 = .ok (.istore 5, 2) := by decide +kernel
theorem dX8_rank_58 : decode cX8_rank 58 = .ok (.iload 5, 2) := by decide +kernel
theorem dX8_rank_60 : decode cX8_rank 60 = .ok (.aload_n 0, 1) := by decide +kernel
theorem dX8_rank_61 : decode cX8_rank 61 = .ok (.getfield 27, 3) := by decide +kernel
theorem dX8_rank_64 : decode cX8_rank 64 = .ok (.invokevirtual 85, 3) := by decide +kernel
theorem dX8_rank_67 : decode cX8_rank 67 = .ok (.if_icmp .ge 50, 3) := by decide +kernel
theorem dX8_rank_70 : decode cX8_rank 70 = .ok (.aload_n 0, 1) := by decide +kernel
theorem dX8_rank_71 : decode cX8_rank 71 = .ok (.iload 5, 2) := by decide +kernel
theorem dX8_rank_73 : decode cX8_rank 73 = .ok (.iconst 1, 1) := by decide +kernel
theorem dX8_rank_74 : decode cX8_rank 74 = .ok (.invokevirtual 140, 3) := by decide +kernel
theorem dX8_rank_77 : decode cX8_rank 77 = .ok (.ifCond .eq 34, 3) := by decide +kernel
theorem dX8_rank_80 : decode cX8_rank 80 = .ok (.aload_n 0, 1) := by decide +kernel
theorem dX8_rank_81 : decode cX8_rank 81 = .ok (.getfield 65, 3) := by decide +kernel
theorem dX8_rank_84 : decode cX8_rank 84 = .ok (.iload 5, 2) := by decide +kernel
theorem dX8_rank_86 : decode cX8_rank 86 = .ok (.aload_n 0, 1) := by decide +kernel
theorem dX8_rank_87 : decode cX8_rank 87 = .ok (.getfield 55, 3) := by decide +kernel
theorem dX8_rank_90 : decode cX8_rank 90 = .ok (.iload 5, 2) := by decide +kernel
theorem dX8_rank_92 : decode cX8_rank 92 = .ok (.iload_n 3, 1) := by decide +kernel
theorem dX8_rank_93 : decode cX8_rank 93 = .ok (.invokevirtual 152, 3) := by decide +kernel
theorem dX8_rank_96 : decode cX8_rank 96 = .ok (.aload_n 0, 1) := by decide +kernel
theorem dX8_rank_97 : decode cX8_rank 97 = .ok (.getfield 59, 3) := by decide +kernel
theorem dX8_rank_100 : decode cX8_rank 100 = .ok (.iload 5, 2) := by decide +kernel
theorem dX8_rank_102 : decode cX8_rank 102 = .ok (.iload 4, 2) := by decide +kernel
theorem dX8_rank_104 : decode cX8_rank 104 = .ok (.invokevirtual 152, 3) := by decide +kernel
theorem dX8_rank_107 : decode cX8_rank 107 = .ok (.dadd, 1) := by decide +kernel
theorem dX8_rank_108 : decode cX8_rank 108 = .ok (.invokevirtual 144, 3) := by decide +kernel
theorem dX8_rank_111 : decode cX8_rank 111 = .ok (.iinc 5 1, 3) := by decide +kernel
theorem dX8_rank_114 : decode cX8_rank 114 = .ok (.goto (-56), 3) := by decide +kernel
theorem dX8_rank_117 : decode cX8_rank 117 = .ok (.aload_n 0, 1) := by decide +kernel
theorem dX8_rank_118 : decode cX8_rank 118 = .ok (.getfield 65, 3) := by decide +kernel
theorem dX8_rank_121 : decode cX8_rank 121 = .ok (.invokevirtual 148, 3) := by decide +kernel
theorem dX8_rank_124 : decode cX8_rank 124 = .ok (.ireturn, 1) := by decide +kernel
theorem dX8_result_0 : decode cX8_result 0 = .ok (.iload_n 1, 1) := by decide +kernel
theorem dX8_result_1 : decode cX8_result 1 = .ok (.ifCond .lt 14, 3) := by decide +kernel
theorem dX8_result_4 : decode cX8_result 4 = .ok (.iload_n 1, 1) := by decide +kernel
theorem dX8_result_5 : decode cX8_result 5 = .ok (.aload_n 0, 1) := by decide +kernel
theorem dX8_result_6 : decode cX8_result 6 = .ok (.getfield 65, 3) := by decide +kernel
theorem dX8_result_9 : decode cX8_result 9 = .ok (.invokevirtual 148, 3) := by decide +kernel
theorem dX8_result_12 : decode cX8_result 12 = .ok (.if_icmp .lt 13, 3) := by decide +kernel
theorem dX8_result_15 : decode cX8_result 15 = .ok (.new 113, 3) := by decide +kernel
theorem dX8_result_18 : decode cX8_result 18 = .ok (.dup, 1) := by decide +kernel
theorem dX8_result_19 : decode cX8_result 19 = .ok (.ldc 156, 2) := by decide +kernel
theorem dX8_result_21 : decode cX8_result 21 = .ok (.invokespecial 117, 3) := by decide +kernel
theorem dX8_result_24 : decode cX8_result 24 = .ok (.athrow, 1) := by decide +kernel
theorem dX8_result_25 : decode cX8_result 25 = .ok (.aload_n 0, 1) := by decide +kernel
theorem dX8_result_26 : decode cX8_result 26 = .ok (.getfield 65, 3) := by decide +kernel
theorem dX8_result_29 : decode cX8_result 29 = .ok (.iload_n 1, 1) := by decide +kernel
theorem dX8_result_30 : decode cX8_result 30 = .ok (.invokevirtual 158, 3) := by decide +kernel
theorem dX8_result_33 : decode cX8_result 33 = .ok (.ireturn, 1) := by decide +kernel
theorem dX8_score_0 : decode cX8_score 0 = .ok (.iload_n 1, 1) := by decide +kernel
theorem dX8_score_1 : decode cX8_score 1 = .ok (.ifCond .lt 14, 3) := by decide +kernel
theorem dX8_score_4 : decode cX8_score 4 = .ok (.iload_n 1, 1) := by decide +kernel
theorem dX8_score_5 : decode cX8_score 5 = .ok (.aload_n 0, 1) := by decide +kernel
theorem dX8_score_6 : decode cX8_score 6 = .ok (.getfield 65, 3) := by decide +kernel
theorem dX8_score_9 : decode cX8_score 9 = .ok (.invokevirtual 148, 3) := by decide +kernel
theorem dX8_score_12 : decode cX8_score 12 = .ok (.if_icmp .lt 13, 3) := by decide +kernel
theorem dX8_score_15 : decode cX8_score 15 = .ok (.new 113, 3) := by decide +kernel
theorem dX8_score_18 : decode cX8_score 18 = .ok (.dup, 1) := by decide +kernel
theorem dX8_score_19 : decode cX8_score 19 = .ok (.ldc 156, 2) := by decide +kernel
theorem dX8_score_21 : decode cX8_score 21 = .ok (.invokespecial 117, 3) := by decide +kernel
theorem dX8_score_24 : decode cX8_score 24 = .ok (.athrow, 1) := by decide +kernel
theorem dX8_score_25 : decode cX8_score 25 = .ok (.aload_n 0, 1) := by decide +kernel
theorem dX8_score_26 : decode cX8_score 26 = .ok (.getfield 65, 3) := by decide +kernel
theorem dX8_score_29 : decode cX8_score 29 = .ok (.invokevirtual 162, 3) := by decide +kernel
theorem dX8_score_32 : decode cX8_score 32 = .ok (.ifCond .ne 13, 3) := by decide +kernel
theorem dX8_score_35 : decode cX8_score 35 = .ok (.new 96, 3) := by decide +kernel
theorem dX8_score_38 : decode cX8_score 38 = .ok (.dup, 1) := by decide +kernel
theorem dX8_score_39 : decode cX8_score 39 = .ok (.ldc 165, 2) := by decide +kernel
theorem dX8_score_41 : decode cX8_score 41 = .ok (.invokespecial 100, 3) := by decide +kernel
theorem dX8_score_44 : decode cX8_score 44 = .ok (.athrow, 1) := by decide +kernel
theorem dX8_score_45 : decode cX8_score 45 = .ok (.aload_n 0, 1) := by decide +kernel
theorem dX8_score_46 : decode cX8_score 46 = .ok (.getfield 65, 3) := by decide +kernel
theorem dX8_score_49 : decode cX8_score 49 = .ok (.iload_n 1, 1) := by decide +kernel
theorem dX8_score_50 : decode cX8_score 50 = .ok (.invokevirtual 167, 3) := by decide +kernel
theorem dX8_score_53 : decode cX8_score 53 = .ok (.dreturn, 1) := by decide +kernel
theorem dX8_byteOf_0 : decode cX8_byteOf 0 = .ok (.aload_n 0, 1) := by decide +kernel
theorem dX8_byteOf_1 : decode cX8_byteOf 1 = .ok (.getfield 48, 3) := by decide +kernel
theorem dX8_byteOf_4 : decode cX8_byteOf 4 = .ok (.iload_n 1, 1) := by decide +kernel
theorem dX8_byteOf_5 : decode cX8_byteOf 5 = .ok (.iload_n 2, 1) := by decide +kernel
theorem dX8_byteOf_6 : decode cX8_byteOf 6 = .ok (.invokevirtual 171, 3) := by decide +kernel
theorem dX8_byteOf_9 : decode cX8_byteOf 9 = .ok (.ifCond .ne 13, 3) := by decide +kernel
theorem dX8_byteOf_12 : decode cX8_byteOf 12 = .ok (.new 174, 3) := by decide +kernel
theorem dX8_byteOf_15 : decode cX8_byteOf 15 = .ok (.dup, 1) := by decide +kernel
theorem dX8_byteOf_16 : decode cX8_byteOf 16 = .ok (.ldc 176, 2) := by decide +kernel
theorem dX8_byteOf_18 : decode cX8_byteOf 18 = .ok (.invokespecial 178, 3) := by decide +kernel
theorem dX8_byteOf_21 : decode cX8_byteOf 21 = .ok (.athrow, 1) := by decide +kernel
theorem dX8_byteOf_22 : decode cX8_byteOf 22 = .ok (.aload_n 0, 1) := by decide +kernel
theorem dX8_byteOf_23 : decode cX8_byteOf 23 = .ok (.getfield 48, 3) := by decide +kernel
theorem dX8_byteOf_26 : decode cX8_byteOf 26 = .ok (.iload_n 1, 1) := by decide +kernel
theorem dX8_byteOf_27 : decode cX8_byteOf 27 = .ok (.iload_n 2, 1) := by decide +kernel
theorem dX8_byteOf_28 : decode cX8_byteOf 28 = .ok (.invokevirtual 179, 3) := by decide +kernel
theorem dX8_byteOf_31 : decode cX8_byteOf 31 = .ok (.ireturn, 1) := by decide +kernel
theorem dX8_run_0 : decode cX8_run 0 = .ok (.iload_n 1, 1) := by decide +kernel
theorem dX8_run_1 : decode cX8_run 1 = .ok (.ifCond .lt 14, 3) := by decide +kernel
theorem dX8_run_4 : decode cX8_run 4 = .ok (.iload_n 1, 1) := by decide +kernel
theorem dX8_run_5 : decode cX8_run 5 = .ok (.aload_n 0, 1) := by decide +kernel
theorem dX8_run_6 : decode cX8_run 6 = .ok (.getfield 48, 3) := by decide +kernel
theorem dX8_run_9 : decode cX8_run 9 = .ok (.invokevirtual 124, 3) := by decide +kernel
theorem dX8_run_12 : decode cX8_run 12 = .ok (.if_icmp .lt 13, 3) := by decide +kernel
theorem dX8_run_15 : decode cX8_run 15 = .ok (.new 113, 3) := by decide +kernel
theorem dX8_run_18 : decode cX8_run 18 = .ok (.dup, 1) := by decide +kernel
theorem dX8_run_19 : decode cX8_run 19 = .ok (.ldc 183, 2) := by decide +kernel
theorem dX8_run_21 : decode cX8_run 21 = .ok (.invokespecial 117, 3) := by decide +kernel
theorem dX8_run_24 : decode cX8_run 24 = .ok (.athrow, 1) := by decide +kernel
theorem dX8_run_25 : decode cX8_run 25 = .ok (.iload_n 2, 1) := by decide +kernel
theorem dX8_run_26 : decode cX8_run 26 = .ok (.tableswitch 66 0 3 #[30, 39, 48, 57], 30) := by decide +kernel
theorem dX8_run_56 : decode cX8_run 56 = .ok (.aload_n 0, 1) := by decide +kernel
theorem dX8_run_57 : decode cX8_run 57 = .ok (.getfield 48, 3) := by decide +kernel
theorem dX8_run_60 : decode cX8_run 60 = .ok (.iload_n 1, 1) := by decide +kernel
theorem dX8_run_61 : decode cX8_run 61 = .ok (.invokevirtual 185, 3) := by decide +kernel
theorem dX8_run_64 : decode cX8_run 64 = .ok (.ireturn, 1) := by decide +kernel
theorem dX8_run_65 : decode cX8_run 65 = .ok (.aload_n 0, 1) := by decide +kernel
theorem dX8_run_66 : decode cX8_run 66 = .ok (.getfield 48, 3) := by decide +kernel
theorem dX8_run_69 : decode cX8_run 69 = .ok (.iload_n 1, 1) := by decide +kernel
theorem dX8_run_70 : decode cX8_run 70 = .ok (.invokevirtual 188, 3) := by decide +kernel
theorem dX8_run_73 : decode cX8_run 73 = .ok (.ireturn, 1) := by decide +kernel
theorem dX8_run_74 : decode cX8_run 74 = .ok (.aload_n 0, 1) := by decide +kernel
theorem dX8_run_75 : decode cX8_run 75 = .ok (.getfield 48, 3) := by decide +kernel
theorem dX8_run_78 : decode cX8_run 78 = .ok (.iload_n 1, 1) := by decide +kernel
theorem dX8_run_79 : decode cX8_run 79 = .ok (.invokevirtual 191, 3) := by decide +kernel
theorem dX8_run_82 : decode cX8_run 82 = .ok (.ireturn, 1) := by decide +kernel
theorem dX8_run_83 : decode cX8_run 83 = .ok (.aload_n 0, 1) := by decide +kernel
theorem dX8_run_84 : decode cX8_run 84 = .ok (.getfield 48, 3) := by decide +kernel
theorem dX8_run_87 : decode cX8_run 87 = .ok (.iload_n 1, 1) := by decide +kernel
theorem dX8_run_88 : decode cX8_run 88 = .ok (.invokevirtual 194, 3) := by decide +kernel
theorem dX8_run_91 : decode cX8_run 91 = .ok (.ireturn, 1) := by decide +kernel
theorem dX8_run_92 : decode cX8_run 92 = .ok (.new 73, 3) := by decide +kernel
theorem dX8_run_95 : decode cX8_run 95 = .ok (.dup, 1) := by decide +kernel
theorem dX8_run_96 : decode cX8_run 96 = .ok (.ldc 197, 2) := by decide +kernel
theorem dX8_run_98 : decode cX8_run 98 = .ok (.invokespecial 77, 3) := by decide +kernel
theorem dX8_run_101 : decode cX8_run 101 = .ok (.athrow, 1) := by decide +kernel
theorem dX8_count_0 : decode cX8_count 0 = .ok (.iload_n 1, 1) := by decide +kernel
theorem dX8_count_1 : decode cX8_count 1 = .ok (.tableswitch 132 0 9 #[55, 63, 71, 79, 87, 95, 103, 111, 119, 127], 55) := by decide +kernel
theorem dX8_count_56 : decode cX8_count 56 = .ok (.aload_n 0, 1) := by decide +kernel
theorem dX8_count_57 : decode cX8_count 57 = .ok (.getfield 27, 3) := by decide +kernel
theorem dX8_count_60 : decode cX8_count 60 = .ok (.invokevirtual 85, 3) := by decide +kernel
theorem dX8_count_63 : decode cX8_count 63 = .ok (.ireturn, 1) := by decide +kernel
theorem dX8_count_64 : decode cX8_count 64 = .ok (.aload_n 0, 1) := by decide +kernel
theorem dX8_count_65 : decode cX8_count 65 = .ok (.getfield 27, 3) := by decide +kernel
theorem dX8_count_68 : decode cX8_count 68 = .ok (.invokevirtual 121, 3) := by decide +kernel
theorem dX8_count_71 : decode cX8_count 71 = .ok (.ireturn, 1) := by decide +kernel
theorem dX8_count_72 : decode cX8_count 72 = .ok (.aload_n 0, 1) := by decide +kernel
theorem dX8_count_73 : decode cX8_count 73 = .ok (.getfield 36, 3) := by decide +kernel
theorem dX8_count_76 : decode cX8_count 76 = .ok (.invokevirtual 91, 3) := by decide +kernel
theorem dX8_count_79 : decode cX8_count 79 = .ok (.ireturn, 1) := by decide +kernel
theorem dX8_count_80 : decode cX8_count 80 = .ok (.aload_n 0, 1) := by decide +kernel
theorem dX8_count_81 : decode cX8_count 81 = .ok (.getfield 48, 3) := by decide +kernel
theorem dX8_count_84 : decode cX8_count 84 = .ok (.invokevirtual 124, 3) := by decide +kernel
theorem dX8_count_87 : decode cX8_count 87 = .ok (.ireturn, 1) := by decide +kernel
theorem dX8_count_88 : decode cX8_count 88 = .ok (.aload_n 0, 1) := by decide +kernel
theorem dX8_count_89 : decode cX8_count 89 = .ok (.getfield 48, 3) := by decide +kernel
theorem dX8_count_92 : decode cX8_count 92 = .ok (.invokevirtual 199, 3) := by decide +kernel
theorem dX8_count_95 : decode cX8_count 95 = .ok (.ireturn, 1) := by decide +kernel
theorem dX8_count_96 : decode cX8_count 96 = .ok (.aload_n 0, 1) := by decide +kernel
theorem dX8_count_97 : decode cX8_count 97 = .ok (.getfield 48, 3) := by decide +kernel
theorem dX8_count_100 : decode cX8_count 100 = .ok (.invokevirtual 202, 3) := by decide +kernel
theorem dX8_count_103 : decode cX8_count 103 = .ok (.ireturn, 1) := by decide +kernel
theorem dX8_count_104 : decode cX8_count 104 = .ok (.aload_n 0, 1) := by decide +kernel
theorem dX8_count_105 : decode cX8_count 105 = .ok (.getfield 48, 3) := by decide +kernel
theorem dX8_count_108 : decode cX8_count 108 = .ok (.invokevirtual 205, 3) := by decide +kernel
theorem dX8_count_111 : decode cX8_count 111 = .ok (.ireturn, 1) := by decide +kernel
theorem dX8_count_112 : decode cX8_count 112 = .ok (.aload_n 0, 1) := by decide +kernel
theorem dX8_count_113 : decode cX8_count 113 = .ok (.getfield 48, 3) := by decide +kernel
theorem dX8_count_116 : decode cX8_count 116 = .ok (.invokevirtual 208, 3) := by decide +kernel
theorem dX8_count_119 : decode cX8_count 119 = .ok (.ireturn, 1) := by decide +kernel
theorem dX8_count_120 : decode cX8_count 120 = .ok (.aload_n 0, 1) := by decide +kernel
theorem dX8_count_121 : decode cX8_count 121 = .ok (.getfield 48, 3) := by decide +kernel
theorem dX8_count_124 : decode cX8_count 124 = .ok (.invokevirtual 211, 3) := by decide +kernel
theorem dX8_count_127 : decode cX8_count 127 = .ok (.ireturn, 1) := by decide +kernel
theorem dX8_count_128 : decode cX8_count 128 = .ok (.aload_n 0, 1) := by decide +kernel
theorem dX8_count_129 : decode cX8_count 129 = .ok (.getfield 21, 3) := by decide +kernel
theorem dX8_count_132 : decode cX8_count 132 = .ok (.ireturn, 1) := by decide +kernel
theorem dX8_count_133 : decode cX8_count 133 = .ok (.iconst (-1), 1) := by decide +kernel
theorem dX8_count_134 : decode cX8_count 134 = .ok (.ireturn, 1) := by decide +kernel
theorem dX8_clamp_0 : decode cX8_clamp 0 = .ok (.iload_n 1, 1) := by decide +kernel
theorem dX8_clamp_1 : decode cX8_clamp 1 = .ok (.iload_n 2, 1) := by decide +kernel
theorem dX8_clamp_2 : decode cX8_clamp 2 = .ok (.iload_n 0, 1) := by decide +kernel
theorem dX8_clamp_3 : decode cX8_clamp 3 = .ok (.invokestatic 214, 3) := by decide +kernel
theorem dX8_clamp_6 : decode cX8_clamp 6 = .ok (.invokestatic 219, 3) := by decide +kernel
theorem dX8_clamp_9 : decode cX8_clamp 9 = .ok (.ireturn, 1) := by decide +kernel
theorem dX8_isWord_0 : decode cX8_isWord 0 = .ok (.iload_n 0, 1) := by decide +kernel
theorem dX8_isWord_1 : decode cX8_isWord 1 = .ok (.ifCond .lt 13, 3) := by decide +kernel
theorem dX8_isWord_4 : decode cX8_isWord 4 = .ok (.iload_n 0, 1) := by decide +kernel
theorem dX8_isWord_5 : decode cX8_isWord 5 = .ok (.bipush 100, 2) := by decide +kernel
theorem dX8_isWord_7 : decode cX8_isWord 7 = .ok (.if_icmp .ge 7, 3) := by decide +kernel
theorem dX8_isWord_10 : decode cX8_isWord 10 = .ok (.iconst 1, 1) := by decide +kernel
theorem dX8_isWord_11 : decode cX8_isWord 11 = .ok (.goto 4, 3) := by decide +kernel
theorem dX8_isWord_14 : decode cX8_isWord 14 = .ok (.iconst 0, 1) := by decide +kernel
theorem dX8_isWord_15 : decode cX8_isWord 15 = .ok (.ireturn, 1) := by decide +kernel
theorem dX8_flushBuffer_0 : decode cX8_flushBuffer 0 = .ok (.aload_n 0, 1) := by decide +kernel
theorem dX8_flushBuffer_1 : decode cX8_flushBuffer 1 = .ok (.getfield 36, 3) := by decide +kernel
theorem dX8_flushBuffer_4 : decode cX8_flushBuffer 4 = .ok (.invokevirtual 91, 3) := by decide +kernel
theorem dX8_flushBuffer_7 : decode cX8_flushBuffer 7 = .ok (.ifCond .ne 5, 3) := by decide +kernel
theorem dX8_flushBuffer_10 : decode cX8_flushBuffer 10 = .ok (.iconst 1, 1) := by decide +kernel
theorem dX8_flushBuffer_11 : decode cX8_flushBuffer 11 = .ok (.ireturn, 1) := by decide +kernel
theorem dX8_flushBuffer_12 : decode cX8_flushBuffer 12 = .ok (.aload_n 0, 1) := by decide +kernel
theorem dX8_flushBuffer_13 : decode cX8_flushBuffer 13 = .ok (.getfield 48, 3) := by decide +kernel
theorem dX8_flushBuffer_16 : decode cX8_flushBuffer 16 = .ok (.aload_n 0, 1) := by decide +kernel
theorem dX8_flushBuffer_17 : decode cX8_flushBuffer 17 = .ok (.getfield 36, 3) := by decide +kernel
theorem dX8_flushBuffer_20 : decode cX8_flushBuffer 20 = .ok (.invokevirtual 222, 3) := by decide +kernel
theorem dX8_flushBuffer_23 : decode cX8_flushBuffer 23 = .ok (.ifCond .ne 5, 3) := by decide +kernel
theorem dX8_flushBuffer_26 : decode cX8_flushBuffer 26 = .ok (.iconst 0, 1) := by decide +kernel
theorem dX8_flushBuffer_27 : decode cX8_flushBuffer 27 = .ok (.ireturn, 1) := by decide +kernel
theorem dX8_flushBuffer_28 : decode cX8_flushBuffer 28 = .ok (.aload_n 0, 1) := by decide +kernel
theorem dX8_flushBuffer_29 : decode cX8_flushBuffer 29 = .ok (.getfield 36, 3) := by decide +kernel
theorem dX8_flushBuffer_32 : decode cX8_flushBuffer 32 = .ok (.invokevirtual 226, 3) := by decide +kernel
theorem dX8_flushBuffer_35 : decode cX8_flushBuffer 35 = .ok (.aload_n 0, 1) := by decide +kernel
theorem dX8_flushBuffer_36 : decode cX8_flushBuffer 36 = .ok (.getfield 48, 3) := by decide +kernel
theorem dX8_flushBuffer_39 : decode cX8_flushBuffer 39 = .ok (.invokevirtual 229, 3) := by decide +kernel
theorem dX8_flushBuffer_42 : decode cX8_flushBuffer 42 = .ok (.iconst 1, 1) := by decide +kernel
theorem dX8_flushBuffer_43 : decode cX8_flushBuffer 43 = .ok (.ireturn, 1) := by decide +kernel
theorem dX8_lookUp_0 : decode cX8_lookUp 0 = .ok (.aload_n 0, 1) := by decide +kernel
theorem dX8_lookUp_1 : decode cX8_lookUp 1 = .ok (.getfield 55, 3) := by decide +kernel
theorem dX8_lookUp_4 : decode cX8_lookUp 4 = .ok (.iload_n 1, 1) := by decide +kernel
theorem dX8_lookUp_5 : decode cX8_lookUp 5 = .ok (.invokevirtual 232, 3) := by decide +kernel
theorem dX8_lookUp_8 : decode cX8_lookUp 8 = .ok (.aload_n 0, 1) := by decide +kernel
theorem dX8_lookUp_9 : decode cX8_lookUp 9 = .ok (.getfield 59, 3) := by decide +kernel
theorem dX8_lookUp_12 : decode cX8_lookUp 12 = .ok (.iload_n 2, 1) := by decide +kernel
theorem dX8_lookUp_13 : decode cX8_lookUp 13 = .ok (.invokevirtual 232, 3) := by decide +kernel
theorem dX8_lookUp_16 : decode cX8_lookUp 16 = .ok (.aload_n 0, 1) := by decide +kernel
theorem dX8_lookUp_17 : decode cX8_lookUp 17 = .ok (.getfield 48, 3) := by decide +kernel
theorem dX8_lookUp_20 : decode cX8_lookUp 20 = .ok (.aload_n 0, 1) := by decide +kernel
theorem dX8_lookUp_21 : decode cX8_lookUp 21 = .ok (.getfield 55, 3) := by decide +kernel
end
section
theorem dX8_lookUp_24 : decode cX8_lookUp 24 = .ok (.aload_n 0, 1) := by decide +kernel
theorem dX8_lookUp_25 : decode cX8_lookUp 25 = .ok (.getfield 59, 3) := by decide +kernel
theorem dX8_lookUp_28 : decode cX8_lookUp 28 = .ok (.invokevirtual 234, 3) := by decide +kernel
theorem dX8_lookUp_31 : decode cX8_lookUp 31 = .ok (.aload_n 0, 1) := by decide +kernel
theorem dX8_lookUp_32 : decode cX8_lookUp 32 = .ok (.getfield 55, 3) := by decide +kernel
theorem dX8_lookUp_35 : decode cX8_lookUp 35 = .ok (.aload_n 0, 1) := by decide +kernel
theorem dX8_lookUp_36 : decode cX8_lookUp 36 = .ok (.getfield 36, 3) := by decide +kernel
theorem dX8_lookUp_39 : decode cX8_lookUp 39 = .ok (.aload_n 0, 1) := by decide +kernel
theorem dX8_lookUp_40 : decode cX8_lookUp 40 = .ok (.getfield 27, 3) := by decide +kernel
theorem dX8_lookUp_43 : decode cX8_lookUp 43 = .ok (.invokevirtual 238, 3) := by decide +kernel
theorem dX8_lookUp_46 : decode cX8_lookUp 46 = .ok (.aload_n 0, 1) := by decide +kernel
theorem dX8_lookUp_47 : decode cX8_lookUp 47 = .ok (.getfield 59, 3) := by decide +kernel
theorem dX8_lookUp_50 : decode cX8_lookUp 50 = .ok (.aload_n 0, 1) := by decide +kernel
theorem dX8_lookUp_51 : decode cX8_lookUp 51 = .ok (.getfield 36, 3) := by decide +kernel
theorem dX8_lookUp_54 : decode cX8_lookUp 54 = .ok (.aload_n 0, 1) := by decide +kernel
theorem dX8_lookUp_55 : decode cX8_lookUp 55 = .ok (.getfield 27, 3) := by decide +kernel
theorem dX8_lookUp_58 : decode cX8_lookUp 58 = .ok (.invokevirtual 238, 3) := by decide +kernel
theorem dX8_lookUp_61 : decode cX8_lookUp 61 = .ok (.return_, 1) := by decide +kernel
theorem dX8_fits_0 : decode cX8_fits 0 = .ok (.aload_n 0, 1) := by decide +kernel
theorem dX8_fits_1 : decode cX8_fits 1 = .ok (.getfield 55, 3) := by decide +kernel
theorem dX8_fits_4 : decode cX8_fits 4 = .ok (.iload_n 1, 1) := by decide +kernel
theorem dX8_fits_5 : decode cX8_fits 5 = .ok (.invokevirtual 242, 3) := by decide +kernel
theorem dX8_fits_8 : decode cX8_fits 8 = .ok (.istore_n 3, 1) := by decide +kernel
theorem dX8_fits_9 : decode cX8_fits 9 = .ok (.aload_n 0, 1) := by decide +kernel
theorem dX8_fits_10 : decode cX8_fits 10 = .ok (.getfield 59, 3) := by decide +kernel
theorem dX8_fits_13 : decode cX8_fits 13 = .ok (.iload_n 1, 1) := by decide +kernel
theorem dX8_fits_14 : decode cX8_fits 14 = .ok (.invokevirtual 242, 3) := by decide +kernel
theorem dX8_fits_17 : decode cX8_fits 17 = .ok (.istore 4, 2) := by decide +kernel
theorem dX8_fits_19 : decode cX8_fits 19 = .ok (.iload_n 2, 1) := by decide +kernel
theorem dX8_fits_20 : decode cX8_fits 20 = .ok (.tableswitch 92 0 3 #[32, 47, 62, 77], 32) := by decide +kernel
theorem dX8_fits_52 : decode cX8_fits 52 = .ok (.iload_n 3, 1) := by decide +kernel
theorem dX8_fits_53 : decode cX8_fits 53 = .ok (.ifCond .eq 12, 3) := by decide +kernel
theorem dX8_fits_56 : decode cX8_fits 56 = .ok (.iload 4, 2) := by decide +kernel
theorem dX8_fits_58 : decode cX8_fits 58 = .ok (.ifCond .eq 7, 3) := by decide +kernel
theorem dX8_fits_61 : decode cX8_fits 61 = .ok (.iconst 1, 1) := by decide +kernel
theorem dX8_fits_62 : decode cX8_fits 62 = .ok (.goto 4, 3) := by decide +kernel
theorem dX8_fits_65 : decode cX8_fits 65 = .ok (.iconst 0, 1) := by decide +kernel
theorem dX8_fits_66 : decode cX8_fits 66 = .ok (.ireturn, 1) := by decide +kernel
theorem dX8_fits_67 : decode cX8_fits 67 = .ok (.iload_n 3, 1) := by decide +kernel
theorem dX8_fits_68 : decode cX8_fits 68 = .ok (.ifCond .ne 8, 3) := by decide +kernel
theorem dX8_fits_71 : decode cX8_fits 71 = .ok (.iload 4, 2) := by decide +kernel
theorem dX8_fits_73 : decode cX8_fits 73 = .ok (.ifCond .eq 7, 3) := by decide +kernel
theorem dX8_fits_76 : decode cX8_fits 76 = .ok (.iconst 1, 1) := by decide +kernel
theorem dX8_fits_77 : decode cX8_fits 77 = .ok (.goto 4, 3) := by decide +kernel
theorem dX8_fits_80 : decode cX8_fits 80 = .ok (.iconst 0, 1) := by decide +kernel
theorem dX8_fits_81 : decode cX8_fits 81 = .ok (.ireturn, 1) := by decide +kernel
theorem dX8_fits_82 : decode cX8_fits 82 = .ok (.iload_n 3, 1) := by decide +kernel
theorem dX8_fits_83 : decode cX8_fits 83 = .ok (.iconst 1, 1) := by decide +kernel
theorem dX8_fits_84 : decode cX8_fits 84 = .ok (.ishl, 1) := by decide +kernel
theorem dX8_fits_85 : decode cX8_fits 85 = .ok (.iload 4, 2) := by decide +kernel
theorem dX8_fits_87 : decode cX8_fits 87 = .ok (.iand, 1) := by decide +kernel
theorem dX8_fits_88 : decode cX8_fits 88 = .ok (.ifCond .eq 7, 3) := by decide +kernel
theorem dX8_fits_91 : decode cX8_fits 91 = .ok (.iconst 1, 1) := by decide +kernel
theorem dX8_fits_92 : decode cX8_fits 92 = .ok (.goto 4, 3) := by decide +kernel
theorem dX8_fits_95 : decode cX8_fits 95 = .ok (.iconst 0, 1) := by decide +kernel
theorem dX8_fits_96 : decode cX8_fits 96 = .ok (.ireturn, 1) := by decide +kernel
theorem dX8_fits_97 : decode cX8_fits 97 = .ok (.iload_n 3, 1) := by decide +kernel
theorem dX8_fits_98 : decode cX8_fits 98 = .ok (.ifCond .eq 12, 3) := by decide +kernel
theorem dX8_fits_101 : decode cX8_fits 101 = .ok (.iload 4, 2) := by decide +kernel
theorem dX8_fits_103 : decode cX8_fits 103 = .ok (.ifCond .ne 7, 3) := by decide +kernel
theorem dX8_fits_106 : decode cX8_fits 106 = .ok (.iconst 1, 1) := by decide +kernel
theorem dX8_fits_107 : decode cX8_fits 107 = .ok (.goto 4, 3) := by decide +kernel
theorem dX8_fits_110 : decode cX8_fits 110 = .ok (.iconst 0, 1) := by decide +kernel
theorem dX8_fits_111 : decode cX8_fits 111 = .ok (.ireturn, 1) := by decide +kernel
theorem dX8_fits_112 : decode cX8_fits 112 = .ok (.iconst 0, 1) := by decide +kernel
theorem dX8_fits_113 : decode cX8_fits 113 = .ok (.ireturn, 1) := by decide +kernel
end
section
theorem dJ0_init_0 : decode cJ0_init 0 = .ok (.aload_n 0, 1) := by decide +kernel
theorem dJ0_init_1 : decode cJ0_init 1 = .ok (.invokespecial 1, 3) := by decide +kernel
theorem dJ0_init_4 : decode cJ0_init 4 = .ok (.aload_n 0, 1) := by decide +kernel
theorem dJ0_init_5 : decode cJ0_init 5 = .ok (.getstatic 39, 3) := by decide +kernel
theorem dJ0_init_8 : decode cJ0_init 8 = .ok (.putfield 9, 3) := by decide +kernel
theorem dJ0_init_11 : decode cJ0_init 11 = .ok (.return_, 1) := by decide +kernel
theorem dJ0_size_0 : decode cJ0_size 0 = .ok (.aload_n 0, 1) := by decide +kernel
theorem dJ0_size_1 : decode cJ0_size 1 = .ok (.getfield 48, 3) := by decide +kernel
theorem dJ0_size_4 : decode cJ0_size 4 = .ok (.ireturn, 1) := by decide +kernel
theorem dJ0_isEmpty_0 : decode cJ0_isEmpty 0 = .ok (.aload_n 0, 1) := by decide +kernel
theorem dJ0_isEmpty_1 : decode cJ0_isEmpty 1 = .ok (.getfield 48, 3) := by decide +kernel
theorem dJ0_isEmpty_4 : decode cJ0_isEmpty 4 = .ok (.ifCond .ne 7, 3) := by decide +kernel
theorem dJ0_isEmpty_7 : decode cJ0_isEmpty 7 = .ok (.iconst 1, 1) := by decide +kernel
theorem dJ0_isEmpty_8 : decode cJ0_isEmpty 8 = .ok (.goto 4, 3) := by decide +kernel
theorem dJ0_isEmpty_11 : decode cJ0_isEmpty 11 = .ok (.iconst 0, 1) := by decide +kernel
theorem dJ0_isEmpty_12 : decode cJ0_isEmpty 12 = .ok (.ireturn, 1) := by decide +kernel
theorem dJ0_get_0 : decode cJ0_get 0 = .ok (.iload_n 1, 1) := by decide +kernel
theorem dJ0_get_1 : decode cJ0_get 1 = .ok (.aload_n 0, 1) := by decide +kernel
theorem dJ0_get_2 : decode cJ0_get 2 = .ok (.getfield 48, 3) := by decide +kernel
theorem dJ0_get_5 : decode cJ0_get 5 = .ok (.invokestatic 118, 3) := by decide +kernel
theorem dJ0_get_8 : decode cJ0_get 8 = .ok (.pop, 1) := by decide +kernel
theorem dJ0_get_9 : decode cJ0_get 9 = .ok (.aload_n 0, 1) := by decide +kernel
theorem dJ0_get_10 : decode cJ0_get 10 = .ok (.iload_n 1, 1) := by decide +kernel
theorem dJ0_get_11 : decode cJ0_get 11 = .ok (.invokevirtual 123, 3) := by decide +kernel
theorem dJ0_get_14 : decode cJ0_get 14 = .ok (.areturn, 1) := by decide +kernel
theorem dJ0_elementData_0 : decode cJ0_elementData 0 = .ok (.aload_n 0, 1) := by decide +kernel
theorem dJ0_elementData_1 : decode cJ0_elementData 1 = .ok (.getfield 9, 3) := by decide +kernel
theorem dJ0_elementData_4 : decode cJ0_elementData 4 = .ok (.iload_n 1, 1) := by decide +kernel
theorem dJ0_elementData_5 : decode cJ0_elementData 5 = .ok (.aaload, 1) := by decide +kernel
theorem dJ0_elementData_6 : decode cJ0_elementData 6 = .ok (.areturn, 1) := by decide +kernel
theorem dJ0_add_0 : decode cJ0_add 0 = .ok (.aload_n 0, 1) := by decide +kernel
theorem dJ0_add_1 : decode cJ0_add 1 = .ok (.iload_n 1, 1) := by decide +kernel
theorem dJ0_add_2 : decode cJ0_add 2 = .ok (.invokevirtual 135, 3) := by decide +kernel
theorem dJ0_add_5 : decode cJ0_add 5 = .ok (.aload_n 0, 1) := by decide +kernel
theorem dJ0_add_6 : decode cJ0_add 6 = .ok (.dup, 1) := by decide +kernel
theorem dJ0_add_7 : decode cJ0_add 7 = .ok (.getfield 63, 3) := by decide +kernel
theorem dJ0_add_10 : decode cJ0_add 10 = .ok (.iconst 1, 1) := by decide +kernel
theorem dJ0_add_11 : decode cJ0_add 11 = .ok (.iadd, 1) := by decide +kernel
theorem dJ0_add_12 : decode cJ0_add 12 = .ok (.putfield 63, 3) := by decide +kernel
theorem dJ0_add_15 : decode cJ0_add 15 = .ok (.aload_n 0, 1) := by decide +kernel
theorem dJ0_add_16 : decode cJ0_add 16 = .ok (.getfield 48, 3) := by decide +kernel
theorem dJ0_add_19 : decode cJ0_add 19 = .ok (.dup, 1) := by decide +kernel
theorem dJ0_add_20 : decode cJ0_add 20 = .ok (.istore_n 3, 1) := by decide +kernel
theorem dJ0_add_21 : decode cJ0_add 21 = .ok (.aload_n 0, 1) := by decide +kernel
theorem dJ0_add_22 : decode cJ0_add 22 = .ok (.getfield 9, 3) := by decide +kernel
theorem dJ0_add_25 : decode cJ0_add 25 = .ok (.dup, 1) := by decide +kernel
theorem dJ0_add_26 : decode cJ0_add 26 = .ok (.astore 4, 2) := by decide +kernel
theorem dJ0_add_28 : decode cJ0_add 28 = .ok (.arraylength, 1) := by decide +kernel
theorem dJ0_add_29 : decode cJ0_add 29 = .ok (.if_icmp .ne 9, 3) := by decide +kernel
theorem dJ0_add_32 : decode cJ0_add 32 = .ok (.aload_n 0, 1) := by decide +kernel
theorem dJ0_add_33 : decode cJ0_add 33 = .ok (.invokevirtual 129, 3) := by decide +kernel
theorem dJ0_add_36 : decode cJ0_add 36 = .ok (.astore 4, 2) := by decide +kernel
theorem dJ0_add_38 : decode cJ0_add 38 = .ok (.aload 4, 2) := by decide +kernel
theorem dJ0_add_40 : decode cJ0_add 40 = .ok (.iload_n 1, 1) := by decide +kernel
theorem dJ0_add_41 : decode cJ0_add 41 = .ok (.aload 4, 2) := by decide +kernel
theorem dJ0_add_43 : decode cJ0_add 43 = .ok (.iload_n 1, 1) := by decide +kernel
theorem dJ0_add_44 : decode cJ0_add 44 = .ok (.iconst 1, 1) := by decide +kernel
theorem dJ0_add_45 : decode cJ0_add 45 = .ok (.iadd, 1) := by decide +kernel
theorem dJ0_add_46 : decode cJ0_add 46 = .ok (.iload_n 3, 1) := by decide +kernel
theorem dJ0_add_47 : decode cJ0_add 47 = .ok (.iload_n 1, 1) := by decide +kernel
theorem dJ0_add_48 : decode cJ0_add 48 = .ok (.isub, 1) := by decide +kernel
theorem dJ0_add_49 : decode cJ0_add 49 = .ok (.invokestatic 112, 3) := by decide +kernel
theorem dJ0_add_52 : decode cJ0_add 52 = .ok (.aload 4, 2) := by decide +kernel
theorem dJ0_add_54 : decode cJ0_add 54 = .ok (.iload_n 1, 1) := by decide +kernel
theorem dJ0_add_55 : decode cJ0_add 55 = .ok (.aload_n 2, 1) := by decide +kernel
theorem dJ0_add_56 : decode cJ0_add 56 = .ok (.aastore, 1) := by decide +kernel
theorem dJ0_add_57 : decode cJ0_add 57 = .ok (.aload_n 0, 1) := by decide +kernel
theorem dJ0_add_58 : decode cJ0_add 58 = .ok (.iload_n 3, 1) := by decide +kernel
theorem dJ0_add_59 : decode cJ0_add 59 = .ok (.iconst 1, 1) := by decide +kernel
theorem dJ0_add_60 : decode cJ0_add 60 = .ok (.iadd, 1) := by decide +kernel
theorem dJ0_add_61 : decode cJ0_add 61 = .ok (.putfield 48, 3) := by decide +kernel
theorem dJ0_add_64 : decode cJ0_add 64 = .ok (.return_, 1) := by decide +kernel
theorem dJ0_rangeCheckForAdd_0 : decode cJ0_rangeCheckForAdd 0 = .ok (.iload_n 1, 1) := by decide +kernel
theorem dJ0_rangeCheckForAdd_1 : decode cJ0_rangeCheckForAdd 1 = .ok (.aload_n 0, 1) := by decide +kernel
theorem dJ0_rangeCheckForAdd_2 : decode cJ0_rangeCheckForAdd 2 = .ok (.getfield 48, 3) := by decide +kernel
theorem dJ0_rangeCheckForAdd_5 : decode cJ0_rangeCheckForAdd 5 = .ok (.if_icmp .gt 7, 3) := by decide +kernel
theorem dJ0_rangeCheckForAdd_8 : decode cJ0_rangeCheckForAdd 8 = .ok (.iload_n 1, 1) := by decide +kernel
theorem dJ0_rangeCheckForAdd_9 : decode cJ0_rangeCheckForAdd 9 = .ok (.ifCond .ge 16, 3) := by decide +kernel
theorem dJ0_rangeCheckForAdd_12 : decode cJ0_rangeCheckForAdd 12 = .ok (.new 187, 3) := by decide +kernel
theorem dJ0_rangeCheckForAdd_15 : decode cJ0_rangeCheckForAdd 15 = .ok (.dup, 1) := by decide +kernel
theorem dJ0_rangeCheckForAdd_16 : decode cJ0_rangeCheckForAdd 16 = .ok (.aload_n 0, 1) := by decide +kernel
theorem dJ0_rangeCheckForAdd_17 : decode cJ0_rangeCheckForAdd 17 = .ok (.iload_n 1, 1) := by decide +kernel
theorem dJ0_rangeCheckForAdd_18 : decode cJ0_rangeCheckForAdd 18 = .ok (.invokevirtual 198, 3) := by decide +kernel
theorem dJ0_rangeCheckForAdd_21 : decode cJ0_rangeCheckForAdd 21 = .ok (.invokespecial 193, 3) := by decide +kernel
theorem dJ0_rangeCheckForAdd_24 : decode cJ0_rangeCheckForAdd 24 = .ok (.athrow, 1) := by decide +kernel
theorem dJ0_rangeCheckForAdd_25 : decode cJ0_rangeCheckForAdd 25 = .ok (.return_, 1) := by decide +kernel
theorem dJ0_grow_0 : decode cJ0_grow 0 = .ok (.aload_n 0, 1) := by decide +kernel
theorem dJ0_grow_1 : decode cJ0_grow 1 = .ok (.aload_n 0, 1) := by decide +kernel
theorem dJ0_grow_2 : decode cJ0_grow 2 = .ok (.getfield 48, 3) := by decide +kernel
theorem dJ0_grow_5 : decode cJ0_grow 5 = .ok (.iconst 1, 1) := by decide +kernel
theorem dJ0_grow_6 : decode cJ0_grow 6 = .ok (.iadd, 1) := by decide +kernel
theorem dJ0_grow_7 : decode cJ0_grow 7 = .ok (.invokevirtual 69, 3) := by decide +kernel
theorem dJ0_grow_10 : decode cJ0_grow 10 = .ok (.areturn, 1) := by decide +kernel
theorem dJ0_grow1_0 : decode cJ0_grow1 0 = .ok (.aload_n 0, 1) := by decide +kernel
theorem dJ0_grow1_1 : decode cJ0_grow1 1 = .ok (.getfield 9, 3) := by decide +kernel
theorem dJ0_grow1_4 : decode cJ0_grow1 4 = .ok (.arraylength, 1) := by decide +kernel
theorem dJ0_grow1_5 : decode cJ0_grow1 5 = .ok (.istore_n 2, 1) := by decide +kernel
theorem dJ0_grow1_6 : decode cJ0_grow1 6 = .ok (.iload_n 2, 1) := by decide +kernel
theorem dJ0_grow1_7 : decode cJ0_grow1 7 = .ok (.ifCond .gt 13, 3) := by decide +kernel
theorem dJ0_grow1_10 : decode cJ0_grow1 10 = .ok (.aload_n 0, 1) := by decide +kernel
theorem dJ0_grow1_11 : decode cJ0_grow1 11 = .ok (.getfield 9, 3) := by decide +kernel
theorem dJ0_grow1_14 : decode cJ0_grow1 14 = .ok (.getstatic 39, 3) := by decide +kernel
theorem dJ0_grow1_17 : decode cJ0_grow1 17 = .ok (.if_acmp .eq 28, 3) := by decide +kernel
theorem dJ0_grow1_20 : decode cJ0_grow1 20 = .ok (.iload_n 2, 1) := by decide +kernel
theorem dJ0_grow1_21 : decode cJ0_grow1 21 = .ok (.iload_n 1, 1) := by decide +kernel
theorem dJ0_grow1_22 : decode cJ0_grow1 22 = .ok (.iload_n 2, 1) := by decide +kernel
theorem dJ0_grow1_23 : decode cJ0_grow1 23 = .ok (.isub, 1) := by decide +kernel
theorem dJ0_grow1_24 : decode cJ0_grow1 24 = .ok (.iload_n 2, 1) := by decide +kernel
theorem dJ0_grow1_25 : decode cJ0_grow1 25 = .ok (.iconst 1, 1) := by decide +kernel
theorem dJ0_grow1_26 : decode cJ0_grow1 26 = .ok (.ishr, 1) := by decide +kernel
theorem dJ0_grow1_27 : decode cJ0_grow1 27 = .ok (.invokestatic 73, 3) := by decide +kernel
theorem dJ0_grow1_30 : decode cJ0_grow1 30 = .ok (.istore_n 3, 1) := by decide +kernel
theorem dJ0_grow1_31 : decode cJ0_grow1 31 = .ok (.aload_n 0, 1) := by decide +kernel
theorem dJ0_grow1_32 : decode cJ0_grow1 32 = .ok (.aload_n 0, 1) := by decide +kernel
theorem dJ0_grow1_33 : decode cJ0_grow1 33 = .ok (.getfield 9, 3) := by decide +kernel
theorem dJ0_grow1_36 : decode cJ0_grow1 36 = .ok (.iload_n 3, 1) := by decide +kernel
theorem dJ0_grow1_37 : decode cJ0_grow1 37 = .ok (.invokestatic 66, 3) := by decide +kernel
theorem dJ0_grow1_40 : decode cJ0_grow1 40 = .ok (.dup_x1, 1) := by decide +kernel
theorem dJ0_grow1_41 : decode cJ0_grow1 41 = .ok (.putfield 9, 3) := by decide +kernel
theorem dJ0_grow1_44 : decode cJ0_grow1 44 = .ok (.areturn, 1) := by decide +kernel
theorem dJ0_grow1_45 : decode cJ0_grow1 45 = .ok (.aload_n 0, 1) := by decide +kernel
theorem dJ0_grow1_46 : decode cJ0_grow1 46 = .ok (.bipush 10, 2) := by decide +kernel
theorem dJ0_grow1_48 : decode cJ0_grow1 48 = .ok (.iload_n 1, 1) := by decide +kernel
theorem dJ0_grow1_49 : decode cJ0_grow1 49 = .ok (.invokestatic 79, 3) := by decide +kernel
theorem dJ0_grow1_52 : decode cJ0_grow1 52 = .ok (.anewarray 7, 3) := by decide +kernel
theorem dJ0_grow1_55 : decode cJ0_grow1 55 = .ok (.dup_x1, 1) := by decide +kernel
theorem dJ0_grow1_56 : decode cJ0_grow1 56 = .ok (.putfield 9, 3) := by decide +kernel
theorem dJ0_grow1_59 : decode cJ0_grow1 59 = .ok (.areturn, 1) := by decide +kernel
theorem dJ0_remove_0 : decode cJ0_remove 0 = .ok (.iload_n 1, 1) := by decide +kernel
theorem dJ0_remove_1 : decode cJ0_remove 1 = .ok (.aload_n 0, 1) := by decide +kernel
theorem dJ0_remove_2 : decode cJ0_remove 2 = .ok (.getfield 48, 3) := by decide +kernel
theorem dJ0_remove_5 : decode cJ0_remove 5 = .ok (.invokestatic 118, 3) := by decide +kernel
theorem dJ0_remove_8 : decode cJ0_remove 8 = .ok (.pop, 1) := by decide +kernel
theorem dJ0_remove_9 : decode cJ0_remove 9 = .ok (.aload_n 0, 1) := by decide +kernel
theorem dJ0_remove_10 : decode cJ0_remove 10 = .ok (.getfield 9, 3) := by decide +kernel
theorem dJ0_remove_13 : decode cJ0_remove 13 = .ok (.astore_n 2, 1) := by decide +kernel
theorem dJ0_remove_14 : decode cJ0_remove 14 = .ok (.aload_n 2, 1) := by decide +kernel
theorem dJ0_remove_15 : decode cJ0_remove 15 = .ok (.iload_n 1, 1) := by decide +kernel
theorem dJ0_remove_16 : decode cJ0_remove 16 = .ok (.aaload, 1) := by decide +kernel
theorem dJ0_remove_17 : decode cJ0_remove 17 = .ok (.astore_n 3, 1) := by decide +kernel
theorem dJ0_remove_18 : decode cJ0_remove 18 = .ok (.aload_n 0, 1) := by decide +kernel
theorem dJ0_remove_19 : decode cJ0_remove 19 = .ok (.aload_n 2, 1) := by decide +kernel
theorem dJ0_remove_20 : decode cJ0_remove 20 = .ok (.iload_n 1, 1) := by decide +kernel
theorem dJ0_remove_21 : decode cJ0_remove 21 = .ok (.invokevirtual 144, 3) := by decide +kernel
theorem dJ0_remove_24 : decode cJ0_remove 24 = .ok (.aload_n 3, 1) := by decide +kernel
theorem dJ0_remove_25 : decode cJ0_remove 25 = .ok (.areturn, 1) := by decide +kernel
theorem dJ0_fastRemove_0 : decode cJ0_fastRemove 0 = .ok (.aload_n 0, 1) := by decide +kernel
theorem dJ0_fastRemove_1 : decode cJ0_fastRemove 1 = .ok (.dup, 1) := by decide +kernel
theorem dJ0_fastRemove_2 : decode cJ0_fastRemove 2 = .ok (.getfield 63, 3) := by decide +kernel
theorem dJ0_fastRemove_5 : decode cJ0_fastRemove 5 = .ok (.iconst 1, 1) := by decide +kernel
theorem dJ0_fastRemove_6 : decode cJ0_fastRemove 6 = .ok (.iadd, 1) := by decide +kernel
theorem dJ0_fastRemove_7 : decode cJ0_fastRemove 7 = .ok (.putfield 63, 3) := by decide +kernel
theorem dJ0_fastRemove_10 : decode cJ0_fastRemove 10 = .ok (.aload_n 0, 1) := by decide +kernel
theorem dJ0_fastRemove_11 : decode cJ0_fastRemove 11 = .ok (.getfield 48, 3) := by decide +kernel
theorem dJ0_fastRemove_14 : decode cJ0_fastRemove 14 = .ok (.iconst 1, 1) := by decide +kernel
theorem dJ0_fastRemove_15 : decode cJ0_fastRemove 15 = .ok (.isub, 1) := by decide +kernel
theorem dJ0_fastRemove_16 : decode cJ0_fastRemove 16 = .ok (.dup, 1) := by decide +kernel
theorem dJ0_fastRemove_17 : decode cJ0_fastRemove 17 = .ok (.istore_n 3, 1) := by decide +kernel
theorem dJ0_fastRemove_18 : decode cJ0_fastRemove 18 = .ok (.iload_n 2, 1) := by decide +kernel
theorem dJ0_fastRemove_19 : decode cJ0_fastRemove 19 = .ok (.if_icmp .le 15, 3) := by decide +kernel
theorem dJ0_fastRemove_22 : decode cJ0_fastRemove 22 = .ok (.aload_n 1, 1) := by decide +kernel
theorem dJ0_fastRemove_23 : decode cJ0_fastRemove 23 = .ok (.iload_n 2, 1) := by decide +kernel
theorem dJ0_fastRemove_24 : decode cJ0_fastRemove 24 = .ok (.iconst 1, 1) := by decide +kernel
theorem dJ0_fastRemove_25 : decode cJ0_fastRemove 25 = .ok (.iadd, 1) := by decide +kernel
theorem dJ0_fastRemove_26 : decode cJ0_fastRemove 26 = .ok (.aload_n 1, 1) := by decide +kernel
theorem dJ0_fastRemove_27 : decode cJ0_fastRemove 27 = .ok (.iload_n 2, 1) := by decide +kernel
theorem dJ0_fastRemove_28 : decode cJ0_fastRemove 28 = .ok (.iload_n 3, 1) := by decide +kernel
theorem dJ0_fastRemove_29 : decode cJ0_fastRemove 29 = .ok (.iload_n 2, 1) := by decide +kernel
theorem dJ0_fastRemove_30 : decode cJ0_fastRemove 30 = .ok (.isub, 1) := by decide +kernel
theorem dJ0_fastRemove_31 : decode cJ0_fastRemove 31 = .ok (.invokestatic 112, 3) := by decide +kernel
theorem dJ0_fastRemove_34 : decode cJ0_fastRemove 34 = .ok (.aload_n 1, 1) := by decide +kernel
theorem dJ0_fastRemove_35 : decode cJ0_fastRemove 35 = .ok (.aload_n 0, 1) := by decide +kernel
theorem dJ0_fastRemove_36 : decode cJ0_fastRemove 36 = .ok (.iload_n 3, 1) := by decide +kernel
theorem dJ0_fastRemove_37 : decode cJ0_fastRemove 37 = .ok (.dup_x1, 1) := by decide +kernel
theorem dJ0_fastRemove_38 : decode cJ0_fastRemove 38 = .ok (.putfield 48, 3) := by decide +kernel
theorem dJ0_fastRemove_41 : decode cJ0_fastRemove 41 = .ok (.aconst_null, 1) := by decide +kernel
theorem dJ0_fastRemove_42 : decode cJ0_fastRemove 42 = .ok (.aastore, 1) := by decide +kernel
theorem dJ0_fastRemove_43 : decode cJ0_fastRemove 43 = .ok (.return_, 1) := by decide +kernel
theorem dJ1_init_0 : decode cJ1_init 0 = .ok (.aload_n 0, 1) := by decide +kernel
theorem dJ1_init_1 : decode cJ1_init 1 = .ok (.invokespecial 1, 3) := by decide +kernel
theorem dJ1_init_4 : decode cJ1_init 4 = .ok (.aload_n 0, 1) := by decide +kernel
theorem dJ1_init_5 : decode cJ1_init 5 = .ok (.iconst 0, 1) := by decide +kernel
theorem dJ1_init_6 : decode cJ1_init 6 = .ok (.putfield 7, 3) := by decide +kernel
theorem dJ1_init_9 : decode cJ1_init 9 = .ok (.return_, 1) := by decide +kernel
theorem dJ2_init_0 : decode cJ2_init 0 = .ok (.aload_n 0, 1) := by decide +kernel
theorem dJ2_init_1 : decode cJ2_init 1 = .ok (.invokespecial 1, 3) := by decide +kernel
theorem dJ2_init_4 : decode cJ2_init 4 = .ok (.return_, 1) := by decide +kernel
theorem dJ3_checkIndex_0 : decode cJ3_checkIndex 0 = .ok (.iload_n 0, 1) := by decide +kernel
theorem dJ3_checkIndex_1 : decode cJ3_checkIndex 1 = .ok (.iload_n 1, 1) := by decide +kernel
theorem dJ3_checkIndex_2 : decode cJ3_checkIndex 2 = .ok (.aconst_null, 1) := by decide +kernel
theorem dJ3_checkIndex_3 : decode cJ3_checkIndex 3 = .ok (.invokestatic 105, 3) := by decide +kernel
theorem dJ3_checkIndex_6 : decode cJ3_checkIndex 6 = .ok (.ireturn, 1) := by decide +kernel
theorem dJ4_checkIndex_0 : decode cJ4_checkIndex 0 = .ok (.iload_n 0, 1) := by decide +kernel
theorem dJ4_checkIndex_1 : decode cJ4_checkIndex 1 = .ok (.ifCond .lt 8, 3) := by decide +kernel
theorem dJ4_checkIndex_4 : decode cJ4_checkIndex 4 = .ok (.iload_n 0, 1) := by decide +kernel
theorem dJ4_checkIndex_5 : decode cJ4_checkIndex 5 = .ok (.iload_n 1, 1) := by decide +kernel
theorem dJ4_checkIndex_6 : decode cJ4_checkIndex 6 = .ok (.if_icmp .lt 10, 3) := by decide +kernel
theorem dJ4_checkIndex_9 : decode cJ4_checkIndex 9 = .ok (.aload_n 2, 1) := by decide +kernel
theorem dJ4_checkIndex_10 : decode cJ4_checkIndex 10 = .ok (.iload_n 0, 1) := by decide +kernel
theorem dJ4_checkIndex_11 : decode cJ4_checkIndex 11 = .ok (.iload_n 1, 1) := by decide +kernel
theorem dJ4_checkIndex_12 : decode cJ4_checkIndex 12 = .ok (.invokestatic 95, 3) := by decide +kernel
theorem dJ4_checkIndex_15 : decode cJ4_checkIndex 15 = .ok (.athrow, 1) := by decide +kernel
theorem dJ4_checkIndex_16 : decode cJ4_checkIndex 16 = .ok (.iload_n 0, 1) := by decide +kernel
theorem dJ4_checkIndex_17 : decode cJ4_checkIndex 17 = .ok (.ireturn, 1) := by decide +kernel
theorem dJ5_fill_0 : decode cJ5_fill 0 = .ok (.iconst 0, 1) := by decide +kernel
theorem dJ5_fill_1 : decode cJ5_fill 1 = .ok (.istore_n 2, 1) := by decide +kernel
theorem dJ5_fill_2 : decode cJ5_fill 2 = .ok (.aload_n 0, 1) := by decide +kernel
theorem dJ5_fill_3 : decode cJ5_fill 3 = .ok (.arraylength, 1) := by decide +kernel
theorem dJ5_fill_4 : decode cJ5_fill 4 = .ok (.istore_n 3, 1) := by decide +kernel
theorem dJ5_fill_5 : decode cJ5_fill 5 = .ok (.iload_n 2, 1) := by decide +kernel
theorem dJ5_fill_6 : decode cJ5_fill 6 = .ok (.iload_n 3, 1) := by decide +kernel
theorem dJ5_fill_7 : decode cJ5_fill 7 = .ok (.if_icmp .ge 13, 3) := by decide +kernel
theorem dJ5_fill_10 : decode cJ5_fill 10 = .ok (.aload_n 0, 1) := by decide +kernel
theorem dJ5_fill_11 : decode cJ5_fill 11 = .ok (.iload_n 2, 1) := by decide +kernel
theorem dJ5_fill_12 : decode cJ5_fill 12 = .ok (.iload_n 1, 1) := by decide +kernel
theorem dJ5_fill_13 : decode cJ5_fill 13 = .ok (.iastore, 1) := by decide +kernel
theorem dJ5_fill_14 : decode cJ5_fill 14 = .ok (.iinc 2 1, 3) := by decide +kernel
theorem dJ5_fill_17 : decode cJ5_fill 17 = .ok (.goto (-12), 3) := by decide +kernel
theorem dJ5_fill_20 : decode cJ5_fill 20 = .ok (.return_, 1) := by decide +kernel
theorem dJ5_copyOf_0 : decode cJ5_copyOf 0 = .ok (.aload_n 0, 1) := by decide +kernel
theorem dJ5_copyOf_1 : decode cJ5_copyOf 1 = .ok (.iload_n 1, 1) := by decide +kernel
theorem dJ5_copyOf_2 : decode cJ5_copyOf 2 = .ok (.aload_n 0, 1) := by decide +kernel
theorem dJ5_copyOf_3 : decode cJ5_copyOf 3 = .ok (.invokevirtual 86, 3) := by decide +kernel
theorem dJ5_copyOf_6 : decode cJ5_copyOf 6 = .ok (.invokestatic 300, 3) := by decide +kernel
theorem dJ5_copyOf_9 : decode cJ5_copyOf 9 = .ok (.areturn, 1) := by decide +kernel
theorem dJ5_copyOf1_0 : decode cJ5_copyOf1 0 = .ok (.aload_n 2, 1) := by decide +kernel
theorem dJ5_copyOf1_1 : decode cJ5_copyOf1 1 = .ok (.ldc 110, 2) := by decide +kernel
theorem dJ5_copyOf1_3 : decode cJ5_copyOf1 3 = .ok (.if_acmp .ne 10, 3) := by decide +kernel
theorem dJ5_copyOf1_6 : decode cJ5_copyOf1 6 = .ok (.iload_n 1, 1) := by decide +kernel
theorem dJ5_copyOf1_7 : decode cJ5_copyOf1 7 = .ok (.anewarray 2, 3) := by decide +kernel
theorem dJ5_copyOf1_10 : decode cJ5_copyOf1 10 = .ok (.goto 14, 3) := by decide +kernel
theorem dJ5_copyOf1_13 : decode cJ5_copyOf1 13 = .ok (.aload_n 2, 1) := by decide +kernel
theorem dJ5_copyOf1_14 : decode cJ5_copyOf1 14 = .ok (.invokevirtual 90, 3) := by decide +kernel
theorem dJ5_copyOf1_17 : decode cJ5_copyOf1 17 = .ok (.iload_n 1, 1) := by decide +kernel
theorem dJ5_copyOf1_18 : decode cJ5_copyOf1 18 = .ok (.invokestatic 95, 3) := by decide +kernel
theorem dJ5_copyOf1_21 : decode cJ5_copyOf1 21 = .ok (.checkcast 110, 3) := by decide +kernel
theorem dJ5_copyOf1_24 : decode cJ5_copyOf1 24 = .ok (.astore_n 3, 1) := by decide +kernel
theorem dJ5_copyOf1_25 : decode cJ5_copyOf1 25 = .ok (.aload_n 0, 1) := by decide +kernel
theorem dJ5_copyOf1_26 : decode cJ5_copyOf1 26 = .ok (.iconst 0, 1) := by decide +kernel
theorem dJ5_copyOf1_27 : decode cJ5_copyOf1 27 = .ok (.aload_n 3, 1) := by decide +kernel
theorem dJ5_copyOf1_28 : decode cJ5_copyOf1 28 = .ok (.iconst 0, 1) := by decide +kernel
theorem dJ5_copyOf1_29 : decode cJ5_copyOf1 29 = .ok (.aload_n 0, 1) := by decide +kernel
theorem dJ5_copyOf1_30 : decode cJ5_copyOf1 30 = .ok (.arraylength, 1) := by decide +kernel
theorem dJ5_copyOf1_31 : decode cJ5_copyOf1 31 = .ok (.iload_n 1, 1) := by decide +kernel
theorem dJ5_copyOf1_32 : decode cJ5_copyOf1 32 = .ok (.invokestatic 304, 3) := by decide +kernel
theorem dJ5_copyOf1_35 : decode cJ5_copyOf1 35 = .ok (.invokestatic 150, 3) := by decide +kernel
theorem dJ5_copyOf1_38 : decode cJ5_copyOf1 38 = .ok (.aload_n 3, 1) := by decide +kernel
theorem dJ5_copyOf1_39 : decode cJ5_copyOf1 39 = .ok (.areturn, 1) := by decide +kernel
theorem dJ6_newLength_0 : decode cJ6_newLength 0 = .ok (.iload_n 0, 1) := by decide +kernel
theorem dJ6_newLength_1 : decode cJ6_newLength 1 = .ok (.iload_n 1, 1) := by decide +kernel
theorem dJ6_newLength_2 : decode cJ6_newLength 2 = .ok (.iload_n 2, 1) := by decide +kernel
theorem dJ6_newLength_3 : decode cJ6_newLength 3 = .ok (.invokestatic 194, 3) := by decide +kernel
theorem dJ6_newLength_6 : decode cJ6_newLength 6 = .ok (.iadd, 1) := by decide +kernel
theorem dJ6_newLength_7 : decode cJ6_newLength 7 = .ok (.istore_n 3, 1) := by decide +kernel
theorem dJ6_newLength_8 : decode cJ6_newLength 8 = .ok (.iconst 0, 1) := by decide +kernel
theorem dJ6_newLength_9 : decode cJ6_newLength 9 = .ok (.iload_n 3, 1) := by decide +kernel
theorem dJ6_newLength_10 : decode cJ6_newLength 10 = .ok (.if_icmp .ge 11, 3) := by decide +kernel
theorem dJ6_newLength_13 : decode cJ6_newLength 13 = .ok (.iload_n 3, 1) := by decide +kernel
theorem dJ6_newLength_14 : decode cJ6_newLength 14 = .ok (.ldc 200, 2) := by decide +kernel
theorem dJ6_newLength_16 : decode cJ6_newLength 16 = .ok (.if_icmp .gt 5, 3) := by decide +kernel
theorem dJ6_newLength_19 : decode cJ6_newLength 19 = .ok (.iload_n 3, 1) := by decide +kernel
theorem dJ6_newLength_20 : decode cJ6_newLength 20 = .ok (.ireturn, 1) := by decide +kernel
theorem dJ6_newLength_21 : decode cJ6_newLength 21 = .ok (.iload_n 0, 1) := by decide +kernel
theorem dJ6_newLength_22 : decode cJ6_newLength 22 = .ok (.iload_n 1, 1) := by decide +kernel
theorem dJ6_newLength_23 : decode cJ6_newLength 23 = .ok (.invokestatic 201, 3) := by decide +kernel
theorem dJ6_newLength_26 : decode cJ6_newLength 26 = .ok (.ireturn, 1) := by decide +kernel
theorem dJ6_hugeLength_0 : decode cJ6_hugeLength 0 = .ok (.iload_n 0, 1) := by decide +kernel
theorem dJ6_hugeLength_1 : decode cJ6_hugeLength 1 = .ok (.iload_n 1, 1) := by decide +kernel
theorem dJ6_hugeLength_2 : decode cJ6_hugeLength 2 = .ok (.iadd, 1) := by decide +kernel
theorem dJ6_hugeLength_3 : decode cJ6_hugeLength 3 = .ok (.istore_n 2, 1) := by decide +kernel
theorem dJ6_hugeLength_4 : decode cJ6_hugeLength 4 = .ok (.iload_n 2, 1) := by decide +kernel
theorem dJ6_hugeLength_5 : decode cJ6_hugeLength 5 = .ok (.ifCond .ge 44, 3) := by decide +kernel
theorem dJ6_hugeLength_8 : decode cJ6_hugeLength 8 = .ok (.new 204, 3) := by decide +kernel
theorem dJ6_hugeLength_11 : decode cJ6_hugeLength 11 = .ok (.dup, 1) := by decide +kernel
theorem dJ6_hugeLength_12 : decode cJ6_hugeLength 12 = .ok (.new 89, 3) := by decide +kernel
theorem dJ6_hugeLength_15 : decode cJ6_hugeLength 15 = .ok (.dup, 1) := by decide +kernel
theorem dJ6_hugeLength_16 : decode cJ6_hugeLength 16 = .ok (.invokespecial 91, 3) := by decide +kernel
theorem dJ6_hugeLength_19 : decode cJ6_hugeLength 19 = .ok (.ldc 206, 2) := by decide +kernel
theorem dJ6_hugeLength_21 : decode cJ6_hugeLength 21 = .ok (.invokevirtual 94, 3) := by decide +kernel
theorem dJ6_hugeLength_24 : decode cJ6_hugeLength 24 = .ok (.iload_n 0, 1) := by decide +kernel
theorem dJ6_hugeLength_25 : decode cJ6_hugeLength 25 = .ok (.invokevirtual 98, 3) := by decide +kernel
theorem dJ6_hugeLength_28 : decode cJ6_hugeLength 28 = .ok (.ldc 208, 2) := by decide +kernel
theorem dJ6_hugeLength_30 : decode cJ6_hugeLength 30 = .ok (.invokevirtual 94, 3) := by decide +kernel
theorem dJ6_hugeLength_33 : decode cJ6_hugeLength 33 = .ok (.iload_n 1, 1) := by decide +kernel
theorem dJ6_hugeLength_34 : decode cJ6_hugeLength 34 = .ok (.invokevirtual 98, 3) := by decide +kernel
theorem dJ6_hugeLength_37 : decode cJ6_hugeLength 37 = .ok (.ldc 210, 2) := by decide +kernel
theorem dJ6_hugeLength_39 : decode cJ6_hugeLength 39 = .ok (.invokevirtual 94, 3) := by decide +kernel
theorem dJ6_hugeLength_42 : decode cJ6_hugeLength 42 = .ok (.invokevirtual 101, 3) := by decide +kernel
theorem dJ6_hugeLength_45 : decode cJ6_hugeLength 45 = .ok (.invokespecial 212, 3) := by decide +kernel
theorem dJ6_hugeLength_48 : decode cJ6_hugeLength 48 = .ok (.athrow, 1) := by decide +kernel
theorem dJ6_hugeLength_49 : decode cJ6_hugeLength 49 = .ok (.iload_n 2, 1) := by decide +kernel
theorem dJ6_hugeLength_50 : decode cJ6_hugeLength 50 = .ok (.ldc 200, 2) := by decide +kernel
theorem dJ6_hugeLength_52 : decode cJ6_hugeLength 52 = .ok (.if_icmp .gt 6, 3) := by decide +kernel
theorem dJ6_hugeLength_55 : decode cJ6_hugeLength 55 = .ok (.ldc 200, 2) := by decide +kernel
theorem dJ6_hugeLength_57 : decode cJ6_hugeLength 57 = .ok (.ireturn, 1) := by decide +kernel
theorem dJ6_hugeLength_58 : decode cJ6_hugeLength 58 = .ok (.iload_n 2, 1) := by decide +kernel
theorem dJ6_hugeLength_59 : decode cJ6_hugeLength 59 = .ok (.ireturn, 1) := by decide +kernel
theorem dJ7_max_0 : decode cJ7_max 0 = .ok (.iload_n 0, 1) := by decide +kernel
theorem dJ7_max_1 : decode cJ7_max 1 = .ok (.iload_n 1, 1) := by decide +kernel
theorem dJ7_max_2 : decode cJ7_max 2 = .ok (.if_icmp .lt 7, 3) := by decide +kernel
theorem dJ7_max_5 : decode cJ7_max 5 = .ok (.iload_n 0, 1) := by decide +kernel
theorem dJ7_max_6 : decode cJ7_max 6 = .ok (.goto 4, 3) := by decide +kernel
theorem dJ7_max_9 : decode cJ7_max 9 = .ok (.iload_n 1, 1) := by decide +kernel
theorem dJ7_max_10 : decode cJ7_max 10 = .ok (.ireturn, 1) := by decide +kernel
theorem dJ7_min_0 : decode cJ7_min 0 = .ok (.iload_n 0, 1) := by decide +kernel
theorem dJ7_min_1 : decode cJ7_min 1 = .ok (.iload_n 1, 1) := by decide +kernel
theorem dJ7_min_2 : decode cJ7_min 2 = .ok (.if_icmp .gt 7, 3) := by decide +kernel
theorem dJ7_min_5 : decode cJ7_min 5 = .ok (.iload_n 0, 1) := by decide +kernel
theorem dJ7_min_6 : decode cJ7_min 6 = .ok (.goto 4, 3) := by decide +kernel
theorem dJ7_min_9 : decode cJ7_min 9 = .ok (.iload_n 1, 1) := by decide +kernel
theorem dJ7_min_10 : decode cJ7_min 10 = .ok (.ireturn, 1) := by decide +kernel
theorem dJ8_bitCount_0 : decode cJ8_bitCount 0 = .ok (.iload_n 0, 1) := by decide +kernel
theorem dJ8_bitCount_1 : decode cJ8_bitCount 1 = .ok (.iload_n 0, 1) := by decide +kernel
theorem dJ8_bitCount_2 : decode cJ8_bitCount 2 = .ok (.iconst 1, 1) := by decide +kernel
theorem dJ8_bitCount_3 : decode cJ8_bitCount 3 = .ok (.iushr, 1) := by decide +kernel
theorem dJ8_bitCount_4 : decode cJ8_bitCount 4 = .ok (.ldc_w 265, 3) := by decide +kernel
theorem dJ8_bitCount_7 : decode cJ8_bitCount 7 = .ok (.iand, 1) := by decide +kernel
theorem dJ8_bitCount_8 : decode cJ8_bitCount 8 = .ok (.isub, 1) := by decide +kernel
theorem dJ8_bitCount_9 : decode cJ8_bitCount 9 = .ok (.istore_n 0, 1) := by decide +kernel
theorem dJ8_bitCount_10 : decode cJ8_bitCount 10 = .ok (.iload_n 0, 1) := by decide +kernel
theorem dJ8_bitCount_11 : decode cJ8_bitCount 11 = .ok (.ldc_w 266, 3) := by decide +kernel
theorem dJ8_bitCount_14 : decode cJ8_bitCount 14 = .ok (.iand, 1) := by decide +kernel
theorem dJ8_bitCount_15 : decode cJ8_bitCount 15 = .ok (.iload_n 0, 1) := by decide +kernel
theorem dJ8_bitCount_16 : decode cJ8_bitCount 16 = .ok (.iconst 2, 1) := by decide +kernel
theorem dJ8_bitCount_17 : decode cJ8_bitCount 17 = .ok (.iushr, 1) := by decide +kernel
theorem dJ8_bitCount_18 : decode cJ8_bitCount 18 = .ok (.ldc_w 266, 3) := by decide +kernel
theorem dJ8_bitCount_21 : decode cJ8_bitCount 21 = .ok (.iand, 1) := by decide +kernel
theorem dJ8_bitCount_22 : decode cJ8_bitCount 22 = .ok (.iadd, 1) := by decide +kernel
theorem dJ8_bitCount_23 : decode cJ8_bitCount 23 = .ok (.istore_n 0, 1) := by decide +kernel
theorem dJ8_bitCount_24 : decode cJ8_bitCount 24 = .ok (.iload_n 0, 1) := by decide +kernel
theorem dJ8_bitCount_25 : decode cJ8_bitCount 25 = .ok (.iload_n 0, 1) := by decide +kernel
theorem dJ8_bitCount_26 : decode cJ8_bitCount 26 = .ok (.iconst 4, 1) := by decide +kernel
theorem dJ8_bitCount_27 : decode cJ8_bitCount 27 = .ok (.iushr, 1) := by decide +kernel
theorem dJ8_bitCount_28 : decode cJ8_bitCount 28 = .ok (.iadd, 1) := by decide +kernel
theorem dJ8_bitCount_29 : decode cJ8_bitCount 29 = .ok (.ldc_w 267, 3) := by decide +kernel
theorem dJ8_bitCount_32 : decode cJ8_bitCount 32 = .ok (.iand, 1) := by decide +kernel
theorem dJ8_bitCount_33 : decode cJ8_bitCount 33 = .ok (.istore_n 0, 1) := by decide +kernel
theorem dJ8_bitCount_34 : decode cJ8_bitCount 34 = .ok (.iload_n 0, 1) := by decide +kernel
theorem dJ8_bitCount_35 : decode cJ8_bitCount 35 = .ok (.iload_n 0, 1) := by decide +kernel
theorem dJ8_bitCount_36 : decode cJ8_bitCount 36 = .ok (.bipush 8, 2) := by decide +kernel
theorem dJ8_bitCount_38 : decode cJ8_bitCount 38 = .ok (.iushr, 1) := by decide +kernel
theorem dJ8_bitCount_39 : decode cJ8_bitCount 39 = .ok (.iadd, 1) := by decide +kernel
theorem dJ8_bitCount_40 : decode cJ8_bitCount 40 = .ok (.istore_n 0, 1) := by decide +kernel
theorem dJ8_bitCount_41 : decode cJ8_bitCount 41 = .ok (.iload_n 0, 1) := by decide +kernel
theorem dJ8_bitCount_42 : decode cJ8_bitCount 42 = .ok (.iload_n 0, 1) := by decide +kernel
theorem dJ8_bitCount_43 : decode cJ8_bitCount 43 = .ok (.bipush 16, 2) := by decide +kernel
theorem dJ8_bitCount_45 : decode cJ8_bitCount 45 = .ok (.iushr, 1) := by decide +kernel
theorem dJ8_bitCount_46 : decode cJ8_bitCount 46 = .ok (.iadd, 1) := by decide +kernel
theorem dJ8_bitCount_47 : decode cJ8_bitCount 47 = .ok (.istore_n 0, 1) := by decide +kernel
theorem dJ8_bitCount_48 : decode cJ8_bitCount 48 = .ok (.iload_n 0, 1) := by decide +kernel
theorem dJ8_bitCount_49 : decode cJ8_bitCount 49 = .ok (.bipush 63, 2) := by decide +kernel
theorem dJ8_bitCount_51 : decode cJ8_bitCount 51 = .ok (.iand, 1) := by decide +kernel
theorem dJ8_bitCount_52 : decode cJ8_bitCount 52 = .ok (.ireturn, 1) := by decide +kernel
end
section
-- the abstract heap: a list of cells, addressed by their place; B is the address of place 0
/-- the address of a place: place 0 is the one cell of the library's that the lists share, the others are the law's own, from B on -/
def hh_ad (B e0 : Nat) : Nat → Nat
  | 0 => e0
  | i + 1 => B + i
abbrev hh_V : Type := Int32 ⊕ (Option Nat ⊕ (UInt64 ⊕ Int64))
abbrev hh_A : Type := List Int32 ⊕ (List UInt64 ⊕ (List Int64 ⊕ List (Option Nat)))
abbrev hh_C : Type := (Nat × hh_A) ⊕ (Nat × List hh_V)
abbrev hh_H : Type := List hh_C
/-- the library's empty array of objects -/
def hh_nil : hh_C := .inl (4, .inr (.inr (.inr [])))
def hh_v (B e0 : Nat) (v : hh_V) : Value := match v with
  | .inl x => .int x
  | .inr (.inl none) => .null
  | .inr (.inl (some i)) => .ref (hh_ad B e0 i)
  | .inr (.inr (.inl d)) => .double d
  | .inr (.inr (.inr d)) => .long d
def hh_a (B e0 : Nat) (a : hh_A) : vp_A := match a with
  | .inl l => (l.length, .inl (fun j => l.getD j 0))
  | .inr (.inl l) => (l.length, .inr (.inr (.inr (.inl (fun j => l.getD j 0)))))
  | .inr (.inr (.inl l)) => (l.length, .inr (.inl (fun j => l.getD j 0)))
  | .inr (.inr (.inr l)) => (l.length, .inr (.inr (.inr (.inr (fun j => (l.getD j none).map (hh_ad B e0))))))
def hh_c (B e0 : Nat) (cT : Nat → ClassId) (e : hh_C) : va_E := match e with
  | .inl (t, a) => .inl (cT t, hh_a B e0 a)
  | .inr (c, fs) => .inr (c, fs.map (hh_v B e0))
/-- the world: every place but place 0, of which only what the tables say is known -/
def hh_w (B e0 : Nat) (cT : Nat → ClassId) (h : hh_H) : va_W := (h.mapIdx (fun i e => (hh_ad B e0 i, hh_c B e0 cT e))).drop 1
theorem hh_w_at {B e0 : Nat} {cT : Nat → ClassId} {h : hh_H} (k : Nat) : (hh_w B e0 cT h)[k]? = (h[k + 1]?).map (fun e => (hh_ad B e0 (k + 1), hh_c B e0 cT e)) := by
  simp [hh_w, List.getElem?_mapIdx, Nat.add_comm 1 k]
theorem hh_w_get {B e0 : Nat} {cT : Nat → ClassId} {h : hh_H} {i : Nat} {e : hh_C} (h0 : i ≠ 0) (hi : h[i]? = some e) : (hh_w B e0 cT h)[i - 1]? = some (hh_ad B e0 i, hh_c B e0 cT e) := by
  obtain ⟨k, rfl⟩ := Nat.exists_eq_succ_of_ne_zero h0
  rw [hh_w_at, show k.succ - 1 + 1 = k.succ from rfl, hi]
  rfl
theorem hh_w_of {B e0 : Nat} {cT : Nat → ClassId} {h : hh_H} {i : Nat} {q : Nat × va_E} (hi : (hh_w B e0 cT h)[i]? = some q) : ∃ e, h[i + 1]? = some e ∧ q = (hh_ad B e0 (i + 1), hh_c B e0 cT e) := by
  rw [hh_w_at] at hi
  obtain ⟨e, h1, h2⟩ := Option.map_eq_some_iff.mp hi
  exact ⟨e, h1, h2.symm⟩
theorem hh_w_set {B e0 : Nat} {cT : Nat → ClassId} {h : hh_H} {i : Nat} {e : hh_C} (h0 : i ≠ 0) : (hh_w B e0 cT h).set (i - 1) (hh_ad B e0 i, hh_c B e0 cT e) = hh_w B e0 cT (h.set i e) := by
  obtain ⟨k, rfl⟩ := Nat.exists_eq_succ_of_ne_zero h0
  apply List.ext_getElem?
  intro j
  rw [hh_w_at, List.getElem?_set, hh_w_at, List.getElem?_set]
  have hlen : (hh_w B e0 cT h).length = h.length - 1 := by simp [hh_w]
  rw [hlen, show k.succ - 1 = k from rfl]
  by_cases hj : k = j
  · subst hj
    by_cases hl : k + 1 < h.length
    · rw [if_pos rfl, if_pos (by omega), if_pos rfl, if_pos hl]
      rfl
    · rw [if_pos rfl, if_neg (by omega), if_pos rfl, if_neg hl]
      rfl
  · rw [if_neg hj, if_neg (fun q => hj (Nat.succ.inj q))]
theorem hh_w_app {B e0 : Nat} {cT : Nat → ClassId} {h : hh_H} {e : hh_C} (h0 : 0 < h.length) : hh_w B e0 cT (h ++ [e]) = hh_w B e0 cT h ++ [(hh_ad B e0 h.length, hh_c B e0 cT e)] := by
  unfold hh_w
  rw [List.mapIdx_append, List.drop_append_of_le_length (by rw [List.length_mapIdx]; exact h0)]
  simp
theorem hh_ad_inj {B e0 i j : Nat} (he : e0 < B) (h : hh_ad B e0 i = hh_ad B e0 j) : i = j := by
  match i, j, h with
  | 0, 0, _ => rfl
  | 0, j + 1, h => exact absurd (show e0 = B + j from h) (by omega)
  | i + 1, 0, h => exact absurd (show B + i = e0 from h) (by omega)
  | i + 1, j + 1, h => exact congrArg (· + 1) (Nat.add_left_cancel (show B + i = B + j from h))
theorem hh_D {B e0 : Nat} {cT : Nat → ClassId} {h : hh_H} (he : e0 < B) : va_D (fun _ => True) (hh_w B e0 cT h) := by
  refine ⟨fun i j p q hi hj hpq => ?_, fun k q hk => trivial⟩
  obtain ⟨e, -, rfl⟩ := hh_w_of hi
  obtain ⟨e', -, rfl⟩ := hh_w_of hj
  exact Nat.succ.inj (hh_ad_inj he hpq)
theorem hh_p0 {h : hh_H} {a : Nat} {e : hh_C} (h0 : h[0]? = some hh_nil) (he : h[a]? = some e) (hne : e ≠ hh_nil) : a ≠ 0 := fun q => by
  subst q
  exact hne (Option.some.inj (he.symm.trans h0))
-- the words of the tables that every method takes along
def hh_T : List Cond := lw_tbl.filter goodWord
theorem hh_good : GoodIn hh_T hh_T := fun w hw => ⟨hw, good_of_word (List.mem_filter.mp hw).2⟩
theorem hh_at {w : Cond} (n : Nat) (h : lw_tbl[n]? = some w) (g : goodWord w = true) : w ∈ hh_T := List.mem_filter.mpr ⟨List.mem_of_getElem? h, g⟩
theorem hh_sub {ws : List Cond} (h : ∀ w ∈ ws, w ∈ lw_tbl) (g : ∀ w ∈ ws, goodWord w = true) : ∀ w ∈ ws, w ∈ hh_T := fun w hw => List.mem_filter.mpr ⟨h w hw, g w hw⟩
theorem hh_all1 {a : Cond} (h : a ∈ hh_T) : ∀ w ∈ [a], w ∈ hh_T := fun w hw => by rw [List.mem_singleton.mp hw]; exact h
theorem hh_all2 {a b : Cond} (h : a ∈ hh_T) (h2 : b ∈ hh_T) : ∀ w ∈ [a, b], w ∈ hh_T := fun w hw => by
  rcases List.mem_cons.mp hw with rfl | hw
  · exact h
  · rw [List.mem_singleton.mp hw]; exact h2
theorem hh_inT {w : Cond} (h : w ∈ lw_tbl) (g : goodWord w = true) : w ∈ hh_T := List.mem_filter.mpr ⟨h, g⟩
-- the judgement
def hh_cA (cT : Nat → ClassId) (vm : Vm) : Prop := vm.findClass "[I" = some (cT 0) ∧ vm.findClass "[Z" = some (cT 1) ∧ vm.findClass "[D" = some (cT 2) ∧ vm.findClass "[J" = some (cT 3) ∧ vm.findClass "[Ljava/lang/Object;" = some (cT 4) ∧ vm.findClass "[B" = some (cT 5)
/-- words of private members of nest mates, of casts, of declared methods -/
def hh_nw : Cond → Bool
  | .fieldLinkNest .. | .castable .. | .declares _ => true
  | _ => false
def hh_T2 : List Cond := lw_tbl.filter hh_nw
theorem hh_at2 {w : Cond} (n : Nat) (h : lw_tbl[n]? = some w) (g : hh_nw w = true) : w ∈ hh_T2 := List.mem_filter.mpr ⟨List.mem_of_getElem? h, g⟩
/-- words on statics of Throwable's -/
def hh_T3 : List Cond := [.laysStatic "java/lang/Throwable" "UNASSIGNED_STACK" "[Ljava/lang/StackTraceElement;", .laysStatic "java/lang/Throwable" "SUPPRESSED_SENTINEL" "Ljava/util/List;", .isRef (.static "java/lang/Throwable" "UNASSIGNED_STACK" "[Ljava/lang/StackTraceElement;"), .isRef (.static "java/lang/Throwable" "SUPPRESSED_SENTINEL" "Ljava/util/List;")]
/-- the texts of the exceptions -/
def hh_strs : List (String × Nat × String) := [("IndexBuilder", 75, "no such word"), ("IndexBuilder", 82, "the open document is full"), ("IndexBuilder", 89, "there are 40 documents"), ("IndexBuilder", 98, "no room for the buffer"), ("IndexBuilder", 115, "no such document, or it is dropped"), ("IndexBuilder", 128, "no room for the merge"), ("IndexBuilder", 130, "no such word or how"), ("IndexBuilder", 156, "no such result"), ("IndexBuilder", 165, "the result is not ranked"), ("IndexBuilder", 176, "no such block or byte"), ("IndexBuilder", 183, "no such run"), ("IndexBuilder", 197, "no such what")]
/-- of which exception classes which are not -/
def hh_ncs : List (String × String) := [("java/lang/IllegalStateException", "java/lang/IllegalArgumentException"), ("java/lang/UnsupportedOperationException", "java/lang/IllegalStateException"), ("java/lang/UnsupportedOperationException", "java/util/NoSuchElementException"), ("java/lang/IllegalArgumentException", "java/util/NoSuchElementException")]
/-- the library's empty array, as far as it is known -/
def hh_em (e0 : Nat) (U : State) (H0 : Heap) : Prop := ∃ scr : Cell, H0[e0]? = some scr ∧ U.isArrayOf scr (.object "java/lang/Object") ∧ scr.slots.size = 0
def hh_env (B e0 : Nat) (cT : Nat → ClassId) (U : State) : Prop :=
  hh_cA cT U.vm ∧ (∀ w ∈ hh_T2, va_Nw w U) ∧ va_Z "java/util/ArrayList" "DEFAULTCAPACITY_EMPTY_ELEMENTDATA" "[Ljava/lang/Object;" (.ref e0) (fun q => B ≤ q) U U.heap ∧ (∃ mi, va_Mi "[Ljava/lang/Object;" mi U) ∧ (∀ q ∈ hh_strs, ∃ a, vk_R q.1 q.2.1 q.2.2 a U) ∧ va_AO "java/lang/Object" U ∧ (∀ q ∈ hh_ncs, va_Nc q.1 q.2 U) ∧
    ∃ H0 : Heap, H0.size = B ∧ (∀ q : Nat, q < B → U.heap[q]? = H0[q]?) ∧ (∀ w ∈ hh_T3, w.before #[] ({ U with heap := H0 } : State) = true) ∧ hh_em e0 U H0
theorem hh_nw_move {w : Cond} (h : hh_nw w = true) {s U : State} (hW : s.WarmedH U.vm) (hz : va_Nw w s) : va_Nw w U := by
  cases w with
  | fieldLinkNest => exact hz.warmF hW
  | castable => exact hz.warmC hW
  | declares => exact hz.warmD hW
  | _ => cases h
theorem hh_env_move {B e0 : Nat} {cT : Nat → ClassId} {U V : State} (h : hh_env B e0 cT U) (hW : U.WarmedH V.vm) (hB : B ≤ U.heap.size) (hk : ∀ q : Nat, q < B → V.heap[q]? = U.heap[q]?) : hh_env B e0 cT V := by
  obtain ⟨h1, h2, h3, ⟨mi, h4⟩, h5, h9, h10, H0, h6, h7, h8, h11⟩ := h
  have hf : ∀ C : String, V.vm.findClass C = U.vm.findClass C := fun C => hW.alike.findClass C _
  refine ⟨by unfold hh_cA; rw [hf, hf, hf, hf, hf, hf]; exact h1, fun w hw => hh_nw_move (List.mem_filter.mp hw).2 hW (h2 w hw), (h3.moved hW.alike).kept (fun a ha hn => hk a (Nat.not_le.mp hn)), ⟨mi, h4.moved hW.alike⟩, fun q hq => ?_, h9.moved hW.alike, fun q hq => (h10 q hq).moved hW.alike, H0, h6, fun q hq => (hk q hq).trans (h7 q hq), fun w hw => ?_, ?_⟩
  · obtain ⟨a, ha⟩ := h5 q hq
    exact ⟨a, ha.warm hW⟩
  · have hks : w.keeps = true := (by decide +kernel : ∀ w ∈ hh_T3, w.keeps = true) w hw
    have hW' : ({ U with heap := H0 } : State).WarmedH V.vm := hW
    have := Cond.holds_shifted (args := #[]) (o := none) (State.Shifted.of_warmed hW') w [] hks (h8 w hw)
    rcases List.mem_cons.mp hw with rfl | hw
    · exact this
    rcases List.mem_cons.mp hw with rfl | hw
    · exact this
    rcases List.mem_cons.mp hw with rfl | hw
    · exact this
    rcases List.mem_cons.mp hw with rfl | hw
    · exact this
    cases hw
  · obtain ⟨scr, g1, g2, g3⟩ := h11
    exact ⟨scr, g1, State.isArrayOf_alike hW.alike g2, g3⟩
abbrev hh_X : Type := Program × Launch × Env × Room × State × MethodId × Array Value × List Frame × Method × Code × (State → Prop) × va_G × (Nat → ClassId) × Nat × Nat × Nat
def hh_S (D : va_G) (cT : Nat → ClassId) (B e0 : Nat) (s : State) (h : hh_H) (H : Heap) (locs : List Loc) : Prop :=
  va_P D hh_cl (hh_w B e0 cT h) H ∧ (h[0]? = some hh_nil ∧ e0 < B ∧ H.size + 1 = B + h.length) ∧ va_S (fun q => B ≤ q) s.heap H locs
def hh_W (X : hh_X) (cn sn pc : Nat) (lv : List (Nat × Value)) (st : List Value) (h : hh_H) : Prop :=
  match X with
  | (p, l, e, R, s, m, args, below, meth, c, Q, D, cT, B, e0, nL) =>
    ∀ (H : Heap) (locs : List Loc) (ls : Array Slot), hh_S D cT B e0 s h H locs → lv_has ls nL lv → W p l e R s m args below meth c H locs cn sn Q (F0 m pc ls st)
def hh_tys (cT : Nat → ClassId) : List (ClassId × FieldType) := [(cT 0, .int), (cT 1, .boolean), (cT 2, .double), (cT 3, .long), (cT 4, .object "java/lang/Object"), (cT 5, .byte)]
def hh_ok (X : hh_X) (B e0 : Nat) (cc : ByteArray) (own : String) (nL : Nat) (ret : Option FieldType) (nm : String) (R : Room) : Prop :=
  match X with
  | (p, _, _, R', s, m, args, _, meth, c, _, D, cT, B', e0', nL') =>
    p.tables.exec = Jvm.exec ∧ c.code = cc ∧ c.maxLocals = nL ∧ s.vm.findClass own = some m.cls ∧ (∀ w ∈ hh_T, w.before args s = true) ∧ va_K D hh_cl (hh_tys cT) s ∧ meth.locks = false ∧ meth.sig.returnType = ret ∧ meth.name = nm ∧ R' = R ∧ B' = B ∧ e0' = e0 ∧ nL' = nL ∧ B ≤ s.heap.size ∧ (∀ q, s.heap.size ≤ q → B ≤ q) ∧
      hh_env B e0 cT s
/-- how a method ends -/
def hh_Q (D : va_G) (cT : Nat → ClassId) (B e0 : Nat) (o : Outcome) (h : hh_H) : Array Value → State → Outcome → State → Prop :=
  fun _ st o' t => o' = o ∧ va_P D hh_cl (hh_w B e0 cT h) t.heap ∧ (h[0]? = some hh_nil ∧ e0 < B ∧ t.heap.size + 1 = B + h.length) ∧ va_F (fun q => B ≤ q) st t
def hh_End (X : hh_X) (B e0 : Nat) (o : Outcome) (h : hh_H) (mc ms : Nat) : Prop :=
  match X with
  | (_, _, _, _, s, _, args, below, _, _, Q, D, cT, _, _, _) => Q = MQ below (hh_Q D cT B e0 o h) args s mc ms (fun q => B ≤ q)
def hh_Pc (D : va_G) (cT : Nat → ClassId) (B e0 : Nat) (av : List Value) (h : hh_H) : Array Value → State → Prop :=
  fun v U => v = av.toArray ∧ va_P D hh_cl (hh_w B e0 cT h) U.heap ∧ (h[0]? = some hh_nil ∧ e0 < B ∧ U.heap.size + 1 = B + h.length) ∧ va_K D hh_cl (hh_tys cT) U ∧ hh_env B e0 cT U
/-- a method's contract -/
def hh_Met (y : MethodName) (yb : ByteArray) (ym : Nat) (yr : Option FieldType) (rm : Room) (mc ms B e0 : Nat) (av : List Value) (h : hh_H) (o : Outcome) (h' : hh_H) : Prop :=
  ∀ (l : Launch) (D : va_G) (cT : Nat → ClassId), Met l y (.code y yb ym yr :: hh_T) rm (hh_Pc D cT B e0 av h) (hh_Q D cT B e0 o h') mc ms (fun q => B ≤ q)
-- the operations on the abstract heap
def hp_gv (h : hh_H) (a ci k : Nat) : Option hh_V := match h[a]? with
  | some (.inr (c, fs)) => if c = ci then fs[k]? else none
  | _ => none
def hp_gi (h : hh_H) (a ci k : Nat) : Option Int32 := match hp_gv h a ci k with
  | some (.inl x) => some x
  | _ => none
def hp_ga (h : hh_H) (a ci k : Nat) : Option Nat := match hp_gv h a ci k with
  | some (.inr (.inl (some i))) => some i
  | _ => none
def hp_gd (h : hh_H) (a ci k : Nat) : Option UInt64 := match hp_gv h a ci k with
  | some (.inr (.inr (.inl x))) => some x
  | _ => none
def hp_gj (h : hh_H) (a ci k : Nat) : Option Int64 := match hp_gv h a ci k with
  | some (.inr (.inr (.inr x))) => some x
  | _ => none
def hp_p (h : hh_H) (a ci k : Nat) (v : hh_V) : Option hh_H := match h[a]? with
  | some (.inr (c, fs)) => if c = ci ∧ k < fs.length then some (h.set a (.inr (c, fs.set k v))) else none
  | _ => none
def hp_pi (h : hh_H) (a ci k : Nat) (x : Int32) : Option hh_H := hp_p h a ci k (.inl x)
def hp_pz (h : hh_H) (a ci k : Nat) (x : Int32) : Option hh_H := if x = 0 ∨ x = 1 then hp_p h a ci k (.inl x) else none
def hp_pa (h : hh_H) (a ci k : Nat) (x : Nat) : Option hh_H := hp_p h a ci k (.inr (.inl (some x)))
def hp_pd (h : hh_H) (a ci k : Nat) (x : UInt64) : Option hh_H := hp_p h a ci k (.inr (.inr (.inl x)))
def hp_pj (h : hh_H) (a ci k : Nat) (x : Int64) : Option hh_H := hp_p h a ci k (.inr (.inr (.inr x)))
def hp_alen (a : hh_A) : Nat := match a with
  | .inl l => l.length
  | .inr (.inl l) => l.length
  | .inr (.inr (.inl l)) => l.length
  | .inr (.inr (.inr l)) => l.length
def hp_len (h : hh_H) (a : Nat) : Option Int32 := match h[a]? with
  | some (.inl (t, x)) => if t < 6 then some (Int32.ofNat (hp_alen x)) else none
  | _ => none
def hp_ints (h : hh_H) (a t : Nat) : Option (List Int32) := match h[a]? with
  | some (.inl (t', .inl l)) => if t' = t then some l else none
  | _ => none
def hp_dbls (h : hh_H) (a t : Nat) : Option (List UInt64) := match h[a]? with
  | some (.inl (t', .inr (.inl l))) => if t' = t then some l else none
  | _ => none
def hp_lngs (h : hh_H) (a t : Nat) : Option (List Int64) := match h[a]? with
  | some (.inl (t', .inr (.inr (.inl l)))) => if t' = t then some l else none
  | _ => none
def hp_ld {α : Type} (l : Option (List α)) (i : Int32) : Option α := match l with
  | some l => if i < 0 then none else l[i.toNatClampNeg]?
  | none => none
def hp_ai (h : hh_H) (a : Nat) (i : Int32) : Option Int32 := hp_ld (hp_ints h a 0) i
def hp_az (h : hh_H) (a : Nat) (i : Int32) : Option Int32 := hp_ld (hp_ints h a 1) i
def hp_ab (h : hh_H) (a : Nat) (i : Int32) : Option Int32 := hp_ld (hp_ints h a 5) i
def hp_ad (h : hh_H) (a : Nat) (i : Int32) : Option UInt64 := hp_ld (hp_dbls h a 2) i
def hp_aj (h : hh_H) (a : Nat) (i : Int32) : Option Int64 := hp_ld (hp_lngs h a 3) i
def hp_refs (h : hh_H) (a t : Nat) : Option (List (Option Nat)) := match h[a]? with
  | some (.inl (t', .inr (.inr (.inr l)))) => if t' = t then some l else none
  | _ => none
def hp_aq (h : hh_H) (a : Nat) (i : Int32) : Option Nat := match hp_ld (hp_refs h a 4) i with
  | some (some q) => some q
  | _ => none
def hp_st {α : Type} (l : Option (List α)) (i : Int32) (x : α) : Option (List α) := match l with
  | some l => if i < 0 then none else if i.toNatClampNeg < l.length then some (l.set i.toNatClampNeg x) else none
  | none => none
def hp_si (h : hh_H) (a : Nat) (i x : Int32) : Option hh_H := (hp_st (hp_ints h a 0) i x).map fun l => h.set a (.inl (0, .inl l))
def hp_sz (h : hh_H) (a : Nat) (i x : Int32) : Option hh_H := (hp_st (hp_ints h a 1) i (vp_nar .boolean x)).map fun l => h.set a (.inl (1, .inl l))
def hp_sb (h : hh_H) (a : Nat) (i x : Int32) : Option hh_H := (hp_st (hp_ints h a 5) i (vp_nar .byte x)).map fun l => h.set a (.inl (5, .inl l))
def hp_sd (h : hh_H) (a : Nat) (i : Int32) (x : UInt64) : Option hh_H := (hp_st (hp_dbls h a 2) i x).map fun l => h.set a (.inl (2, .inr (.inl l)))
def hp_sj (h : hh_H) (a : Nat) (i : Int32) (x : Int64) : Option hh_H := (hp_st (hp_lngs h a 3) i x).map fun l => h.set a (.inl (3, .inr (.inr (.inl l))))
def hp_sq (h : hh_H) (a : Nat) (i : Int32) (x : Option Nat) : Option hh_H := (hp_st (hp_refs h a 4) i x).map fun l => h.set a (.inl (4, .inr (.inr (.inr l))))
def hp_is (h : hh_H) (a ci : Nat) : Option Unit := match h[a]? with
  | some (.inr (c, _)) => if c = ci then some () else none
  | _ => none
theorem hp_is_of {h : hh_H} {a ci : Nat} {u : Unit} (hv : hp_is h a ci = some u) : ∃ fs, h[a]? = some (.inr (ci, fs)) := by
  unfold hp_is at hv
  split at hv
  · rename_i c fs he
    split at hv
    · rename_i hc
      subst hc
      exact ⟨fs, he⟩
    · cases hv
  · cases hv
def hp_new (h : hh_H) (ci : Nat) : Option (Nat × hh_H) := some (h.length, h ++ [.inr (ci, hh_dfl ci)])
def hp_zero (t n : Nat) : hh_A := match t with
  | 2 => .inr (.inl (List.replicate n 0))
  | 3 => .inr (.inr (.inl (List.replicate n 0)))
  | 4 => .inr (.inr (.inr (List.replicate n none)))
  | _ => .inl (List.replicate n 0)
def hp_na (h : hh_H) (t : Nat) (n : Int32) (bd : Nat) : Option (Nat × hh_H) := if n < 0 ∨ bd < n.toNatClampNeg then none else some (h.length, h ++ [.inl (t, hp_zero t n.toNatClampNeg)])
def hp_nn (x : UInt64) : Option UInt64 := if x &&& 0x7fffffffffffffff ≤ 0x7ff0000000000000 then some x else none
def hp_zb (x : Int32) : Option Int32 := if x = 0 ∨ x = 1 then some x else none
def hp_cb {ρ σ : Type} (o : Option (ρ × hh_H)) (k : ρ → hh_H → Option σ) : Option σ := match o with
  | some (r, h) => k r h
  | none => none
theorem hp_cbe {ρ σ : Type} {o : Option (ρ × hh_H)} {k : ρ → hh_H → Option σ} {z : σ} (hf : hp_cb o k = some z) : ∃ r h, o = some (r, h) ∧ k r h = some z := by
  match o, hf with
  | some (r, h), hf => exact ⟨r, h, rfl, hf⟩
theorem hp_bind {ρ σ : Type} {o : Option ρ} {k : ρ → Option σ} {z : σ} (hf : o.bind k = some z) : ∃ r, o = some r ∧ k r = some z := by
  match o, hf with
  | some r, hf => exact ⟨r, rfl, hf⟩
def hp_it {τ : Type} (z : τ) (b : τ → τ) : Nat → τ
  | 0 => z
  | n + 1 => b (hp_it z b n)
end
section
theorem r_iconst {X : hh_X} {B e0 : Nat} {cc : ByteArray} {own : String} {nL : Nat} {ret : Option FieldType} {nm : String} {R : Room} {cn sn pc : Nat} {lv : List (Nat × Value)} {st : List Value} {h : hh_H} (C : hh_ok X B e0 cc own nL ret nm R) {n : Int} {v : Int32} (d : decode cc pc = .ok (.iconst n, 1)) (hv : Int32.ofInt n = v) (k : hh_W X cn sn (pc + 1) lv (.int v :: st) h) : hh_W X cn sn pc lv st h := by
  obtain ⟨p, l, e, R', s, m, args, below, meth, c, Q, D, cT, B', e0', nL'⟩ := X
  obtain ⟨hx, hb, hml, hown, hts, hK, hlk, hrt, hnm, rfl, rfl, rfl, rfl, hB, hA, hcA⟩ := C
  intro H locs ls hS hl
  exact lv_iconst hx hb d hv (k H locs ls hS hl)
theorem r_bipush {X : hh_X} {B e0 : Nat} {cc : ByteArray} {own : String} {nL : Nat} {ret : Option FieldType} {nm : String} {R : Room} {cn sn pc : Nat} {lv : List (Nat × Value)} {st : List Value} {h : hh_H} (C : hh_ok X B e0 cc own nL ret nm R) {n : Int} {v : Int32} (d : decode cc pc = .ok (.bipush n, 2)) (hv : (Int8.ofInt n).toInt32 = v) (k : hh_W X cn sn (pc + 2) lv (.int v :: st) h) : hh_W X cn sn pc lv st h := by
  obtain ⟨p, l, e, R', s, m, args, below, meth, c, Q, D, cT, B', e0', nL'⟩ := X
  obtain ⟨hx, hb, hml, hown, hts, hK, hlk, hrt, hnm, rfl, rfl, rfl, rfl, hB, hA, hcA⟩ := C
  intro H locs ls hS hl
  exact lv_bipush hx hb d hv (k H locs ls hS hl)
theorem r_sipush {X : hh_X} {B e0 : Nat} {cc : ByteArray} {own : String} {nL : Nat} {ret : Option FieldType} {nm : String} {R : Room} {cn sn pc : Nat} {lv : List (Nat × Value)} {st : List Value} {h : hh_H} (C : hh_ok X B e0 cc own nL ret nm R) {n : Int} {v : Int32} (d : decode cc pc = .ok (.sipush n, 3)) (hv : (Int16.ofInt n).toInt32 = v) (k : hh_W X cn sn (pc + 3) lv (.int v :: st) h) : hh_W X cn sn pc lv st h := by
  obtain ⟨p, l, e, R', s, m, args, below, meth, c, Q, D, cT, B', e0', nL'⟩ := X
  obtain ⟨hx, hb, hml, hown, hts, hK, hlk, hrt, hnm, rfl, rfl, rfl, rfl, hB, hA, hcA⟩ := C
  intro H locs ls hS hl
  exact lv_sipush hx hb d hv (k H locs ls hS hl)
theorem r_lconst {X : hh_X} {B e0 : Nat} {cc : ByteArray} {own : String} {nL : Nat} {ret : Option FieldType} {nm : String} {R : Room} {cn sn pc : Nat} {lv : List (Nat × Value)} {st : List Value} {h : hh_H} (C : hh_ok X B e0 cc own nL ret nm R) {n : Fin 2} {v : Int64} (d : decode cc pc = .ok (.lconst n, 1)) (hv : Int64.ofNat (n : Nat) = v) (k : hh_W X cn sn (pc + 1) lv (.long v :: st) h) : hh_W X cn sn pc lv st h := by
  obtain ⟨p, l, e, R', s, m, args, below, meth, c, Q, D, cT, B', e0', nL'⟩ := X
  obtain ⟨hx, hb, hml, hown, hts, hK, hlk, hrt, hnm, rfl, rfl, rfl, rfl, hB, hA, hcA⟩ := C
  intro H locs ls hS hl
  exact lv_lconst hx hb d hv (k H locs ls hS hl)
theorem r_dconst0 {X : hh_X} {B e0 : Nat} {cc : ByteArray} {own : String} {nL : Nat} {ret : Option FieldType} {nm : String} {R : Room} {cn sn pc : Nat} {lv : List (Nat × Value)} {st : List Value} {h : hh_H} (C : hh_ok X B e0 cc own nL ret nm R) (d : decode cc pc = .ok (.dconst 0, 1)) (k : hh_W X cn sn (pc + 1) lv (.double FP.dconst0 :: st) h) : hh_W X cn sn pc lv st h := by
  obtain ⟨p, l, e, R', s, m, args, below, meth, c, Q, D, cT, B', e0', nL'⟩ := X
  obtain ⟨hx, hb, hml, hown, hts, hK, hlk, hrt, hnm, rfl, rfl, rfl, rfl, hB, hA, hcA⟩ := C
  intro H locs ls hS hl
  exact lv_dconst0 hx hb d (k H locs ls hS hl)
theorem r_dconst1 {X : hh_X} {B e0 : Nat} {cc : ByteArray} {own : String} {nL : Nat} {ret : Option FieldType} {nm : String} {R : Room} {cn sn pc : Nat} {lv : List (Nat × Value)} {st : List Value} {h : hh_H} (C : hh_ok X B e0 cc own nL ret nm R) (d : decode cc pc = .ok (.dconst 1, 1)) (k : hh_W X cn sn (pc + 1) lv (.double FP.dconst1 :: st) h) : hh_W X cn sn pc lv st h := by
  obtain ⟨p, l, e, R', s, m, args, below, meth, c, Q, D, cT, B', e0', nL'⟩ := X
  obtain ⟨hx, hb, hml, hown, hts, hK, hlk, hrt, hnm, rfl, rfl, rfl, rfl, hB, hA, hcA⟩ := C
  intro H locs ls hS hl
  exact lv_dconst1 hx hb d (k H locs ls hS hl)
theorem r_ldc {X : hh_X} {B e0 : Nat} {cc : ByteArray} {own : String} {nL : Nat} {ret : Option FieldType} {nm : String} {R : Room} {cn sn pc : Nat} {lv : List (Nat × Value)} {st : List Value} {h : hh_H} (C : hh_ok X B e0 cc own nL ret nm R) {idx : Nat} {v : Int32} (d : decode cc pc = .ok (.ldc idx, 2)) (hw : Jvm.Cond.constant own idx v ∈ hh_T) (k : hh_W X cn sn (pc + 2) lv (.int v :: st) h) : hh_W X cn sn pc lv st h := by
  obtain ⟨p, l, e, R', s, m, args, below, meth, c, Q, D, cT, B', e0', nL'⟩ := X
  obtain ⟨hx, hb, hml, hown, hts, hK, hlk, hrt, hnm, rfl, rfl, rfl, rfl, hB, hA, hcA⟩ := C
  intro H locs ls hS hl
  exact lv_ldc hx hb hown (hts _ hw) d (k H locs ls hS hl)
theorem r_iload_n {X : hh_X} {B e0 : Nat} {cc : ByteArray} {own : String} {nL : Nat} {ret : Option FieldType} {nm : String} {R : Room} {cn sn pc : Nat} {lv : List (Nat × Value)} {st : List Value} {h : hh_H} (C : hh_ok X B e0 cc own nL ret nm R) {k0 : Fin 4} {i : Nat} {x : Int32} (d : decode cc pc = .ok (.iload_n k0, 1)) (hi : (k0 : Nat) = i) (q : Nat) (hq : lv[q]? = some (i, .int x)) (k : hh_W X cn sn (pc + 1) lv (.int x :: st) h) : hh_W X cn sn pc lv st h := by
  obtain ⟨p, l, e, R', s, m, args, below, meth, c, Q, D, cT, B', e0', nL'⟩ := X
  obtain ⟨hx, hb, hml, hown, hts, hK, hlk, hrt, hnm, rfl, rfl, rfl, rfl, hB, hA, hcA⟩ := C
  intro H locs ls hS hl
  exact lv_iload_n hx hb d hi (lv_at hl q hq) (k H locs ls hS hl)
theorem r_iload {X : hh_X} {B e0 : Nat} {cc : ByteArray} {own : String} {nL : Nat} {ret : Option FieldType} {nm : String} {R : Room} {cn sn pc : Nat} {lv : List (Nat × Value)} {st : List Value} {h : hh_H} (C : hh_ok X B e0 cc own nL ret nm R) {i : Nat} {x : Int32} (d : decode cc pc = .ok (.iload i, 2)) (q : Nat) (hq : lv[q]? = some (i, .int x)) (k : hh_W X cn sn (pc + 2) lv (.int x :: st) h) : hh_W X cn sn pc lv st h := by
  obtain ⟨p, l, e, R', s, m, args, below, meth, c, Q, D, cT, B', e0', nL'⟩ := X
  obtain ⟨hx, hb, hml, hown, hts, hK, hlk, hrt, hnm, rfl, rfl, rfl, rfl, hB, hA, hcA⟩ := C
  intro H locs ls hS hl
  exact lv_iload hx hb d (lv_at hl q hq) (k H locs ls hS hl)
theorem r_istore_n {X : hh_X} {B e0 : Nat} {cc : ByteArray} {own : String} {nL : Nat} {ret : Option FieldType} {nm : String} {R : Room} {cn sn pc : Nat} {lv : List (Nat × Value)} {st : List Value} {h : hh_H} (C : hh_ok X B e0 cc own nL ret nm R) {k0 : Fin 4} {i : Nat} {x : Int32} {lv' : List (Nat × Value)} (d : decode cc pc = .ok (.istore_n k0, 1)) (hi : (k0 : Nat) = i) (hn : i < nL) (hq : (i, Value.int x) :: lv.filter (fun q => !(q.1 == i) && !(q.1 + 1 == i && q.2.category == 2)) = lv') (k : hh_W X cn sn (pc + 1) lv' st h) : hh_W X cn sn pc lv (.int x :: st) h := by
  obtain ⟨p, l, e, R', s, m, args, below, meth, c, Q, D, cT, B', e0', nL'⟩ := X
  obtain ⟨hx, hb, hml, hown, hts, hK, hlk, hrt, hnm, rfl, rfl, rfl, rfl, hB, hA, hcA⟩ := C
  intro H locs ls hS hl
  exact lv_istore_n hx hb d hi hl hn hq (fun ls hl => k H locs ls hS hl)
theorem r_istore {X : hh_X} {B e0 : Nat} {cc : ByteArray} {own : String} {nL : Nat} {ret : Option FieldType} {nm : String} {R : Room} {cn sn pc : Nat} {lv : List (Nat × Value)} {st : List Value} {h : hh_H} (C : hh_ok X B e0 cc own nL ret nm R) {i : Nat} {x : Int32} {lv' : List (Nat × Value)} (d : decode cc pc = .ok (.istore i, 2)) (hn : i < nL) (hq : (i, Value.int x) :: lv.filter (fun q => !(q.1 == i) && !(q.1 + 1 == i && q.2.category == 2)) = lv') (k : hh_W X cn sn (pc + 2) lv' st h) : hh_W X cn sn pc lv (.int x :: st) h := by
  obtain ⟨p, l, e, R', s, m, args, below, meth, c, Q, D, cT, B', e0', nL'⟩ := X
  obtain ⟨hx, hb, hml, hown, hts, hK, hlk, hrt, hnm, rfl, rfl, rfl, rfl, hB, hA, hcA⟩ := C
  intro H locs ls hS hl
  exact lv_istore hx hb d hl hn hq (fun ls hl => k H locs ls hS hl)
theorem r_aload_n {X : hh_X} {B e0 : Nat} {cc : ByteArray} {own : String} {nL : Nat} {ret : Option FieldType} {nm : String} {R : Room} {cn sn pc : Nat} {lv : List (Nat × Value)} {st : List Value} {h : hh_H} (C : hh_ok X B e0 cc own nL ret nm R) {k0 : Fin 4} {i : Nat} {x : Nat} (d : decode cc pc = .ok (.aload_n k0, 1)) (hi : (k0 : Nat) = i) (q : Nat) (hq : lv[q]? = some (i, .ref x)) (k : hh_W X cn sn (pc + 1) lv (.ref x :: st) h) : hh_W X cn sn pc lv st h := by
  obtain ⟨p, l, e, R', s, m, args, below, meth, c, Q, D, cT, B', e0', nL'⟩ := X
  obtain ⟨hx, hb, hml, hown, hts, hK, hlk, hrt, hnm, rfl, rfl, rfl, rfl, hB, hA, hcA⟩ := C
  intro H locs ls hS hl
  exact lv_aload_n hx hb d hi (lv_at hl q hq) (k H locs ls hS hl)
theorem r_aload {X : hh_X} {B e0 : Nat} {cc : ByteArray} {own : String} {nL : Nat} {ret : Option FieldType} {nm : String} {R : Room} {cn sn pc : Nat} {lv : List (Nat × Value)} {st : List Value} {h : hh_H} (C : hh_ok X B e0 cc own nL ret nm R) {i : Nat} {x : Nat} (d : decode cc pc = .ok (.aload i, 2)) (q : Nat) (hq : lv[q]? = some (i, .ref x)) (k : hh_W X cn sn (pc + 2) lv (.ref x :: st) h) : hh_W X cn sn pc lv st h := by
  obtain ⟨p, l, e, R', s, m, args, below, meth, c, Q, D, cT, B', e0', nL'⟩ := X
  obtain ⟨hx, hb, hml, hown, hts, hK, hlk, hrt, hnm, rfl, rfl, rfl, rfl, hB, hA, hcA⟩ := C
  intro H locs ls hS hl
  exact lv_aload hx hb d (lv_at hl q hq) (k H locs ls hS hl)
theorem r_astore_n {X : hh_X} {B e0 : Nat} {cc : ByteArray} {own : String} {nL : Nat} {ret : Option FieldType} {nm : String} {R : Room} {cn sn pc : Nat} {lv : List (Nat × Value)} {st : List Value} {h : hh_H} (C : hh_ok X B e0 cc own nL ret nm R) {k0 : Fin 4} {i : Nat} {x : Nat} {lv' : List (Nat × Value)} (d : decode cc pc = .ok (.astore_n k0, 1)) (hi : (k0 : Nat) = i) (hn : i < nL) (hq : (i, Value.ref x) :: lv.filter (fun q => !(q.1 == i) && !(q.1 + 1 == i && q.2.category == 2)) = lv') (k : hh_W X cn sn (pc + 1) lv' st h) : hh_W X cn sn pc lv (.ref x :: st) h := by
  obtain ⟨p, l, e, R', s, m, args, below, meth, c, Q, D, cT, B', e0', nL'⟩ := X
  obtain ⟨hx, hb, hml, hown, hts, hK, hlk, hrt, hnm, rfl, rfl, rfl, rfl, hB, hA, hcA⟩ := C
  intro H locs ls hS hl
  exact lv_astore_n hx hb d hi hl hn hq (fun ls hl => k H locs ls hS hl)
theorem r_astore {X : hh_X} {B e0 : Nat} {cc : ByteArray} {own : String} {nL : Nat} {ret : Option FieldType} {nm : String} {R : Room} {cn sn pc : Nat} {lv : List (Nat × Value)} {st : List Value} {h : hh_H} (C : hh_ok X B e0 cc own nL ret nm R) {i : Nat} {x : Nat} {lv' : List (Nat × Value)} (d : decode cc pc = .ok (.astore i, 2)) (hn : i < nL) (hq : (i, Value.ref x) :: lv.filter (fun q => !(q.1 == i) && !(q.1 + 1 == i && q.2.category == 2)) = lv') (k : hh_W X cn sn (pc + 2) lv' st h) : hh_W X cn sn pc lv (.ref x :: st) h := by
  obtain ⟨p, l, e, R', s, m, args, below, meth, c, Q, D, cT, B', e0', nL'⟩ := X
  obtain ⟨hx, hb, hml, hown, hts, hK, hlk, hrt, hnm, rfl, rfl, rfl, rfl, hB, hA, hcA⟩ := C
  intro H locs ls hS hl
  exact lv_astore hx hb d hl hn hq (fun ls hl => k H locs ls hS hl)
theorem r_dload_n {X : hh_X} {B e0 : Nat} {cc : ByteArray} {own : String} {nL : Nat} {ret : Option FieldType} {nm : String} {R : Room} {cn sn pc : Nat} {lv : List (Nat × Value)} {st : List Value} {h : hh_H} (C : hh_ok X B e0 cc own nL ret nm R) {k0 : Fin 4} {i : Nat} {x : UInt64} (d : decode cc pc = .ok (.dload_n k0, 1)) (hi : (k0 : Nat) = i) (q : Nat) (hq : lv[q]? = some (i, .double x)) (k : hh_W X cn sn (pc + 1) lv (.double x :: st) h) : hh_W X cn sn pc lv st h := by
  obtain ⟨p, l, e, R', s, m, args, below, meth, c, Q, D, cT, B', e0', nL'⟩ := X
  obtain ⟨hx, hb, hml, hown, hts, hK, hlk, hrt, hnm, rfl, rfl, rfl, rfl, hB, hA, hcA⟩ := C
  intro H locs ls hS hl
  exact lv_dload_n hx hb d hi (lv_at hl q hq) (k H locs ls hS hl)
theorem r_dload {X : hh_X} {B e0 : Nat} {cc : ByteArray} {own : String} {nL : Nat} {ret : Option FieldType} {nm : String} {R : Room} {cn sn pc : Nat} {lv : List (Nat × Value)} {st : List Value} {h : hh_H} (C : hh_ok X B e0 cc own nL ret nm R) {i : Nat} {x : UInt64} (d : decode cc pc = .ok (.dload i, 2)) (q : Nat) (hq : lv[q]? = some (i, .double x)) (k : hh_W X cn sn (pc + 2) lv (.double x :: st) h) : hh_W X cn sn pc lv st h := by
  obtain ⟨p, l, e, R', s, m, args, below, meth, c, Q, D, cT, B', e0', nL'⟩ := X
  obtain ⟨hx, hb, hml, hown, hts, hK, hlk, hrt, hnm, rfl, rfl, rfl, rfl, hB, hA, hcA⟩ := C
  intro H locs ls hS hl
  exact lv_dload hx hb d (lv_at hl q hq) (k H locs ls hS hl)
theorem r_dstore_n {X : hh_X} {B e0 : Nat} {cc : ByteArray} {own : String} {nL : Nat} {ret : Option FieldType} {nm : String} {R : Room} {cn sn pc : Nat} {lv : List (Nat × Value)} {st : List Value} {h : hh_H} (C : hh_ok X B e0 cc own nL ret nm R) {k0 : Fin 4} {i : Nat} {x : UInt64} {lv' : List (Nat × Value)} (d : decode cc pc = .ok (.dstore_n k0, 1)) (hi : (k0 : Nat) = i) (hn : i + 1 < nL) (hq : (i, Value.double x) :: lv.filter (fun q => !(q.1 == i) && (!(q.1 == i + 1) && !(q.1 + 1 == i && q.2.category == 2))) = lv') (k : hh_W X cn sn (pc + 1) lv' st h) : hh_W X cn sn pc lv (.double x :: st) h := by
  obtain ⟨p, l, e, R', s, m, args, below, meth, c, Q, D, cT, B', e0', nL'⟩ := X
  obtain ⟨hx, hb, hml, hown, hts, hK, hlk, hrt, hnm, rfl, rfl, rfl, rfl, hB, hA, hcA⟩ := C
  intro H locs ls hS hl
  exact lv_dstore_n hx hb d hi hl hn hq (fun ls hl => k H locs ls hS hl)
theorem r_dstore {X : hh_X} {B e0 : Nat} {cc : ByteArray} {own : String} {nL : Nat} {ret : Option FieldType} {nm : String} {R : Room} {cn sn pc : Nat} {lv : List (Nat × Value)} {st : List Value} {h : hh_H} (C : hh_ok X B e0 cc own nL ret nm R) {i : Nat} {x : UInt64} {lv' : List (Nat × Value)} (d : decode cc pc = .ok (.dstore i, 2)) (hn : i + 1 < nL) (hq : (i, Value.double x) :: lv.filter (fun q => !(q.1 == i) && (!(q.1 == i + 1) && !(q.1 + 1 == i && q.2.category == 2))) = lv') (k : hh_W X cn sn (pc + 2) lv' st h) : hh_W X cn sn pc lv (.double x :: st) h := by
  obtain ⟨p, l, e, R', s, m, args, below, meth, c, Q, D, cT, B', e0', nL'⟩ := X
  obtain ⟨hx, hb, hml, hown, hts, hK, hlk, hrt, hnm, rfl, rfl, rfl, rfl, hB, hA, hcA⟩ := C
  intro H locs ls hS hl
  exact lv_dstore hx hb d hl hn hq (fun ls hl => k H locs ls hS hl)
theorem r_lload_n {X : hh_X} {B e0 : Nat} {cc : ByteArray} {own : String} {nL : Nat} {ret : Option FieldType} {nm : String} {R : Room} {cn sn pc : Nat} {lv : List (Nat × Value)} {st : List Value} {h : hh_H} (C : hh_ok X B e0 cc own nL ret nm R) {k0 : Fin 4} {i : Nat} {x : Int64} (d : decode cc pc = .ok (.lload_n k0, 1)) (hi : (k0 : Nat) = i) (q : Nat) (hq : lv[q]? = some (i, .long x)) (k : hh_W X cn sn (pc + 1) lv (.long x :: st) h) : hh_W X cn sn pc lv st h := by
  obtain ⟨p, l, e, R', s, m, args, below, meth, c, Q, D, cT, B', e0', nL'⟩ := X
  obtain ⟨hx, hb, hml, hown, hts, hK, hlk, hrt, hnm, rfl, rfl, rfl, rfl, hB, hA, hcA⟩ := C
  intro H locs ls hS hl
  exact lv_lload_n hx hb d hi (lv_at hl q hq) (k H locs ls hS hl)
theorem r_lload {X : hh_X} {B e0 : Nat} {cc : ByteArray} {own : String} {nL : Nat} {ret : Option FieldType} {nm : String} {R : Room} {cn sn pc : Nat} {lv : List (Nat × Value)} {st : List Value} {h : hh_H} (C : hh_ok X B e0 cc own nL ret nm R) {i : Nat} {x : Int64} (d : decode cc pc = .ok (.lload i, 2)) (q : Nat) (hq : lv[q]? = some (i, .long x)) (k : hh_W X cn sn (pc + 2) lv (.long x :: st) h) : hh_W X cn sn pc lv st h := by
  obtain ⟨p, l, e, R', s, m, args, below, meth, c, Q, D, cT, B', e0', nL'⟩ := X
  obtain ⟨hx, hb, hml, hown, hts, hK, hlk, hrt, hnm, rfl, rfl, rfl, rfl, hB, hA, hcA⟩ := C
  intro H locs ls hS hl
  exact lv_lload hx hb d (lv_at hl q hq) (k H locs ls hS hl)
theorem r_lstore_n {X : hh_X} {B e0 : Nat} {cc : ByteArray} {own : String} {nL : Nat} {ret : Option FieldType} {nm : String} {R : Room} {cn sn pc : Nat} {lv : List (Nat × Value)} {st : List Value} {h : hh_H} (C : hh_ok X B e0 cc own nL ret nm R) {k0 : Fin 4} {i : Nat} {x : Int64} {lv' : List (Nat × Value)} (d : decode cc pc = .ok (.lstore_n k0, 1)) (hi : (k0 : Nat) = i) (hn : i + 1 < nL) (hq : (i, Value.long x) :: lv.filter (fun q => !(q.1 == i) && (!(q.1 == i + 1) && !(q.1 + 1 == i && q.2.category == 2))) = lv') (k : hh_W X cn sn (pc + 1) lv' st h) : hh_W X cn sn pc lv (.long x :: st) h := by
  obtain ⟨p, l, e, R', s, m, args, below, meth, c, Q, D, cT, B', e0', nL'⟩ := X
  obtain ⟨hx, hb, hml, hown, hts, hK, hlk, hrt, hnm, rfl, rfl, rfl, rfl, hB, hA, hcA⟩ := C
  intro H locs ls hS hl
  exact lv_lstore_n hx hb d hi hl hn hq (fun ls hl => k H locs ls hS hl)
theorem r_lstore {X : hh_X} {B e0 : Nat} {cc : ByteArray} {own : String} {nL : Nat} {ret : Option FieldType} {nm : String} {R : Room} {cn sn pc : Nat} {lv : List (Nat × Value)} {st : List Value} {h : hh_H} (C : hh_ok X B e0 cc own nL ret nm R) {i : Nat} {x : Int64} {lv' : List (Nat × Value)} (d : decode cc pc = .ok (.lstore i, 2)) (hn : i + 1 < nL) (hq : (i, Value.long x) :: lv.filter (fun q => !(q.1 == i) && (!(q.1 == i + 1) && !(q.1 + 1 == i && q.2.category == 2))) = lv') (k : hh_W X cn sn (pc + 2) lv' st h) : hh_W X cn sn pc lv (.long x :: st) h := by
  obtain ⟨p, l, e, R', s, m, args, below, meth, c, Q, D, cT, B', e0', nL'⟩ := X
  obtain ⟨hx, hb, hml, hown, hts, hK, hlk, hrt, hnm, rfl, rfl, rfl, rfl, hB, hA, hcA⟩ := C
  intro H locs ls hS hl
  exact lv_lstore hx hb d hl hn hq (fun ls hl => k H locs ls hS hl)
theorem r_iinc {X : hh_X} {B e0 : Nat} {cc : ByteArray} {own : String} {nL : Nat} {ret : Option FieldType} {nm : String} {R : Room} {cn sn pc : Nat} {lv : List (Nat × Value)} {st : List Value} {h : hh_H} (C : hh_ok X B e0 cc own nL ret nm R) {i : Nat} {n : Int} {x v : Int32} {lv' : List (Nat × Value)} (d : decode cc pc = .ok (.iinc i n, 3)) (q : Nat) (hk : lv[q]? = some (i, .int x)) (hv : x + Int32.ofInt n = v) (hn : i < nL) (hq : (i, Value.int v) :: lv.filter (fun q => !(q.1 == i) && !(q.1 + 1 == i && q.2.category == 2)) = lv') (k : hh_W X cn sn (pc + 3) lv' st h) : hh_W X cn sn pc lv st h := by
  obtain ⟨p, l, e, R', s, m, args, below, meth, c, Q, D, cT, B', e0', nL'⟩ := X
  obtain ⟨hx, hb, hml, hown, hts, hK, hlk, hrt, hnm, rfl, rfl, rfl, rfl, hB, hA, hcA⟩ := C
  intro H locs ls hS hl
  exact lv_iinc hx hb d hl hk hv hn hq (fun ls hl => k H locs ls hS hl)
theorem r_iadd {X : hh_X} {B e0 : Nat} {cc : ByteArray} {own : String} {nL : Nat} {ret : Option FieldType} {nm : String} {R : Room} {cn sn pc : Nat} {lv : List (Nat × Value)} {st : List Value} {h : hh_H} (C : hh_ok X B e0 cc own nL ret nm R) {x y : Int32} (d : decode cc pc = .ok (.iadd, 1)) (k : hh_W X cn sn (pc + 1) lv (.int (x + y) :: st) h) : hh_W X cn sn pc lv (.int y :: .int x :: st) h := by
  obtain ⟨p, l, e, R', s, m, args, below, meth, c, Q, D, cT, B', e0', nL'⟩ := X
  obtain ⟨hx, hb, hml, hown, hts, hK, hlk, hrt, hnm, rfl, rfl, rfl, rfl, hB, hA, hcA⟩ := C
  intro H locs ls hS hl
  exact lv_iadd hx hb d (k H locs ls hS hl)
theorem r_isub {X : hh_X} {B e0 : Nat} {cc : ByteArray} {own : String} {nL : Nat} {ret : Option FieldType} {nm : String} {R : Room} {cn sn pc : Nat} {lv : List (Nat × Value)} {st : List Value} {h : hh_H} (C : hh_ok X B e0 cc own nL ret nm R) {x y : Int32} (d : decode cc pc = .ok (.isub, 1)) (k : hh_W X cn sn (pc + 1) lv (.int (x - y) :: st) h) : hh_W X cn sn pc lv (.int y :: .int x :: st) h := by
  obtain ⟨p, l, e, R', s, m, args, below, meth, c, Q, D, cT, B', e0', nL'⟩ := X
  obtain ⟨hx, hb, hml, hown, hts, hK, hlk, hrt, hnm, rfl, rfl, rfl, rfl, hB, hA, hcA⟩ := C
  intro H locs ls hS hl
  exact lv_isub hx hb d (k H locs ls hS hl)
theorem r_imul {X : hh_X} {B e0 : Nat} {cc : ByteArray} {own : String} {nL : Nat} {ret : Option FieldType} {nm : String} {R : Room} {cn sn pc : Nat} {lv : List (Nat × Value)} {st : List Value} {h : hh_H} (C : hh_ok X B e0 cc own nL ret nm R) {x y : Int32} (d : decode cc pc = .ok (.imul, 1)) (k : hh_W X cn sn (pc + 1) lv (.int (x * y) :: st) h) : hh_W X cn sn pc lv (.int y :: .int x :: st) h := by
  obtain ⟨p, l, e, R', s, m, args, below, meth, c, Q, D, cT, B', e0', nL'⟩ := X
  obtain ⟨hx, hb, hml, hown, hts, hK, hlk, hrt, hnm, rfl, rfl, rfl, rfl, hB, hA, hcA⟩ := C
  intro H locs ls hS hl
  exact lv_imul hx hb d (k H locs ls hS hl)
theorem r_iand {X : hh_X} {B e0 : Nat} {cc : ByteArray} {own : String} {nL : Nat} {ret : Option FieldType} {nm : String} {R : Room} {cn sn pc : Nat} {lv : List (Nat × Value)} {st : List Value} {h : hh_H} (C : hh_ok X B e0 cc own nL ret nm R) {x y : Int32} (d : decode cc pc = .ok (.iand, 1)) (k : hh_W X cn sn (pc + 1) lv (.int (x &&& y) :: st) h) : hh_W X cn sn pc lv (.int y :: .int x :: st) h := by
  obtain ⟨p, l, e, R', s, m, args, below, meth, c, Q, D, cT, B', e0', nL'⟩ := X
  obtain ⟨hx, hb, hml, hown, hts, hK, hlk, hrt, hnm, rfl, rfl, rfl, rfl, hB, hA, hcA⟩ := C
  intro H locs ls hS hl
  exact lv_iand hx hb d (k H locs ls hS hl)
theorem r_ior {X : hh_X} {B e0 : Nat} {cc : ByteArray} {own : String} {nL : Nat} {ret : Option FieldType} {nm : String} {R : Room} {cn sn pc : Nat} {lv : List (Nat × Value)} {st : List Value} {h : hh_H} (C : hh_ok X B e0 cc own nL ret nm R) {x y : Int32} (d : decode cc pc = .ok (.ior, 1)) (k : hh_W X cn sn (pc + 1) lv (.int (x ||| y) :: st) h) : hh_W X cn sn pc lv (.int y :: .int x :: st) h := by
  obtain ⟨p, l, e, R', s, m, args, below, meth, c, Q, D, cT, B', e0', nL'⟩ := X
  obtain ⟨hx, hb, hml, hown, hts, hK, hlk, hrt, hnm, rfl, rfl, rfl, rfl, hB, hA, hcA⟩ := C
  intro H locs ls hS hl
  exact lv_ior hx hb d (k H locs ls hS hl)
theorem r_ixor {X : hh_X} {B e0 : Nat} {cc : ByteArray} {own : String} {nL : Nat} {ret : Option FieldType} {nm : String} {R : Room} {cn sn pc : Nat} {lv : List (Nat × Value)} {st : List Value} {h : hh_H} (C : hh_ok X B e0 cc own nL ret nm R) {x y : Int32} (d : decode cc pc = .ok (.ixor, 1)) (k : hh_W X cn sn (pc + 1) lv (.int (x ^^^ y) :: st) h) : hh_W X cn sn pc lv (.int y :: .int x :: st) h := by
  obtain ⟨p, l, e, R', s, m, args, below, meth, c, Q, D, cT, B', e0', nL'⟩ := X
  obtain ⟨hx, hb, hml, hown, hts, hK, hlk, hrt, hnm, rfl, rfl, rfl, rfl, hB, hA, hcA⟩ := C
  intro H locs ls hS hl
  exact lv_ixor hx hb d (k H locs ls hS hl)
theorem r_ishl {X : hh_X} {B e0 : Nat} {cc : ByteArray} {own : String} {nL : Nat} {ret : Option FieldType} {nm : String} {R : Room} {cn sn pc : Nat} {lv : List (Nat × Value)} {st : List Value} {h : hh_H} (C : hh_ok X B e0 cc own nL ret nm R) {x y : Int32} (d : decode cc pc = .ok (.ishl, 1)) (k : hh_W X cn sn (pc + 1) lv (.int (x <<< (y &&& 31)) :: st) h) : hh_W X cn sn pc lv (.int y :: .int x :: st) h := by
  obtain ⟨p, l, e, R', s, m, args, below, meth, c, Q, D, cT, B', e0', nL'⟩ := X
  obtain ⟨hx, hb, hml, hown, hts, hK, hlk, hrt, hnm, rfl, rfl, rfl, rfl, hB, hA, hcA⟩ := C
  intro H locs ls hS hl
  exact lv_ishl hx hb d (k H locs ls hS hl)
theorem r_ishr {X : hh_X} {B e0 : Nat} {cc : ByteArray} {own : String} {nL : Nat} {ret : Option FieldType} {nm : String} {R : Room} {cn sn pc : Nat} {lv : List (Nat × Value)} {st : List Value} {h : hh_H} (C : hh_ok X B e0 cc own nL ret nm R) {x y : Int32} (d : decode cc pc = .ok (.ishr, 1)) (k : hh_W X cn sn (pc + 1) lv (.int (x >>> (y &&& 31)) :: st) h) : hh_W X cn sn pc lv (.int y :: .int x :: st) h := by
  obtain ⟨p, l, e, R', s, m, args, below, meth, c, Q, D, cT, B', e0', nL'⟩ := X
  obtain ⟨hx, hb, hml, hown, hts, hK, hlk, hrt, hnm, rfl, rfl, rfl, rfl, hB, hA, hcA⟩ := C
  intro H locs ls hS hl
  exact lv_ishr hx hb d (k H locs ls hS hl)
theorem r_ladd {X : hh_X} {B e0 : Nat} {cc : ByteArray} {own : String} {nL : Nat} {ret : Option FieldType} {nm : String} {R : Room} {cn sn pc : Nat} {lv : List (Nat × Value)} {st : List Value} {h : hh_H} (C : hh_ok X B e0 cc own nL ret nm R) {x y : Int64} (d : decode cc pc = .ok (.ladd, 1)) (k : hh_W X cn sn (pc + 1) lv (.long (x + y) :: st) h) : hh_W X cn sn pc lv (.long y :: .long x :: st) h := by
  obtain ⟨p, l, e, R', s, m, args, below, meth, c, Q, D, cT, B', e0', nL'⟩ := X
  obtain ⟨hx, hb, hml, hown, hts, hK, hlk, hrt, hnm, rfl, rfl, rfl, rfl, hB, hA, hcA⟩ := C
  intro H locs ls hS hl
  exact lv_ladd hx hb d (k H locs ls hS hl)
theorem r_lsub {X : hh_X} {B e0 : Nat} {cc : ByteArray} {own : String} {nL : Nat} {ret : Option FieldType} {nm : String} {R : Room} {cn sn pc : Nat} {lv : List (Nat × Value)} {st : List Value} {h : hh_H} (C : hh_ok X B e0 cc own nL ret nm R) {x y : Int64} (d : decode cc pc = .ok (.lsub, 1)) (k : hh_W X cn sn (pc + 1) lv (.long (x - y) :: st) h) : hh_W X cn sn pc lv (.long y :: .long x :: st) h := by
  obtain ⟨p, l, e, R', s, m, args, below, meth, c, Q, D, cT, B', e0', nL'⟩ := X
  obtain ⟨hx, hb, hml, hown, hts, hK, hlk, hrt, hnm, rfl, rfl, rfl, rfl, hB, hA, hcA⟩ := C
  intro H locs ls hS hl
  exact lv_lsub hx hb d (k H locs ls hS hl)
theorem r_lmul {X : hh_X} {B e0 : Nat} {cc : ByteArray} {own : String} {nL : Nat} {ret : Option FieldType} {nm : String} {R : Room} {cn sn pc : Nat} {lv : List (Nat × Value)} {st : List Value} {h : hh_H} (C : hh_ok X B e0 cc own nL ret nm R) {x y : Int64} (d : decode cc pc = .ok (.lmul, 1)) (k : hh_W X cn sn (pc + 1) lv (.long (x * y) :: st) h) : hh_W X cn sn pc lv (.long y :: .long x :: st) h := by
  obtain ⟨p, l, e, R', s, m, args, below, meth, c, Q, D, cT, B', e0', nL'⟩ := X
  obtain ⟨hx, hb, hml, hown, hts, hK, hlk, hrt, hnm, rfl, rfl, rfl, rfl, hB, hA, hcA⟩ := C
  intro H locs ls hS hl
  exact lv_lmul hx hb d (k H locs ls hS hl)
theorem r_idiv {X : hh_X} {B e0 : Nat} {cc : ByteArray} {own : String} {nL : Nat} {ret : Option FieldType} {nm : String} {R : Room} {cn sn pc : Nat} {lv : List (Nat × Value)} {st : List Value} {h : hh_H} (C : hh_ok X B e0 cc own nL ret nm R) {x y : Int32} (d : decode cc pc = .ok (.idiv, 1)) (hne : ¬ y = 0) (k : hh_W X cn sn (pc + 1) lv (.int (x / y) :: st) h) : hh_W X cn sn pc lv (.int y :: .int x :: st) h := by
  obtain ⟨p, l, e, R', s, m, args, below, meth, c, Q, D, cT, B', e0', nL'⟩ := X
  obtain ⟨hx, hb, hml, hown, hts, hK, hlk, hrt, hnm, rfl, rfl, rfl, rfl, hB, hA, hcA⟩ := C
  intro H locs ls hS hl
  exact lv_idiv hx hb d hne (k H locs ls hS hl)
theorem r_irem {X : hh_X} {B e0 : Nat} {cc : ByteArray} {own : String} {nL : Nat} {ret : Option FieldType} {nm : String} {R : Room} {cn sn pc : Nat} {lv : List (Nat × Value)} {st : List Value} {h : hh_H} (C : hh_ok X B e0 cc own nL ret nm R) {x y : Int32} (d : decode cc pc = .ok (.irem, 1)) (hne : ¬ y = 0) (k : hh_W X cn sn (pc + 1) lv (.int (x - x / y * y) :: st) h) : hh_W X cn sn pc lv (.int y :: .int x :: st) h := by
  obtain ⟨p, l, e, R', s, m, args, below, meth, c, Q, D, cT, B', e0', nL'⟩ := X
  obtain ⟨hx, hb, hml, hown, hts, hK, hlk, hrt, hnm, rfl, rfl, rfl, rfl, hB, hA, hcA⟩ := C
  intro H locs ls hS hl
  exact lv_irem hx hb d hne (k H locs ls hS hl)
theorem r_ineg {X : hh_X} {B e0 : Nat} {cc : ByteArray} {own : String} {nL : Nat} {ret : Option FieldType} {nm : String} {R : Room} {cn sn pc : Nat} {lv : List (Nat × Value)} {st : List Value} {h : hh_H} (C : hh_ok X B e0 cc own nL ret nm R) {x : Int32} (d : decode cc pc = .ok (.ineg, 1)) (k : hh_W X cn sn (pc + 1) lv (.int (-x) :: st) h) : hh_W X cn sn pc lv (.int x :: st) h := by
  obtain ⟨p, l, e, R', s, m, args, below, meth, c, Q, D, cT, B', e0', nL'⟩ := X
  obtain ⟨hx, hb, hml, hown, hts, hK, hlk, hrt, hnm, rfl, rfl, rfl, rfl, hB, hA, hcA⟩ := C
  intro H locs ls hS hl
  exact lv_ineg hx hb d (k H locs ls hS hl)
theorem r_iushr {X : hh_X} {B e0 : Nat} {cc : ByteArray} {own : String} {nL : Nat} {ret : Option FieldType} {nm : String} {R : Room} {cn sn pc : Nat} {lv : List (Nat × Value)} {st : List Value} {h : hh_H} (C : hh_ok X B e0 cc own nL ret nm R) {x y v : Int32} (d : decode cc pc = .ok (.iushr, 1)) (hv : (x.toUInt32 >>> (y.toUInt32 &&& Int32.toUInt32 31)).toInt32 = v) (k : hh_W X cn sn (pc + 1) lv (.int v :: st) h) : hh_W X cn sn pc lv (.int y :: .int x :: st) h := by
  obtain ⟨p, l, e, R', s, m, args, below, meth, c, Q, D, cT, B', e0', nL'⟩ := X
  obtain ⟨hx, hb, hml, hown, hts, hK, hlk, hrt, hnm, rfl, rfl, rfl, rfl, hB, hA, hcA⟩ := C
  intro H locs ls hS hl
  exact lv_iushr hx hb d hv (k H locs ls hS hl)
theorem r_dadd {X : hh_X} {B e0 : Nat} {cc : ByteArray} {own : String} {nL : Nat} {ret : Option FieldType} {nm : String} {R : Room} {cn sn pc : Nat} {lv : List (Nat × Value)} {st : List Value} {h : hh_H} (C : hh_ok X B e0 cc own nL ret nm R) {x y v : UInt64} (d : decode cc pc = .ok (.dadd, 1)) (hv : hp_nn (FP.dadd x y) = some v) (k : hh_W X cn sn (pc + 1) lv (.double v :: st) h) : hh_W X cn sn pc lv (.double y :: .double x :: st) h := by
  obtain ⟨p, l, e, R', s, m, args, below, meth, c, Q, D, cT, B', e0', nL'⟩ := X
  obtain ⟨hx, hb, hml, hown, hts, hK, hlk, hrt, hnm, rfl, rfl, rfl, rfl, hB, hA, hcA⟩ := C
  intro H locs ls hS hl
  unfold hp_nn at hv
  split at hv
  · rename_i hn
    cases hv
    exact lv_dadd hx hb d hn (k H locs ls hS hl)
  · cases hv
theorem r_ddiv {X : hh_X} {B e0 : Nat} {cc : ByteArray} {own : String} {nL : Nat} {ret : Option FieldType} {nm : String} {R : Room} {cn sn pc : Nat} {lv : List (Nat × Value)} {st : List Value} {h : hh_H} (C : hh_ok X B e0 cc own nL ret nm R) {x y v : UInt64} (d : decode cc pc = .ok (.ddiv, 1)) (hv : hp_nn (FP.ddiv x y) = some v) (k : hh_W X cn sn (pc + 1) lv (.double v :: st) h) : hh_W X cn sn pc lv (.double y :: .double x :: st) h := by
  obtain ⟨p, l, e, R', s, m, args, below, meth, c, Q, D, cT, B', e0', nL'⟩ := X
  obtain ⟨hx, hb, hml, hown, hts, hK, hlk, hrt, hnm, rfl, rfl, rfl, rfl, hB, hA, hcA⟩ := C
  intro H locs ls hS hl
  unfold hp_nn at hv
  split at hv
  · rename_i hn
    cases hv
    exact lv_ddiv hx hb d hn (k H locs ls hS hl)
  · cases hv
theorem r_dsub {X : hh_X} {B e0 : Nat} {cc : ByteArray} {own : String} {nL : Nat} {ret : Option FieldType} {nm : String} {R : Room} {cn sn pc : Nat} {lv : List (Nat × Value)} {st : List Value} {h : hh_H} (C : hh_ok X B e0 cc own nL ret nm R) {x y v : UInt64} (d : decode cc pc = .ok (.dsub, 1)) (hv : hp_nn (FP.dsub x y) = some v) (k : hh_W X cn sn (pc + 1) lv (.double v :: st) h) : hh_W X cn sn pc lv (.double y :: .double x :: st) h := by
  obtain ⟨p, l, e, R', s, m, args, below, meth, c, Q, D, cT, B', e0', nL'⟩ := X
  obtain ⟨hx, hb, hml, hown, hts, hK, hlk, hrt, hnm, rfl, rfl, rfl, rfl, hB, hA, hcA⟩ := C
  intro H locs ls hS hl
  unfold hp_nn at hv
  split at hv
  · rename_i hn
    cases hv
    exact lv_dsub hx hb d hn (k H locs ls hS hl)
  · cases hv
theorem r_dmul {X : hh_X} {B e0 : Nat} {cc : ByteArray} {own : String} {nL : Nat} {ret : Option FieldType} {nm : String} {R : Room} {cn sn pc : Nat} {lv : List (Nat × Value)} {st : List Value} {h : hh_H} (C : hh_ok X B e0 cc own nL ret nm R) {x y v : UInt64} (d : decode cc pc = .ok (.dmul, 1)) (hv : hp_nn (FP.dmul x y) = some v) (k : hh_W X cn sn (pc + 1) lv (.double v :: st) h) : hh_W X cn sn pc lv (.double y :: .double x :: st) h := by
  obtain ⟨p, l, e, R', s, m, args, below, meth, c, Q, D, cT, B', e0', nL'⟩ := X
  obtain ⟨hx, hb, hml, hown, hts, hK, hlk, hrt, hnm, rfl, rfl, rfl, rfl, hB, hA, hcA⟩ := C
  intro H locs ls hS hl
  unfold hp_nn at hv
  split at hv
  · rename_i hn
    cases hv
    exact lv_dmul hx hb d hn (k H locs ls hS hl)
  · cases hv
theorem r_dcmp {X : hh_X} {B e0 : Nat} {cc : ByteArray} {own : String} {nL : Nat} {ret : Option FieldType} {nm : String} {R : Room} {cn sn pc : Nat} {lv : List (Nat × Value)} {st : List Value} {h : hh_H} (C : hh_ok X B e0 cc own nL ret nm R) {x y : UInt64} {op : CmpOp} (d : decode cc pc = .ok (.dcmp op, 1)) (k : hh_W X cn sn (pc + 1) lv (.int (Op.cmpValue (FP.dcmp x y) op) :: st) h) : hh_W X cn sn pc lv (.double y :: .double x :: st) h := by
  obtain ⟨p, l, e, R', s, m, args, below, meth, c, Q, D, cT, B', e0', nL'⟩ := X
  obtain ⟨hx, hb, hml, hown, hts, hK, hlk, hrt, hnm, rfl, rfl, rfl, rfl, hB, hA, hcA⟩ := C
  intro H locs ls hS hl
  exact lv_dcmp hx hb d (k H locs ls hS hl)
theorem r_i2d {X : hh_X} {B e0 : Nat} {cc : ByteArray} {own : String} {nL : Nat} {ret : Option FieldType} {nm : String} {R : Room} {cn sn pc : Nat} {lv : List (Nat × Value)} {st : List Value} {h : hh_H} (C : hh_ok X B e0 cc own nL ret nm R) {x : Int32} (d : decode cc pc = .ok (.i2d, 1)) (k : hh_W X cn sn (pc + 1) lv (.double (FP.i2d x) :: st) h) : hh_W X cn sn pc lv (.int x :: st) h := by
  obtain ⟨p, l, e, R', s, m, args, below, meth, c, Q, D, cT, B', e0', nL'⟩ := X
  obtain ⟨hx, hb, hml, hown, hts, hK, hlk, hrt, hnm, rfl, rfl, rfl, rfl, hB, hA, hcA⟩ := C
  intro H locs ls hS hl
  exact lv_i2d hx hb d (k H locs ls hS hl)
theorem r_i2l {X : hh_X} {B e0 : Nat} {cc : ByteArray} {own : String} {nL : Nat} {ret : Option FieldType} {nm : String} {R : Room} {cn sn pc : Nat} {lv : List (Nat × Value)} {st : List Value} {h : hh_H} (C : hh_ok X B e0 cc own nL ret nm R) {x : Int32} (d : decode cc pc = .ok (.i2l, 1)) (k : hh_W X cn sn (pc + 1) lv (.long x.toInt64 :: st) h) : hh_W X cn sn pc lv (.int x :: st) h := by
  obtain ⟨p, l, e, R', s, m, args, below, meth, c, Q, D, cT, B', e0', nL'⟩ := X
  obtain ⟨hx, hb, hml, hown, hts, hK, hlk, hrt, hnm, rfl, rfl, rfl, rfl, hB, hA, hcA⟩ := C
  intro H locs ls hS hl
  exact lv_i2l hx hb d rfl (k H locs ls hS hl)
theorem r_l2i {X : hh_X} {B e0 : Nat} {cc : ByteArray} {own : String} {nL : Nat} {ret : Option FieldType} {nm : String} {R : Room} {cn sn pc : Nat} {lv : List (Nat × Value)} {st : List Value} {h : hh_H} (C : hh_ok X B e0 cc own nL ret nm R) {x : Int64} (d : decode cc pc = .ok (.l2i, 1)) (k : hh_W X cn sn (pc + 1) lv (.int x.toInt32 :: st) h) : hh_W X cn sn pc lv (.long x :: st) h := by
  obtain ⟨p, l, e, R', s, m, args, below, meth, c, Q, D, cT, B', e0', nL'⟩ := X
  obtain ⟨hx, hb, hml, hown, hts, hK, hlk, hrt, hnm, rfl, rfl, rfl, rfl, hB, hA, hcA⟩ := C
  intro H locs ls hS hl
  exact lv_l2i hx hb d rfl (k H locs ls hS hl)
theorem r_land {X : hh_X} {B e0 : Nat} {cc : ByteArray} {own : String} {nL : Nat} {ret : Option FieldType} {nm : String} {R : Room} {cn sn pc : Nat} {lv : List (Nat × Value)} {st : List Value} {h : hh_H} (C : hh_ok X B e0 cc own nL ret nm R) {x y : Int64} (d : decode cc pc = .ok (.land, 1)) (k : hh_W X cn sn (pc + 1) lv (.long (x &&& y) :: st) h) : hh_W X cn sn pc lv (.long y :: .long x :: st) h := by
  obtain ⟨p, l, e, R', s, m, args, below, meth, c, Q, D, cT, B', e0', nL'⟩ := X
  obtain ⟨hx, hb, hml, hown, hts, hK, hlk, hrt, hnm, rfl, rfl, rfl, rfl, hB, hA, hcA⟩ := C
  intro H locs ls hS hl
  exact lv_land hx hb d (k H locs ls hS hl)
theorem r_lor {X : hh_X} {B e0 : Nat} {cc : ByteArray} {own : String} {nL : Nat} {ret : Option FieldType} {nm : String} {R : Room} {cn sn pc : Nat} {lv : List (Nat × Value)} {st : List Value} {h : hh_H} (C : hh_ok X B e0 cc own nL ret nm R) {x y : Int64} (d : decode cc pc = .ok (.lor, 1)) (k : hh_W X cn sn (pc + 1) lv (.long (x ||| y) :: st) h) : hh_W X cn sn pc lv (.long y :: .long x :: st) h := by
  obtain ⟨p, l, e, R', s, m, args, below, meth, c, Q, D, cT, B', e0', nL'⟩ := X
  obtain ⟨hx, hb, hml, hown, hts, hK, hlk, hrt, hnm, rfl, rfl, rfl, rfl, hB, hA, hcA⟩ := C
  intro H locs ls hS hl
  exact lv_lor hx hb d (k H locs ls hS hl)
theorem r_lxor {X : hh_X} {B e0 : Nat} {cc : ByteArray} {own : String} {nL : Nat} {ret : Option FieldType} {nm : String} {R : Room} {cn sn pc : Nat} {lv : List (Nat × Value)} {st : List Value} {h : hh_H} (C : hh_ok X B e0 cc own nL ret nm R) {x y : Int64} (d : decode cc pc = .ok (.lxor, 1)) (k : hh_W X cn sn (pc + 1) lv (.long (x ^^^ y) :: st) h) : hh_W X cn sn pc lv (.long y :: .long x :: st) h := by
  obtain ⟨p, l, e, R', s, m, args, below, meth, c, Q, D, cT, B', e0', nL'⟩ := X
  obtain ⟨hx, hb, hml, hown, hts, hK, hlk, hrt, hnm, rfl, rfl, rfl, rfl, hB, hA, hcA⟩ := C
  intro H locs ls hS hl
  exact lv_lxor hx hb d (k H locs ls hS hl)
theorem r_lshl {X : hh_X} {B e0 : Nat} {cc : ByteArray} {own : String} {nL : Nat} {ret : Option FieldType} {nm : String} {R : Room} {cn sn pc : Nat} {lv : List (Nat × Value)} {st : List Value} {h : hh_H} (C : hh_ok X B e0 cc own nL ret nm R) {x : Int64} {y : Int32} (d : decode cc pc = .ok (.lshl, 1)) (k : hh_W X cn sn (pc + 1) lv (.long (x <<< (y.toInt64 &&& 63)) :: st) h) : hh_W X cn sn pc lv (.int y :: .long x :: st) h := by
  obtain ⟨p, l, e, R', s, m, args, below, meth, c, Q, D, cT, B', e0', nL'⟩ := X
  obtain ⟨hx, hb, hml, hown, hts, hK, hlk, hrt, hnm, rfl, rfl, rfl, rfl, hB, hA, hcA⟩ := C
  intro H locs ls hS hl
  exact lv_lshl hx hb d rfl (k H locs ls hS hl)
theorem r_lushr {X : hh_X} {B e0 : Nat} {cc : ByteArray} {own : String} {nL : Nat} {ret : Option FieldType} {nm : String} {R : Room} {cn sn pc : Nat} {lv : List (Nat × Value)} {st : List Value} {h : hh_H} (C : hh_ok X B e0 cc own nL ret nm R) {x : Int64} {y : Int32} (d : decode cc pc = .ok (.lushr, 1)) (k : hh_W X cn sn (pc + 1) lv (.long (x.toUInt64 >>> (y.toInt64.toUInt64 &&& Int64.toUInt64 63)).toInt64 :: st) h) : hh_W X cn sn pc lv (.int y :: .long x :: st) h := by
  obtain ⟨p, l, e, R', s, m, args, below, meth, c, Q, D, cT, B', e0', nL'⟩ := X
  obtain ⟨hx, hb, hml, hown, hts, hK, hlk, hrt, hnm, rfl, rfl, rfl, rfl, hB, hA, hcA⟩ := C
  intro H locs ls hS hl
  exact lv_lushr hx hb d rfl (k H locs ls hS hl)
theorem r_i2b {X : hh_X} {B e0 : Nat} {cc : ByteArray} {own : String} {nL : Nat} {ret : Option FieldType} {nm : String} {R : Room} {cn sn pc : Nat} {lv : List (Nat × Value)} {st : List Value} {h : hh_H} (C : hh_ok X B e0 cc own nL ret nm R) {x : Int32} (d : decode cc pc = .ok (.i2b, 1)) (k : hh_W X cn sn (pc + 1) lv (.int x.toInt8.toInt32 :: st) h) : hh_W X cn sn pc lv (.int x :: st) h := by
  obtain ⟨p, l, e, R', s, m, args, below, meth, c, Q, D, cT, B', e0', nL'⟩ := X
  obtain ⟨hx, hb, hml, hown, hts, hK, hlk, hrt, hnm, rfl, rfl, rfl, rfl, hB, hA, hcA⟩ := C
  intro H locs ls hS hl
  exact lv_i2b hx hb d rfl (k H locs ls hS hl)
theorem r_ldcw {X : hh_X} {B e0 : Nat} {cc : ByteArray} {own : String} {nL : Nat} {ret : Option FieldType} {nm : String} {R : Room} {cn sn pc : Nat} {lv : List (Nat × Value)} {st : List Value} {h : hh_H} (C : hh_ok X B e0 cc own nL ret nm R) {idx : Nat} {v : Int32} (d : decode cc pc = .ok (.ldc_w idx, 3)) (hw : Jvm.Cond.constant own idx v ∈ hh_T) (k : hh_W X cn sn (pc + 3) lv (.int v :: st) h) : hh_W X cn sn pc lv st h := by
  obtain ⟨p, l, e, R', s, m, args, below, meth, c, Q, D, cT, B', e0', nL'⟩ := X
  obtain ⟨hx, hb, hml, hown, hts, hK, hlk, hrt, hnm, rfl, rfl, rfl, rfl, hB, hA, hcA⟩ := C
  intro H locs ls hS hl
  exact lv_ldcw hx hb hown (hts _ hw) d (k H locs ls hS hl)
theorem r_ldc2 {X : hh_X} {B e0 : Nat} {cc : ByteArray} {own : String} {nL : Nat} {ret : Option FieldType} {nm : String} {R : Room} {cn sn pc : Nat} {lv : List (Nat × Value)} {st : List Value} {h : hh_H} (C : hh_ok X B e0 cc own nL ret nm R) {idx : Nat} {v : Int64} (d : decode cc pc = .ok (.ldc2_w idx, 3)) (hw : Jvm.Cond.constantLong own idx v ∈ hh_T) (k : hh_W X cn sn (pc + 3) lv (.long v :: st) h) : hh_W X cn sn pc lv st h := by
  obtain ⟨p, l, e, R', s, m, args, below, meth, c, Q, D, cT, B', e0', nL'⟩ := X
  obtain ⟨hx, hb, hml, hown, hts, hK, hlk, hrt, hnm, rfl, rfl, rfl, rfl, hB, hA, hcA⟩ := C
  intro H locs ls hS hl
  exact lv_ldc2 hx hb hown (hts _ hw) d (k H locs ls hS hl)
theorem r_null {X : hh_X} {B e0 : Nat} {cc : ByteArray} {own : String} {nL : Nat} {ret : Option FieldType} {nm : String} {R : Room} {cn sn pc : Nat} {lv : List (Nat × Value)} {st : List Value} {h : hh_H} (C : hh_ok X B e0 cc own nL ret nm R) (d : decode cc pc = .ok (.aconst_null, 1)) (k : hh_W X cn sn (pc + 1) lv (.null :: st) h) : hh_W X cn sn pc lv st h := by
  obtain ⟨p, l, e, R', s, m, args, below, meth, c, Q, D, cT, B', e0', nL'⟩ := X
  obtain ⟨hx, hb, hml, hown, hts, hK, hlk, hrt, hnm, rfl, rfl, rfl, rfl, hB, hA, hcA⟩ := C
  intro H locs ls hS hl
  exact lv_null hx hb d (k H locs ls hS hl)
theorem r_lcmp {X : hh_X} {B e0 : Nat} {cc : ByteArray} {own : String} {nL : Nat} {ret : Option FieldType} {nm : String} {R : Room} {cn sn pc : Nat} {lv : List (Nat × Value)} {st : List Value} {h : hh_H} (C : hh_ok X B e0 cc own nL ret nm R) {x y : Int64} (d : decode cc pc = .ok (.lcmp, 1)) (k : hh_W X cn sn (pc + 1) lv (.int (lg_cmp x y) :: st) h) : hh_W X cn sn pc lv (.long y :: .long x :: st) h := by
  obtain ⟨p, l, e, R', s, m, args, below, meth, c, Q, D, cT, B', e0', nL'⟩ := X
  obtain ⟨hx, hb, hml, hown, hts, hK, hlk, hrt, hnm, rfl, rfl, rfl, rfl, hB, hA, hcA⟩ := C
  intro H locs ls hS hl
  exact W.lcmp hx hb d (k H locs ls hS hl)
theorem r_dup {X : hh_X} {B e0 : Nat} {cc : ByteArray} {own : String} {nL : Nat} {ret : Option FieldType} {nm : String} {R : Room} {cn sn pc : Nat} {lv : List (Nat × Value)} {st : List Value} {h : hh_H} (C : hh_ok X B e0 cc own nL ret nm R) {a : Value} (d : decode cc pc = .ok (.dup, 1)) (ha : a.category = 1) (k : hh_W X cn sn (pc + 1) lv (a :: a :: st) h) : hh_W X cn sn pc lv (a :: st) h := by
  obtain ⟨p, l, e, R', s, m, args, below, meth, c, Q, D, cT, B', e0', nL'⟩ := X
  obtain ⟨hx, hb, hml, hown, hts, hK, hlk, hrt, hnm, rfl, rfl, rfl, rfl, hB, hA, hcA⟩ := C
  intro H locs ls hS hl
  exact lv_dup hx hb d ha (k H locs ls hS hl)
theorem r_pop {X : hh_X} {B e0 : Nat} {cc : ByteArray} {own : String} {nL : Nat} {ret : Option FieldType} {nm : String} {R : Room} {cn sn pc : Nat} {lv : List (Nat × Value)} {st : List Value} {h : hh_H} (C : hh_ok X B e0 cc own nL ret nm R) {a : Value} (d : decode cc pc = .ok (.pop, 1)) (ha : a.category = 1) (k : hh_W X cn sn (pc + 1) lv st h) : hh_W X cn sn pc lv (a :: st) h := by
  obtain ⟨p, l, e, R', s, m, args, below, meth, c, Q, D, cT, B', e0', nL'⟩ := X
  obtain ⟨hx, hb, hml, hown, hts, hK, hlk, hrt, hnm, rfl, rfl, rfl, rfl, hB, hA, hcA⟩ := C
  intro H locs ls hS hl
  exact lv_pop hx hb d ha (k H locs ls hS hl)
theorem r_dup_x1 {X : hh_X} {B e0 : Nat} {cc : ByteArray} {own : String} {nL : Nat} {ret : Option FieldType} {nm : String} {R : Room} {cn sn pc : Nat} {lv : List (Nat × Value)} {st : List Value} {h : hh_H} (C : hh_ok X B e0 cc own nL ret nm R) {a b : Value} (d : decode cc pc = .ok (.dup_x1, 1)) (ha : a.category = 1) (hb0 : b.category = 1) (k : hh_W X cn sn (pc + 1) lv (a :: b :: a :: st) h) : hh_W X cn sn pc lv (a :: b :: st) h := by
  obtain ⟨p, l, e, R', s, m, args, below, meth, c, Q, D, cT, B', e0', nL'⟩ := X
  obtain ⟨hx, hb, hml, hown, hts, hK, hlk, hrt, hnm, rfl, rfl, rfl, rfl, hB, hA, hcA⟩ := C
  intro H locs ls hS hl
  exact lv_dup_x1 hx hb d ha hb0 (k H locs ls hS hl)
theorem r_dup_x2 {X : hh_X} {B e0 : Nat} {cc : ByteArray} {own : String} {nL : Nat} {ret : Option FieldType} {nm : String} {R : Room} {cn sn pc : Nat} {lv : List (Nat × Value)} {st : List Value} {h : hh_H} (C : hh_ok X B e0 cc own nL ret nm R) {a b g : Value} (d : decode cc pc = .ok (.dup_x2, 1)) (ha : a.category = 1) (hb0 : b.category = 1) (hc0 : g.category = 1) (k : hh_W X cn sn (pc + 1) lv (a :: b :: g :: a :: st) h) : hh_W X cn sn pc lv (a :: b :: g :: st) h := by
  obtain ⟨p, l, e, R', s, m, args, below, meth, c, Q, D, cT, B', e0', nL'⟩ := X
  obtain ⟨hx, hb, hml, hown, hts, hK, hlk, hrt, hnm, rfl, rfl, rfl, rfl, hB, hA, hcA⟩ := C
  intro H locs ls hS hl
  exact lv_dup_x2 hx hb d ha hb0 hc0 (k H locs ls hS hl)
theorem r_dup2 {X : hh_X} {B e0 : Nat} {cc : ByteArray} {own : String} {nL : Nat} {ret : Option FieldType} {nm : String} {R : Room} {cn sn pc : Nat} {lv : List (Nat × Value)} {st : List Value} {h : hh_H} (C : hh_ok X B e0 cc own nL ret nm R) {a b : Value} (d : decode cc pc = .ok (.dup2, 1)) (ha : a.category = 1) (hb0 : b.category = 1) (k : hh_W X cn sn (pc + 1) lv (a :: b :: a :: b :: st) h) : hh_W X cn sn pc lv (a :: b :: st) h := by
  obtain ⟨p, l, e, R', s, m, args, below, meth, c, Q, D, cT, B', e0', nL'⟩ := X
  obtain ⟨hx, hb, hml, hown, hts, hK, hlk, hrt, hnm, rfl, rfl, rfl, rfl, hB, hA, hcA⟩ := C
  intro H locs ls hS hl
  exact lv_dup2_11 hx hb d ha hb0 (k H locs ls hS hl)
theorem r_if_eq {X : hh_X} {B e0 : Nat} {cc : ByteArray} {own : String} {nL : Nat} {ret : Option FieldType} {nm : String} {R : Room} {cn sn pc : Nat} {lv : List (Nat × Value)} {st : List Value} {h : hh_H} (C : hh_ok X B e0 cc own nL ret nm R) {x : Int32} {off : Int} {tgt : Nat} (d : decode cc pc = .ok (.ifCond .eq off, 3)) (ht : (pc : Int) + off = (tgt : Int)) (kt : x = 0 → hh_W X cn sn tgt lv st h) (kf : ¬ x = 0 → hh_W X cn sn (pc + 3) lv st h) : hh_W X cn sn pc lv (.int x :: st) h := by
  obtain ⟨p, l, e, R', s, m, args, below, meth, c, Q, D, cT, B', e0', nL'⟩ := X
  obtain ⟨hx, hb, hml, hown, hts, hK, hlk, hrt, hnm, rfl, rfl, rfl, rfl, hB, hA, hcA⟩ := C
  intro H locs ls hS hl
  exact lv_if_eq hx hb d ht (fun q => kt q H locs ls hS hl) (fun q => kf q H locs ls hS hl)
theorem r_if_ne {X : hh_X} {B e0 : Nat} {cc : ByteArray} {own : String} {nL : Nat} {ret : Option FieldType} {nm : String} {R : Room} {cn sn pc : Nat} {lv : List (Nat × Value)} {st : List Value} {h : hh_H} (C : hh_ok X B e0 cc own nL ret nm R) {x : Int32} {off : Int} {tgt : Nat} (d : decode cc pc = .ok (.ifCond .ne off, 3)) (ht : (pc : Int) + off = (tgt : Int)) (kt : ¬ x = 0 → hh_W X cn sn tgt lv st h) (kf : x = 0 → hh_W X cn sn (pc + 3) lv st h) : hh_W X cn sn pc lv (.int x :: st) h := by
  obtain ⟨p, l, e, R', s, m, args, below, meth, c, Q, D, cT, B', e0', nL'⟩ := X
  obtain ⟨hx, hb, hml, hown, hts, hK, hlk, hrt, hnm, rfl, rfl, rfl, rfl, hB, hA, hcA⟩ := C
  intro H locs ls hS hl
  exact lv_if_ne hx hb d ht (fun q => kt q H locs ls hS hl) (fun q => kf q H locs ls hS hl)
theorem r_if_lt {X : hh_X} {B e0 : Nat} {cc : ByteArray} {own : String} {nL : Nat} {ret : Option FieldType} {nm : String} {R : Room} {cn sn pc : Nat} {lv : List (Nat × Value)} {st : List Value} {h : hh_H} (C : hh_ok X B e0 cc own nL ret nm R) {x : Int32} {off : Int} {tgt : Nat} (d : decode cc pc = .ok (.ifCond .lt off, 3)) (ht : (pc : Int) + off = (tgt : Int)) (kt : x < 0 → hh_W X cn sn tgt lv st h) (kf : ¬ x < 0 → hh_W X cn sn (pc + 3) lv st h) : hh_W X cn sn pc lv (.int x :: st) h := by
  obtain ⟨p, l, e, R', s, m, args, below, meth, c, Q, D, cT, B', e0', nL'⟩ := X
  obtain ⟨hx, hb, hml, hown, hts, hK, hlk, hrt, hnm, rfl, rfl, rfl, rfl, hB, hA, hcA⟩ := C
  intro H locs ls hS hl
  exact lv_if_lt hx hb d ht (fun q => kt q H locs ls hS hl) (fun q => kf q H locs ls hS hl)
theorem r_if_ge {X : hh_X} {B e0 : Nat} {cc : ByteArray} {own : String} {nL : Nat} {ret : Option FieldType} {nm : String} {R : Room} {cn sn pc : Nat} {lv : List (Nat × Value)} {st : List Value} {h : hh_H} (C : hh_ok X B e0 cc own nL ret nm R) {x : Int32} {off : Int} {tgt : Nat} (d : decode cc pc = .ok (.ifCond .ge off, 3)) (ht : (pc : Int) + off = (tgt : Int)) (kt : 0 ≤ x → hh_W X cn sn tgt lv st h) (kf : ¬ 0 ≤ x → hh_W X cn sn (pc + 3) lv st h) : hh_W X cn sn pc lv (.int x :: st) h := by
  obtain ⟨p, l, e, R', s, m, args, below, meth, c, Q, D, cT, B', e0', nL'⟩ := X
  obtain ⟨hx, hb, hml, hown, hts, hK, hlk, hrt, hnm, rfl, rfl, rfl, rfl, hB, hA, hcA⟩ := C
  intro H locs ls hS hl
  exact lv_if_ge hx hb d ht (fun q => kt q H locs ls hS hl) (fun q => kf q H locs ls hS hl)
theorem r_if_gt {X : hh_X} {B e0 : Nat} {cc : ByteArray} {own : String} {nL : Nat} {ret : Option FieldType} {nm : String} {R : Room} {cn sn pc : Nat} {lv : List (Nat × Value)} {st : List Value} {h : hh_H} (C : hh_ok X B e0 cc own nL ret nm R) {x : Int32} {off : Int} {tgt : Nat} (d : decode cc pc = .ok (.ifCond .gt off, 3)) (ht : (pc : Int) + off = (tgt : Int)) (kt : 0 < x → hh_W X cn sn tgt lv st h) (kf : ¬ 0 < x → hh_W X cn sn (pc + 3) lv st h) : hh_W X cn sn pc lv (.int x :: st) h := by
  obtain ⟨p, l, e, R', s, m, args, below, meth, c, Q, D, cT, B', e0', nL'⟩ := X
  obtain ⟨hx, hb, hml, hown, hts, hK, hlk, hrt, hnm, rfl, rfl, rfl, rfl, hB, hA, hcA⟩ := C
  intro H locs ls hS hl
  exact lv_if_gt hx hb d ht (fun q => kt q H locs ls hS hl) (fun q => kf q H locs ls hS hl)
theorem r_if_le {X : hh_X} {B e0 : Nat} {cc : ByteArray} {own : String} {nL : Nat} {ret : Option FieldType} {nm : String} {R : Room} {cn sn pc : Nat} {lv : List (Nat × Value)} {st : List Value} {h : hh_H} (C : hh_ok X B e0 cc own nL ret nm R) {x : Int32} {off : Int} {tgt : Nat} (d : decode cc pc = .ok (.ifCond .le off, 3)) (ht : (pc : Int) + off = (tgt : Int)) (kt : x ≤ 0 → hh_W X cn sn tgt lv st h) (kf : ¬ x ≤ 0 → hh_W X cn sn (pc + 3) lv st h) : hh_W X cn sn pc lv (.int x :: st) h := by
  obtain ⟨p, l, e, R', s, m, args, below, meth, c, Q, D, cT, B', e0', nL'⟩ := X
  obtain ⟨hx, hb, hml, hown, hts, hK, hlk, hrt, hnm, rfl, rfl, rfl, rfl, hB, hA, hcA⟩ := C
  intro H locs ls hS hl
  exact lv_if_le hx hb d ht (fun q => kt q H locs ls hS hl) (fun q => kf q H locs ls hS hl)
theorem r_icmp_eq {X : hh_X} {B e0 : Nat} {cc : ByteArray} {own : String} {nL : Nat} {ret : Option FieldType} {nm : String} {R : Room} {cn sn pc : Nat} {lv : List (Nat × Value)} {st : List Value} {h : hh_H} (C : hh_ok X B e0 cc own nL ret nm R) {x y : Int32} {off : Int} {tgt : Nat} (d : decode cc pc = .ok (.if_icmp .eq off, 3)) (ht : (pc : Int) + off = (tgt : Int)) (kt : x = y → hh_W X cn sn tgt lv st h) (kf : ¬ x = y → hh_W X cn sn (pc + 3) lv st h) : hh_W X cn sn pc lv (.int y :: .int x :: st) h := by
  obtain ⟨p, l, e, R', s, m, args, below, meth, c, Q, D, cT, B', e0', nL'⟩ := X
  obtain ⟨hx, hb, hml, hown, hts, hK, hlk, hrt, hnm, rfl, rfl, rfl, rfl, hB, hA, hcA⟩ := C
  intro H locs ls hS hl
  exact lv_icmp_eq hx hb d ht (fun q => kt q H locs ls hS hl) (fun q => kf q H locs ls hS hl)
theorem r_icmp_ne {X : hh_X} {B e0 : Nat} {cc : ByteArray} {own : String} {nL : Nat} {ret : Option FieldType} {nm : String} {R : Room} {cn sn pc : Nat} {lv : List (Nat × Value)} {st : List Value} {h : hh_H} (C : hh_ok X B e0 cc own nL ret nm R) {x y : Int32} {off : Int} {tgt : Nat} (d : decode cc pc = .ok (.if_icmp .ne off, 3)) (ht : (pc : Int) + off = (tgt : Int)) (kt : ¬ x = y → hh_W X cn sn tgt lv st h) (kf : x = y → hh_W X cn sn (pc + 3) lv st h) : hh_W X cn sn pc lv (.int y :: .int x :: st) h := by
  obtain ⟨p, l, e, R', s, m, args, below, meth, c, Q, D, cT, B', e0', nL'⟩ := X
  obtain ⟨hx, hb, hml, hown, hts, hK, hlk, hrt, hnm, rfl, rfl, rfl, rfl, hB, hA, hcA⟩ := C
  intro H locs ls hS hl
  exact lv_icmp_ne hx hb d ht (fun q => kt q H locs ls hS hl) (fun q => kf q H locs ls hS hl)
theorem r_icmp_lt {X : hh_X} {B e0 : Nat} {cc : ByteArray} {own : String} {nL : Nat} {ret : Option FieldType} {nm : String} {R : Room} {cn sn pc : Nat} {lv : List (Nat × Value)} {st : List Value} {h : hh_H} (C : hh_ok X B e0 cc own nL ret nm R) {x y : Int32} {off : Int} {tgt : Nat} (d : decode cc pc = .ok (.if_icmp .lt off, 3)) (ht : (pc : Int) + off = (tgt : Int)) (kt : x < y → hh_W X cn sn tgt lv st h) (kf : ¬ x < y → hh_W X cn sn (pc + 3) lv st h) : hh_W X cn sn pc lv (.int y :: .int x :: st) h := by
  obtain ⟨p, l, e, R', s, m, args, below, meth, c, Q, D, cT, B', e0', nL'⟩ := X
  obtain ⟨hx, hb, hml, hown, hts, hK, hlk, hrt, hnm, rfl, rfl, rfl, rfl, hB, hA, hcA⟩ := C
  intro H locs ls hS hl
  exact lv_icmp_lt hx hb d ht (fun q => kt q H locs ls hS hl) (fun q => kf q H locs ls hS hl)
theorem r_icmp_ge {X : hh_X} {B e0 : Nat} {cc : ByteArray} {own : String} {nL : Nat} {ret : Option FieldType} {nm : String} {R : Room} {cn sn pc : Nat} {lv : List (Nat × Value)} {st : List Value} {h : hh_H} (C : hh_ok X B e0 cc own nL ret nm R) {x y : Int32} {off : Int} {tgt : Nat} (d : decode cc pc = .ok (.if_icmp .ge off, 3)) (ht : (pc : Int) + off = (tgt : Int)) (kt : y ≤ x → hh_W X cn sn tgt lv st h) (kf : ¬ y ≤ x → hh_W X cn sn (pc + 3) lv st h) : hh_W X cn sn pc lv (.int y :: .int x :: st) h := by
  obtain ⟨p, l, e, R', s, m, args, below, meth, c, Q, D, cT, B', e0', nL'⟩ := X
  obtain ⟨hx, hb, hml, hown, hts, hK, hlk, hrt, hnm, rfl, rfl, rfl, rfl, hB, hA, hcA⟩ := C
  intro H locs ls hS hl
  exact lv_icmp_ge hx hb d ht (fun q => kt q H locs ls hS hl) (fun q => kf q H locs ls hS hl)
theorem r_icmp_gt {X : hh_X} {B e0 : Nat} {cc : ByteArray} {own : String} {nL : Nat} {ret : Option FieldType} {nm : String} {R : Room} {cn sn pc : Nat} {lv : List (Nat × Value)} {st : List Value} {h : hh_H} (C : hh_ok X B e0 cc own nL ret nm R) {x y : Int32} {off : Int} {tgt : Nat} (d : decode cc pc = .ok (.if_icmp .gt off, 3)) (ht : (pc : Int) + off = (tgt : Int)) (kt : y < x → hh_W X cn sn tgt lv st h) (kf : ¬ y < x → hh_W X cn sn (pc + 3) lv st h) : hh_W X cn sn pc lv (.int y :: .int x :: st) h := by
  obtain ⟨p, l, e, R', s, m, args, below, meth, c, Q, D, cT, B', e0', nL'⟩ := X
  obtain ⟨hx, hb, hml, hown, hts, hK, hlk, hrt, hnm, rfl, rfl, rfl, rfl, hB, hA, hcA⟩ := C
  intro H locs ls hS hl
  exact lv_icmp_gt hx hb d ht (fun q => kt q H locs ls hS hl) (fun q => kf q H locs ls hS hl)
theorem r_icmp_le {X : hh_X} {B e0 : Nat} {cc : ByteArray} {own : String} {nL : Nat} {ret : Option FieldType} {nm : String} {R : Room} {cn sn pc : Nat} {lv : List (Nat × Value)} {st : List Value} {h : hh_H} (C : hh_ok X B e0 cc own nL ret nm R) {x y : Int32} {off : Int} {tgt : Nat} (d : decode cc pc = .ok (.if_icmp .le off, 3)) (ht : (pc : Int) + off = (tgt : Int)) (kt : x ≤ y → hh_W X cn sn tgt lv st h) (kf : ¬ x ≤ y → hh_W X cn sn (pc + 3) lv st h) : hh_W X cn sn pc lv (.int y :: .int x :: st) h := by
  obtain ⟨p, l, e, R', s, m, args, below, meth, c, Q, D, cT, B', e0', nL'⟩ := X
  obtain ⟨hx, hb, hml, hown, hts, hK, hlk, hrt, hnm, rfl, rfl, rfl, rfl, hB, hA, hcA⟩ := C
  intro H locs ls hS hl
  exact lv_icmp_le hx hb d ht (fun q => kt q H locs ls hS hl) (fun q => kf q H locs ls hS hl)
theorem r_goto {X : hh_X} {B e0 : Nat} {cc : ByteArray} {own : String} {nL : Nat} {ret : Option FieldType} {nm : String} {R : Room} {cn sn pc : Nat} {lv : List (Nat × Value)} {st : List Value} {h : hh_H} (C : hh_ok X B e0 cc own nL ret nm R) {off : Int} {tgt : Nat} (d : decode cc pc = .ok (.goto off, 3)) (ht : (pc : Int) + off = (tgt : Int)) (k : hh_W X cn sn tgt lv st h) : hh_W X cn sn pc lv st h := by
  obtain ⟨p, l, e, R', s, m, args, below, meth, c, Q, D, cT, B', e0', nL'⟩ := X
  obtain ⟨hx, hb, hml, hown, hts, hK, hlk, hrt, hnm, rfl, rfl, rfl, rfl, hB, hA, hcA⟩ := C
  intro H locs ls hS hl
  exact lv_goto hx hb d ht (k H locs ls hS hl)
theorem r_tsOut {X : hh_X} {B e0 : Nat} {cc : ByteArray} {own : String} {nL : Nat} {ret : Option FieldType} {nm : String} {R : Room} {cn sn pc : Nat} {lv : List (Nat × Value)} {st : List Value} {h : hh_H} (C : hh_ok X B e0 cc own nL ret nm R) {dflt lo hi : Int} {offs : Array Int} {len : Nat} {x : Int32} {tgt : Nat} (d : decode cc pc = .ok (.tableswitch dflt lo hi offs, len)) (hq : x.toInt < lo ∨ hi < x.toInt) (ht : (pc : Int) + dflt = (tgt : Int)) (k : hh_W X cn sn tgt lv st h) : hh_W X cn sn pc lv (.int x :: st) h := by
  obtain ⟨p, l, e, R', s, m, args, below, meth, c, Q, D, cT, B', e0', nL'⟩ := X
  obtain ⟨hx, hb, hml, hown, hts, hK, hlk, hrt, hnm, rfl, rfl, rfl, rfl, hB, hA, hcA⟩ := C
  intro H locs ls hS hl
  exact lv_tableOut hx hb d hq ht (k H locs ls hS hl)
theorem r_tsIn {X : hh_X} {B e0 : Nat} {cc : ByteArray} {own : String} {nL : Nat} {ret : Option FieldType} {nm : String} {R : Room} {cn sn pc : Nat} {lv : List (Nat × Value)} {st : List Value} {h : hh_H} (C : hh_ok X B e0 cc own nL ret nm R) {dflt lo hi off : Int} {offs : Array Int} {len : Nat} {x v : Int32} {tgt : Nat} (d : decode cc pc = .ok (.tableswitch dflt lo hi offs, len)) (hv : x = v) (h1 : ¬ v.toInt < lo) (h2 : ¬ hi < v.toInt) (ho : offs[(v.toInt - lo).toNat]? = some off) (ht : (pc : Int) + off = (tgt : Int)) (k : hh_W X cn sn tgt lv st h) : hh_W X cn sn pc lv (.int x :: st) h := by
  obtain ⟨p, l, e, R', s, m, args, below, meth, c, Q, D, cT, B', e0', nL'⟩ := X
  obtain ⟨hx, hb, hml, hown, hts, hK, hlk, hrt, hnm, rfl, rfl, rfl, rfl, hB, hA, hcA⟩ := C
  intro H locs ls hS hl
  subst hv
  exact lv_tableIn hx hb d h1 h2 ho ht (k H locs ls hS hl)
end
section
theorem hh_pick {X : hh_X} {cn sn pc : Nat} {lv lv' : List (Nat × Value)} {st : List Value} {h : hh_H} (ks : List Nat) (hk : lv_pick lv ks = lv') (k : hh_W X cn sn pc lv' st h) : hh_W X cn sn pc lv st h := by
  obtain ⟨p, l, e, R', s, m, args, below, meth, c, Q, D, cT, B', e0', nL'⟩ := X
  intro H locs ls hS hl
  exact k H locs ls hS (lv_sub hl ks hk)
theorem hh_widen {X : hh_X} {cn sn cn' sn' pc : Nat} {lv : List (Nat × Value)} {st : List Value} {h : hh_H} (h1 : cn ≤ cn') (h2 : sn ≤ sn') (k : hh_W X cn' sn' pc lv st h) : hh_W X cn sn pc lv st h := by
  obtain ⟨p, l, e, R', s, m, args, below, meth, c, Q, D, cT, B', e0', nL'⟩ := X
  intro H locs ls hS hl
  exact W.widen h1 h2 (k H locs ls hS hl)
-- fields
def hh_FL (own : String) (idx ci k : Nat) (ty : FieldType) (fin : Bool) : Prop :=
  ∃ (Cn : String) (T : u_T) (N : Nat) (tys : Nat → FieldType) (ref : String), hh_cl[ci]? = some (Cn, T, N) ∧ k < N ∧ (∀ w ∈ u_ws Cn T N, w ∈ hh_T) ∧ (Cond.fieldLink own idx ref (T k).2.1 (T k).2.2.1 ∈ hh_T ∧ (ref = (T k).1 ∨ Cond.sameField ref (T k).1 (T k).2.1 (T k).2.2.1 ∈ hh_T)) ∧ (T k).2.2.2 = fin ∧ parseFieldDescriptor (T k).2.2.1 = some ty ∧
    (∀ j, j < N → parseFieldDescriptor (T j).2.2.1 = some (tys j)) ∧ (∀ a, a < N → ∀ b, b < N → a ≠ b → (T a).2.1 ≠ (T b).2.1)
def hh_FN (own : String) (idx ci k : Nat) : Prop :=
  ∃ (Cn : String) (T : u_T) (N : Nat) (host : String), hh_cl[ci]? = some (Cn, T, N) ∧ k < N ∧ (∀ w ∈ u_ws Cn T N, w ∈ hh_T) ∧ Cond.fieldLinkNest own idx (T k).1 (T k).2.1 (T k).2.2.1 host ∈ hh_T2
theorem hp_gv_of {h : hh_H} {a ci k : Nat} {v : hh_V} (hv : hp_gv h a ci k = some v) : ∃ fs, h[a]? = some (.inr (ci, fs)) ∧ fs[k]? = some v := by
  unfold hp_gv at hv
  split at hv
  · rename_i c fs he
    split at hv
    · rename_i hc
      subst hc
      exact ⟨fs, he, hv⟩
    · cases hv
  · cases hv
theorem hp_gi_of {h : hh_H} {a ci k : Nat} {v : Int32} (hv : hp_gi h a ci k = some v) : ∃ fs, h[a]? = some (.inr (ci, fs)) ∧ fs[k]? = some (.inl v) := by
  unfold hp_gi at hv
  split at hv
  · rename_i x he
    cases hv
    exact hp_gv_of he
  · cases hv
theorem hp_ga_of {h : hh_H} {a ci k : Nat} {v : Nat} (hv : hp_ga h a ci k = some v) : ∃ fs, h[a]? = some (.inr (ci, fs)) ∧ fs[k]? = some (.inr (.inl (some v))) := by
  unfold hp_ga at hv
  split at hv
  · rename_i x he
    cases hv
    exact hp_gv_of he
  · cases hv
theorem hp_gd_of {h : hh_H} {a ci k : Nat} {v : UInt64} (hv : hp_gd h a ci k = some v) : ∃ fs, h[a]? = some (.inr (ci, fs)) ∧ fs[k]? = some (.inr (.inr (.inl v))) := by
  unfold hp_gd at hv
  split at hv
  · rename_i x he
    cases hv
    exact hp_gv_of he
  · cases hv
theorem hp_gj_of {h : hh_H} {a ci k : Nat} {v : Int64} (hv : hp_gj h a ci k = some v) : ∃ fs, h[a]? = some (.inr (ci, fs)) ∧ fs[k]? = some (.inr (.inr (.inr v))) := by
  unfold hp_gj at hv
  split at hv
  · rename_i x he
    cases hv
    exact hp_gv_of he
  · cases hv
theorem hp_p_of {h h' : hh_H} {a ci k : Nat} {v : hh_V} (hv : hp_p h a ci k v = some h') : ∃ fs, h[a]? = some (.inr (ci, fs)) ∧ k < fs.length ∧ h' = h.set a (.inr (ci, fs.set k v)) := by
  unfold hp_p at hv
  split at hv
  · rename_i c fs he
    split at hv
    · rename_i hc
      obtain ⟨hc, hk⟩ := hc
      subst hc
      cases hv
      exact ⟨fs, he, hk, rfl⟩
    · cases hv
  · cases hv
theorem hh_same {args : Array Value} {s : State} {ref owner n d : String} (hts : ∀ w ∈ hh_T, w.before args s = true) (h : ref = owner ∨ Cond.sameField ref owner n d ∈ hh_T) : ∀ x, s.fieldFound? owner n d = some x → s.fieldFound? ref n d = some x := by
  intro x hx
  rcases h with rfl | h
  · exact hx
  · exact u_same (hts _ h) x hx
section Fields
variable {X : hh_X} {B e0 : Nat} {cc : ByteArray} {own : String} {nL : Nat} {ret : Option FieldType} {nm : String} {R : Room} {cn sn pc idx : Nat} {lv : List (Nat × Value)} {st : List Value} {h h' : hh_H} {ci k a : Nat} {ty : FieldType} {fin : Bool}
theorem r_getV (C : hh_ok X B e0 cc own nL ret nm R) (d : decode cc pc = .ok (.getfield idx, 3)) (F : hh_FL own idx ci k ty fin) {fs : List hh_V} {v : hh_V} (he : h[a]? = some (.inr (ci, fs))) (hv : fs[k]? = some v)
    (kk : hh_W X cn sn (pc + 3) lv (hh_v B e0 v :: st) h) : hh_W X cn sn pc lv (.ref (hh_ad B e0 a) :: st) h := by
  obtain ⟨p, l, e, R', s, m, args, below, meth, c, Q, D, cT, B', e0', nL'⟩ := X
  obtain ⟨hx, hb, hml, hown, hts, hK, hlk, hrt, hnm, rfl, rfl, rfl, rfl, hB, hA, hcA⟩ := C
  obtain ⟨Cn, T, N, tys, ref, h1, h2, h3, ⟨h4, hsm⟩, -⟩ := F
  intro H locs ls hS hl
  exact va_get hx hb hts h3 hown hK hS.1 (a - 1) (hh_w_get (hh_p0 hS.2.1.1 he (fun q => by cases q)) he) h1 k h2 (hts _ h4) (hh_same hts hsm) (v := hh_v B' e0' v) (by rw [List.getElem?_map, hv]; rfl) d (kk H locs ls hS hl)
theorem r_getVN (C : hh_ok X B e0 cc own nL ret nm R) (d : decode cc pc = .ok (.getfield idx, 3)) (F : hh_FN own idx ci k) {fs : List hh_V} {v : hh_V} (he : h[a]? = some (.inr (ci, fs))) (hv : fs[k]? = some v)
    (kk : hh_W X cn sn (pc + 3) lv (hh_v B e0 v :: st) h) : hh_W X cn sn pc lv (.ref (hh_ad B e0 a) :: st) h := by
  obtain ⟨p, l, e, R', s, m, args, below, meth, c, Q, D, cT, B', e0', nL'⟩ := X
  obtain ⟨hx, hb, hml, hown, hts, hK, hlk, hrt, hnm, rfl, rfl, rfl, rfl, hB, hA, hcA⟩ := C
  obtain ⟨Cn, T, N, host, h1, h2, h3, h4⟩ := F
  intro H locs ls hS hl
  exact va_getN hx hb hts h3 hown hK hS.1 (a - 1) (hh_w_get (hh_p0 hS.2.1.1 he (fun q => by cases q)) he) h1 k h2 (va_Nw.use rfl (hcA.2.1 _ h4)) (fun x hx => hx) (v := hh_v B' e0' v) (by rw [List.getElem?_map, hv]; rfl) d (kk H locs ls hS hl)
theorem r_getI (C : hh_ok X B e0 cc own nL ret nm R) (d : decode cc pc = .ok (.getfield idx, 3)) (F : hh_FL own idx ci k ty fin) {v : Int32} (hv : hp_gi h a ci k = some v) (kk : hh_W X cn sn (pc + 3) lv (.int v :: st) h) : hh_W X cn sn pc lv (.ref (hh_ad B e0 a) :: st) h := by
  obtain ⟨fs, he, h1⟩ := hp_gi_of hv
  exact r_getV C d F he h1 kk
theorem r_getA (C : hh_ok X B e0 cc own nL ret nm R) (d : decode cc pc = .ok (.getfield idx, 3)) (F : hh_FL own idx ci k ty fin) {v : Nat} (hv : hp_ga h a ci k = some v) (kk : hh_W X cn sn (pc + 3) lv (.ref (hh_ad B e0 v) :: st) h) : hh_W X cn sn pc lv (.ref (hh_ad B e0 a) :: st) h := by
  obtain ⟨fs, he, h1⟩ := hp_ga_of hv
  exact r_getV C d F he h1 kk
theorem r_getD (C : hh_ok X B e0 cc own nL ret nm R) (d : decode cc pc = .ok (.getfield idx, 3)) (F : hh_FL own idx ci k ty fin) {v : UInt64} (hv : hp_gd h a ci k = some v) (kk : hh_W X cn sn (pc + 3) lv (.double v :: st) h) : hh_W X cn sn pc lv (.ref (hh_ad B e0 a) :: st) h := by
  obtain ⟨fs, he, h1⟩ := hp_gd_of hv
  exact r_getV C d F he h1 kk
theorem r_getJ (C : hh_ok X B e0 cc own nL ret nm R) (d : decode cc pc = .ok (.getfield idx, 3)) (F : hh_FL own idx ci k ty fin) {v : Int64} (hv : hp_gj h a ci k = some v) (kk : hh_W X cn sn (pc + 3) lv (.long v :: st) h) : hh_W X cn sn pc lv (.ref (hh_ad B e0 a) :: st) h := by
  obtain ⟨fs, he, h1⟩ := hp_gj_of hv
  exact r_getV C d F he h1 kk
theorem r_getIN (C : hh_ok X B e0 cc own nL ret nm R) (d : decode cc pc = .ok (.getfield idx, 3)) (F : hh_FN own idx ci k) {v : Int32} (hv : hp_gi h a ci k = some v) (kk : hh_W X cn sn (pc + 3) lv (.int v :: st) h) : hh_W X cn sn pc lv (.ref (hh_ad B e0 a) :: st) h := by
  obtain ⟨fs, he, h1⟩ := hp_gi_of hv
  exact r_getVN C d F he h1 kk
theorem r_getAN (C : hh_ok X B e0 cc own nL ret nm R) (d : decode cc pc = .ok (.getfield idx, 3)) (F : hh_FN own idx ci k) {v : Nat} (hv : hp_ga h a ci k = some v) (kk : hh_W X cn sn (pc + 3) lv (.ref (hh_ad B e0 v) :: st) h) : hh_W X cn sn pc lv (.ref (hh_ad B e0 a) :: st) h := by
  obtain ⟨fs, he, h1⟩ := hp_ga_of hv
  exact r_getVN C d F he h1 kk
/-- a cell of the world has changed, and nothing else -/
theorem hh_S_set {D : va_G} {cT : Nat → ClassId} {s : State} {H H1 : Heap} {locs : List Loc} {e' : hh_C} {i : Nat} (hS : hh_S D cT B e0 s h H locs) {e1 : hh_C} (he : h[a]? = some e1) (hnn : e1 ≠ hh_nil) (hat : va_at D hh_cl (hh_ad B e0 a, hh_c B e0 cT e') H1) (hz : H1.size = H.size) (ho : ∀ q : Nat, q ≠ hh_ad B e0 a → H1[q]? = H[q]?) :
    hh_S D cT B e0 s (h.set a e') H1 (locs ++ [⟨hh_ad B e0 a, i⟩]) := by
  obtain ⟨hP, ⟨h0, he0, hs⟩, hF⟩ := hS
  have ha0 : a ≠ 0 := fun q => by
    subst q
    exact hnn (Option.some.inj (he.symm.trans h0))
  have hge : B ≤ hh_ad B e0 a := by
    match a, ha0 with
    | a + 1, _ => exact Nat.le_add_right _ _
  refine ⟨?_, ⟨by rw [List.getElem?_set, if_neg ha0]; exact h0, he0, by rw [hz, hs, List.length_set]⟩, hF.put hz ho hge⟩
  rw [← hh_w_set ha0]
  exact hP.set (hh_D he0) (hh_w_get ha0 he) hat ho
theorem r_putV (C : hh_ok X B e0 cc own nL ret nm R) (d : decode cc pc = .ok (.putfield idx, 3)) (F : hh_FL own idx ci k ty false) {v : hh_V} (hn : narrow ty (hh_v B e0 v) = hh_v B e0 v) (hfit : fits ty (hh_v B e0 v) = true) (hv : hp_p h a ci k v = some h')
    (kk : hh_W X cn sn (pc + 3) lv st h') : hh_W X cn sn pc lv (hh_v B e0 v :: .ref (hh_ad B e0 a) :: st) h := by
  obtain ⟨p, l, e, R', s, m, args, below, meth, c, Q, D, cT, B', e0', nL'⟩ := X
  obtain ⟨hx, hb, hml, hown, hts, hK, hlk, hrt, hnm, rfl, rfl, rfl, rfl, hB, hA, hcA⟩ := C
  obtain ⟨Cn, T, N, tys, ref, h1, h2, h3, ⟨h4, hsm⟩, hfin, hd, hty, hne⟩ := F
  obtain ⟨fs, he, hkl, rfl⟩ := hp_p_of hv
  intro H locs ls hS hl
  have hap := va_apart (own := own) hts h3 tys hty hne hK h1
  obtain ⟨r, g1, cell, q1, q2, q3, q4⟩ := hS.1 (a - 1) _ (hh_w_get (hh_p0 hS.2.1.1 he (fun q => by cases q)) he)
  have hr : r = (Cn, T, N) := Option.some.inj (g1.symm.trans h1)
  subst hr
  obtain ⟨hSl, hfc, kC, hkC, hkind⟩ := hK.1 ci _ h1
  obtain ⟨cf, kf, fi, f, hi, hsl⟩ := hSl k h2
  have hlay := hts _ (h3 _ (u_in_lay h2))
  unfold u_lay at hlay
  rw [if_neg (by rw [hfin]; decide)] at hlay
  have hst := (u_facts hfc hkC (u_lays hts h3 h2) hi).1
  have h6 := u_store hfc hkC hkind hlay hi hd hn hfit
  refine W.putK hx hb (f := f) ⟨hown, hts _ h4, ⟨_, _, _, hh_same hts hsm _ hi⟩, hst⟩ (by rw [q2]; exact h6) q1 q3 (by rw [hsl]; exact k2_hasslot (q4 k h2)) rfl rfl d fun H' e1 e2 e3 => ?_
  rw [hsl] at e1 ⊢
  refine kk H' _ ls (hh_S_set hS he (fun q => by cases q) ⟨_, h1, ?_⟩ e2 e3) hl
  refine t_OB.to (V := updV (vp_V (fs.map (hh_v B' e0'))) k (hh_v B' e0' v)) ⟨_, e1, q2, q3, t_set q4 hap h2 _⟩ (fun j _ => ?_)
  rw [vp_updV_set (by rw [List.length_map]; exact hkl), ← List.map_set]
theorem r_putVF (C : hh_ok X B e0 cc own nL ret nm R) (d : decode cc pc = .ok (.putfield idx, 3)) (F : hh_FL own idx ci k ty true) (hin : nm = "<init>") (hdc : ∀ Cn T N, hh_cl[ci]? = some (Cn, T, N) → (T k).1 = own) {v : hh_V} (hn : narrow ty (hh_v B e0 v) = hh_v B e0 v) (hfit : fits ty (hh_v B e0 v) = true) (hv : hp_p h a ci k v = some h')
    (kk : hh_W X cn sn (pc + 3) lv st h') : hh_W X cn sn pc lv (hh_v B e0 v :: .ref (hh_ad B e0 a) :: st) h := by
  obtain ⟨p, l, e, R', s, m, args, below, meth, c, Q, D, cT, B', e0', nL'⟩ := X
  obtain ⟨hx, hb, hml, hown, hts, hK, hlk, hrt, hnm, rfl, rfl, rfl, rfl, hB, hA, hcA⟩ := C
  obtain ⟨Cn, T, N, tys, ref, h1, h2, h3, ⟨h4, hsm⟩, hfin, hd, hty, hne⟩ := F
  obtain ⟨fs, he, hkl, rfl⟩ := hp_p_of hv
  have hdecl := hdc _ _ _ h1
  intro H locs ls hS hl
  have hap := va_apart (own := own) hts h3 tys hty hne hK h1
  obtain ⟨r, g1, cell, q1, q2, q3, q4⟩ := hS.1 (a - 1) _ (hh_w_get (hh_p0 hS.2.1.1 he (fun q => by cases q)) he)
  have hr : r = (Cn, T, N) := Option.some.inj (g1.symm.trans h1)
  subst hr
  obtain ⟨hSl, hfc, kC, hkC, hkind⟩ := hK.1 ci _ h1
  obtain ⟨cf, kf, fi, f, hi, hsl⟩ := hSl k h2
  have hlay := hts _ (h3 _ (u_in_lay h2))
  unfold u_lay at hlay
  rw [if_pos hfin] at hlay
  have hst := (u_facts hfc hkC (u_lays hts h3 h2) hi).1
  have hcf : m.cls = cf := by
    obtain ⟨_, _, c', _, _, _, -, -, hf', -, -, -, hown2, -⟩ := Cond.laysFinal_spec hlay
    have e1 : c' = cf := by have := hi.symm.trans hf'; simp at this; exact this.1.symm
    rw [hdecl] at hown2
    rw [← e1]; exact Option.some.inj (hown.symm.trans hown2)
  have h6 := u_fits hfc hkC hkind (Or.inr hlay) hi hd hn hfit
  refine W.putFinK hx hb hown (hts _ h4) (hh_same hts hsm _ hi) hst hcf (hnm.trans hin) (by rw [q2]; exact h6) q1 q3 (by rw [hsl]; exact k2_hasslot (q4 k h2)) rfl rfl d fun H' e1 e2 e3 => ?_
  rw [hsl] at e1 ⊢
  refine kk H' _ ls (hh_S_set hS he (fun q => by cases q) ⟨_, h1, ?_⟩ e2 e3) hl
  refine t_OB.to (V := updV (vp_V (fs.map (hh_v B' e0'))) k (hh_v B' e0' v)) ⟨_, e1, q2, q3, t_set q4 hap h2 _⟩ (fun j _ => ?_)
  rw [vp_updV_set (by rw [List.length_map]; exact hkl), ← List.map_set]
theorem r_putI (C : hh_ok X B e0 cc own nL ret nm R) (d : decode cc pc = .ok (.putfield idx, 3)) (F : hh_FL own idx ci k .int false) {x : Int32} (hv : hp_pi h a ci k x = some h') (kk : hh_W X cn sn (pc + 3) lv st h') : hh_W X cn sn pc lv (.int x :: .ref (hh_ad B e0 a) :: st) h :=
  r_putV (v := .inl x) C d F rfl rfl hv kk
theorem r_putIF (C : hh_ok X B e0 cc own nL ret nm R) (d : decode cc pc = .ok (.putfield idx, 3)) (F : hh_FL own idx ci k .int true) (hin : nm = "<init>") (hdc : ∀ Cn T N, hh_cl[ci]? = some (Cn, T, N) → (T k).1 = own) {x : Int32} (hv : hp_pi h a ci k x = some h') (kk : hh_W X cn sn (pc + 3) lv st h') : hh_W X cn sn pc lv (.int x :: .ref (hh_ad B e0 a) :: st) h :=
  r_putVF (v := .inl x) C d F hin hdc rfl rfl hv kk
theorem r_putA (C : hh_ok X B e0 cc own nL ret nm R) (d : decode cc pc = .ok (.putfield idx, 3)) (F : hh_FL own idx ci k ty false) (hr : ∀ q, narrow ty (.ref q) = .ref q ∧ fits ty (.ref q) = true) {x : Nat} (hv : hp_pa h a ci k x = some h') (kk : hh_W X cn sn (pc + 3) lv st h') : hh_W X cn sn pc lv (.ref (hh_ad B e0 x) :: .ref (hh_ad B e0 a) :: st) h :=
  r_putV (v := .inr (.inl (some x))) C d F (hr _).1 (hr _).2 hv kk
theorem r_putAF (C : hh_ok X B e0 cc own nL ret nm R) (d : decode cc pc = .ok (.putfield idx, 3)) (F : hh_FL own idx ci k ty true) (hin : nm = "<init>") (hdc : ∀ Cn T N, hh_cl[ci]? = some (Cn, T, N) → (T k).1 = own) (hr : ∀ q, narrow ty (.ref q) = .ref q ∧ fits ty (.ref q) = true) {x : Nat} (hv : hp_pa h a ci k x = some h') (kk : hh_W X cn sn (pc + 3) lv st h') : hh_W X cn sn pc lv (.ref (hh_ad B e0 x) :: .ref (hh_ad B e0 a) :: st) h :=
  r_putVF (v := .inr (.inl (some x))) C d F hin hdc (hr _).1 (hr _).2 hv kk
theorem r_putJ (C : hh_ok X B e0 cc own nL ret nm R) (d : decode cc pc = .ok (.putfield idx, 3)) (F : hh_FL own idx ci k .long false) {x : Int64} (hv : hp_pj h a ci k x = some h') (kk : hh_W X cn sn (pc + 3) lv st h') : hh_W X cn sn pc lv (.long x :: .ref (hh_ad B e0 a) :: st) h :=
  r_putV (v := .inr (.inr (.inr x))) C d F rfl rfl hv kk
theorem r_putZ (C : hh_ok X B e0 cc own nL ret nm R) (d : decode cc pc = .ok (.putfield idx, 3)) (F : hh_FL own idx ci k .boolean false) {x : Int32} (hv : hp_pz h a ci k x = some h') (kk : hh_W X cn sn (pc + 3) lv st h') : hh_W X cn sn pc lv (.int x :: .ref (hh_ad B e0 a) :: st) h := by
  unfold hp_pz at hv
  split at hv
  · rename_i hz
    refine r_putV (v := .inl x) C d F ?_ ?_ hv kk
    · rcases hz with rfl | rfl <;> rfl
    · rcases hz with rfl | rfl <;> rfl
  · cases hv
end Fields
theorem hp_ints_of {h : hh_H} {a t : Nat} {l : List Int32} (hv : hp_ints h a t = some l) : h[a]? = some (.inl (t, .inl l)) := by
  unfold hp_ints at hv
  split at hv
  · rename_i t' l' he
    split at hv
    · rename_i ht
      subst ht
      cases hv
      exact he
    · cases hv
  · cases hv
theorem hp_dbls_of {h : hh_H} {a t : Nat} {l : List UInt64} (hv : hp_dbls h a t = some l) : h[a]? = some (.inl (t, .inr (.inl l))) := by
  unfold hp_dbls at hv
  split at hv
  · rename_i t' l' he
    split at hv
    · rename_i ht
      subst ht
      cases hv
      exact he
    · cases hv
  · cases hv
theorem hp_lngs_of {h : hh_H} {a t : Nat} {l : List Int64} (hv : hp_lngs h a t = some l) : h[a]? = some (.inl (t, .inr (.inr (.inl l)))) := by
  unfold hp_lngs at hv
  split at hv
  · rename_i t' l' he
    split at hv
    · rename_i ht
      subst ht
      cases hv
      exact he
    · cases hv
  · cases hv
theorem hp_ld_of {α : Type} {o : Option (List α)} {i : Int32} {v : α} (z : α) (hv : hp_ld o i = some v) : ∃ l, o = some l ∧ vp_in i l.length ∧ l.getD i.toNatClampNeg z = v := by
  match o, hv with
  | some l, hv =>
    simp only [hp_ld] at hv
    split at hv
    · cases hv
    · rename_i hi
      have hl := (List.getElem?_eq_some_iff.mp hv).1
      refine ⟨l, rfl, fun q => ?_, ?_⟩
      · rcases q with q | q
        · exact hi q
        · exact absurd hl (Nat.not_lt.mpr q)
      · simp [List.getD_eq_getElem?_getD, hv]
theorem hp_st_of {α : Type} {o : Option (List α)} {i : Int32} {v : α} {l' : List α} (hv : hp_st o i v = some l') : ∃ l, o = some l ∧ vp_in i l.length ∧ l' = l.set i.toNatClampNeg v := by
  match o, hv with
  | some l, hv =>
    simp only [hp_st] at hv
    split at hv
    · cases hv
    · rename_i hi
      split at hv
      · rename_i hl
        cases hv
        refine ⟨l, rfl, fun q => ?_, rfl⟩
        rcases q with q | q
        · exact hi q
        · exact absurd hl (Nat.not_lt.mpr q)
      · cases hv
theorem hp_getD_set {α : Type} {l : List α} {i : Nat} {x z : α} (hi : i < l.length) (j : Nat) : (l.set i x).getD j z = if j = i then x else l.getD j z := by
  by_cases hj : j = i
  · subst hj
    simp [List.getD_eq_getElem?_getD, List.getElem?_set, hi]
  · simp [List.getD_eq_getElem?_getD, List.getElem?_set, Ne.symm hj, hj]
theorem hp_inlt {i : Int32} {n : Nat} (h : vp_in i n) : i.toNatClampNeg < n := Nat.not_le.mp fun q => h (Or.inr q)
section Arrays
variable {X : hh_X} {B e0 : Nat} {cc : ByteArray} {own : String} {nL : Nat} {ret : Option FieldType} {nm : String} {R : Room} {cn sn pc idx : Nat} {lv : List (Nat × Value)} {st : List Value} {h h' : hh_H} {a : Nat}
theorem r_ai (C : hh_ok X B e0 cc own nL ret nm R) (d : decode cc pc = .ok (.iaload, 1)) {i v : Int32} (hv : hp_ai h a i = some v) (kk : hh_W X cn sn (pc + 1) lv (.int v :: st) h) : hh_W X cn sn pc lv (.int i :: .ref (hh_ad B e0 a) :: st) h := by
  obtain ⟨p, l, e, R', s, m, args, below, meth, c, Q, D, cT, B', e0', nL'⟩ := X
  obtain ⟨hx, hb, hml, hown, hts, hK, hlk, hrt, hnm, rfl, rfl, rfl, rfl, hB, hA, hcA⟩ := C
  obtain ⟨f, h1, h2, rfl⟩ := hp_ld_of 0 hv
  intro H locs ls hS hl
  exact va_iald hx hb hK hS.1 (a - 1) 0 (hh_w_get (hh_p0 hS.2.1.1 (hp_ints_of h1) (fun q => by cases q)) (hp_ints_of h1)) rfl h2 d (kk H locs ls hS hl)
theorem r_az (C : hh_ok X B e0 cc own nL ret nm R) (d : decode cc pc = .ok (.baload, 1)) {i v : Int32} (hv : hp_az h a i = some v) (kk : hh_W X cn sn (pc + 1) lv (.int v :: st) h) : hh_W X cn sn pc lv (.int i :: .ref (hh_ad B e0 a) :: st) h := by
  obtain ⟨p, l, e, R', s, m, args, below, meth, c, Q, D, cT, B', e0', nL'⟩ := X
  obtain ⟨hx, hb, hml, hown, hts, hK, hlk, hrt, hnm, rfl, rfl, rfl, rfl, hB, hA, hcA⟩ := C
  obtain ⟨f, h1, h2, rfl⟩ := hp_ld_of 0 hv
  intro H locs ls hS hl
  exact va_zald hx hb hK hS.1 (a - 1) 1 (hh_w_get (hh_p0 hS.2.1.1 (hp_ints_of h1) (fun q => by cases q)) (hp_ints_of h1)) rfl h2 d (kk H locs ls hS hl)
theorem r_ab (C : hh_ok X B e0 cc own nL ret nm R) (d : decode cc pc = .ok (.baload, 1)) {i v : Int32} (hv : hp_ab h a i = some v) (kk : hh_W X cn sn (pc + 1) lv (.int v :: st) h) : hh_W X cn sn pc lv (.int i :: .ref (hh_ad B e0 a) :: st) h := by
  obtain ⟨p, l, e, R', s, m, args, below, meth, c, Q, D, cT, B', e0', nL'⟩ := X
  obtain ⟨hx, hb, hml, hown, hts, hK, hlk, hrt, hnm, rfl, rfl, rfl, rfl, hB, hA, hcA⟩ := C
  obtain ⟨f, h1, h2, rfl⟩ := hp_ld_of 0 hv
  intro H locs ls hS hl
  exact va_bald hx hb hK hS.1 (a - 1) 5 (hh_w_get (hh_p0 hS.2.1.1 (hp_ints_of h1) (fun q => by cases q)) (hp_ints_of h1)) rfl h2 d (kk H locs ls hS hl)
theorem r_ad (C : hh_ok X B e0 cc own nL ret nm R) (d : decode cc pc = .ok (.daload, 1)) {i : Int32} {v : UInt64} (hv : hp_ad h a i = some v) (kk : hh_W X cn sn (pc + 1) lv (.double v :: st) h) : hh_W X cn sn pc lv (.int i :: .ref (hh_ad B e0 a) :: st) h := by
  obtain ⟨p, l, e, R', s, m, args, below, meth, c, Q, D, cT, B', e0', nL'⟩ := X
  obtain ⟨hx, hb, hml, hown, hts, hK, hlk, hrt, hnm, rfl, rfl, rfl, rfl, hB, hA, hcA⟩ := C
  obtain ⟨f, h1, h2, rfl⟩ := hp_ld_of 0 hv
  intro H locs ls hS hl
  exact va_dald hx hb hK hS.1 (a - 1) 2 (hh_w_get (hh_p0 hS.2.1.1 (hp_dbls_of h1) (fun q => by cases q)) (hp_dbls_of h1)) rfl h2 d (kk H locs ls hS hl)
theorem r_aj (C : hh_ok X B e0 cc own nL ret nm R) (d : decode cc pc = .ok (.laload, 1)) {i : Int32} {v : Int64} (hv : hp_aj h a i = some v) (kk : hh_W X cn sn (pc + 1) lv (.long v :: st) h) : hh_W X cn sn pc lv (.int i :: .ref (hh_ad B e0 a) :: st) h := by
  obtain ⟨p, l, e, R', s, m, args, below, meth, c, Q, D, cT, B', e0', nL'⟩ := X
  obtain ⟨hx, hb, hml, hown, hts, hK, hlk, hrt, hnm, rfl, rfl, rfl, rfl, hB, hA, hcA⟩ := C
  obtain ⟨f, h1, h2, rfl⟩ := hp_ld_of 0 hv
  intro H locs ls hS hl
  exact va_lald hx hb hK hS.1 (a - 1) 3 (hh_w_get (hh_p0 hS.2.1.1 (hp_lngs_of h1) (fun q => by cases q)) (hp_lngs_of h1)) rfl h2 d (kk H locs ls hS hl)
theorem r_alen (C : hh_ok X B e0 cc own nL ret nm R) (d : decode cc pc = .ok (.arraylength, 1)) {v : Int32} (hv : hp_len h a = some v) (kk : hh_W X cn sn (pc + 1) lv (.int v :: st) h) : hh_W X cn sn pc lv (.ref (hh_ad B e0 a) :: st) h := by
  obtain ⟨p, l, e, R', s, m, args, below, meth, c, Q, D, cT, B', e0', nL'⟩ := X
  obtain ⟨hx, hb, hml, hown, hts, hK, hlk, hrt, hnm, rfl, rfl, rfl, rfl, hB, hA, hcA⟩ := C
  unfold hp_len at hv
  split at hv
  · rename_i t x he
    split at hv
    · rename_i ht
      cases hv
      intro H locs ls hS hl
      obtain ⟨ty, hty⟩ : ∃ ty, (hh_tys cT)[t]? = some (cT t, ty) := by
        match t, ht with
        | 0, _ => exact ⟨_, rfl⟩
        | 1, _ => exact ⟨_, rfl⟩
        | 2, _ => exact ⟨_, rfl⟩
        | 3, _ => exact ⟨_, rfl⟩
        | 4, _ => exact ⟨_, rfl⟩
        | 5, _ => exact ⟨_, rfl⟩
      by_cases ha0 : a = 0
      · subst ha0
        have hx0 := Option.some.inj (he.symm.trans hS.2.1.1)
        cases hx0
        obtain ⟨H0, g1, g2, -, scr, g4, g5, g6⟩ := hcA.2.2.2.2.2.2.2
        have hlt : e0' < B' := hS.2.1.2.1
        refine W.alen (n := 0) hx hb (show H[e0']? = some scr by rw [hS.2.2.2.1 e0' (Nat.lt_of_lt_of_le hlt hB) (Nat.not_le.mpr hlt), g2 e0' hlt]; exact g4) g5 (by rw [g6] <;> rfl) rfl rfl d (kk H locs ls hS hl)
      refine va_alen hx hb hK hS.1 (a - 1) t (hh_w_get ha0 he) hty ?_ d (kk H locs ls hS hl)
      match x with
      | .inl l => rfl
      | .inr (.inl l) => rfl
      | .inr (.inr (.inl l)) => rfl
      | .inr (.inr (.inr l)) => rfl
    · cases hv
  · cases hv
theorem r_si (C : hh_ok X B e0 cc own nL ret nm R) (d : decode cc pc = .ok (.iastore, 1)) {i x : Int32} (hv : hp_si h a i x = some h') (kk : hh_W X cn sn (pc + 1) lv st h') : hh_W X cn sn pc lv (.int x :: .int i :: .ref (hh_ad B e0 a) :: st) h := by
  obtain ⟨p, l, e, R', s, m, args, below, meth, c, Q, D, cT, B', e0', nL'⟩ := X
  obtain ⟨hx, hb, hml, hown, hts, hK, hlk, hrt, hnm, rfl, rfl, rfl, rfl, hB, hA, hcA⟩ := C
  obtain ⟨f', h1, rfl⟩ := Option.map_eq_some_iff.mp hv
  obtain ⟨f, h2, h3, rfl⟩ := hp_st_of h1
  have he := hp_ints_of h2
  intro H locs ls hS hl
  refine W.iast hx hb (hS.1 (a - 1) _ (hh_w_get (hh_p0 hS.2.1.1 he (fun q => by cases q)) he)) ((hK.2 0 _ rfl).1 f.length (fun j => .int (f.getD j 0))) (fun q => by cases q) (by show ¬ (i < 0 ∨ (arrV _ _ _).slots.size ≤ _); rw [arrV_size]; exact h3) rfl rfl d fun H1 e1 z oq => ?_
  refine kk H1 _ ls (hh_S_set hS he (fun q => by cases q) ?_ z oq) hl
  show H1[hh_ad B' e0' a]? = some (vp_cell _ _)
  rw [e1]
  show some ((arrV _ _ _).setSlot _ _) = some (arrV (cT 0) (f.set i.toNatClampNeg x).length (fun j => .int ((f.set i.toNatClampNeg x).getD j 0)))
  rw [arrV_store, List.length_set]
  congr 2
  funext q
  rw [hp_getD_set (hp_inlt h3)]
  by_cases hq : q = i.toNatClampNeg <;> simp [updV, hq]
theorem r_sz (C : hh_ok X B e0 cc own nL ret nm R) (d : decode cc pc = .ok (.bastore, 1)) {i x : Int32} (hv : hp_sz h a i x = some h') (kk : hh_W X cn sn (pc + 1) lv st h') : hh_W X cn sn pc lv (.int x :: .int i :: .ref (hh_ad B e0 a) :: st) h := by
  obtain ⟨p, l, e, R', s, m, args, below, meth, c, Q, D, cT, B', e0', nL'⟩ := X
  obtain ⟨hx, hb, hml, hown, hts, hK, hlk, hrt, hnm, rfl, rfl, rfl, rfl, hB, hA, hcA⟩ := C
  obtain ⟨f', h1, rfl⟩ := Option.map_eq_some_iff.mp hv
  obtain ⟨f, h2, h3, rfl⟩ := hp_st_of h1
  have he := hp_ints_of h2
  intro H locs ls hS hl
  refine W.zast hx hb (hS.1 (a - 1) _ (hh_w_get (hh_p0 hS.2.1.1 he (fun q => by cases q)) he)) ((hK.2 1 _ rfl).1 f.length (fun j => .int (f.getD j 0))) (fun q => by cases q) (by show ¬ (i < 0 ∨ (arrV _ _ _).slots.size ≤ _); rw [arrV_size]; exact h3) rfl rfl d fun H1 e1 z oq => ?_
  refine kk H1 _ ls (hh_S_set hS he (fun q => by cases q) ?_ z oq) hl
  show H1[hh_ad B' e0' a]? = some (vp_cell _ _)
  rw [e1]
  show some ((arrV _ _ _).setSlot _ _) = some (arrV (cT 1) (f.set i.toNatClampNeg (vp_nar .boolean x)).length (fun j => .int ((f.set i.toNatClampNeg (vp_nar .boolean x)).getD j 0)))
  rw [arrV_store, List.length_set]
  congr 2
  funext q
  rw [hp_getD_set (hp_inlt h3)]
  by_cases hq : q = i.toNatClampNeg
  · simp [updV, hq]; rfl
  · simp [updV, hq]
theorem r_sb (C : hh_ok X B e0 cc own nL ret nm R) (d : decode cc pc = .ok (.bastore, 1)) {i x : Int32} (hv : hp_sb h a i x = some h') (kk : hh_W X cn sn (pc + 1) lv st h') : hh_W X cn sn pc lv (.int x :: .int i :: .ref (hh_ad B e0 a) :: st) h := by
  obtain ⟨p, l, e, R', s, m, args, below, meth, c, Q, D, cT, B', e0', nL'⟩ := X
  obtain ⟨hx, hb, hml, hown, hts, hK, hlk, hrt, hnm, rfl, rfl, rfl, rfl, hB, hA, hcA⟩ := C
  obtain ⟨f', h1, rfl⟩ := Option.map_eq_some_iff.mp hv
  obtain ⟨f, h2, h3, rfl⟩ := hp_st_of h1
  have he := hp_ints_of h2
  intro H locs ls hS hl
  refine W.bast hx hb (hS.1 (a - 1) _ (hh_w_get (hh_p0 hS.2.1.1 he (fun q => by cases q)) he)) ((hK.2 5 _ rfl).1 f.length (fun j => .int (f.getD j 0))) (fun q => by cases q) (by show ¬ (i < 0 ∨ (arrV _ _ _).slots.size ≤ _); rw [arrV_size]; exact h3) rfl rfl d fun H1 e1 z oq => ?_
  refine kk H1 _ ls (hh_S_set hS he (fun q => by cases q) ?_ z oq) hl
  show H1[hh_ad B' e0' a]? = some (vp_cell _ _)
  rw [e1]
  show some ((arrV _ _ _).setSlot _ _) = some (arrV (cT 5) (f.set i.toNatClampNeg (vp_nar .byte x)).length (fun j => .int ((f.set i.toNatClampNeg (vp_nar .byte x)).getD j 0)))
  rw [arrV_store, List.length_set]
  congr 2
  funext q
  rw [hp_getD_set (hp_inlt h3)]
  by_cases hq : q = i.toNatClampNeg
  · simp [updV, hq]; rfl
  · simp [updV, hq]
theorem r_sd (C : hh_ok X B e0 cc own nL ret nm R) (d : decode cc pc = .ok (.dastore, 1)) {i : Int32} {x : UInt64} (hv : hp_sd h a i x = some h') (kk : hh_W X cn sn (pc + 1) lv st h') : hh_W X cn sn pc lv (.double x :: .int i :: .ref (hh_ad B e0 a) :: st) h := by
  obtain ⟨p, l, e, R', s, m, args, below, meth, c, Q, D, cT, B', e0', nL'⟩ := X
  obtain ⟨hx, hb, hml, hown, hts, hK, hlk, hrt, hnm, rfl, rfl, rfl, rfl, hB, hA, hcA⟩ := C
  obtain ⟨f', h1, rfl⟩ := Option.map_eq_some_iff.mp hv
  obtain ⟨f, h2, h3, rfl⟩ := hp_st_of h1
  have he := hp_dbls_of h2
  intro H locs ls hS hl
  refine W.dast hx hb (hS.1 (a - 1) _ (hh_w_get (hh_p0 hS.2.1.1 he (fun q => by cases q)) he)) ((hK.2 2 _ rfl).1 f.length (fun j => .double (f.getD j 0))) (fun q => by cases q) (by show ¬ (i < 0 ∨ (arrV _ _ _).slots.size ≤ _); rw [arrV_size]; exact h3) rfl rfl d fun H1 e1 z oq => ?_
  refine kk H1 _ ls (hh_S_set hS he (fun q => by cases q) ?_ z oq) hl
  show H1[hh_ad B' e0' a]? = some (vp_cell _ _)
  rw [e1]
  show some ((arrV _ _ _).setSlot _ _) = some (arrV (cT 2) (f.set i.toNatClampNeg x).length (fun j => .double ((f.set i.toNatClampNeg x).getD j 0)))
  rw [arrV_store, List.length_set]
  congr 2
  funext q
  rw [hp_getD_set (hp_inlt h3)]
  by_cases hq : q = i.toNatClampNeg <;> simp [updV, hq]
theorem r_sj (C : hh_ok X B e0 cc own nL ret nm R) (d : decode cc pc = .ok (.lastore, 1)) {i : Int32} {x : Int64} (hv : hp_sj h a i x = some h') (kk : hh_W X cn sn (pc + 1) lv st h') : hh_W X cn sn pc lv (.long x :: .int i :: .ref (hh_ad B e0 a) :: st) h := by
  obtain ⟨p, l, e, R', s, m, args, below, meth, c, Q, D, cT, B', e0', nL'⟩ := X
  obtain ⟨hx, hb, hml, hown, hts, hK, hlk, hrt, hnm, rfl, rfl, rfl, rfl, hB, hA, hcA⟩ := C
  obtain ⟨f', h1, rfl⟩ := Option.map_eq_some_iff.mp hv
  obtain ⟨f, h2, h3, rfl⟩ := hp_st_of h1
  have he := hp_lngs_of h2
  intro H locs ls hS hl
  refine W.last hx hb (hS.1 (a - 1) _ (hh_w_get (hh_p0 hS.2.1.1 he (fun q => by cases q)) he)) ((hK.2 3 _ rfl).1 f.length (fun j => .long (f.getD j 0))) (fun q => by cases q) (by show ¬ (i < 0 ∨ (arrV _ _ _).slots.size ≤ _); rw [arrV_size]; exact h3) rfl rfl d fun H1 e1 z oq => ?_
  refine kk H1 _ ls (hh_S_set hS he (fun q => by cases q) ?_ z oq) hl
  show H1[hh_ad B' e0' a]? = some (vp_cell _ _)
  rw [e1]
  show some ((arrV _ _ _).setSlot _ _) = some (arrV (cT 3) (f.set i.toNatClampNeg x).length (fun j => .long ((f.set i.toNatClampNeg x).getD j 0)))
  rw [arrV_store, List.length_set]
  congr 2
  funext q
  rw [hp_getD_set (hp_inlt h3)]
  by_cases hq : q = i.toNatClampNeg <;> simp [updV, hq]
/-- a cell has come -/
theorem hh_S_app {D : va_G} {cT : Nat → ClassId} {s : State} {H H1 : Heap} {locs : List Loc} {e' : hh_C} (hS : hh_S D cT B e0 s h H locs) (hat : va_at D hh_cl (hh_ad B e0 h.length, hh_c B e0 cT e') H1) (hz : H1.size = H.size + 1) (ho : ∀ q : Nat, q < H.size → H1[q]? = H[q]?) :
    hh_S D cT B e0 s (h ++ [e']) H1 locs := by
  obtain ⟨hP, ⟨h0, he0, hs⟩, hF⟩ := hS
  have hk : ∀ (k : Nat) (x : Nat × va_E), (hh_w B e0 cT h)[k]? = some x → H1[x.1]? = H[x.1]? := fun k x hx => ho x.1 ((hP k x hx).lt)
  refine ⟨?_, ⟨by rw [List.getElem?_append_left (List.getElem?_eq_some_iff.mp h0).1]; exact h0, he0, by rw [hz, List.length_append]; show H.size + 1 + 1 = B + (h.length + 1); omega⟩, Nat.le_trans hF.1 (by omega), fun x h1 h2 => (ho x (Nat.lt_of_lt_of_le h1 hF.1)).trans (hF.2.1 x h1 h2), hF.2.2⟩
  rw [hh_w_app (List.getElem?_eq_some_iff.mp h0).1]
  refine (hP.kept hk).app (fun k x hx => ?_)
  have hz : k < 1 := (List.getElem?_eq_some_iff.mp hx).1
  rw [show k = 0 by omega] at hx
  cases hx
  exact hat
theorem hh_size {n : Nat} (hs : h[0]? = some hh_nil ∧ e0 < B ∧ n + 1 = B + h.length) : n = hh_ad B e0 h.length := by
  have hl := (List.getElem?_eq_some_iff.mp hs.1).1
  match hh : h.length, hl with
  | k + 1, _ =>
    have := hs.2.2
    rw [hh] at this
    show n = B + k
    omega
def hh_NW (own : String) (idx ci N : Nat) : Prop :=
  ∃ (Cn : String) (T : u_T) (tys : Nat → FieldType), hh_cl[ci]? = some (Cn, T, N) ∧ (∀ w ∈ u_ws Cn T N, w ∈ hh_T) ∧ Cond.classLink own idx Cn ∈ hh_T ∧ Cond.instantiable Cn N ∈ hh_T ∧ Cond.initialized Cn ∈ hh_T ∧ (∀ j, j < N → parseFieldDescriptor (T j).2.2.1 = some (tys j)) ∧
    (∀ B e0 j, j < N → defaultValue (tys j) = vp_V ((hh_dfl ci).map (hh_v B e0)) j)
theorem r_new {N ci : Nat} {q : Nat} (C : hh_ok X B e0 cc own nL ret nm R) (d : decode cc pc = .ok (.new idx, 3)) (F : hh_NW own idx ci N) (hc : cn + 1 ≤ R.cells) (hs : sn + N ≤ R.slots) (hv : hp_new h ci = some (q, h')) (kk : hh_W X (cn + 1) (sn + N) (pc + 3) lv (.ref (hh_ad B e0 q) :: st) h') : hh_W X cn sn pc lv st h := by
  obtain ⟨p, l, e, R', s, m, args, below, meth, c, Q, D, cT, B', e0', nL'⟩ := X
  obtain ⟨hx, hb, hml, hown, hts, hK, hlk, hrt, hnm, rfl, rfl, rfl, rfl, hB, hA, hcA⟩ := C
  obtain ⟨Cn, T, tys, h1, h2, h3, h4, h5, h6, h7⟩ := F
  cases hv
  intro H locs ls hS hl
  have hKn := hK.1 ci _ h1
  refine W.newcK hx hb hown (hts _ h3) (hts _ h4) (hts _ h5) rfl d hc hs hKn.2.1 rfl fun H1 kC hkC e1 z1 o1 => ?_
  have hsz : H.size = hh_ad B' e0' h.length := hh_size hS.2.1
  refine W.eq (g2 := F0 m (pc + 3) ls (.ref (hh_ad B' e0' h.length) :: st)) (by rw [← hsz]) ?_
  refine kk H1 locs ls (hh_S_app hS ?_ z1 o1) hl
  refine ⟨_, h1, ?_⟩
  have hb2 := (u_born tys hts h2 hKn hkC e1 h6).to (fun j hj => h7 B' e0' j hj)
  rw [hsz] at hb2
  exact hb2
theorem hp_na_of {t bd q : Nat} {n : Int32} (hv : hp_na h t n bd = some (q, h')) : ¬ n < 0 ∧ n.toNatClampNeg ≤ bd ∧ q = h.length ∧ h' = h ++ [.inl (t, hp_zero t n.toNatClampNeg)] := by
  unfold hp_na at hv
  split at hv
  · cases hv
  · rename_i hc
    cases hv
    exact ⟨fun z => hc (Or.inl z), Nat.not_lt.mp fun z => hc (Or.inr z), rfl, rfl⟩
theorem hp_rep {α : Type} (n : Nat) (z : α) : (fun j => (List.replicate n z).getD j z) = fun _ => z := by
  funext j
  rw [List.getD_eq_getElem?_getD, List.getElem?_replicate]
  split <;> rfl
theorem r_na {q bd t : Nat} {n : Int32} {at0 : ArrayType} (C : hh_ok X B e0 cc own nL ret nm R) (d : decode cc pc = .ok (.newarray at0, 2)) (ha : Cond.arrayClass (newarray.typeOf at0) ∈ hh_T) (hbd : bd * componentBytes (newarray.typeOf at0) ≤ 536870912)
    (hcell : ∀ (cA : ClassId) (n B e0 : Nat), vp_cell cA (hh_a B e0 (hp_zero t n)) = arrV cA n (fun _ => defaultValue (newarray.typeOf at0)))
    (hcls : ∀ (vm : Vm) (cT : Nat → ClassId), hh_cA cT vm → vm.findClass ("[" ++ (newarray.typeOf at0).toString) = some (cT t))
    (hc : cn + 1 ≤ R.cells) (hs : sn + bd ≤ R.slots) (hv : hp_na h t n bd = some (q, h')) (kk : hh_W X (cn + 1) (sn + bd) (pc + 2) lv (.ref (hh_ad B e0 q) :: st) h') : hh_W X cn sn pc lv (.int n :: st) h := by
  obtain ⟨p, l, e, R', s, m, args, below, meth, c, Q, D, cT, B', e0', nL'⟩ := X
  obtain ⟨hx, hb, hml, hown, hts, hK, hlk, hrt, hnm, rfl, rfl, rfl, rfl, hB, hA, hcA⟩ := C
  obtain ⟨h1, h2, rfl, rfl⟩ := hp_na_of hv
  intro H locs ls hS hl
  refine va_newaK hx hb (hts _ ha) rfl d rfl h1 rfl (Nat.le_trans (Nat.mul_le_mul_right _ h2) hbd) hc (Nat.le_trans (Nat.add_le_add_left h2 _) hs) rfl fun H1 cA e1 z1 o1 hAr hNm => ?_
  have hcA : cA = cT t := Option.some.inj (hNm.symm.trans (hcls _ cT hcA.1))
  subst hcA
  have hsz : H.size = hh_ad B' e0' h.length := hh_size hS.2.1
  refine W.eq (g2 := F0 m (pc + 2) ls (.ref (hh_ad B' e0' h.length) :: st)) (by rw [← hsz]) ?_
  refine W.widen (Nat.le_refl _) (Nat.add_le_add_left h2 _) ?_
  refine kk H1 locs ls (hh_S_app hS ?_ z1 o1) hl
  show H1[hh_ad B' e0' h.length]? = some (vp_cell _ _)
  rw [hcell, ← hsz]
  exact e1
end Arrays
end
section
section Ends
variable {X : hh_X} {B e0 : Nat} {cc : ByteArray} {own : String} {nL : Nat} {ret : Option FieldType} {nm : String} {R : Room} {cn sn pc idx mc ms : Nat} {lv : List (Nat × Value)} {st : List Value} {h h' : hh_H}
theorem hh_Qof {D : va_G} {cT : Nat → ClassId} {s t : State} {H : Heap} {locs : List Loc} {o : Outcome} {as : Array Value} (hS : hh_S D cT B e0 s h H locs) (ht : t.heap = H) : hh_Q D cT B e0 o h as s o t :=
  ⟨rfl, by rw [ht]; exact hS.1, by rw [ht]; exact hS.2.1, hS.2.2.F ht⟩
theorem r_ireturn (C : hh_ok X B e0 cc own nL (some .int) nm R) {rr : Int32 × hh_H} {v : Int32} (E : hh_End X B e0 (.returned (some (.int rr.1))) rr.2 mc ms) (d : decode cc pc = .ok (.ireturn, 1)) (hc : cn ≤ mc) (hs : sn ≤ ms) (hf : some (v, h) = some rr) : hh_W X cn sn pc lv [.int v] h := by
  obtain ⟨p, l, e, R', s, m, args, below, meth, c, Q, D, cT, B', e0', nL'⟩ := X
  obtain ⟨hx, hb, hml, hown, hts, hK, hlk, hrt, hnm, rfl, rfl, rfl, rfl, hB, hA, hcA⟩ := C
  cases hf
  cases E
  intro H locs ls hS hl
  exact W.widen hc hs (W.iret hx hb hrt (fun t ht hW => hh_Qof hS ht) hS.2.2.2.2 d hlk)
theorem r_ireturnz {ty : FieldType} (C : hh_ok X B e0 cc own nL (some ty) nm R) {rr : Int32 × hh_H} {v : Int32} (E : hh_End X B e0 (.returned (some (.int rr.1))) rr.2 mc ms) (d : decode cc pc = .ok (.ireturn, 1)) (hn : narrow ty (.int v) = .int v) (hc : cn ≤ mc) (hs : sn ≤ ms) (hf : some (v, h) = some rr) : hh_W X cn sn pc lv [.int v] h := by
  obtain ⟨p, l, e, R', s, m, args, below, meth, c, Q, D, cT, B', e0', nL'⟩ := X
  obtain ⟨hx, hb, hml, hown, hts, hK, hlk, hrt, hnm, rfl, rfl, rfl, rfl, hB, hA, hcA⟩ := C
  cases hf
  cases E
  intro H locs ls hS hl
  exact W.widen hc hs (W.zret hx hb hrt hn (fun t ht hW => hh_Qof hS ht) hS.2.2.2.2 d hlk)
theorem hp_zb_of {x v : Int32} (hv : hp_zb x = some v) : x = v ∧ narrow .boolean (.int v) = .int v := by
  unfold hp_zb at hv
  split at hv
  · rename_i hz
    cases hv
    refine ⟨rfl, ?_⟩
    rcases hz with rfl | rfl <;> rfl
  · cases hv
theorem r_return (C : hh_ok X B e0 cc own nL none nm R) {rr : Unit × hh_H} (E : hh_End X B e0 (.returned none) rr.2 mc ms) (d : decode cc pc = .ok (.return_, 1)) (hc : cn ≤ mc) (hs : sn ≤ ms) (hf : some ((), h) = some rr) : hh_W X cn sn pc lv [] h := by
  obtain ⟨p, l, e, R', s, m, args, below, meth, c, Q, D, cT, B', e0', nL'⟩ := X
  obtain ⟨hx, hb, hml, hown, hts, hK, hlk, hrt, hnm, rfl, rfl, rfl, rfl, hB, hA, hcA⟩ := C
  cases hf
  cases E
  intro H locs ls hS hl
  exact W.widen hc hs (W.vret hx hb hrt (fun t ht hW => hh_Qof hS ht) hS.2.2.2.2 d hlk)
theorem r_dreturn (C : hh_ok X B e0 cc own nL (some .double) nm R) {rr : UInt64 × hh_H} {v : UInt64} (E : hh_End X B e0 (.returned (some (.double rr.1))) rr.2 mc ms) (d : decode cc pc = .ok (.dreturn, 1)) (hc : cn ≤ mc) (hs : sn ≤ ms) (hf : some (v, h) = some rr) : hh_W X cn sn pc lv [.double v] h := by
  obtain ⟨p, l, e, R', s, m, args, below, meth, c, Q, D, cT, B', e0', nL'⟩ := X
  obtain ⟨hx, hb, hml, hown, hts, hK, hlk, hrt, hnm, rfl, rfl, rfl, rfl, hB, hA, hcA⟩ := C
  cases hf
  cases E
  intro H locs ls hS hl
  exact W.widen hc hs (W.dret hx hb hrt (fun t ht hW => hh_Qof hS ht) hS.2.2.2.2 d hlk)
theorem r_areturn {rt : FieldType} (C : hh_ok X B e0 cc own nL (some rt) nm R) {rr : Nat × hh_H} {v : Nat} (E : hh_End X B e0 (.returned (some (.ref (hh_ad B e0 rr.1)))) rr.2 mc ms) (d : decode cc pc = .ok (.areturn, 1)) (hr : (∃ n, rt = .object n) ∨ ∃ t, rt = .array t) (hc : cn ≤ mc) (hs : sn ≤ ms) (hf : some (v, h) = some rr) : hh_W X cn sn pc lv [.ref (hh_ad B e0 v)] h := by
  obtain ⟨p, l, e, R', s, m, args, below, meth, c, Q, D, cT, B', e0', nL'⟩ := X
  obtain ⟨hx, hb, hml, hown, hts, hK, hlk, hrt, hnm, rfl, rfl, rfl, rfl, hB, hA, hcA⟩ := C
  cases hf
  cases E
  intro H locs ls hS hl
  exact W.widen hc hs (W.aret hx hb hrt hr (Or.inr ⟨_, rfl⟩) (fun t ht hW => hh_Qof hS ht) hS.2.2.2.2 d hlk)
theorem hh_sz {n : Nat} (hs : h[0]? = some hh_nil ∧ e0 < B ∧ n + 1 = B + h.length) : B ≤ n := by
  have hl := (List.getElem?_eq_some_iff.mp hs.1).1
  omega
theorem hh_met {y : MethodName} {yb : ByteArray} {ym : Nat} {yr : Option FieldType} {rm : Room} {av : List Value} {o : Outcome} (hy : plainName y.cls = true) (hlen : (lg_sl av).length ≤ ym)
    (hw : ∀ X : hh_X, hh_ok X B e0 yb y.cls ym yr y.name rm → hh_End X B e0 o h' mc ms → hh_W X 0 0 0 (lv_args 0 av) [] h) : hh_Met y yb ym yr rm mc ms B e0 av h o h' := by
  intro l D cT
  refine Met.ofW (cc := yb) (maxL := ym) (ret := yr) hy rfl ?_
  intro p e s m args below meth c s₁ Bd hml hv
  obtain ⟨rfl, hP, hsz, hK, hcls⟩ := hv
  have hts := atoms_spec (ws := .code y yb ym yr :: hh_T) Bd.pre
  have hown : s.vm.findClass y.cls = some m.cls := findClass_of_methodNamed Bd.named
  have hl := lv_entry av (n := ym) hlen
  rw [lg_entry_eq]
  exact hw (p, l, e, rm, s, m, av.toArray, below, meth, c, _, D, cT, B, e0, ym) ⟨Bd.exec, Bd.bytes, hml, hown, fun w hw => hts w (List.mem_cons_of_mem _ hw), hK, Bd.notSynchronized, Bd.returns, (name_of_methodNamed Bd.named Bd.method).1, rfl, rfl, rfl, rfl, hh_sz hsz, fun q hq => Nat.le_trans (hh_sz hsz) hq, hcls⟩ rfl s.heap [] _ ⟨hP, hsz, va_S.rf⟩ hl
theorem hh_blind {D : va_G} {cT : Nat → ClassId} {av : List Value} : FrameBlind (hh_Pc D cT B e0 av h) := by
  intro a U g mk hq
  obtain ⟨h1, h2, h3, h4, h5⟩ := hq
  exact ⟨h1, h2, h3, va_K.moved (u := U) (U := U.calling g mk a) (Vm.Alike.refl U.vm) h4, hh_env_move (V := U.calling g mk a) h5 (State.WarmedH.refl U) (hh_sz h3) (fun _ _ => rfl)⟩
theorem hh_pre {D : va_G} {cT : Nat → ClassId} {av : List Value} {s U : State} {H : Heap} {locs : List Loc} (hS : hh_S D cT B e0 s h H locs) (hK : va_K D hh_cl (hh_tys cT) s)
    (hc : hh_env B e0 cT s) (hB : B ≤ s.heap.size) (hU : U.heap = H) (hW : s.WarmedH U.vm) : hh_Pc D cT B e0 av h av.toArray U := by
  refine ⟨rfl, by rw [hU]; exact hS.1, by rw [hU]; exact hS.2.1, va_K.moved hW.alike hK, hh_env_move hc hW hB (fun q hq => ?_)⟩
  rw [hU]
  exact hS.2.2.2.1 q (Nat.lt_of_lt_of_le hq hB) (Nat.not_le.mpr hq)
/-- behind a call -/
theorem hh_back {p : Program} {l : Launch} {e : Env} {s : State} {m : MethodId} {args : Array Value} {below : List Frame} {meth : Method} {c : Code} {Q : State → Prop} {D : va_G} {cT : Nat → ClassId} {H : Heap} {locs : List Loc} {ls : Array Slot} {st0 rest : List Value} {v : Option Value} {as : Array Value}
    (hr : va_Run p l e R s m args below meth c H locs cn sn mc ms (F0 m pc ls st0) rest (hh_Q D cT B e0 (.returned v) h' as) (fun q => B ≤ q)) (hS : hh_S D cT B e0 s h H locs)
    (kk : ∀ (H1 : Heap) (locs1 : List Loc), hh_S D cT B e0 s h' H1 locs1 → W p l e R s m args below meth c H1 locs1 (cn + mc) (sn + ms) Q (F0 m (pc + 3) ls (v.toList ++ rest))) : W p l e R s m args below meth c H locs cn sn Q (F0 m pc ls st0) := by
  intro T hT X
  obtain ⟨v', st₀, t, T', L, h0, X', hL, e1, e2, ⟨hv, hP, hz, hF⟩, st⟩ := hr T hT X
  cases hv
  obtain ⟨hz0, hk⟩ := hF
  rw [h0] at hz0 hk
  obtain ⟨t2, a1, b1⟩ := kk T'.heap (locs ++ L) ⟨by rw [e1]; exact hP, by rw [e1]; exact hz, Nat.le_trans hS.2.2.1 (by rw [e1]; exact hz0), fun q h1 h2 => by rw [e1, hk q (Nat.lt_of_lt_of_le h1 hS.2.2.1) h2]; exact hS.2.2.2.1 q h1 h2, fun q hq => by
      rcases List.mem_append.mp hq with h | h
      · exact hS.2.2.2.2 q h
      · exact hL q h⟩ T' rfl X'
  exact ⟨t2, st t2 a1, b1⟩
theorem hh_goodC {y : MethodName} {yb : ByteArray} {ym : Nat} {yr : Option FieldType} (hc : Cond.code y yb ym yr ∈ hh_T) : GoodIn hh_T (.code y yb ym yr :: hh_T) := by
  intro w hw
  rcases List.mem_cons.mp hw with rfl | hw
  · exact hh_good _ hc
  · exact hh_good _ hw
/-- what a call site's words say -/
def hh_CS (own : String) (idx : Nat) (y : MethodName) (yb : ByteArray) (ym : Nat) (yr : Option FieldType) (n : Nat) (kind : List Cond) : Prop :=
  Cond.code y yb ym yr ∈ hh_T ∧ Cond.methodLink own idx y ∈ hh_T ∧ Cond.initialized y.cls ∈ hh_T ∧ (∀ w ∈ kind, w ∈ hh_T) ∧ (y.cls ≠ "java/lang/invoke/MethodHandle" ∧ y.cls ≠ "java/lang/invoke/VarHandle" ∧ (parseMethodDescriptor y.desc).map (fun d => d.parameters.length) = some n)
variable {y : MethodName} {yb : ByteArray} {ym n : Nat} {yr : Option FieldType} {rm : Room} {v : Option Value}
theorem r_callV (C : hh_ok X B e0 cc own nL ret nm R) (d : decode cc pc = .ok (.invokevirtual idx, 3)) (S : hh_CS own idx y yb ym yr n [.instanceMethod y, .selects y.cls y y]) {a ci : Nat} {fs : List hh_V} {T : u_T} {N : Nat} (hcl : hh_cl[ci]? = some (y.cls, T, N)) (ho : h[a]? = some (.inr (ci, fs)))
    {As : List Value} (hM : hh_Met y yb ym yr rm mc ms B e0 (.ref (hh_ad B e0 a) :: As) h (.returned v) h') (hn : As.length = n) (hrc : rm.cells = mc) (hrs : rm.slots = ms) (hR : rm.frames + 1 ≤ R.frames ∧ 8 + (ym + 11) + rm.locals ≤ R.locals) (hf : cn + mc ≤ R.cells ∧ sn + ms ≤ R.slots) (hst : (st.map fun v => v.category).sum ≤ 8)
    {st0 : List Value} (he : st0 = As.reverse ++ .ref (hh_ad B e0 a) :: st) (kk : hh_W X (cn + mc) (sn + ms) (pc + 3) lv (v.toList ++ st) h') : hh_W X cn sn pc lv st0 h := by
  obtain ⟨p, l, e, R', s, m, args, below, meth, c, Q, D, cT, B', e0', nL'⟩ := X
  obtain ⟨hx, hb, hml, hown, hts, hK, hlk, hrt, hnm, rfl, rfl, rfl, rfl, hB, hA, hcA⟩ := C
  obtain ⟨s1, s2, s3, s4, s5⟩ := S
  subst he
  intro H locs ls hS hl
  refine hh_back (va_runV (As := As) (rest := st) (C := y.cls) ⟨hx, hb, hml, hown, hts⟩ (hM l D cT) ⟨callB_of n hts (hh_goodC s1) rfl hrc hrs (hts _ s3) (hts _ s2) s5 hR, hts _ (s4 _ (by simp)), hts _ (s4 _ (by simp))⟩ ⟨hh_blind, va_recv hK hS.1 hcl (hh_w_get (hh_p0 hS.2.1.1 ho (fun q => by cases q)) ho), fun U hU hW => hh_pre hS hK hcA hB hU hW⟩ rfl hn (by exact hl.1) rfl (lv_room hst) d hf) hS (fun H1 locs1 hS1 => kk H1 locs1 ls hS1 hl)
theorem r_callS (C : hh_ok X B e0 cc own nL ret nm R) (d : decode cc pc = .ok (.invokestatic idx, 3)) (S : hh_CS own idx y yb ym yr n [.static y])
    {As : List Value} (hM : hh_Met y yb ym yr rm mc ms B e0 As h (.returned v) h') (hn : As.length = n) (hrc : rm.cells = mc) (hrs : rm.slots = ms) (hR : rm.frames + 1 ≤ R.frames ∧ 8 + (ym + 11) + rm.locals ≤ R.locals) (hf : cn + mc ≤ R.cells ∧ sn + ms ≤ R.slots) (hst : (st.map fun v => v.category).sum ≤ 8)
    {st0 : List Value} (he : st0 = As.reverse ++ st) (kk : hh_W X (cn + mc) (sn + ms) (pc + 3) lv (v.toList ++ st) h') : hh_W X cn sn pc lv st0 h := by
  obtain ⟨p, l, e, R', s, m, args, below, meth, c, Q, D, cT, B', e0', nL'⟩ := X
  obtain ⟨hx, hb, hml, hown, hts, hK, hlk, hrt, hnm, rfl, rfl, rfl, rfl, hB, hA, hcA⟩ := C
  obtain ⟨s1, s2, s3, s4, s5⟩ := S
  subst he
  intro H locs ls hS hl
  refine hh_back (va_runS (As := As) (rest := st) ⟨hx, hb, hml, hown, hts⟩ (hM l D cT) ⟨callB_of n hts (hh_goodC s1) rfl hrc hrs (hts _ s3) (hts _ s2) s5 hR, hts _ (s4 _ (by simp))⟩ ⟨hh_blind, fun U hU hW => hh_pre hS hK hcA hB hU hW⟩ rfl hn (by exact hl.1) rfl (lv_room hst) d hf) hS (fun H1 locs1 hS1 => kk H1 locs1 ls hS1 hl)
theorem r_callI (C : hh_ok X B e0 cc own nL ret nm R) (d : decode cc pc = .ok (.invokespecial idx, 3)) (S : hh_CS own idx y yb ym none n [.instanceMethod y]) (hy1 : y.name = "<init>") {a : Nat}
    {As : List Value} (hM : hh_Met y yb ym none rm mc ms B e0 (.ref (hh_ad B e0 a) :: As) h (.returned v) h') (hn : As.length = n) (hrc : rm.cells = mc) (hrs : rm.slots = ms) (hR : rm.frames + 1 ≤ R.frames ∧ 8 + (ym + 11) + rm.locals ≤ R.locals) (hf : cn + mc ≤ R.cells ∧ sn + ms ≤ R.slots) (hst : (st.map fun v => v.category).sum ≤ 8)
    {st0 : List Value} (he : st0 = As.reverse ++ .ref (hh_ad B e0 a) :: st) (kk : hh_W X (cn + mc) (sn + ms) (pc + 3) lv (v.toList ++ st) h') : hh_W X cn sn pc lv st0 h := by
  obtain ⟨p, l, e, R', s, m, args, below, meth, c, Q, D, cT, B', e0', nL'⟩ := X
  obtain ⟨hx, hb, hml, hown, hts, hK, hlk, hrt, hnm, rfl, rfl, rfl, rfl, hB, hA, hcA⟩ := C
  obtain ⟨s1, s2, s3, s4, s5⟩ := S
  subst he
  intro H locs ls hS hl
  refine hh_back (va_runI (As := As) (rest := st) (b := hh_ad B' e0' a) ⟨hx, hb, hml, hown, hts⟩ (hM l D cT) ⟨callB_of n hts (hh_goodC s1) rfl hrc hrs (hts _ s3) (hts _ s2) s5 hR, hy1, hts _ (s4 _ (by simp))⟩ ⟨hh_blind, fun U hU hW => hh_pre hS hK hcA hB hU hW⟩ rfl hn (by exact hl.1) rfl (lv_room hst) d hf) hS (fun H1 locs1 hS1 => kk H1 locs1 ls hS1 hl)
theorem r_objInit {q : Nat} (C : hh_ok X B e0 cc own nL ret nm R) (d : decode cc pc = .ok (.invokespecial idx, 3)) (hw : Cond.methodLink own idx Lib.objectInit ∈ hh_T) (hi : Cond.instanceMethod Lib.objectInit ∈ hh_T) (hco : Cond.code Lib.objectInit ⟨#[0xb1]⟩ 1 none ∈ hh_T) (hR : 1 ≤ R.frames ∧ 20 ≤ R.locals) (hst : (st.map fun v => v.category).sum ≤ 8)
    (kk : hh_W X cn sn (pc + 3) lv st h) : hh_W X cn sn pc lv (.ref q :: st) h := by
  obtain ⟨p, l, e, R', s, m, args, below, meth, c, Q, D, cT, B', e0', nL'⟩ := X
  obtain ⟨hx, hb, hml, hown, hts, hK, hlk, hrt, hnm, rfl, rfl, rfl, rfl, hB, hA, hcA⟩ := C
  intro H locs ls hS hl
  refine W.objInit hx hb hown (hts _ hw) (hts _ hi) (hts _ hco) rfl (by rw [hml]; exact hl.1) rfl d hR.1 ?_ (kk H locs ls hS hl)
  have := lv_room (m := m) (pc := pc) (ls := ls) (rest := .ref q :: st) hst
  omega
end Ends
end
section
theorem oi_inst : Cond.instanceMethod Lib.objectInit ∈ hh_T := hh_at 74 (by decide +kernel) (by decide +kernel)
theorem oi_code : Cond.code Lib.objectInit ⟨#[0xb1]⟩ 1 none ∈ hh_T := hh_at 75 (by decide +kernel) (by decide +kernel)
section More
variable {X : hh_X} {B e0 : Nat} {cc : ByteArray} {own : String} {nL : Nat} {ret : Option FieldType} {nm : String} {R : Room} {cn sn pc idx mc ms : Nat} {lv : List (Nat × Value)} {st : List Value} {h h' : hh_H} {q bd : Nat} {n : Int32}
theorem ac_int : Cond.arrayClass (newarray.typeOf .int) ∈ hh_T := hh_at 101 (by decide +kernel) (by decide +kernel)
theorem az_int (cA : ClassId) (n B e0 : Nat) : vp_cell cA (hh_a B e0 (hp_zero 0 n)) = arrV cA n (fun _ => defaultValue (newarray.typeOf .int)) := by
  show arrV cA (List.replicate n 0).length (fun j => .int ((List.replicate n 0).getD j 0)) = _
  rw [List.length_replicate]
  congr 1
  funext j
  exact congrArg _ (congrFun (hp_rep n 0) j)
theorem r_na_int (C : hh_ok X B e0 cc own nL ret nm R) (d : decode cc pc = .ok (.newarray .int, 2)) (hbd : bd * 4 ≤ 536870912) (hc : cn + 1 ≤ R.cells) (hs : sn + bd ≤ R.slots) (hv : hp_na h 0 n bd = some (q, h')) (kk : hh_W X (cn + 1) (sn + bd) (pc + 2) lv (.ref (hh_ad B e0 q) :: st) h') : hh_W X cn sn pc lv (.int n :: st) h :=
  r_na C d ac_int hbd az_int (fun vm cT h => h.1) hc hs hv kk
theorem ac_boolean : Cond.arrayClass (newarray.typeOf .boolean) ∈ hh_T := hh_at 102 (by decide +kernel) (by decide +kernel)
theorem az_boolean (cA : ClassId) (n B e0 : Nat) : vp_cell cA (hh_a B e0 (hp_zero 1 n)) = arrV cA n (fun _ => defaultValue (newarray.typeOf .boolean)) := by
  show arrV cA (List.replicate n 0).length (fun j => .int ((List.replicate n 0).getD j 0)) = _
  rw [List.length_replicate]
  congr 1
  funext j
  exact congrArg _ (congrFun (hp_rep n 0) j)
theorem r_na_boolean (C : hh_ok X B e0 cc own nL ret nm R) (d : decode cc pc = .ok (.newarray .boolean, 2)) (hbd : bd * 1 ≤ 536870912) (hc : cn + 1 ≤ R.cells) (hs : sn + bd ≤ R.slots) (hv : hp_na h 1 n bd = some (q, h')) (kk : hh_W X (cn + 1) (sn + bd) (pc + 2) lv (.ref (hh_ad B e0 q) :: st) h') : hh_W X cn sn pc lv (.int n :: st) h :=
  r_na C d ac_boolean hbd az_boolean (fun vm cT h => h.2.1) hc hs hv kk
theorem ac_double : Cond.arrayClass (newarray.typeOf .double) ∈ hh_T := hh_at 252 (by decide +kernel) (by decide +kernel)
theorem az_double (cA : ClassId) (n B e0 : Nat) : vp_cell cA (hh_a B e0 (hp_zero 2 n)) = arrV cA n (fun _ => defaultValue (newarray.typeOf .double)) := by
  show arrV cA (List.replicate n 0).length (fun j => .double ((List.replicate n 0).getD j 0)) = _
  rw [List.length_replicate]
  congr 1
  funext j
  exact congrArg _ (congrFun (hp_rep n 0) j)
theorem r_na_double (C : hh_ok X B e0 cc own nL ret nm R) (d : decode cc pc = .ok (.newarray .double, 2)) (hbd : bd * 8 ≤ 536870912) (hc : cn + 1 ≤ R.cells) (hs : sn + bd ≤ R.slots) (hv : hp_na h 2 n bd = some (q, h')) (kk : hh_W X (cn + 1) (sn + bd) (pc + 2) lv (.ref (hh_ad B e0 q) :: st) h') : hh_W X cn sn pc lv (.int n :: st) h :=
  r_na C d ac_double hbd az_double (fun vm cT h => h.2.2.1) hc hs hv kk
theorem ac_long : Cond.arrayClass (newarray.typeOf .long) ∈ hh_T := hh_at 1275 (by decide +kernel) (by decide +kernel)
theorem az_long (cA : ClassId) (n B e0 : Nat) : vp_cell cA (hh_a B e0 (hp_zero 3 n)) = arrV cA n (fun _ => defaultValue (newarray.typeOf .long)) := by
  show arrV cA (List.replicate n 0).length (fun j => .long ((List.replicate n 0).getD j 0)) = _
  rw [List.length_replicate]
  congr 1
  funext j
  exact congrArg _ (congrFun (hp_rep n 0) j)
theorem r_na_long (C : hh_ok X B e0 cc own nL ret nm R) (d : decode cc pc = .ok (.newarray .long, 2)) (hbd : bd * 8 ≤ 536870912) (hc : cn + 1 ≤ R.cells) (hs : sn + bd ≤ R.slots) (hv : hp_na h 3 n bd = some (q, h')) (kk : hh_W X (cn + 1) (sn + bd) (pc + 2) lv (.ref (hh_ad B e0 q) :: st) h') : hh_W X cn sn pc lv (.int n :: st) h :=
  r_na C d ac_long hbd az_long (fun vm cT h => h.2.2.2.1) hc hs hv kk
theorem ac_byte : Cond.arrayClass (newarray.typeOf .byte) ∈ hh_T := hh_at 413 (by decide +kernel) (by decide +kernel)
theorem az_byte (cA : ClassId) (n B e0 : Nat) : vp_cell cA (hh_a B e0 (hp_zero 5 n)) = arrV cA n (fun _ => defaultValue (newarray.typeOf .byte)) := by
  show arrV cA (List.replicate n 0).length (fun j => .int ((List.replicate n 0).getD j 0)) = _
  rw [List.length_replicate]
  congr 1
  funext j
  exact congrArg _ (congrFun (hp_rep n 0) j)
theorem r_na_byte (C : hh_ok X B e0 cc own nL ret nm R) (d : decode cc pc = .ok (.newarray .byte, 2)) (hbd : bd * 1 ≤ 536870912) (hc : cn + 1 ≤ R.cells) (hs : sn + bd ≤ R.slots) (hv : hp_na h 5 n bd = some (q, h')) (kk : hh_W X (cn + 1) (sn + bd) (pc + 2) lv (.ref (hh_ad B e0 q) :: st) h') : hh_W X cn sn pc lv (.int n :: st) h :=
  r_na C d ac_byte hbd az_byte (fun vm cT h => h.2.2.2.2.2) hc hs hv kk
def hh_CA (own : String) (idx ci : Nat) : Prop := ∃ (Cn : String) (T : u_T) (N : Nat), hh_cl[ci]? = some (Cn, T, N) ∧ Cond.classLink own idx Cn ∈ hh_T
theorem r_cast {a ci : Nat} {fs : List hh_V} (C : hh_ok X B e0 cc own nL ret nm R) (d : decode cc pc = .ok (.checkcast idx, 3)) (F : hh_CA own idx ci) (ho : h[a]? = some (.inr (ci, fs))) (kk : hh_W X cn sn (pc + 3) lv (.ref (hh_ad B e0 a) :: st) h) : hh_W X cn sn pc lv (.ref (hh_ad B e0 a) :: st) h := by
  obtain ⟨p, l, e, R', s, m, args, below, meth, c, Q, D, cT, B', e0', nL'⟩ := X
  obtain ⟨hx, hb, hml, hown, hts, hK, hlk, hrt, hnm, rfl, rfl, rfl, rfl, hB, hA, hcA⟩ := C
  obtain ⟨Cn, T, N, h1, h2⟩ := F
  intro H locs ls hS hl
  exact va_castS hx hb hown (hts _ h2) (hK.1 ci _ h1).2 (va_recv hK hS.1 h1 (hh_w_get (hh_p0 hS.2.1.1 ho (fun q => by cases q)) ho)) d (kk H locs ls hS hl)
theorem r_lreturn (C : hh_ok X B e0 cc own nL (some .long) nm R) {rr : Int64 × hh_H} {v : Int64} (E : hh_End X B e0 (.returned (some (.long rr.1))) rr.2 mc ms) (d : decode cc pc = .ok (.lreturn, 1)) (hc : cn ≤ mc) (hs : sn ≤ ms) (hf : some (v, h) = some rr) : hh_W X cn sn pc lv [.long v] h := by
  obtain ⟨p, l, e, R', s, m, args, below, meth, c, Q, D, cT, B', e0', nL'⟩ := X
  obtain ⟨hx, hb, hml, hown, hts, hK, hlk, hrt, hnm, rfl, rfl, rfl, rfl, hB, hA, hcA⟩ := C
  cases hf
  cases E
  intro H locs ls hS hl
  exact W.widen hc hs (W.lret hx hb hrt (fun t ht hW => hh_Qof hS ht) hS.2.2.2.2 d hlk)
theorem r_mmax {x y : Int32} (C : hh_ok X B e0 cc own nL ret nm R) (d : decode cc pc = .ok (.invokestatic idx, 3)) (hw : Cond.methodLink own idx Lib.Math.max.name ∈ hh_T) (hR : 1 ≤ R.frames ∧ 21 ≤ R.locals) (hst : (st.map fun v => v.category).sum ≤ 8) (hc : cn ≤ R.cells) (hs : sn ≤ R.slots) (kk : hh_W X cn sn (pc + 3) lv (.int (if x < y then y else x) :: st) h) : hh_W X cn sn pc lv (.int y :: .int x :: st) h := by
  obtain ⟨p, l, e, R', s, m, args, below, meth, c, Q, D, cT, B', e0', nL'⟩ := X
  obtain ⟨hx, hb, hml, hown, hts, hK, hlk, hrt, hnm, rfl, rfl, rfl, rfl, hB, hA, hcA⟩ := C
  intro H locs ls hS hl
  exact va_mmax hx hb (hml.trans hl.1.symm) hown (hts _ hw) (hts _ (hh_at 83 (by decide +kernel) (by decide +kernel))) (hts _ (hh_at 36 (by decide +kernel) (by decide +kernel))) (hts _ (hh_at 84 (by decide +kernel) (by decide +kernel))) hR.1 (by have := hR.2; omega) hc hs d (kk H locs ls hS hl)
theorem r_mmin {x y : Int32} (C : hh_ok X B e0 cc own nL ret nm R) (d : decode cc pc = .ok (.invokestatic idx, 3)) (hw : Cond.methodLink own idx Lib.Math.min.name ∈ hh_T) (hR : 1 ≤ R.frames ∧ 21 ≤ R.locals) (hst : (st.map fun v => v.category).sum ≤ 8) (hc : cn ≤ R.cells) (hs : sn ≤ R.slots) (kk : hh_W X cn sn (pc + 3) lv (.int (if y < x then y else x) :: st) h) : hh_W X cn sn pc lv (.int y :: .int x :: st) h := by
  obtain ⟨p, l, e, R', s, m, args, below, meth, c, Q, D, cT, B', e0', nL'⟩ := X
  obtain ⟨hx, hb, hml, hown, hts, hK, hlk, hrt, hnm, rfl, rfl, rfl, rfl, hB, hA, hcA⟩ := C
  intro H locs ls hS hl
  exact va_mmin hx hb (hml.trans hl.1.symm) hown (hts _ hw) (hts _ (hh_at 80 (by decide +kernel) (by decide +kernel))) (hts _ (hh_at 36 (by decide +kernel) (by decide +kernel))) (hts _ (hh_at 81 (by decide +kernel) (by decide +kernel))) hR.1 (by have := hR.2; omega) hc hs d (kk H locs ls hS hl)
end More
end
section
-- arrays of references, the library's lists
def hp_cpl (f g : List (Option Nat)) (sp dp n : Nat) : List (Option Nat) := (List.range g.length).map fun k => va_cpy (fun j => f.getD j none) (fun j => g.getD j none) sp dp n k
def hp_cp (h : hh_H) (a : Nat) (sp : Int32) (b : Nat) (dp n : Int32) : Option (Unit × hh_H) := match hp_refs h a 4, hp_refs h b 4 with
  | some f, some g => if sp < 0 ∨ dp < 0 ∨ n < 0 ∨ f.length < sp.toNatClampNeg + n.toNatClampNeg ∨ g.length < dp.toNatClampNeg + n.toNatClampNeg ∨ g.length = 0 ∨ f.length = 0 ∨ ¬ ∀ i, i < n.toNatClampNeg → ∀ y, f.getD (sp.toNatClampNeg + i) none = some y → (hp_is h y 6).isSome = true then none
    else some ((), h.set b (.inl (4, .inr (.inr (.inr (hp_cpl f g sp.toNatClampNeg dp.toNatClampNeg n.toNatClampNeg))))))
  | _, _ => none
theorem hp_refs_of {h : hh_H} {a t : Nat} {l : List (Option Nat)} (hv : hp_refs h a t = some l) : h[a]? = some (.inl (t, .inr (.inr (.inr l)))) := by
  unfold hp_refs at hv
  split at hv
  · rename_i t' l' he
    split at hv
    · rename_i ht
      subst ht
      cases hv
      exact he
    · cases hv
  · cases hv
theorem hp_getD_map {α β : Type} (l : List (Option α)) (f : α → β) (j : Nat) : (l.getD j none).map f = (l.map (Option.map f)).getD j none := by
  simp only [List.getD_eq_getElem?_getD, List.getElem?_map]
  cases l[j]? <;> rfl
section Lists
variable {X : hh_X} {B e0 : Nat} {cc : ByteArray} {own : String} {nL : Nat} {ret : Option FieldType} {nm : String} {R : Room} {cn sn pc idx mc ms : Nat} {lv : List (Nat × Value)} {st : List Value} {h h' : hh_H} {a : Nat}
theorem hh_nn {l : List (Option Nat)} (hl : l.length ≠ 0) : (.inl (4, .inr (.inr (.inr l))) : hh_C) ≠ hh_nil := fun q => by
  unfold hh_nil at q
  simp only [Sum.inl.injEq, Prod.mk.injEq, Sum.inr.injEq, true_and] at q
  exact hl (by rw [q]; rfl)
theorem hp_in0 {i : Int32} {n : Nat} (h : vp_in i n) : n ≠ 0 := fun q => by
  have := hp_inlt h
  omega
theorem r_aq (C : hh_ok X B e0 cc own nL ret nm R) (d : decode cc pc = .ok (.aaload, 1)) {i : Int32} {v : Nat} (hv : hp_aq h a i = some v) (kk : hh_W X cn sn (pc + 1) lv (.ref (hh_ad B e0 v) :: st) h) : hh_W X cn sn pc lv (.int i :: .ref (hh_ad B e0 a) :: st) h := by
  obtain ⟨p, l, e, R', s, m, args, below, meth, c, Q, D, cT, B', e0', nL'⟩ := X
  obtain ⟨hx, hb, hml, hown, hts, hK, hlk, hrt, hnm, rfl, rfl, rfl, rfl, hB, hA, hcA⟩ := C
  unfold hp_aq at hv
  split at hv
  · rename_i y hy
    cases hv
    obtain ⟨f, h1, h2, h3⟩ := hp_ld_of none hy
    intro H locs ls hS hl
    refine va_aldq (C := "java/lang/Object") hx hb hK hS.1 (a - 1) 4 (hh_w_get (hh_p0 hS.2.1.1 (hp_refs_of h1) (hh_nn (hp_in0 h2))) (hp_refs_of h1)) rfl h2 d ?_
    rw [h3]
    exact kk H locs ls hS hl
  · cases hv
theorem r_sq (C : hh_ok X B e0 cc own nL ret nm R) (d : decode cc pc = .ok (.aastore, 1)) {i : Int32} {x : Nat} {u : Unit} (ho : hp_is h x 6 = some u) (hv : hp_sq h a i (some x) = some h') (kk : hh_W X cn sn (pc + 1) lv st h') : hh_W X cn sn pc lv (.ref (hh_ad B e0 x) :: .int i :: .ref (hh_ad B e0 a) :: st) h := by
  obtain ⟨p, l, e, R', s, m, args, below, meth, c, Q, D, cT, B', e0', nL'⟩ := X
  obtain ⟨hx, hb, hml, hown, hts, hK, hlk, hrt, hnm, rfl, rfl, rfl, rfl, hB, hA, hcA⟩ := C
  obtain ⟨f', h1, rfl⟩ := Option.map_eq_some_iff.mp hv
  obtain ⟨f, h2, h3, rfl⟩ := hp_st_of h1
  have he := hp_refs_of h2
  obtain ⟨fs, ho⟩ := hp_is_of ho
  intro H locs ls hS hl
  have hlt := hp_inlt h3
  obtain ⟨r', hr', cellV, g1, g2, g3, -⟩ := hS.1 (x - 1) _ (hh_w_get (hh_p0 hS.2.1.1 ho (fun q => by cases q)) ho)
  have hcls := (hK.1 6 _ rfl).2
  obtain ⟨kA, comp, k1, k2, k3, -⟩ := (hK.2 4 _ rfl).2
  obtain ⟨kE, hkE, -⟩ := Vm.findClass_spec k3
  obtain ⟨c0, t1, f1, f2, f3⟩ := Cond.castable_spec (va_Nw.use (A := args) rfl (hcA.2.1 (.castable "IndexBuilder$Run" "java/lang/Object") (hh_at2 1412 (by decide +kernel) (by decide +kernel))))
  cases hcls.1.symm.trans f1
  cases k3.symm.trans f2
  obtain ⟨kC, hkC, -⟩ := hcls.2
  refine W.aast hx hb (hS.1 (a - 1) _ (hh_w_get (hh_p0 hS.2.1.1 he (hh_nn (hp_in0 h3))) he)) (fun q h => by cases h) (fun h => by cases h) k1 k2 rfl hkE ⟨fun q => h3 (Or.inl q), by show _ < (arrV _ _ _).slots.size; rw [arrV_size]; exact hlt⟩ g1 (fun q h => by rw [g3] at h; cases h) (by rw [g2]; exact hkC) (by rw [g2]; exact f3) rfl rfl d fun H1 e1 z oq => ?_
  refine kk H1 _ ls (hh_S_set hS he (hh_nn (hp_in0 h3)) ?_ z oq) hl
  show H1[hh_ad B' e0' a]? = some (vp_cell _ _)
  rw [e1]
  show some ((arrV _ _ _).setSlot _ _) = some (arrV (cT 4) (f.set i.toNatClampNeg (some x)).length (fun j => va_rf (((f.set i.toNatClampNeg (some x)).getD j none).map (hh_ad B' e0'))))
  rw [arrV_store, List.length_set]
  congr 2
  funext q
  rw [hp_getD_set hlt]
  by_cases hq : q = i.toNatClampNeg <;> simp [updV, hq, va_rf]
theorem r_sqN (C : hh_ok X B e0 cc own nL ret nm R) (d : decode cc pc = .ok (.aastore, 1)) {i : Int32} (hv : hp_sq h a i none = some h') (kk : hh_W X cn sn (pc + 1) lv st h') : hh_W X cn sn pc lv (.null :: .int i :: .ref (hh_ad B e0 a) :: st) h := by
  obtain ⟨p, l, e, R', s, m, args, below, meth, c, Q, D, cT, B', e0', nL'⟩ := X
  obtain ⟨hx, hb, hml, hown, hts, hK, hlk, hrt, hnm, rfl, rfl, rfl, rfl, hB, hA, hcA⟩ := C
  obtain ⟨f', h1, rfl⟩ := Option.map_eq_some_iff.mp hv
  obtain ⟨f, h2, h3, rfl⟩ := hp_st_of h1
  have he := hp_refs_of h2
  intro H locs ls hS hl
  refine va_WaastN (C := "java/lang/Object") hx hb (hS.1 (a - 1) _ (hh_w_get (hh_p0 hS.2.1.1 he (hh_nn (hp_in0 h3))) he)) ((hK.2 4 _ rfl).1 f.length (fun j => va_rf ((f.getD j none).map (hh_ad B' e0')))) (fun q => by cases q) (by show ¬ (i < 0 ∨ (arrV _ _ _).slots.size ≤ _); rw [arrV_size]; exact h3) rfl rfl d fun H1 e1 z oq => ?_
  refine kk H1 _ ls (hh_S_set hS he (hh_nn (hp_in0 h3)) ?_ z oq) hl
  show H1[hh_ad B' e0' a]? = some (vp_cell _ _)
  rw [e1]
  show some ((arrV _ _ _).setSlot _ _) = some (arrV (cT 4) (f.set i.toNatClampNeg none).length (fun j => va_rf (((f.set i.toNatClampNeg none).getD j none).map (hh_ad B' e0'))))
  rw [arrV_store, List.length_set]
  congr 2
  funext q
  rw [hp_getD_set (hp_inlt h3)]
  by_cases hq : q = i.toNatClampNeg <;> simp [updV, hq, va_rf]
theorem r_naq {q bd : Nat} {n : Int32} (C : hh_ok X B e0 cc own nL ret nm R) (d : decode cc pc = .ok (.anewarray idx, 3)) (hw : Cond.classLink own idx "java/lang/Object" ∈ hh_T) (hbd : bd * 4 ≤ 536870912) (hc : cn + 1 ≤ R.cells) (hs : sn + bd ≤ R.slots) (hv : hp_na h 4 n bd = some (q, h')) (kk : hh_W X (cn + 1) (sn + bd) (pc + 3) lv (.ref (hh_ad B e0 q) :: st) h') : hh_W X cn sn pc lv (.int n :: st) h := by
  obtain ⟨p, l, e, R', s, m, args, below, meth, c, Q, D, cT, B', e0', nL'⟩ := X
  obtain ⟨hx, hb, hml, hown, hts, hK, hlk, hrt, hnm, rfl, rfl, rfl, rfl, hB, hA, hcA⟩ := C
  obtain ⟨h1, h2, rfl, rfl⟩ := hp_na_of hv
  intro H locs ls hS hl
  refine W.anew (C := "java/lang/Object") hx hb hown (hts _ hw) (va_AO.use hcA.2.2.2.2.2.1) rfl d rfl h1 (Nat.le_trans (Nat.mul_le_mul_right _ h2) hbd) hc (Nat.le_trans (Nat.add_le_add_left h2 _) hs) fun cA kA comp f1 f2 f3 f4 => ?_
  have hcA2 : cA = cT 4 := Option.some.inj (f1.symm.trans hcA.1.2.2.2.2.1)
  subst hcA2
  have hsz : H.size = hh_ad B' e0' h.length := hh_size hS.2.1
  refine W.eq (g2 := F0 m (pc + 3) ls (.ref (hh_ad B' e0' h.length) :: st)) (by rw [← hsz]) ?_
  refine W.widen (Nat.le_refl _) (Nat.add_le_add_left h2 _) ?_
  refine kk _ locs ls (hh_S_app hS ?_ (by rw [Array.size_push]) (fun q hq => by rw [Array.getElem?_push, if_neg (Nat.ne_of_lt hq)])) hl
  show (H.push _)[hh_ad B' e0' h.length]? = some (vp_cell (cT 4) (hh_a B' e0' (hp_zero 4 n.toNatClampNeg)))
  have hz : vp_cell (cT 4) (hh_a B' e0' (hp_zero 4 n.toNatClampNeg)) = arrV (cT 4) n.toNatClampNeg (fun _ => .null) := by
    show arrV (cT 4) (List.replicate n.toNatClampNeg (none : Option Nat)).length (fun j => va_rf (((List.replicate n.toNatClampNeg (none : Option Nat)).getD j none).map (hh_ad B' e0'))) = _
    rw [List.length_replicate]
    congr 1
    funext j
    rw [congrFun (hp_rep n.toNatClampNeg (none : Option Nat)) j]
    rfl
  rw [← hsz, Array.getElem?_push_size, hz, ← arrV_new]
theorem r_getsE (C : hh_ok X B e0 cc own nL ret nm R) (d : decode cc pc = .ok (.getstatic idx, 3)) (hw : Cond.fieldLink own idx "java/util/ArrayList" "DEFAULTCAPACITY_EMPTY_ELEMENTDATA" "[Ljava/lang/Object;" ∈ hh_T) (kk : hh_W X cn sn (pc + 3) lv (.ref (hh_ad B e0 0) :: st) h) : hh_W X cn sn pc lv st h := by
  obtain ⟨p, l, e, R', s, m, args, below, meth, c, Q, D, cT, B', e0', nL'⟩ := X
  obtain ⟨hx, hb, hml, hown, hts, hK, hlk, hrt, hnm, rfl, rfl, rfl, rfl, hB, hA, hcA⟩ := C
  intro H locs ls hS hl
  exact va_gets hx hb hcA.2.2.1 hS.2.2 hown (hts _ hw) (fun _ q => q) d (kk H locs ls hS hl)
theorem r_acmp_eq {tgt x y : Nat} {off : Int} (C : hh_ok X B e0 cc own nL ret nm R) (d : decode cc pc = .ok (.if_acmp .eq off, 3)) (ht : (pc : Int) + off = (tgt : Int)) (kt : x = y → hh_W X cn sn tgt lv st h) (kf : ¬ x = y → hh_W X cn sn (pc + 3) lv st h) : hh_W X cn sn pc lv (.ref (hh_ad B e0 y) :: .ref (hh_ad B e0 x) :: st) h := by
  obtain ⟨p, l, e, R', s, m, args, below, meth, c, Q, D, cT, B', e0', nL'⟩ := X
  obtain ⟨hx, hb, hml, hown, hts, hK, hlk, hrt, hnm, rfl, rfl, rfl, rfl, hB, hA, hcA⟩ := C
  intro H locs ls hS hl
  refine lv_acmp_eq (rx := some (hh_ad B' e0' x)) (ry := some (hh_ad B' e0' y)) hx hb d ht (fun q => kt (hh_ad_inj hS.2.1.2.1 (Option.some.inj q)) H locs ls hS hl) (fun q => kf (fun z => q (by rw [z])) H locs ls hS hl)
theorem r_arraycopy {a b : Nat} {sp dp n : Int32} {u : Unit} (C : hh_ok X B e0 cc own nL ret nm R) (d : decode cc pc = .ok (.invokestatic idx, 3)) (hw : Cond.methodLink own idx arraycopyName ∈ hh_T) (hR : 1 ≤ R.frames ∧ 8 + (nativeFrameWords "java/lang/System" "arraycopy" 5 + 11) ≤ R.locals) (hst : (st.map fun v => v.category).sum ≤ 8)
    (hv : hp_cp h a sp b dp n = some (u, h')) (kk : hh_W X cn sn (pc + 3) lv st h') : hh_W X cn sn pc lv (.int n :: .int dp :: .ref (hh_ad B e0 b) :: .int sp :: .ref (hh_ad B e0 a) :: st) h := by
  obtain ⟨p, l, e, R', s, m, args, below, meth, c, Q, D, cT, B', e0', nL'⟩ := X
  obtain ⟨hx, hb, hml, hown, hts, hK, hlk, hrt, hnm, rfl, rfl, rfl, rfl, hB, hA, hcA⟩ := C
  unfold hp_cp at hv
  split at hv
  · rename_i f g hf0 hg0
    split at hv
    · cases hv
    · rename_i hcond
      cases hv
      have h1 : ¬ sp < 0 := fun q => hcond (Or.inl q)
      have h2 : ¬ dp < 0 := fun q => hcond (Or.inr (Or.inl q))
      have h3 : ¬ n < 0 := fun q => hcond (Or.inr (Or.inr (Or.inl q)))
      have h4 : sp.toNatClampNeg + n.toNatClampNeg ≤ f.length := Nat.not_lt.mp fun q => hcond (Or.inr (Or.inr (Or.inr (Or.inl q))))
      have h5 : dp.toNatClampNeg + n.toNatClampNeg ≤ g.length := Nat.not_lt.mp fun q => hcond (Or.inr (Or.inr (Or.inr (Or.inr (Or.inl q)))))
      have h6 : g.length ≠ 0 := fun q => hcond (Or.inr (Or.inr (Or.inr (Or.inr (Or.inr (Or.inl q))))))
      have h8 : f.length ≠ 0 := fun q => hcond (Or.inr (Or.inr (Or.inr (Or.inr (Or.inr (Or.inr (Or.inl q)))))))
      have h7 : ∀ i, i < n.toNatClampNeg → ∀ y, f.getD (sp.toNatClampNeg + i) none = some y → (hp_is h y 6).isSome = true := Classical.byContradiction fun q => hcond (Or.inr (Or.inr (Or.inr (Or.inr (Or.inr (Or.inr (Or.inr q)))))))
      have hea := hp_refs_of hf0
      have heb := hp_refs_of hg0
      have nn : ∀ z : Int32, ¬ z < 0 → z.toInt = (z.toNatClampNeg : Int) := by
        intro z hz
        have hz0 : (0 : Int) ≤ z.toInt := by
          have := Int32.not_lt.mp hz
          simpa using Int32.le_iff_toInt_le.mp this
        show z.toInt = ((z.toInt.toNat : Nat) : Int)
        omega
      intro H locs ls hS hl
      have hc0 := hS.1 (a - 1) _ (hh_w_get (hh_p0 hS.2.1.1 hea (hh_nn h8)) hea)
      have hc1 := hS.1 (b - 1) _ (hh_w_get (hh_p0 hS.2.1.1 heb (hh_nn h6)) heb)
      obtain ⟨kA, comp, r1, r2, r3, -⟩ := (hK.2 4 _ rfl).2
      obtain ⟨c0, t1, f1, f2, f3⟩ := Cond.castable_spec (va_Nw.use (A := args) rfl (hcA.2.1 (.castable "IndexBuilder$Run" "java/lang/Object") (hh_at2 1412 (by decide +kernel) (by decide +kernel))))
      cases r3.symm.trans f2
      intro T hT Y
      obtain ⟨vm', Y', step⟩ := Y.arraycopy hx hown (hts _ hw) (hts _ (hh_at 642 (by decide +kernel) (by decide +kernel))) (hts _ (hh_at 641 (by decide +kernel) (by decide +kernel))) (hts _ (hh_at 61 (by decide +kernel) (by decide +kernel))) (src := hh_ad B' e0' a) (dst := hh_ad B' e0' b) (cs := vp_cell (cT 4) (hh_a B' e0' (.inr (.inr (.inr f))))) (cd := vp_cell (cT 4) (hh_a B' e0' (.inr (.inr (.inr g))))) (srcPos := sp) (destPos := dp) (n := n) (by rw [hT]; exact hc0) (by rw [hT]; exact hc1)
        (fun _ h => by cases h) (fun _ h => by cases h) (fun h => by cases h) (fun h => by cases h) r1 r1 r2 r2 rfl h1 h2 h3
        (by rw [nn sp h1, nn n h3]; show ¬ _ > ((arrV (cT 4) f.length (fun j => va_rf ((f.getD j none).map (hh_ad B' e0')))).slots.size : Int); rw [arrV_size]; omega)
        (by rw [nn dp h2, nn n h3]; show ¬ _ > ((arrV (cT 4) g.length (fun j => va_rf ((g.getD j none).map (hh_ad B' e0')))).slots.size : Int); rw [arrV_size]; omega)
        (fun vm₁ hal i hi => by
          have e : (vp_cell (cT 4) (hh_a B' e0' (.inr (.inr (.inr f))))).slots.getD (sp.toNatClampNeg + i) .null = va_rf ((f.getD (sp.toNatClampNeg + i) none).map (hh_ad B' e0')) := by
            show (arrV (cT 4) f.length (fun j => va_rf ((f.getD j none).map (hh_ad B' e0')))).slots.getD _ _ = _
            rw [Array.getD_eq_getD_getElem?, arrV_read _ _ (by omega)]
            rfl
          rw [e]
          cases hy : f.getD (sp.toNatClampNeg + i) none with
          | none => exact ⟨rfl, trivial⟩
          | some y =>
            obtain ⟨u2, hu2⟩ := Option.isSome_iff_exists.mp (h7 i hi y hy)
            obtain ⟨fs, ho⟩ := hp_is_of hu2
            obtain ⟨cellV, g1, g2, g3⟩ := va_recv hK hS.1 (ci := 6) rfl (hh_w_get (hh_p0 hS.2.1.1 ho (fun q => by cases q)) ho)
            cases f1.symm.trans g3
            obtain ⟨kC, hkC, -⟩ := Vm.findClass_spec g3
            obtain ⟨kE, hkE, -⟩ := Vm.findClass_spec r3
            obtain ⟨kC', hkC', -⟩ := hal.2.2 _ _ hkC
            obtain ⟨kE', hkE', -⟩ := hal.2.2 _ _ hkE
            refine ⟨rfl, cellV, (show T.heap[hh_ad B' e0' y]? = some cellV by rw [hT]; exact g1), (fun q h => by rw [h] at g2; cases g2), ⟨kC', hkC'⟩, ?_, ?_⟩
            · exact ⟨kE', hkE'⟩
            · show vm₁.assignable _ _ = true
              rw [hal.assignable]
              exact f3)
        (g := F0 m pc ls (.int n :: .int dp :: .ref (hh_ad B' e0' b) :: .int sp :: .ref (hh_ad B' e0' a) :: st)) rfl (by rw [hml]; exact hl.1) (rest := st) rfl (by rw [hb]; exact d) hR.1 (by show 2 * 0 + _ + _ ≤ _; have := hR.2; omega)
      have e1 : copied (vp_cell (cT 4) (hh_a B' e0' (.inr (.inr (.inr f))))) (vp_cell (cT 4) (hh_a B' e0' (.inr (.inr (.inr g))))) sp dp n = vp_cell (cT 4) (hh_a B' e0' (.inr (.inr (.inr (hp_cpl f g sp.toNatClampNeg dp.toNatClampNeg n.toNatClampNeg))))) := by
        refine (va_copied (fun z : Option Nat => va_rf z) (cT 4) (cT 4) (fun j => (f.getD j none).map (hh_ad B' e0')) (fun j => (g.getD j none).map (hh_ad B' e0')) h4).trans ?_
        show arrV (cT 4) g.length (fun j => va_rf (va_cpy (fun j => (f.getD j none).map (hh_ad B' e0')) (fun j => (g.getD j none).map (hh_ad B' e0')) sp.toNatClampNeg dp.toNatClampNeg n.toNatClampNeg j)) = arrV (cT 4) (hp_cpl f g sp.toNatClampNeg dp.toNatClampNeg n.toNatClampNeg).length (fun j => va_rf (((hp_cpl f g sp.toNatClampNeg dp.toNatClampNeg n.toNatClampNeg).getD j none).map (hh_ad B' e0')))
        have hlen : (hp_cpl f g sp.toNatClampNeg dp.toNatClampNeg n.toNatClampNeg).length = g.length := by simp [hp_cpl]
        rw [hlen]
        have hfun : ∀ j, j < g.length → ((hp_cpl f g sp.toNatClampNeg dp.toNatClampNeg n.toNatClampNeg).getD j none).map (hh_ad B' e0') = va_cpy (fun j => (f.getD j none).map (hh_ad B' e0')) (fun j => (g.getD j none).map (hh_ad B' e0')) sp.toNatClampNeg dp.toNatClampNeg n.toNatClampNeg j := by
          intro j hj
          simp only [hp_cpl, List.getD_eq_getElem?_getD, List.getElem?_map, List.getElem?_range hj, Option.map_some, Option.getD_some, va_cpy]
          split <;> rfl
        have hout : ∀ j, ¬ j < g.length → ((hp_cpl f g sp.toNatClampNeg dp.toNatClampNeg n.toNatClampNeg).getD j none).map (hh_ad B' e0') = va_cpy (fun j => (f.getD j none).map (hh_ad B' e0')) (fun j => (g.getD j none).map (hh_ad B' e0')) sp.toNatClampNeg dp.toNatClampNeg n.toNatClampNeg j := by
          intro j hj
          have q1 : (hp_cpl f g sp.toNatClampNeg dp.toNatClampNeg n.toNatClampNeg)[j]? = none := List.getElem?_eq_none (by rw [hlen]; omega)
          have q2 : g[j]? = none := List.getElem?_eq_none (by omega)
          simp only [List.getD_eq_getElem?_getD, q1, va_cpy]
          rw [if_neg (by omega), q2]
        congr 1
        funext j
        by_cases hj : j < g.length
        · rw [hfun j hj]
        · rw [hout j hj]
      rw [e1] at Y' step
      have hl2 : hh_ad B' e0' b < H.size := (Array.getElem?_eq_some_iff.mp hc1).1
      have hheap : ((T.setVm vm').setCell (hh_ad B' e0' b) (vp_cell (cT 4) (hh_a B' e0' (.inr (.inr (.inr (hp_cpl f g sp.toNatClampNeg dp.toNatClampNeg n.toNatClampNeg))))))).heap = H.setIfInBounds (hh_ad B' e0' b) (vp_cell (cT 4) (hh_a B' e0' (.inr (.inr (.inr (hp_cpl f g sp.toNatClampNeg dp.toNatClampNeg n.toNatClampNeg)))))) := by rw [← hT]; rfl
      have hS1 := hh_S_set (i := 0) (e' := .inl (4, .inr (.inr (.inr (hp_cpl f g sp.toNatClampNeg dp.toNatClampNeg n.toNatClampNeg))))) (H1 := H.setIfInBounds (hh_ad B' e0' b) (vp_cell (cT 4) (hh_a B' e0' (.inr (.inr (.inr (hp_cpl f g sp.toNatClampNeg dp.toNatClampNeg n.toNatClampNeg))))))) hS heb (hh_nn h6) (show (H.setIfInBounds _ _)[_]? = some _ by simp [Array.getElem?_setIfInBounds, hl2]) (by simp) (fun q hq => by simp [Array.getElem?_setIfInBounds, Ne.symm hq])
      obtain ⟨t, a1, b1⟩ := kk _ _ ls ⟨hS1.1, hS1.2.1, hS1.2.2.1, hS1.2.2.2.1, fun q hq => by
        rcases List.mem_append.mp hq with z | z
        · exact hS.2.2.2.2 q z
        · obtain ⟨w, -, hw2⟩ := List.mem_map.mp z
          rw [← hw2]
          exact hS1.2.2.2.2 ⟨hh_ad B' e0' b, 0⟩ (List.mem_append_right _ List.mem_cons_self)⟩ hl _ hheap Y'
      exact ⟨t, step t a1, b1⟩
  · cases hv
end Lists
end
section
-- Arrays.copyOf over arrays of objects
/-- an array of objects that is not empty -/
def hp_refs1 (h : hh_H) (a : Nat) : Option (List (Option Nat)) := (hp_refs h a 4).bind fun f => if f.length = 0 then none else some f
theorem hp_refs1_of {h : hh_H} {a : Nat} {f : List (Option Nat)} (hv : hp_refs1 h a = some f) : hp_refs h a 4 = some f ∧ f.length ≠ 0 := by
  unfold hp_refs1 at hv
  obtain ⟨g, h1, h2⟩ := hp_bind hv
  split at h2
  · cases h2
  · rename_i hn
    cases h2
    exact ⟨h1, hn⟩
def f_Arrays_copyOf (F : Nat) (a0 : Nat) (x1 : Int32) (h : hh_H) : Option (Nat × hh_H) :=
  (hp_refs1 h a0).bind fun _ =>
  hp_cb (hp_na h 4 x1 80) fun b2 h3 =>
  (hp_len h3 a0).bind fun v5 =>
  hp_cb (hp_cp h3 a0 0 b2 0 (if x1 < v5 then x1 else v5)) fun q6 h7 =>
  some (b2, h7)
section CopyOf
variable {X : hh_X} {B e0 : Nat} {cc : ByteArray} {own : String} {nL : Nat} {ret : Option FieldType} {nm : String} {R : Room} {cn sn pc idx mc ms : Nat} {lv : List (Nat × Value)} {st : List Value} {h h' : hh_H}
/-- the state at the method's entry knows the class object of Object[] -/
def hh_mi (X : hh_X) (mi : Nat) : Prop := match X with
  | (_, _, _, _, s, _) => va_Mi "[Ljava/lang/Object;" mi s
theorem r_ldcM {mi : Nat} (C : hh_ok X B e0 cc own nL ret nm R) (hM : hh_mi X mi) (d : decode cc pc = .ok (.ldc idx, 2)) (hw : Cond.classLink own idx "[Ljava/lang/Object;" ∈ hh_T) (kk : hh_W X cn sn (pc + 2) lv (.ref mi :: st) h) : hh_W X cn sn pc lv st h := by
  obtain ⟨p, l, e, R', s, m, args, below, meth, c, Q, D, cT, B', e0', nL'⟩ := X
  obtain ⟨hx, hb, hml, hown, hts, hK, hlk, hrt, hnm, rfl, rfl, rfl, rfl, hB, hA, hcA⟩ := C
  intro H locs ls hS hl
  exact va_ldcM hx hb hown (hts _ hw) hM d (kk H locs ls hS hl)
theorem r_acmp_same {q : Nat} {off : Int} (C : hh_ok X B e0 cc own nL ret nm R) (d : decode cc pc = .ok (.if_acmp .ne off, 3)) {tgt : Nat} (ht : (pc : Int) + off = (tgt : Int)) (kk : hh_W X cn sn (pc + 3) lv st h) : hh_W X cn sn pc lv (.ref q :: .ref q :: st) h := by
  obtain ⟨p, l, e, R', s, m, args, below, meth, c, Q, D, cT, B', e0', nL'⟩ := X
  obtain ⟨hx, hb, hml, hown, hts, hK, hlk, hrt, hnm, rfl, rfl, rfl, rfl, hB, hA, hcA⟩ := C
  intro H locs ls hS hl
  exact lv_acmp_ne (rx := some q) (ry := some q) hx hb d ht (fun z => absurd rfl z) (fun _ => kk H locs ls hS hl)
theorem r_getC {a mi : Nat} {f : List (Option Nat)} (C : hh_ok X B e0 cc own nL ret nm R) (hM : hh_mi X mi) (d : decode cc pc = .ok (.invokevirtual idx, 3)) (hw : Cond.methodLink own idx ⟨"java/lang/Object", "getClass", "()Ljava/lang/Class;"⟩ ∈ hh_T) (ha : h[a]? = some (.inl (4, .inr (.inr (.inr f))))) (hfl : f.length ≠ 0) (hR : 1 ≤ R.frames ∧ 22 ≤ R.locals) (hst : (st.map fun v => v.category).sum ≤ 8)
    (kk : hh_W X cn sn (pc + 3) lv (.ref mi :: st) h) : hh_W X cn sn pc lv (.ref (hh_ad B e0 a) :: st) h := by
  obtain ⟨p, l, e, R', s, m, args, below, meth, c, Q, D, cT, B', e0', nL'⟩ := X
  obtain ⟨hx, hb, hml, hown, hts, hK, hlk, hrt, hnm, rfl, rfl, rfl, rfl, hB, hA, hcA⟩ := C
  intro H locs ls hS hl
  exact va_getC (C := "[Ljava/lang/Object;") hx hb (hml.trans hl.1.symm) hown (hts _ hw) (va_Nw.use rfl (hcA.2.1 _ (hh_at2 1402 (by decide +kernel) (by decide +kernel)))) (hts _ (hh_at 1401 (by decide +kernel) (by decide +kernel))) (hts _ (hh_at 830 (by decide +kernel) (by decide +kernel))) (hts _ (hh_at 850 (by decide +kernel) (by decide +kernel))) hM
    ⟨_, hS.1 (a - 1) _ (hh_w_get (hh_p0 hS.2.1.1 ha (hh_nn hfl)) ha), rfl, hcA.1.2.2.2.2.1⟩ hR.1 (by have := hR.2; omega) d (kk H locs ls hS hl)
end CopyOf
def mc_Arrays_copyOf : Nat := 1
def ms_Arrays_copyOf : Nat := 80
def rm_Arrays_copyOf1 : Room := { frames := 1, cells := 1, slots := 80, locals := 40 }
def rm_Arrays_copyOf : Room := { frames := 2, cells := 1, slots := 80, locals := 70 }
set_option maxRecDepth 100000 in
set_option maxHeartbeats 4000000 in
theorem w_Arrays_copyOf1 {X : hh_X} {B e0 mi : Nat} {rr : Nat × hh_H} (C : hh_ok X B e0 cJ5_copyOf1 RJ5 4 (some (.array (.object "java/lang/Object"))) "copyOf" rm_Arrays_copyOf1) (hM : hh_mi X mi) (E : hh_End X B e0 (.returned (some (.ref (hh_ad B e0 rr.1)))) rr.2 1 80) (F : Nat) (a0 : Nat) (x1 : Int32) (h : hh_H) (hf : f_Arrays_copyOf F a0 x1 h = some rr) :
    hh_W X 0 0 0 [(0, .ref (hh_ad B e0 a0)), (1, .int x1), (2, .ref mi)] [] h := by
  unfold f_Arrays_copyOf at hf
  obtain ⟨_, _, hf⟩ := hp_bind hf
  refine r_aload_n C dJ5_copyOf1_0 rfl 2 rfl ?_
  refine r_ldcM C hM dJ5_copyOf1_1 (hh_at 854 (by decide +kernel) (by decide +kernel)) ?_
  refine r_acmp_same C dJ5_copyOf1_3 (tgt := 13) (by decide) ?_
  refine r_iload_n C dJ5_copyOf1_6 rfl 1 rfl ?_
  obtain ⟨b2, h3, e4, hf⟩ := hp_cbe hf
  refine r_naq (bd := 80) C dJ5_copyOf1_7 (hh_at 856 (by decide +kernel) (by decide +kernel)) (by decide) (by decide) (by decide) e4 ?_
  refine r_goto C dJ5_copyOf1_10 (tgt := 24) (by decide) ?_
  refine r_astore_n (lv' := [(3, .ref (hh_ad B e0 b2)), (0, .ref (hh_ad B e0 a0)), (1, .int x1), (2, .ref mi)]) C dJ5_copyOf1_24 rfl (by decide) rfl ?_
  refine r_aload_n C dJ5_copyOf1_25 rfl 1 rfl ?_
  refine r_iconst C dJ5_copyOf1_26 (v := 0) (by decide) ?_
  refine r_aload_n C dJ5_copyOf1_27 rfl 0 rfl ?_
  refine r_iconst C dJ5_copyOf1_28 (v := 0) (by decide) ?_
  refine r_aload_n C dJ5_copyOf1_29 rfl 1 rfl ?_
  obtain ⟨v5, e5, hf⟩ := hp_bind hf
  refine r_alen C dJ5_copyOf1_30 e5 ?_
  refine r_iload_n C dJ5_copyOf1_31 rfl 2 rfl ?_
  refine r_mmin C dJ5_copyOf1_32 (hh_at 639 (by decide +kernel) (by decide +kernel)) (by decide) (Nat.le_of_ble_eq_true rfl) (by decide) (by decide) ?_
  obtain ⟨q6, h7, e7, hf⟩ := hp_cbe hf
  refine r_arraycopy C dJ5_copyOf1_35 (hh_at 640 (by decide +kernel) (by decide +kernel)) (by decide) (Nat.le_of_ble_eq_true rfl) e7 ?_
  refine r_aload_n C dJ5_copyOf1_38 rfl 0 rfl ?_
  exact r_areturn C E dJ5_copyOf1_39 (Or.inr ⟨_, rfl⟩) (by decide) (by decide) hf
theorem c_Arrays_copyOf1 (B e0 F mi : Nat) (a0 : Nat) (x1 : Int32) (h : hh_H) (rr : Nat × hh_H) (hf : f_Arrays_copyOf F a0 x1 h = some rr) (l : Launch) (D : va_G) (cT : Nat → ClassId) :
    Met l yJ5_copyOf1 (.code yJ5_copyOf1 cJ5_copyOf1 4 (some (.array (.object "java/lang/Object"))) :: hh_T) rm_Arrays_copyOf1 (fun v U => hh_Pc D cT B e0 [.ref (hh_ad B e0 a0), .int x1, .ref mi] h v U ∧ va_Mi "[Ljava/lang/Object;" mi U) (hh_Q D cT B e0 (.returned (some (.ref (hh_ad B e0 rr.1)))) rr.2) 1 80 (fun q => B ≤ q) := by
  refine Met.ofW (cc := cJ5_copyOf1) (maxL := 4) (ret := some (.array (.object "java/lang/Object"))) (by decide) rfl ?_
  intro p e s m args below meth c s₁ Bd hml hv
  obtain ⟨⟨rfl, hP, hsz, hK, hcls⟩, hmi⟩ := hv
  have hts := atoms_spec (ws := .code yJ5_copyOf1 cJ5_copyOf1 4 (some (.array (.object "java/lang/Object"))) :: hh_T) Bd.pre
  have hown : s.vm.findClass yJ5_copyOf1.cls = some m.cls := findClass_of_methodNamed Bd.named
  have hl := lv_entry [.ref (hh_ad B e0 a0), .int x1, .ref mi] (n := 4) (Nat.le_of_ble_eq_true rfl)
  rw [lg_entry_eq]
  exact w_Arrays_copyOf1 (X := (p, l, e, rm_Arrays_copyOf1, s, m, [.ref (hh_ad B e0 a0), .int x1, .ref mi].toArray, below, meth, c, _, D, cT, B, e0, 4)) ⟨Bd.exec, Bd.bytes, hml, hown, fun w hw => hts w (List.mem_cons_of_mem _ hw), hK, Bd.notSynchronized, Bd.returns, (name_of_methodNamed Bd.named Bd.method).1, rfl, rfl, rfl, rfl, hh_sz hsz, fun q hq => Nat.le_trans (hh_sz hsz) hq, hcls⟩ hmi rfl F a0 x1 h hf s.heap [] _ ⟨hP, hsz, va_S.rf⟩ hl
theorem cs_copyOf1 : hh_CS RJ5 300 yJ5_copyOf1 cJ5_copyOf1 4 (some (.array (.object "java/lang/Object"))) 3 [.static yJ5_copyOf1] := ⟨hh_at 853 (by decide +kernel) (by decide +kernel), hh_at 851 (by decide +kernel) (by decide +kernel), hh_at 60 (by decide +kernel) (by decide +kernel), hh_all1 (hh_at 852 (by decide +kernel) (by decide +kernel)), by decide +kernel⟩
theorem r_callSM {X : hh_X} {B e0 : Nat} {cc : ByteArray} {own : String} {nL : Nat} {ret : Option FieldType} {nm : String} {R : Room} {cn sn pc idx mc ms : Nat} {lv : List (Nat × Value)} {st : List Value} {h h' : hh_H} {y : MethodName} {yb : ByteArray} {ym n mi : Nat} {yr : Option FieldType} {rm : Room} {v : Option Value}
    (C : hh_ok X B e0 cc own nL ret nm R) (hX : hh_mi X mi) (d : decode cc pc = .ok (.invokestatic idx, 3)) (S : hh_CS own idx y yb ym yr n [.static y])
    {As : List Value} (hM : ∀ (l : Launch) (D : va_G) (cT : Nat → ClassId), Met l y (.code y yb ym yr :: hh_T) rm (fun w U => hh_Pc D cT B e0 As h w U ∧ va_Mi "[Ljava/lang/Object;" mi U) (hh_Q D cT B e0 (.returned v) h') mc ms (fun q => B ≤ q)) (hn : As.length = n) (hrc : rm.cells = mc) (hrs : rm.slots = ms) (hR : rm.frames + 1 ≤ R.frames ∧ 8 + (ym + 11) + rm.locals ≤ R.locals) (hf : cn + mc ≤ R.cells ∧ sn + ms ≤ R.slots) (hst : (st.map fun v => v.category).sum ≤ 8)
    {st0 : List Value} (he : st0 = As.reverse ++ st) (kk : hh_W X (cn + mc) (sn + ms) (pc + 3) lv (v.toList ++ st) h') : hh_W X cn sn pc lv st0 h := by
  obtain ⟨p, l, e, R', s, m, args, below, meth, c, Q, D, cT, B', e0', nL'⟩ := X
  obtain ⟨hx, hb, hml, hown, hts, hK, hlk, hrt, hnm, rfl, rfl, rfl, rfl, hB, hA, hcA⟩ := C
  obtain ⟨s1, s2, s3, s4, s5⟩ := S
  subst he
  intro H locs ls hS hl
  refine hh_back (va_runS (As := As) (rest := st) ⟨hx, hb, hml, hown, hts⟩ (hM l D cT) ⟨callB_of n hts (hh_goodC s1) rfl hrc hrs (hts _ s3) (hts _ s2) s5 hR, hts _ (s4 _ (by simp))⟩ ⟨fun a U g mk q => ⟨hh_blind a U g mk q.1, va_Mi.moved (u := U) (U := U.calling g mk a) (Vm.Alike.refl U.vm) q.2⟩, fun U hU hW => ⟨hh_pre hS hK hcA hB hU hW, va_Mi.moved hW.alike hX⟩⟩ rfl hn (by exact hl.1) rfl (lv_room hst) d hf) hS (fun H1 locs1 hS1 => kk H1 locs1 ls hS1 hl)
set_option maxRecDepth 100000 in
set_option maxHeartbeats 4000000 in
theorem w_Arrays_copyOf {X : hh_X} {B e0 : Nat} {rr : Nat × hh_H} (C : hh_ok X B e0 cJ5_copyOf RJ5 2 (some (.array (.object "java/lang/Object"))) "copyOf" rm_Arrays_copyOf) (E : hh_End X B e0 (.returned (some (.ref (hh_ad B e0 rr.1)))) rr.2 1 80) (F : Nat) (a0 : Nat) (x1 : Int32) (h : hh_H) (hf : f_Arrays_copyOf F a0 x1 h = some rr) :
    hh_W X 0 0 0 [(0, .ref (hh_ad B e0 a0)), (1, .int x1)] [] h := by
  obtain ⟨mi, hM⟩ : ∃ mi, hh_mi X mi := by
    obtain ⟨p, l, e, R', s, m, args, below, meth, c, Q, D, cT, B', e0', nL'⟩ := X
    exact C.2.2.2.2.2.2.2.2.2.2.2.2.2.2.2.2.2.2.1
  obtain ⟨f, hfa, hfl⟩ : ∃ f, hp_refs h a0 4 = some f ∧ f.length ≠ 0 := by
    have hf0 := hf
    unfold f_Arrays_copyOf at hf0
    obtain ⟨f, e1, -⟩ := hp_bind hf0
    exact ⟨f, hp_refs1_of e1⟩
  have hfa := hp_refs_of hfa
  refine r_aload_n C dJ5_copyOf_0 rfl 0 rfl ?_
  refine r_iload_n C dJ5_copyOf_1 rfl 1 rfl ?_
  refine r_aload_n C dJ5_copyOf_2 rfl 0 rfl ?_
  refine r_getC C hM dJ5_copyOf_3 (hh_at 829 (by decide +kernel) (by decide +kernel)) hfa hfl (by decide) (Nat.le_of_ble_eq_true rfl) ?_
  exact r_callSM C hM dJ5_copyOf_6 cs_copyOf1 (As := [.ref (hh_ad B e0 a0), .int x1, .ref mi]) (v := some (.ref (hh_ad B e0 rr.1))) (c_Arrays_copyOf1 B e0 F mi a0 x1 h rr hf) rfl rfl rfl ⟨by decide, by decide⟩ ⟨by decide, by decide⟩ (Nat.le_of_ble_eq_true rfl) rfl (r_areturn C E dJ5_copyOf_9 (Or.inr ⟨_, rfl⟩) (by decide) (by decide) rfl)
theorem c_Arrays_copyOf (B e0 F : Nat) (a0 : Nat) (x1 : Int32) (h : hh_H) (rr : Nat × hh_H) (hf : f_Arrays_copyOf F a0 x1 h = some rr) : hh_Met yJ5_copyOf cJ5_copyOf 2 (some (.array (.object "java/lang/Object"))) rm_Arrays_copyOf mc_Arrays_copyOf ms_Arrays_copyOf B e0 [.ref (hh_ad B e0 a0), .int x1] h (.returned (some (.ref (hh_ad B e0 rr.1)))) rr.2 :=
  hh_met (by decide) (Nat.le_of_ble_eq_true rfl) fun X C E => w_Arrays_copyOf C E F a0 x1 h hf
end
section
-- throws: a walk begun anew in its middle, and 'new E("..")' thrown
theorem hh_rebase {p : Program} {l : Launch} {e : Env} {R : Room} {s : State} {m : MethodId} {args : Array Value} {below : List Frame} {meth : Method} {c : Code} {T : State} {locs : List Loc} {cells slots : Nat} (X : Stand p l e R s m args below meth c T locs cells slots) (hc : cells ≤ R.cells) (hs : slots ≤ R.slots) :
    Stand p l e { R with cells := R.cells - cells, slots := R.slots - slots } (T.setFrames (.invoking m args :: below)) m args below meth c T [] 0 0 := by
  obtain ⟨g₀, hfr⟩ := X.frames_eq
  have hcur : T.cur < T.threads.size := State.cur_lt_of_frames hfr
  have hf1 : (T.setFrames (.invoking m args :: below)).frames = .invoking m args :: below := State.frames_setFrames _ hcur
  have hm : T.vm.method? m = some meth := X.method'
  have hm1 : (T.setFrames (.invoking m args :: below)).vm.method? m = some meth := hm
  obtain ⟨th, hth, -⟩ := State.frames_cons hf1
  refine ⟨X.admits, X.cas, X.clock, hf1, ?_, ?_, hm1, X.code, X.here, X.tail, State.WarmedH.refl _, by rw [State.stackLimits_setFrames], by rw [State.stackBytes_setFrames], ?_⟩
  · have h0 := X.room
    have r1 := X.cellsAbove (n := R.cells - cells) (by omega)
    have r2 := X.slotsAbove (n := R.slots - slots) (by omega)
    simp only [State.hasRoom, Bool.and_eq_true, decide_eq_true_eq] at h0 ⊢
    rw [State.localsInUse_invoking X.frames X.method X.code] at h0
    rw [State.localsInUse_invoking hf1 hm1 X.code, hf1, State.stackLimits_setFrames, State.stackBytes_setFrames]
    rw [X.frames] at h0
    obtain ⟨⟨⟨⟨q1, q2, q3, q4, q5, q6⟩, q7⟩, q8⟩, q9⟩ := h0
    rw [X.limits, X.bytes]
    exact ⟨⟨⟨⟨q1, q2, q3, q4, q5, q6⟩, r1⟩, r2⟩, X.book⟩
  · have h0 := X.hears
    have hal := X.warmed.alike
    unfold State.hears at h0 ⊢
    split at h0
    · rename_i g r
      simp only [State.code?_eq] at h0 ⊢
      show ((((T.vm.method? g.method).bind (·.code)).bind fun c => (decode c.code g.pc).toOption).isSome) = true
      rw [hal.method?]
      exact h0
    · rfl
    · rfl
    · show ((T.vm.method? m).any (·.sig.returnType.isNone)) = true
      rw [hal.method?]
      exact h0
  · have h := (State.sameButNew.refl (T.setFrames (.invoking m args :: below)) hth).setFrames T.frames (State.cur_lt_of_frames hf1)
    have e1 : (T.setFrames (.invoking m args :: below)).setFrames T.frames = T := by
      rw [State.setFrames_setFrames]
      obtain ⟨th0, hth0, -⟩ := State.frames_cons hfr
      exact State.setFrames_self hth0
    rw [e1] at h
    exact h
theorem hh_up0 {H0 H : Heap} (hk : ∀ q : Nat, q < H0.size → H[q]? = H0[q]?) {a : Nat} {c : Cell} (h : H0[a]? = some c) : H[a]? = some c := by
  rw [hk a (Array.getElem?_eq_some_iff.mp h).1]
  exact h
theorem hh_lays_up {o n d : String} {args : Array Value} {U : State} {H0 : Heap} (h : (Cond.laysStatic o n d).before #[] ({ U with heap := H0 } : State) = true) (hk : ∀ q : Nat, q < H0.size → U.heap[q]? = H0[q]?) : (Cond.laysStatic o n d).before args U = true := by
  have h1 : (Cond.laysStatic o n d).value #[] ({ U with heap := H0 } : State) none ({ U with heap := H0 } : State) [] = some true := by
    have := h
    simp only [Cond.before, Cond.holds, beq_iff_eq] at this
    exact this
  have h2 : (Cond.laysStatic o n d).value args U none U [] = some true := by
    simp only [Cond.value] at h1 ⊢
    have e1 : ({ U with heap := H0 } : State).fieldFound? o n d = U.fieldFound? o n d := rfl
    rw [e1] at h1
    cases hc : U.vm.findClass o with
    | none => simp [hc] at h1
    | some c =>
      cases hf : U.fieldFound? o n d with
      | none => simp [hc, hf] at h1
      | some x =>
        obtain ⟨c', k, i, f⟩ := x
        simp only [hc, hf] at h1 ⊢
        cases hs : k.statics with
        | none => simp [hs] at h1
        | some a =>
          simp only [hs, Option.bind_some] at h1 ⊢
          cases ha : H0[a]? with
          | none => simp [ha] at h1
          | some cell =>
            rw [hh_up0 hk ha]
            simp only [ha] at h1
            exact h1
  simp only [Cond.before, Cond.holds, beq_iff_eq]
  exact h2
theorem hh_ref_up {o n d : String} {args : Array Value} {U : State} {H0 : Heap} (h : (Cond.isRef (.static o n d)).before #[] ({ U with heap := H0 } : State) = true) (hk : ∀ q : Nat, q < H0.size → U.heap[q]? = H0[q]?) : (Cond.isRef (.static o n d)).before args U = true := by
  have h1 : (Cond.isRef (.static o n d)).value #[] ({ U with heap := H0 } : State) none ({ U with heap := H0 } : State) [] = some true := by
    have := h
    simp only [Cond.before, Cond.holds, beq_iff_eq] at this
    exact this
  have h2 : (Cond.isRef (.static o n d)).value args U none U [] = some true := by
    simp only [Cond.value, Term.eval] at h1 ⊢
    have e1 : ({ U with heap := H0 } : State).fieldNamed? o n d true = U.fieldNamed? o n d true := rfl
    rw [e1] at h1
    cases hf : U.fieldNamed? o n d true with
    | none => simp [hf] at h1
    | some x =>
      obtain ⟨c', k, i⟩ := x
      simp only [hf] at h1 ⊢
      cases hs : k.statics with
      | none => simp [hs] at h1
      | some a =>
        cases ha : H0[a]? with
        | none => simp [hs, ha] at h1
        | some cell =>
          have hu := hh_up0 hk ha
          simp only [hs, ha, hu, bind, Option.bind_some] at h1 ⊢
          exact h1
  simp only [Cond.before, Cond.holds, beq_iff_eq]
  exact h2
theorem hh_T3_up {w : Cond} (hw : w ∈ hh_T3) {args : Array Value} {U : State} {H0 : Heap} (h : w.before #[] ({ U with heap := H0 } : State) = true) (hk : ∀ q : Nat, q < H0.size → U.heap[q]? = H0[q]?) : w.before args U = true := by
  simp only [hh_T3, List.mem_cons, List.not_mem_nil, or_false] at hw
  rcases hw with rfl | rfl | rfl | rfl
  · exact hh_lays_up h hk
  · exact hh_lays_up h hk
  · exact hh_ref_up h hk
  · exact hh_ref_up h hk
/-- the words of 'throw new E("..")' where E's constructor has the bytes rx and names its parent's at ix -/
def hh_oa (own : String) (ic : Nat) (E : String) (ix : Nat) (rx : ByteArray) : List Cond :=
  [.methodLink own ic (Jvm.Bundle.initS E), .instantiable E 6, .selects E Jvm.Bundle.tFill0 Jvm.Bundle.tFill0, .selects E Jvm.Bundle.tFill Jvm.Bundle.tFill, .lays E Jvm.Bundle.tN "cause" "Ljava/lang/Throwable;", .lays E Jvm.Bundle.tN "stackTrace" Jvm.Bundle.steD, .lays E Jvm.Bundle.tN "suppressedExceptions" Jvm.Bundle.listD, .lays E Jvm.Bundle.tN "detailMessage" "Ljava/lang/String;", .lays E Jvm.Bundle.tN "backtrace" "Ljava/lang/Object;",
   .isRef (.static Jvm.Bundle.tN "UNASSIGNED_STACK" Jvm.Bundle.steD), .isRef (.static Jvm.Bundle.tN "SUPPRESSED_SENTINEL" Jvm.Bundle.listD), .fieldLink Jvm.Bundle.tN 198 Jvm.Bundle.tN "backtrace" "Ljava/lang/Object;", .lays Jvm.Bundle.tN Jvm.Bundle.tN "backtrace" "Ljava/lang/Object;"] ++
  Jvm.Bundle.throwableAtoms ++ Jvm.Bundle.throwableSAtoms ++ Jvm.Bundle.passSAtoms E "java/lang/RuntimeException" ix rx ++ Jvm.Bundle.chainSAtoms "java/lang/RuntimeException" ["java/lang/Exception"]
def hh_six (rx : ByteArray) (ix : Nat) : Prop := decode rx 0 = .ok (.aload_n 0, 1) ∧ decode rx 1 = .ok (.aload_n 1, 1) ∧ decode rx 2 = .ok (.invokespecial ix, 3) ∧ decode rx 5 = .ok (.return_, 1)
set_option maxHeartbeats 2000000 in
/-- from the constructor's call on: the exception leaves the method, its cell keeps its class -/
theorem hh_ctorT {p : Program} {l : Launch} {e : Env} {R : Room} {s : State} {m : MethodId} {args : Array Value} {below : List Frame} {meth : Method} {c : Code} {W : State} {cells slots : Nat} (X : Stand p l e R s m args below meth c W [] cells slots) (hexec : p.tables.exec = Jvm.exec) (htr : e.platform.stackTraces = false) {own E : String} {ic ix : Nat} {rx : ByteArray} (h6 : hh_six rx ix)
    (hown : s.vm.findClass own = some m.cls) (hE : Jvm.Bundle.fit E = true) (h : ∀ w ∈ hh_oa own ic E ix rx, w.before args s = true)
    {a : Addr} {cX : ClassId} {kX : Class} (hf : s.vm.findClass E = some cX) (hkX : s.vm.classes[cX]? = some kX) (hcell : W.heap[a]? = some (freshCell cX kX)) (hnew : s.heap.size ≤ a)
    {msg : Value} (hmsg : msg.isRef = true) {g : JFrame} (hg : g.method = m) (hsize : g.locals.size = c.maxLocals) (hlocked : g.locked = none) (hentered : g.entered = []) {rest : List Value} (hstack : g.stack = msg :: .ref a :: .ref a :: rest)
    (d0 : decode c.code g.pc = .ok (.invokespecial ic, 3)) (d3 : decode c.code (g.pc + 3) = .ok (.athrow, 1)) (hout : ∀ x ∈ c.exceptionTable.toList, covers x (g.pc + 3) = false)
    (hRf : 5 < R.frames) (hRl : 2 * g.monitorRoom + ((Value.ref a :: rest).map fun v => v.category).sum + 81 ≤ R.locals) (hlocks : meth.locks = false) :
    ∃ U : State, Steps p.tables e below (W.setTop g) U ∧ U.status = .running ∧ Ended U below (.threw a) ∧ s.WarmedH U.vm ∧ s.sameButNew ({ U with vm := s.vm } : State) [] cells slots ∧ ∃ ce, U.heap[a]? = some ce ∧ ce.cls = cX ∧ ce.vm = .none := by
  have hmon : e.platform.frameOwnsMonitors = true := by rw [X.admits.platform]
  have hfin : e.platform.finalization = false := by rw [X.admits.platform]
  have hmag : e.platform.magicAccessors = ({} : Platform).magicAccessors := by rw [X.admits.platform]
  have k : ∀ w, w ∈ hh_oa own ic E ix rx → w.holds args s none s [] = true := fun w hw => h w hw
  obtain ⟨T, Z0, L, -, Y⟩ := ThrowableC.of_atoms (args := args) hmon hfin hmag (fun w hw => h w (by simp [hh_oa, hw]))
  obtain ⟨Z, M, LZ, LM, hZ⟩ := Init0T.ofS_atoms (args := args) hmag L Y (fun w hw => h w (by simp [hh_oa, hw]))
  obtain ⟨Q, LQ, hQm, hQs⟩ := PassC.ofS_atoms (args := args) (s := s) hmag (X := E) (Y := "java/lang/RuntimeException") (Jvm.Bundle.fit_spec hE).1 (by decide) h6.1 h6.2.1 h6.2.2.1 h6.2.2.2 (fun w hw => h w (by simp [hh_oa, hw]))
  obtain ⟨P1, Ps, hlen, L1, hL, hP1, hl1, hl2⟩ := Jvm.Bundle.chainS (args := args) hmag hZ ["java/lang/Exception"] "java/lang/RuntimeException" (by decide +kernel) (by decide +kernel) (fun w hw => h w (by simp [hh_oa, hw]))
  have hfE : s.vm.findClass E = some Q.m.cls := findClass_of_methodNamed hQm
  cases Option.some.inj (hf.symm.trans hfE)
  have hsup : Q.sup = P1.m := Option.some.inj (hQs.symm.trans hP1)
  obtain ⟨c1, k1, hc1, hk, hord, -, -, -⟩ := Cond.instantiable_spec (k (.instantiable E 6) (by simp [hh_oa]))
  cases Option.some.inj (hc1.symm.trans hfE)
  cases Option.some.inj (hkX.symm.trans hk)
  have sel : ∀ {y : MethodName} {r : MethodId}, s.methodNamed? y = some r → (Cond.selects E y y).holds args s none s [] = true → s.methodFound? y.cls y.name y.desc = some r → selectMethod e.platform s.vm Q.m.cls r = .method r := by
    intro y r hy hw hfnd
    obtain ⟨c2, r2, m2, q1, q2, q3, q4, -⟩ := Cond.selects_spec hw
    cases Option.some.inj (q1.symm.trans hfE)
    cases Option.some.inj (q2.symm.trans hfnd)
    cases Option.some.inj (q3.symm.trans hy)
    rw [Launch.admits_selectMethod X.admits]
    exact q4
  have s0 := sel Y.fill0 (k (.selects E Jvm.Bundle.tFill0 Jvm.Bundle.tFill0) (by simp [hh_oa])) (State.methodFound?_of_named Y.fill0 (by decide))
  have s1 := sel Y.fill (k (.selects E Jvm.Bundle.tFill Jvm.Bundle.tFill) (by simp [hh_oa])) (State.methodFound?_of_named Y.fill (by decide))
  obtain ⟨cS, hcS, hst⟩ := Y.statics
  obtain ⟨u0, hu0⟩ := Cond.staticRefV Y.unassigned L.unassignedStatic L.statics hcS hst (k (.isRef (.static Jvm.Bundle.tN "UNASSIGNED_STACK" Jvm.Bundle.steD)) (by simp [hh_oa]))
  obtain ⟨sen, hsen⟩ := Cond.staticRefV Y.sentinel L.sentinelStatic L.statics hcS hst (k (.isRef (.static Jvm.Bundle.tN "SUPPRESSED_SENTINEL" Jvm.Bundle.listD)) (by simp [hh_oa]))
  obtain ⟨j1, j2, fB, b1, b2, b3, b4, -, b5, b6, b7⟩ := Cond.ownField (t := .object "java/lang/Object") Y.found L.cls (by decide +kernel) (k (.fieldLink Jvm.Bundle.tN 198 Jvm.Bundle.tN "backtrace" "Ljava/lang/Object;") (by simp [hh_oa])) (k (.lays Jvm.Bundle.tN Jvm.Bundle.tN "backtrace" "Ljava/lang/Object;") (by simp [hh_oa])) e.platform hmag
  obtain ⟨cW, hcW, eW, -, keep⟩ := X.same.2.2.2.2.2 T.aS cS hcS
  have hcW' : W.heap[T.aS]? = some cW := hcW
  have hkn : cW.vm ≠ .unknown := by
    rw [eW]
    intro hu
    have : cS.vm = .unknown := hu
    rw [this] at hst
    cases hst
  have hne : T.aS ≠ a := Nat.ne_of_lt (Nat.lt_of_lt_of_le (Array.getElem?_eq_some_iff.mp hcS).1 hnew)
  obtain ⟨iM, hM⟩ := Y.msg
  obtain ⟨t1, _, x1, n1⟩ := Cond.laysAt hfE hk Y.cause (k (.lays E Jvm.Bundle.tN "cause" "Ljava/lang/Throwable;") (by simp [hh_oa]))
  obtain ⟨t2, _, x2, n2⟩ := Cond.laysAt hfE hk Y.stack (k (.lays E Jvm.Bundle.tN "stackTrace" Jvm.Bundle.steD) (by simp [hh_oa]))
  obtain ⟨t3, _, x3, n3⟩ := Cond.laysAt hfE hk Y.supp (k (.lays E Jvm.Bundle.tN "suppressedExceptions" Jvm.Bundle.listD) (by simp [hh_oa]))
  obtain ⟨t4, _, x4, n4⟩ := Cond.laysAt hfE hk hM (k (.lays E Jvm.Bundle.tN "detailMessage" "Ljava/lang/String;") (by simp [hh_oa]))
  obtain ⟨t5, _, x5, n5⟩ := Cond.laysAt hfE hk b7 (k (.lays E Jvm.Bundle.tN "backtrace" "Ljava/lang/Object;") (by simp [hh_oa]))
  have y1 := Cond.laysApart x5 x1 n5 n1 (by rw [b5, Y.causeName]; decide)
  have y2 := Cond.laysApart x5 x2 n5 n2 (by rw [b5, Y.stackName]; decide)
  have y3 := Cond.laysApart x5 x3 n5 n3 (by rw [b5, Y.suppName]; decide)
  have hskip : SkipFacts T e.platform s (fun u => u) u0 ((preparedCellV T.toThrowableT (freshCell Q.m.cls kX) a u0 sen).withEntry W.cur) := by
    refine ⟨{ ci198 := j1, i198 := j2, fBack := fB }, ⟨b1, b2, b3, b4⟩, ?_, fun _ _ => rfl⟩
    have := fresh_default (c := Q.m.cls) t5
    rw [b6] at this
    simpa [preparedCellV, Cell.setSlot, Cell.withEntry, Array.getElem?_setIfInBounds, y1, y2, y3, y1.symm, y2.symm, y3.symm, defaultValue] using this
  obtain ⟨tm, -, -, -, vm1, hnC, -, -, -, -, -, -, -, hW1, st1⟩ := Steps.initColdS (tb := p.tables) (e := e) (below := below) (s := s) (U := W) X.here hexec X.warmed hmag hown (t := Jvm.Bundle.initS E) rfl rfl (Jvm.Bundle.fit_spec hE).2
    (k (.methodLink own ic (Jvm.Bundle.initS E)) (by simp [hh_oa])) (h (.instanceMethod (Jvm.Bundle.initS E)) (by simp [hh_oa, Jvm.Bundle.passSAtoms])) (bytes := rx) (maxL := 2) (h (.code (Jvm.Bundle.initS E) rx 2 none) (by simp [hh_oa, Jvm.Bundle.passSAtoms]))
    (f := g) hg (a := a) (msg := msg) (rest := .ref a :: rest) hstack d0
  cases Option.some.inj (hnC.symm.trans hQm)
  have hlen' : Ps.length = 1 := hlen
  obtain ⟨vm2, X2, st2⟩ := (X.noted hW1).ctorMessageOffV hexec (g := { g with stack := .ref a :: rest }) hg hsize T L Z LZ M LM (Q :: P1 :: Ps)
    (fun P hP => by
      rcases List.mem_cons.mp hP with rfl | hP
      · exact LQ
      · rcases List.mem_cons.mp hP with rfl | hP
        · exact L1
        · exact hL P hP) ⟨hsup, hl1, hl2⟩ (u0 := u0) (sen := sen) (self := a) hmsg (cell := freshCell Q.m.cls kX) (cellS := cW)
    hcell (fun _ => by simp) (by simp) rfl rfl s0 s1 hcW' hne hkn (by rw [keep _ (by simp)]; exact hu0) (by rw [keep _ (by simp)]; exact hsen)
    (Takes.of_laid hk hord t1 (by rw [Y.causeType]; rfl)) (Takes.of_laid hk hord t2 (by rw [Y.stackType]; exact fits_refV_array _ u0)) (Takes.of_laid hk hord t3 (by rw [Y.suppType]; exact fits_refV_object _ sen))
    (Takes.of_laid hk hord t4 (by rw [Y.msgType]; exact fits_refV_object _ ⟨msg, hmsg⟩)) Y.objLocals hskip htr [] d0
    (by simp only [List.length_cons, hlen']; omega) (by simp only [List.length_cons, hlen']; exact hRl)
  obtain ⟨hw, hr, he, hwU, hsU⟩ := X2.athrowLeaves hexec (g := { g with stack := .ref a :: rest, pc := g.pc + 3 }) hg hlocked hentered hout (a := a) (rest := rest) rfl d3
  have hlt : a < ((W.setVm vm1).setVm vm2).heap.size := (Array.getElem?_eq_some_iff.mp hcell).1
  have hU := heapAt_setCell_self (s := (W.setVm vm1).setVm vm2) (plainBareV T.toThrowableT (freshCell Q.m.cls kX) a u0 sen msg) hlt
  refine ⟨_, st1 _ (fun acts => ?_), hr, he, hwU, hsU.weaken (fun y hy hlt' => ?_) (Nat.le_refl _) (Nat.le_refl _), _, hU, rfl, rfl⟩
  · rw [doInvoke_state]
    exact st2 _ hw
  · exfalso
    have hb : y.base = a := by
      simp only [List.nil_append, List.mem_cons, List.not_mem_nil, or_false] at hy
      rcases hy with rfl | rfl | rfl | rfl | rfl <;> rfl
    rw [hb] at hlt'
    exact Nat.not_lt.mpr hnew hlt'
/-- how a method ends that may throw -/
def hh_QT {ρ : Type} (D : va_G) (cT : Nat → ClassId) (B e0 : Nat) (v : ρ → Value) (rr : (ρ ⊕ Nat) × hh_H) (mc ms : Nat) : Array Value → State → Outcome → State → Prop :=
  fun _ st o t => (match rr.1 with
    | .inl x => o = .returned (some (v x))
    | .inr ci => ∃ a fs, o = .threw (hh_ad B e0 a) ∧ rr.2[a]? = some (.inr (ci, fs))) ∧ va_P D hh_cl (hh_w B e0 cT rr.2) t.heap ∧ (rr.2[0]? = some hh_nil ∧ e0 < B ∧ t.heap.size + 1 = B + rr.2.length) ∧ va_F (fun q => B ≤ q) st t ∧ st.WarmedH t.vm ∧ ∃ L, st.sameButNew ({ t with vm := st.vm } : State) L mc ms ∧ ∀ q ∈ L, B ≤ q.base
def hh_EndT {ρ : Type} (X : hh_X) (B e0 : Nat) (v : ρ → Value) (rr : (ρ ⊕ Nat) × hh_H) (mc ms : Nat) : Prop :=
  match X with
  | (_, _, e, _, s, _, args, below, _, c, Q, D, cT, _, _, _) => (Q = fun t => ∃ o, t.status = .running ∧ Ended t below o ∧ hh_QT D cT B e0 v rr mc ms args s o t) ∧ c.exceptionTable.isEmpty = true ∧ e.platform.stackTraces = false
/-- the launch is one without stack traces -/
def hh_off (l : Launch) : Prop := ∀ e : Env, l.admits e → e.platform.stackTraces = false
def hh_MetT {ρ : Type} (y : MethodName) (yb : ByteArray) (ym : Nat) (yr : Option FieldType) (rm : Room) (mc ms B e0 : Nat) (av : List Value) (h : hh_H) (v : ρ → Value) (rr : (ρ ⊕ Nat) × hh_H) : Prop :=
  ∀ (l : Launch) (D : va_G) (cT : Nat → ClassId), hh_off l → MetFree l y (headSpec (.code y yb ym yr :: hh_T) rm) (hh_Pc D cT B e0 av h) (fun _ _ _ _ _ => True) (hh_QT D cT B e0 v rr mc ms)
theorem hh_metT {ρ : Type} {y : MethodName} {yb : ByteArray} {ym mc ms B e0 : Nat} {yr : Option FieldType} {rm : Room} {av : List Value} {h : hh_H} {v : ρ → Value} {rr : (ρ ⊕ Nat) × hh_H} (hy : plainName y.cls = true) (hlen : (lg_sl av).length ≤ ym)
    (hw : ∀ X : hh_X, hh_ok X B e0 yb y.cls ym yr y.name rm → hh_EndT X B e0 v rr mc ms → hh_W X 0 0 0 (lv_args 0 av) [] h) : hh_MetT y yb ym yr rm mc ms B e0 av h v rr := by
  intro l D cT hoff
  refine MetFree.of_bodyS (code := yb) (maxLocals := ym) (ret := yr) hy ?_ ?_
  · intro args s m h hn
    obtain ⟨meth, c, h1, h2, h3, h4, h5, h6, -, -⟩ := Cond.code_spec hn (atoms_spec (ws := .code y yb ym yr :: hh_T) h _ List.mem_cons_self)
    exact ⟨meth, c, h1, h2, h3, h4, h5, h6⟩
  · intro p e s m args below meth c s₁ Bd hml hv _
    obtain ⟨rfl, hP, hsz, hK, hcls⟩ := hv
    have hts := atoms_spec (ws := .code y yb ym yr :: hh_T) Bd.pre
    have hown : s.vm.findClass y.cls = some m.cls := findClass_of_methodNamed Bd.named
    have hl := lv_entry av (n := ym) hlen
    have hemp := Bd.noHandlers (hts _ List.mem_cons_self)
    have X₀ : Stand p l e rm s m av.toArray below meth c s₁ [] 0 0 := Stand.of_body Bd
    have hh0 : s₁.heap = s.heap := by rw [Bd.state]; rfl
    have K := hw (p, l, e, rm, s, m, av.toArray, below, meth, c, _, D, cT, B, e0, ym) ⟨Bd.exec, Bd.bytes, hml, hown, fun w hw => hts w (List.mem_cons_of_mem _ hw), hK, Bd.notSynchronized, Bd.returns, (name_of_methodNamed Bd.named Bd.method).1, rfl, rfl, rfl, rfl, hh_sz hsz, fun q hq => Nat.le_trans (hh_sz hsz) hq, hcls⟩ ⟨rfl, hemp, hoff e Bd.admits⟩ s.heap [] _ ⟨hP, hsz, va_S.rf⟩ hl
    obtain ⟨t, a1, o, b1, b2, b3⟩ := K s₁ hh0 X₀
    rw [lg_entry_eq]
    exact ⟨t, o, a1, b1, b2, b3⟩
theorem hh_mono {p : Program} {l : Launch} {e : Env} {R : Room} {s : State} {m : MethodId} {args : Array Value} {below : List Frame} {meth : Method} {c : Code} {H : Heap} {locs : List Loc} {cells slots : Nat} {Q Q' : State → Prop} {g : JFrame} (h : W p l e R s m args below meth c H locs cells slots Q g) (hq : ∀ t, Q t → Q' t) : W p l e R s m args below meth c H locs cells slots Q' g := by
  intro T hT X
  obtain ⟨t, a, b⟩ := h T hT X
  exact ⟨t, a, hq t b⟩
section EndsT
variable {X : hh_X} {B e0 : Nat} {cc : ByteArray} {own : String} {nL : Nat} {ret : Option FieldType} {nm : String} {R : Room} {cn sn pc idx mc ms : Nat} {lv : List (Nat × Value)} {st : List Value} {h h' : hh_H}
theorem hh_toT {ρ : Type} {D : va_G} {cT : Nat → ClassId} {args : Array Value} {below : List Frame} {s t : State} {x : ρ} {v : ρ → Value} (hq : MQ below (hh_Q D cT B e0 (.returned (some (v x))) h) args s mc ms (fun q => B ≤ q) t) : ∃ o, t.status = .running ∧ Ended t below o ∧ hh_QT D cT B e0 v (.inl x, h) mc ms args s o t := by
  obtain ⟨o, h1, h2, ⟨rfl, h3, h4, h5⟩, L, ⟨-, h6, h7⟩, h8⟩ := hq
  exact ⟨_, h1, h2, rfl, h3, h4, h5, h6, L, h7, h8⟩
theorem r_ireturnT (C : hh_ok X B e0 cc own nL (some .int) nm R) {rr : (Int32 ⊕ Nat) × hh_H} {v : Int32} (E : hh_EndT X B e0 (fun x => .int x) rr mc ms) (d : decode cc pc = .ok (.ireturn, 1)) (hc : cn ≤ mc) (hs : sn ≤ ms) (hf : some (.inl v, h) = some rr) : hh_W X cn sn pc lv [.int v] h := by
  obtain ⟨p, l, e, R', s, m, args, below, meth, c, Q, D, cT, B', e0', nL'⟩ := X
  obtain ⟨hx, hb, hml, hown, hts, hK, hlk, hrt, hnm, rfl, rfl, rfl, rfl, hB, hA, hcA⟩ := C
  cases hf
  obtain ⟨rfl, -, -⟩ := E
  intro H locs ls hS hl
  exact W.widen hc hs (hh_mono (W.iret hx hb hrt (fun t ht hW => hh_Qof hS ht) hS.2.2.2.2 d hlk) (fun t ht => hh_toT (v := fun x => .int x) ht))
theorem r_dreturnT (C : hh_ok X B e0 cc own nL (some .double) nm R) {rr : (UInt64 ⊕ Nat) × hh_H} {v : UInt64} (E : hh_EndT X B e0 (fun x => .double x) rr mc ms) (d : decode cc pc = .ok (.dreturn, 1)) (hc : cn ≤ mc) (hs : sn ≤ ms) (hf : some (.inl v, h) = some rr) : hh_W X cn sn pc lv [.double v] h := by
  obtain ⟨p, l, e, R', s, m, args, below, meth, c, Q, D, cT, B', e0', nL'⟩ := X
  obtain ⟨hx, hb, hml, hown, hts, hK, hlk, hrt, hnm, rfl, rfl, rfl, rfl, hB, hA, hcA⟩ := C
  cases hf
  obtain ⟨rfl, -, -⟩ := E
  intro H locs ls hS hl
  exact W.widen hc hs (hh_mono (W.dret hx hb hrt (fun t ht hW => hh_Qof hS ht) hS.2.2.2.2 d hlk) (fun t ht => hh_toT (v := fun x => .double x) ht))
theorem hh_keep {s' U : State} {ca sl : Nat} (h : s'.sameButNew U [] ca sl) {q : Nat} (hq : q < s'.heap.size) : U.heap[q]? = s'.heap[q]? := by
  obtain ⟨cell, hcell⟩ : ∃ cell, s'.heap[q]? = some cell := ⟨_, Array.getElem?_eq_getElem hq⟩
  obtain ⟨c', h1, h2, h3, h4⟩ := h.2.2.2.2.2 q cell hcell
  rw [h1, hcell]
  have hs : c'.slots = cell.slots := Array.ext_getElem? fun i => h4 i (by simp)
  rw [h2, hs]
/-- 'throw new E("..")' -/
theorem r_throw {ρ : Type} {v : ρ → Value} {rr : (ρ ⊕ Nat) × hh_H} {E tx : String} {ci i0 i1 ic ix : Nat} {rx : ByteArray} (C : hh_ok X B e0 cc own nL ret nm R) (En : hh_EndT X B e0 v rr mc ms)
    (d0 : decode cc pc = .ok (.new i0, 3)) (d1 : decode cc (pc + 3) = .ok (.dup, 1)) (d2 : decode cc (pc + 4) = .ok (.ldc i1, 2)) (d3 : decode cc (pc + 6) = .ok (.invokespecial ic, 3)) (d4 : decode cc (pc + 9) = .ok (.athrow, 1))
    (hci : hh_cl[ci]? = some (E, TE, 0)) (hw1 : Cond.classLink own i0 E ∈ hh_T) (hw2 : Cond.instantiable E 6 ∈ hh_T) (hw3 : Cond.initialized E ∈ hh_T) (hstr : (own, i1, tx) ∈ hh_strs) (hfit : Jvm.Bundle.fit E = true)
    (hat : (∀ w ∈ hh_oa own ic E ix rx, w ∈ hh_T ∨ w ∈ hh_T2 ∨ w ∈ hh_T3) ∧ hh_six rx ix)
    (hR : 5 < R.frames ∧ 100 ≤ R.locals) (hst : (st.map fun v => v.category).sum ≤ 8) (hc : cn + 1 ≤ mc) (hs : sn + 6 ≤ ms) (hc2 : cn + 1 ≤ R.cells) (hs2 : sn + 6 ≤ R.slots) (hf : some (.inr ci, h ++ [.inr (ci, [])]) = some rr) : hh_W X cn sn pc lv st h := by
  obtain ⟨p, l, e, R', s, m, args, below, meth, c, Q, D, cT, B', e0', nL'⟩ := X
  obtain ⟨hx, hb, hml, hown, hts, hK, hlk, hrt, hnm, rfl, rfl, rfl, rfl, hB, hA, hcA⟩ := C
  cases hf
  obtain ⟨rfl, hemp, htr⟩ := En
  intro H locs ls hS hl T hT Y
  have Y0 := hh_rebase Y (by omega) (by omega)
  have hWs : s.WarmedH (T.setFrames (.invoking m args :: below)).vm := Y.warmed
  have hts' : ∀ w ∈ hh_T, w.before args (T.setFrames (.invoking m args :: below)) = true := fun w hw => word_at hWs (hh_good w hw).2 (hts w hw)
  have hown' : (T.setFrames (.invoking m args :: below)).vm.findClass own = some m.cls := by rw [hWs.alike.findClass]; exact hown
  have henv : hh_env B' e0' cT (T.setFrames (.invoking m args :: below)) := hh_env_move hcA hWs hB (fun q hq => by
    show T.heap[q]? = _
    rw [hT]
    exact hS.2.2.2.1 q (Nat.lt_of_lt_of_le hq hB) (Nat.not_le.mpr hq))
  have hcls : (T.setFrames (.invoking m args :: below)).vm.findClass E = some (D.1 ci) := by rw [hWs.alike.findClass]; exact (hK.1 ci _ hci).2.1
  have hwords : ∀ w ∈ hh_oa own ic E ix rx, w.before args (T.setFrames (.invoking m args :: below)) = true := by
    intro w hw
    rcases hat.1 w hw with h1 | h1 | h1
    · exact hts' w h1
    · have h2 := henv.2.1 w h1
      have h3 : hh_nw w = true := (List.mem_filter.mp h1).2
      have h4 : w.onTables = true := by cases w <;> first | rfl | cases h3
      exact va_Nw.use h4 h2
    · obtain ⟨H0, g1, g2, g3, -⟩ := henv.2.2.2.2.2.2.2
      have g4 := g3 w h1
      exact hh_T3_up h1 g4 (fun q hq => by
        have : q < B' := by rw [← g1]; exact hq
        exact g2 q this)
  have hsz : H.size = hh_ad B' e0' h.length := hh_size hS.2.1
  have hheap' : (T.setFrames (.invoking m args :: below)).heap = H := hT
  suffices hgo : W p l e { R' with cells := R'.cells - cn, slots := R'.slots - sn } (T.setFrames (.invoking m args :: below)) m args below meth c H [] 0 0 (fun t => ∃ o, t.status = .running ∧ Ended t below o ∧ hh_QT D cT B' e0' v (.inr ci, h ++ [.inr (ci, [])]) mc ms args s o t) (F0 m pc ls st) from hgo T hT Y0
  refine W.newcK hx hb hown' (hts' _ hw1) (hts' _ hw2) (hts' _ hw3) rfl d0 (by show 0 + 1 ≤ R'.cells - cn; omega) (by show 0 + 6 ≤ R'.slots - sn; omega) hcls rfl fun H1 kC hkC e1 z1 o1 => ?_
  refine W.eq (g2 := F0 m (pc + 3) ls (.ref H.size :: st)) rfl ?_
  refine lv_dup hx hb d1 rfl ?_
  obtain ⟨ma, hma⟩ := henv.2.2.2.2.1 _ hstr
  refine va_ldcS hx hb hown' hma d2 ?_
  intro T2 hT2 Y2
  obtain ⟨U, hsteps, hrun, hended, hWU, hsame, ce, hce, K, Kv⟩ := hh_ctorT Y2 hx htr hat.2 hown' hfit hwords hcls hkC (by rw [hT2]; exact e1) (by rw [hheap']; exact Nat.le_refl _) (msg := .ref ma) rfl (g := F0 m (pc + 6) ls (.ref ma :: .ref H.size :: .ref H.size :: st)) rfl (by rw [hml]; exact hl.1) rfl rfl rfl (by rw [hb]; exact d3) (by rw [hb]; exact d4) (fun x hx => (covers_of_empty hemp _ x hx))
      (by show 5 < R'.frames; omega) (by
        have h1 := lv_room (m := m) (pc := pc + 6) (ls := ls) (rest := .ref ma :: .ref H.size :: .ref H.size :: st) hst
        show 2 * (F0 m (pc + 6) ls (.ref ma :: .ref H.size :: .ref H.size :: st)).monitorRoom + ((Value.ref H.size :: st).map fun v => v.category).sum + _ ≤ R'.locals
        simp only [List.map_cons, List.sum_cons]
        have : (Value.ref H.size).category = 1 := rfl
        omega) hlk
  refine ⟨U, hsteps, _, hrun, hended, ?_⟩
  have hzU : U.heap.size = H.size + 1 := by
    have g1 : U.heap.size ≤ H.size + (0 + 1) := by have := hsame.2.2.1; rw [hheap'] at this; exact this
    have g2 := (Array.getElem?_eq_some_iff.mp hce).1
    omega
  have hoU : ∀ q : Nat, q < H.size → U.heap[q]? = H[q]? := fun q hq => by
    have := hh_keep hsame (q := q) (by rw [hheap']; exact hq)
    rw [hheap'] at this
    exact this
  have hS1 : hh_S D cT B' e0' s (h ++ [.inr (ci, [])]) U.heap locs := hh_S_app hS ⟨_, hci, ce, by rw [← hsz]; exact hce, K, Kv, fun k hk => absurd hk (Nat.not_lt_zero k)⟩ hzU hoU
  refine ⟨⟨h.length, [], by rw [hsz], by simp⟩, hS1.1, hS1.2.1, hS1.2.2.F rfl, State.WarmedH.trans Y.warmed hWU, locs, ?_, hS.2.2.2.2⟩
  have hT' : T.sameButNew (U.setVm T.vm) [] (0 + 1) (0 + 6) := by
    obtain ⟨q1, q2⟩ := hsame
    refine ⟨?_, q2⟩
    rw [State.setFrames_setFrames] at q1
    exact q1
  have h9 := Y.same.trans (hT'.setVm s.vm)
  rw [List.append_nil] at h9
  exact h9.mono (by omega) (by omega)
end EndsT
def hh_b7 : ByteArray := ⟨#[0x2a, 0x2b, 0xb7, 0x00, 0x07, 0xb1]⟩
def hh_b13 : ByteArray := ⟨#[0x2a, 0x2b, 0xb7, 0x00, 0x0d, 0xb1]⟩
end
