section
-- ===== PART A: goes FIRST, ahead of the names: the tables' words, and 'selects' of the private methods out of them =====
/-- a private method of a class that the tables say can be made, by its rows of tables_1 -/
def lw_okq (q : MethodName × Nat) : Prop := (q.1.cls ≠ "java/lang/invoke/MethodHandle" ∧ q.1.cls ≠ "java/lang/invoke/VarHandle") ∧ Cond.instantiable q.1.cls q.2 ∈ tables_1 ∧ Cond.privateMethod q.1 ∈ tables_1 ∧ Cond.instanceMethod q.1 ∈ tables_1
theorem lw_p0 : lw_okq (⟨"java/lang/Throwable", "fillInStackTrace", "(I)Ljava/lang/Throwable;"⟩, 6) := ⟨⟨by decide +kernel, by decide +kernel⟩, List.mem_of_getElem? (i := 351) (by decide +kernel), List.mem_of_getElem? (i := 349) (by decide +kernel), List.mem_of_getElem? (i := 350) (by decide +kernel)⟩
theorem lw_p1 : lw_okq (⟨"IndexBuilder", "flushBuffer", "()Z"⟩, 9) := ⟨⟨by decide +kernel, by decide +kernel⟩, List.mem_of_getElem? (i := 35) (by decide +kernel), List.mem_of_getElem? (i := 406) (by decide +kernel), List.mem_of_getElem? (i := 407) (by decide +kernel)⟩
theorem lw_p2 : lw_okq (⟨"IndexBuilder$RunRow", "fitsOnDisk", "()Z"⟩, 11) := ⟨⟨by decide +kernel, by decide +kernel⟩, List.mem_of_getElem? (i := 99) (by decide +kernel), List.mem_of_getElem? (i := 422) (by decide +kernel), List.mem_of_getElem? (i := 423) (by decide +kernel)⟩
theorem lw_p3 : lw_okq (⟨"IndexBuilder$Bytes", "raise", "(I)V"⟩, 3) := ⟨⟨by decide +kernel, by decide +kernel⟩, List.mem_of_getElem? (i := 133) (by decide +kernel), List.mem_of_getElem? (i := 458) (by decide +kernel), List.mem_of_getElem? (i := 459) (by decide +kernel)⟩
theorem lw_p4 : lw_okq (⟨"IndexBuilder$RunRow", "writeAt", "(II)V"⟩, 11) := ⟨⟨by decide +kernel, by decide +kernel⟩, List.mem_of_getElem? (i := 99) (by decide +kernel), List.mem_of_getElem? (i := 476) (by decide +kernel), List.mem_of_getElem? (i := 477) (by decide +kernel)⟩
theorem lw_p5 : lw_okq (⟨"IndexBuilder$Disk", "takeLeast", "(I)[I"⟩, 3) := ⟨⟨by decide +kernel, by decide +kernel⟩, List.mem_of_getElem? (i := 83) (by decide +kernel), List.mem_of_getElem? (i := 486) (by decide +kernel), List.mem_of_getElem? (i := 487) (by decide +kernel)⟩
theorem lw_p6 : lw_okq (⟨"java/util/ArrayList", "rangeCheckForAdd", "(I)V"⟩, 3) := ⟨⟨by decide +kernel, by decide +kernel⟩, List.mem_of_getElem? (i := 105) (by decide +kernel), List.mem_of_getElem? (i := 519) (by decide +kernel), List.mem_of_getElem? (i := 520) (by decide +kernel)⟩
theorem lw_p7 : lw_okq (⟨"java/util/ArrayList", "outOfBoundsMsg", "(I)Ljava/lang/String;"⟩, 3) := ⟨⟨by decide +kernel, by decide +kernel⟩, List.mem_of_getElem? (i := 105) (by decide +kernel), List.mem_of_getElem? (i := 532) (by decide +kernel), List.mem_of_getElem? (i := 533) (by decide +kernel)⟩
theorem lw_p8 : lw_okq (⟨"java/util/ArrayList", "grow", "()[Ljava/lang/Object;"⟩, 3) := ⟨⟨by decide +kernel, by decide +kernel⟩, List.mem_of_getElem? (i := 105) (by decide +kernel), List.mem_of_getElem? (i := 784) (by decide +kernel), List.mem_of_getElem? (i := 785) (by decide +kernel)⟩
theorem lw_p9 : lw_okq (⟨"java/util/ArrayList", "grow", "(I)[Ljava/lang/Object;"⟩, 3) := ⟨⟨by decide +kernel, by decide +kernel⟩, List.mem_of_getElem? (i := 105) (by decide +kernel), List.mem_of_getElem? (i := 788) (by decide +kernel), List.mem_of_getElem? (i := 789) (by decide +kernel)⟩
theorem lw_p10 : lw_okq (⟨"IndexBuilder$RunRow", "leastFullLevel", "()I"⟩, 11) := ⟨⟨by decide +kernel, by decide +kernel⟩, List.mem_of_getElem? (i := 99) (by decide +kernel), List.mem_of_getElem? (i := 832) (by decide +kernel), List.mem_of_getElem? (i := 833) (by decide +kernel)⟩
theorem lw_p11 : lw_okq (⟨"IndexBuilder$RunRow", "runsOf", "(I)I"⟩, 11) := ⟨⟨by decide +kernel, by decide +kernel⟩, List.mem_of_getElem? (i := 99) (by decide +kernel), List.mem_of_getElem? (i := 851) (by decide +kernel), List.mem_of_getElem? (i := 852) (by decide +kernel)⟩
theorem lw_p12 : lw_okq (⟨"IndexBuilder$RunRow", "mergeLevels", "(II)Z"⟩, 11) := ⟨⟨by decide +kernel, by decide +kernel⟩, List.mem_of_getElem? (i := 99) (by decide +kernel), List.mem_of_getElem? (i := 855) (by decide +kernel), List.mem_of_getElem? (i := 856) (by decide +kernel)⟩
theorem lw_p13 : lw_okq (⟨"IndexBuilder$RunRow", "readPart", "(LIndexBuilder$Run;)V"⟩, 11) := ⟨⟨by decide +kernel, by decide +kernel⟩, List.mem_of_getElem? (i := 99) (by decide +kernel), List.mem_of_getElem? (i := 864) (by decide +kernel), List.mem_of_getElem? (i := 865) (by decide +kernel)⟩
theorem lw_p14 : lw_okq (⟨"IndexBuilder$Bytes", "read", "()I"⟩, 3) := ⟨⟨by decide +kernel, by decide +kernel⟩, List.mem_of_getElem? (i := 133) (by decide +kernel), List.mem_of_getElem? (i := 879) (by decide +kernel), List.mem_of_getElem? (i := 880) (by decide +kernel)⟩
theorem lw_p15 : lw_okq (⟨"IndexBuilder$RunRow", "removeLevels", "(II)V"⟩, 11) := ⟨⟨by decide +kernel, by decide +kernel⟩, List.mem_of_getElem? (i := 99) (by decide +kernel), List.mem_of_getElem? (i := 890) (by decide +kernel), List.mem_of_getElem? (i := 891) (by decide +kernel)⟩
def lw_privs_1 : List (MethodName × Nat) := [(⟨"java/lang/Throwable", "fillInStackTrace", "(I)Ljava/lang/Throwable;"⟩, 6), (⟨"IndexBuilder", "flushBuffer", "()Z"⟩, 9), (⟨"IndexBuilder$RunRow", "fitsOnDisk", "()Z"⟩, 11), (⟨"IndexBuilder$Bytes", "raise", "(I)V"⟩, 3), (⟨"IndexBuilder$RunRow", "writeAt", "(II)V"⟩, 11), (⟨"IndexBuilder$Disk", "takeLeast", "(I)[I"⟩, 3), (⟨"java/util/ArrayList", "rangeCheckForAdd", "(I)V"⟩, 3), (⟨"java/util/ArrayList", "outOfBoundsMsg", "(I)Ljava/lang/String;"⟩, 3), (⟨"java/util/ArrayList", "grow", "()[Ljava/lang/Object;"⟩, 3), (⟨"java/util/ArrayList", "grow", "(I)[Ljava/lang/Object;"⟩, 3), (⟨"IndexBuilder$RunRow", "leastFullLevel", "()I"⟩, 11), (⟨"IndexBuilder$RunRow", "runsOf", "(I)I"⟩, 11), (⟨"IndexBuilder$RunRow", "mergeLevels", "(II)Z"⟩, 11), (⟨"IndexBuilder$RunRow", "readPart", "(LIndexBuilder$Run;)V"⟩, 11), (⟨"IndexBuilder$Bytes", "read", "()I"⟩, 3), (⟨"IndexBuilder$RunRow", "removeLevels", "(II)V"⟩, 11)]
theorem lw_r1 : ∀ q ∈ lw_privs_1, lw_okq q := List.forall_mem_cons.mpr ⟨lw_p0, List.forall_mem_cons.mpr ⟨lw_p1, List.forall_mem_cons.mpr ⟨lw_p2, List.forall_mem_cons.mpr ⟨lw_p3, List.forall_mem_cons.mpr ⟨lw_p4, List.forall_mem_cons.mpr ⟨lw_p5, List.forall_mem_cons.mpr ⟨lw_p6, List.forall_mem_cons.mpr ⟨lw_p7, List.forall_mem_cons.mpr ⟨lw_p8, List.forall_mem_cons.mpr ⟨lw_p9, List.forall_mem_cons.mpr ⟨lw_p10, List.forall_mem_cons.mpr ⟨lw_p11, List.forall_mem_cons.mpr ⟨lw_p12, List.forall_mem_cons.mpr ⟨lw_p13, List.forall_mem_cons.mpr ⟨lw_p14, List.forall_mem_cons.mpr ⟨lw_p15, fun _ h => absurd h List.not_mem_nil⟩⟩⟩⟩⟩⟩⟩⟩⟩⟩⟩⟩⟩⟩⟩⟩
theorem lw_p16 : lw_okq (⟨"IndexBuilder$Disk", "clear", "(I)V"⟩, 3) := ⟨⟨by decide +kernel, by decide +kernel⟩, List.mem_of_getElem? (i := 83) (by decide +kernel), List.mem_of_getElem? (i := 898) (by decide +kernel), List.mem_of_getElem? (i := 899) (by decide +kernel)⟩
theorem lw_p17 : lw_okq (⟨"java/util/ArrayList", "fastRemove", "([Ljava/lang/Object;I)V"⟩, 3) := ⟨⟨by decide +kernel, by decide +kernel⟩, List.mem_of_getElem? (i := 105) (by decide +kernel), List.mem_of_getElem? (i := 906) (by decide +kernel), List.mem_of_getElem? (i := 907) (by decide +kernel)⟩
theorem lw_p18 : lw_okq (⟨"IndexBuilder", "lookUp", "(II)V"⟩, 9) := ⟨⟨by decide +kernel, by decide +kernel⟩, List.mem_of_getElem? (i := 35) (by decide +kernel), List.mem_of_getElem? (i := 994) (by decide +kernel), List.mem_of_getElem? (i := 995) (by decide +kernel)⟩
theorem lw_p19 : lw_okq (⟨"IndexBuilder", "fits", "(II)Z"⟩, 9) := ⟨⟨by decide +kernel, by decide +kernel⟩, List.mem_of_getElem? (i := 35) (by decide +kernel), List.mem_of_getElem? (i := 1024) (by decide +kernel), List.mem_of_getElem? (i := 1025) (by decide +kernel)⟩
theorem lw_p20 : lw_okq (⟨"IndexBuilder$RunRow", "has", "(I)Z"⟩, 11) := ⟨⟨by decide +kernel, by decide +kernel⟩, List.mem_of_getElem? (i := 99) (by decide +kernel), List.mem_of_getElem? (i := 1130) (by decide +kernel), List.mem_of_getElem? (i := 1131) (by decide +kernel)⟩
theorem lw_p21 : lw_okq (⟨"IndexBuilderModel", "fail", "(I)I"⟩, 28) := ⟨⟨by decide +kernel, by decide +kernel⟩, List.mem_of_getElem? (i := 1148) (by decide +kernel), List.mem_of_getElem? (i := 1254) (by decide +kernel), List.mem_of_getElem? (i := 1255) (by decide +kernel)⟩
theorem lw_p22 : lw_okq (⟨"IndexBuilderModel", "buffered", "()I"⟩, 28) := ⟨⟨by decide +kernel, by decide +kernel⟩, List.mem_of_getElem? (i := 1148) (by decide +kernel), List.mem_of_getElem? (i := 1262) (by decide +kernel), List.mem_of_getElem? (i := 1263) (by decide +kernel)⟩
theorem lw_p23 : lw_okq (⟨"IndexBuilderModel", "flushing", "()Z"⟩, 28) := ⟨⟨by decide +kernel, by decide +kernel⟩, List.mem_of_getElem? (i := 1148) (by decide +kernel), List.mem_of_getElem? (i := 1266) (by decide +kernel), List.mem_of_getElem? (i := 1267) (by decide +kernel)⟩
theorem lw_p24 : lw_okq (⟨"IndexBuilderModel", "room", "(J)J"⟩, 28) := ⟨⟨by decide +kernel, by decide +kernel⟩, List.mem_of_getElem? (i := 1148) (by decide +kernel), List.mem_of_getElem? (i := 1273) (by decide +kernel), List.mem_of_getElem? (i := 1274) (by decide +kernel)⟩
theorem lw_p25 : lw_okq (⟨"IndexBuilderModel", "encode", "(J)V"⟩, 28) := ⟨⟨by decide +kernel, by decide +kernel⟩, List.mem_of_getElem? (i := 1148) (by decide +kernel), List.mem_of_getElem? (i := 1277) (by decide +kernel), List.mem_of_getElem? (i := 1278) (by decide +kernel)⟩
theorem lw_p26 : lw_okq (⟨"IndexBuilderModel", "often", "(II)I"⟩, 28) := ⟨⟨by decide +kernel, by decide +kernel⟩, List.mem_of_getElem? (i := 1148) (by decide +kernel), List.mem_of_getElem? (i := 1281) (by decide +kernel), List.mem_of_getElem? (i := 1282) (by decide +kernel)⟩
theorem lw_p27 : lw_okq (⟨"IndexBuilderModel", "put", "(I)V"⟩, 28) := ⟨⟨by decide +kernel, by decide +kernel⟩, List.mem_of_getElem? (i := 1148) (by decide +kernel), List.mem_of_getElem? (i := 1285) (by decide +kernel), List.mem_of_getElem? (i := 1286) (by decide +kernel)⟩
theorem lw_p28 : lw_okq (⟨"IndexBuilderModel", "putWord", "(JI)V"⟩, 28) := ⟨⟨by decide +kernel, by decide +kernel⟩, List.mem_of_getElem? (i := 1148) (by decide +kernel), List.mem_of_getElem? (i := 1289) (by decide +kernel), List.mem_of_getElem? (i := 1290) (by decide +kernel)⟩
theorem lw_p29 : lw_okq (⟨"IndexBuilderModel", "full", "()I"⟩, 28) := ⟨⟨by decide +kernel, by decide +kernel⟩, List.mem_of_getElem? (i := 1148) (by decide +kernel), List.mem_of_getElem? (i := 1296) (by decide +kernel), List.mem_of_getElem? (i := 1297) (by decide +kernel)⟩
theorem lw_p30 : lw_okq (⟨"IndexBuilderModel", "merge", "(I)Z"⟩, 28) := ⟨⟨by decide +kernel, by decide +kernel⟩, List.mem_of_getElem? (i := 1148) (by decide +kernel), List.mem_of_getElem? (i := 1300) (by decide +kernel), List.mem_of_getElem? (i := 1301) (by decide +kernel)⟩
theorem lw_p31 : lw_okq (⟨"IndexBuilderModel", "fits", "(IIII)Z"⟩, 28) := ⟨⟨by decide +kernel, by decide +kernel⟩, List.mem_of_getElem? (i := 1148) (by decide +kernel), List.mem_of_getElem? (i := 1321) (by decide +kernel), List.mem_of_getElem? (i := 1322) (by decide +kernel)⟩
def lw_privs_2 : List (MethodName × Nat) := [(⟨"IndexBuilder$Disk", "clear", "(I)V"⟩, 3), (⟨"java/util/ArrayList", "fastRemove", "([Ljava/lang/Object;I)V"⟩, 3), (⟨"IndexBuilder", "lookUp", "(II)V"⟩, 9), (⟨"IndexBuilder", "fits", "(II)Z"⟩, 9), (⟨"IndexBuilder$RunRow", "has", "(I)Z"⟩, 11), (⟨"IndexBuilderModel", "fail", "(I)I"⟩, 28), (⟨"IndexBuilderModel", "buffered", "()I"⟩, 28), (⟨"IndexBuilderModel", "flushing", "()Z"⟩, 28), (⟨"IndexBuilderModel", "room", "(J)J"⟩, 28), (⟨"IndexBuilderModel", "encode", "(J)V"⟩, 28), (⟨"IndexBuilderModel", "often", "(II)I"⟩, 28), (⟨"IndexBuilderModel", "put", "(I)V"⟩, 28), (⟨"IndexBuilderModel", "putWord", "(JI)V"⟩, 28), (⟨"IndexBuilderModel", "full", "()I"⟩, 28), (⟨"IndexBuilderModel", "merge", "(I)Z"⟩, 28), (⟨"IndexBuilderModel", "fits", "(IIII)Z"⟩, 28)]
theorem lw_r2 : ∀ q ∈ lw_privs_2, lw_okq q := List.forall_mem_cons.mpr ⟨lw_p16, List.forall_mem_cons.mpr ⟨lw_p17, List.forall_mem_cons.mpr ⟨lw_p18, List.forall_mem_cons.mpr ⟨lw_p19, List.forall_mem_cons.mpr ⟨lw_p20, List.forall_mem_cons.mpr ⟨lw_p21, List.forall_mem_cons.mpr ⟨lw_p22, List.forall_mem_cons.mpr ⟨lw_p23, List.forall_mem_cons.mpr ⟨lw_p24, List.forall_mem_cons.mpr ⟨lw_p25, List.forall_mem_cons.mpr ⟨lw_p26, List.forall_mem_cons.mpr ⟨lw_p27, List.forall_mem_cons.mpr ⟨lw_p28, List.forall_mem_cons.mpr ⟨lw_p29, List.forall_mem_cons.mpr ⟨lw_p30, List.forall_mem_cons.mpr ⟨lw_p31, fun _ h => absurd h List.not_mem_nil⟩⟩⟩⟩⟩⟩⟩⟩⟩⟩⟩⟩⟩⟩⟩⟩
theorem lw_p32 : lw_okq (⟨"IndexBuilderModel", "adjacent", "(III)Z"⟩, 28) := ⟨⟨by decide +kernel, by decide +kernel⟩, List.mem_of_getElem? (i := 1148) (by decide +kernel), List.mem_of_getElem? (i := 1325) (by decide +kernel), List.mem_of_getElem? (i := 1326) (by decide +kernel)⟩
theorem lw_p33 : lw_okq (⟨"IndexBuilderModel", "part", "(II)D"⟩, 28) := ⟨⟨by decide +kernel, by decide +kernel⟩, List.mem_of_getElem? (i := 1148) (by decide +kernel), List.mem_of_getElem? (i := 1333) (by decide +kernel), List.mem_of_getElem? (i := 1334) (by decide +kernel)⟩
def lw_privs_3 : List (MethodName × Nat) := [(⟨"IndexBuilderModel", "adjacent", "(III)Z"⟩, 28), (⟨"IndexBuilderModel", "part", "(II)D"⟩, 28)]
theorem lw_r3 : ∀ q ∈ lw_privs_3, lw_okq q := List.forall_mem_cons.mpr ⟨lw_p32, List.forall_mem_cons.mpr ⟨lw_p33, fun _ h => absurd h List.not_mem_nil⟩⟩
def lw_privs : List (MethodName × Nat) := lw_privs_1 ++ (lw_privs_2 ++ (lw_privs_3))
def lw_tbl : List Cond := k2_sels lw_privs ++ tables_1
theorem lw_privs_ok : ∀ q ∈ lw_privs, lw_okq q := by
  show ∀ q ∈ lw_privs_1 ++ (lw_privs_2 ++ (lw_privs_3)), lw_okq q
  exact List.forall_mem_append.mpr ⟨lw_r1, List.forall_mem_append.mpr ⟨lw_r2, lw_r3⟩⟩
-- ===== end of PART A; then your names; then what follows =====
end
section
def RX0 : String := "IndexBuilder$Answer"
def RX1 : String := "IndexBuilder$Bytes"
def RX2 : String := "IndexBuilder$Disk"
def RX3 : String := "IndexBuilder$Documents"
def RX4 : String := "IndexBuilder$Places"
def RX5 : String := "IndexBuilder$Postings"
def RX6 : String := "IndexBuilder$Run"
def RX7 : String := "IndexBuilder$RunRow"
def RX8 : String := "IndexBuilder"
def RX9 : String := "IndexBuilderModel"
def RL : String := "IndexBuilderLaw"
def RJ0 : String := "java/util/ArrayList"
def RJ1 : String := "java/util/AbstractList"
def RJ2 : String := "java/util/AbstractCollection"
def RJ3 : String := "java/util/Objects"
def RJ4 : String := "jdk/internal/util/Preconditions"
def RJ5 : String := "java/util/Arrays"
def RJ6 : String := "jdk/internal/util/ArraysSupport"
def RJ7 : String := "java/lang/Math"
def RJ8 : String := "java/lang/Integer"
def TX0 : u_T := fun k => match k with
  | 0 => ("IndexBuilder$Answer", "documents", "[I", true)
  | 1 => ("IndexBuilder$Answer", "scores", "[D", true)
  | 2 => ("IndexBuilder$Answer", "size", "I", false)
  | _ => ("IndexBuilder$Answer", "ranked", "Z", false)
def tyX0 : Nat → FieldType := fun k => match k with
  | 0 => .array .int
  | 1 => .array .double
  | 2 => .int
  | _ => .boolean
def TX1 : u_T := fun k => match k with
  | 0 => ("IndexBuilder$Bytes", "cells", "[I", true)
  | 1 => ("IndexBuilder$Bytes", "size", "I", false)
  | _ => ("IndexBuilder$Bytes", "next", "I", false)
def tyX1 : Nat → FieldType := fun k => match k with
  | 0 => .array .int
  | 1 => .int
  | _ => .int
def TX2 : u_T := fun k => match k with
  | 0 => ("IndexBuilder$Disk", "cells", "[I", true)
  | 1 => ("IndexBuilder$Disk", "taken", "[Z", true)
  | _ => ("IndexBuilder$Disk", "free", "I", false)
def tyX2 : Nat → FieldType := fun k => match k with
  | 0 => .array .int
  | 1 => .array .boolean
  | _ => .int
def TX3 : u_T := fun k => match k with
  | 0 => ("IndexBuilder$Documents", "dropped", "[Z", true)
  | 1 => ("IndexBuilder$Documents", "size", "I", false)
  | _ => ("IndexBuilder$Documents", "live", "I", false)
def tyX3 : Nat → FieldType := fun k => match k with
  | 0 => .array .boolean
  | 1 => .int
  | _ => .int
def TX4 : u_T := fun k => match k with
  | 0 => ("IndexBuilder$Places", "bits", "[I", true)
  | _ => ("IndexBuilder$Places", "word", "I", false)
def tyX4 : Nat → FieldType := fun k => match k with
  | 0 => .array .int
  | _ => .int
def TX5 : u_T := fun k => match k with
  | 0 => ("IndexBuilder$Postings", "keys", "[I", true)
  | _ => ("IndexBuilder$Postings", "size", "I", false)
def tyX5 : Nat → FieldType := fun k => match k with
  | 0 => .array .int
  | _ => .int
def TX6 : u_T := fun k => match k with
  | 0 => ("IndexBuilder$Run", "level", "I", true)
  | 1 => ("IndexBuilder$Run", "blocks", "[I", true)
  | _ => ("IndexBuilder$Run", "bytes", "I", true)
def tyX6 : Nat → FieldType := fun k => match k with
  | 0 => .int
  | 1 => .array .int
  | _ => .int
def TX7 : u_T := fun k => match k with
  | 0 => ("IndexBuilder$RunRow", "documents", "LIndexBuilder$Documents;", true)
  | 1 => ("IndexBuilder$RunRow", "disk", "LIndexBuilder$Disk;", true)
  | 2 => ("IndexBuilder$RunRow", "fan", "I", true)
  | 3 => ("IndexBuilder$RunRow", "row", "Ljava/util/ArrayList;", true)
  | 4 => ("IndexBuilder$RunRow", "gathered", "LIndexBuilder$Postings;", true)
  | 5 => ("IndexBuilder$RunRow", "part", "LIndexBuilder$Postings;", true)
  | 6 => ("IndexBuilder$RunRow", "bytes", "LIndexBuilder$Bytes;", true)
  | 7 => ("IndexBuilder$RunRow", "blocksRead", "I", false)
  | 8 => ("IndexBuilder$RunRow", "blocksWritten", "I", false)
  | 9 => ("IndexBuilder$RunRow", "mergesDone", "I", false)
  | _ => ("IndexBuilder$RunRow", "mergesWithoutRoom", "I", false)
def tyX7 : Nat → FieldType := fun k => match k with
  | 0 => .object "IndexBuilder$Documents"
  | 1 => .object "IndexBuilder$Disk"
  | 2 => .int
  | 3 => .object "java/util/ArrayList"
  | 4 => .object "IndexBuilder$Postings"
  | 5 => .object "IndexBuilder$Postings"
  | 6 => .object "IndexBuilder$Bytes"
  | 7 => .int
  | 8 => .int
  | 9 => .int
  | _ => .int
def TX8 : u_T := fun k => match k with
  | 0 => ("IndexBuilder", "memory", "I", true)
  | 1 => ("IndexBuilder", "open", "[I", true)
  | 2 => ("IndexBuilder", "openWords", "I", false)
  | 3 => ("IndexBuilder", "documents", "LIndexBuilder$Documents;", true)
  | 4 => ("IndexBuilder", "buffer", "LIndexBuilder$Postings;", true)
  | 5 => ("IndexBuilder", "runs", "LIndexBuilder$RunRow;", true)
  | 6 => ("IndexBuilder", "placesOfV", "LIndexBuilder$Places;", true)
  | 7 => ("IndexBuilder", "placesOfW", "LIndexBuilder$Places;", true)
  | _ => ("IndexBuilder", "answer", "LIndexBuilder$Answer;", true)
def tyX8 : Nat → FieldType := fun k => match k with
  | 0 => .int
  | 1 => .array .int
  | 2 => .int
  | 3 => .object "IndexBuilder$Documents"
  | 4 => .object "IndexBuilder$Postings"
  | 5 => .object "IndexBuilder$RunRow"
  | 6 => .object "IndexBuilder$Places"
  | 7 => .object "IndexBuilder$Places"
  | _ => .object "IndexBuilder$Answer"
def TX9 : u_T := fun k => match k with
  | 0 => ("IndexBuilderModel", "thrown", "I", false)
  | 1 => ("IndexBuilderModel", "memory", "I", true)
  | 2 => ("IndexBuilderModel", "fan", "I", true)
  | 3 => ("IndexBuilderModel", "blocks", "I", true)
  | 4 => ("IndexBuilderModel", "open", "[I", true)
  | 5 => ("IndexBuilderModel", "opened", "I", false)
  | 6 => ("IndexBuilderModel", "text", "[I", true)
  | 7 => ("IndexBuilderModel", "length", "[I", true)
  | 8 => ("IndexBuilderModel", "often", "[I", true)
  | 9 => ("IndexBuilderModel", "docs", "I", false)
  | 10 => ("IndexBuilderModel", "waiting", "I", false)
  | 11 => ("IndexBuilderModel", "dropped", "J", false)
  | 12 => ("IndexBuilderModel", "members", "[J", true)
  | 13 => ("IndexBuilderModel", "places", "[J", true)
  | 14 => ("IndexBuilderModel", "level", "[I", true)
  | 15 => ("IndexBuilderModel", "runs", "I", false)
  | 16 => ("IndexBuilderModel", "used", "J", false)
  | 17 => ("IndexBuilderModel", "read", "I", false)
  | 18 => ("IndexBuilderModel", "written", "I", false)
  | 19 => ("IndexBuilderModel", "merges", "I", false)
  | 20 => ("IndexBuilderModel", "failed", "I", false)
  | 21 => ("IndexBuilderModel", "result", "[I", true)
  | 22 => ("IndexBuilderModel", "scores", "[D", true)
  | 23 => ("IndexBuilderModel", "found", "I", false)
  | 24 => ("IndexBuilderModel", "ranked", "Z", false)
  | 25 => ("IndexBuilderModel", "bytes", "[B", true)
  | 26 => ("IndexBuilderModel", "size", "I", false)
  | _ => ("IndexBuilderModel", "shown", "J", false)
def tyX9 : Nat → FieldType := fun k => match k with
  | 0 => .int
  | 1 => .int
  | 2 => .int
  | 3 => .int
  | 4 => .array .int
  | 5 => .int
  | 6 => .array .int
  | 7 => .array .int
  | 8 => .array .int
  | 9 => .int
  | 10 => .int
  | 11 => .long
  | 12 => .array .long
  | 13 => .array .long
  | 14 => .array .int
  | 15 => .int
  | 16 => .long
  | 17 => .int
  | 18 => .int
  | 19 => .int
  | 20 => .int
  | 21 => .array .int
  | 22 => .array .double
  | 23 => .int
  | 24 => .boolean
  | 25 => .array .byte
  | 26 => .int
  | _ => .long
def TJ0 : u_T := fun k => match k with
  | 0 => ("java/util/AbstractList", "modCount", "I", false)
  | 1 => ("java/util/ArrayList", "elementData", "[Ljava/lang/Object;", false)
  | _ => ("java/util/ArrayList", "size", "I", false)
def tyJ0 : Nat → FieldType := fun k => match k with
  | 0 => .int
  | 1 => .array (.object "java/lang/Object")
  | _ => .int
def RE0 : String := "java/lang/IllegalArgumentException"
def RE1 : String := "java/lang/IllegalStateException"
def RE2 : String := "java/lang/UnsupportedOperationException"
def RE3 : String := "java/util/NoSuchElementException"
def RE4 : String := "java/lang/IndexOutOfBoundsException"
def TE : u_T := fun _ => ("", "", "", false)
abbrev hh_cl : List vw_C := [(RX0, TX0, 4), (RX1, TX1, 3), (RX2, TX2, 3), (RX3, TX3, 3), (RX4, TX4, 2), (RX5, TX5, 2), (RX6, TX6, 3), (RX7, TX7, 11), (RX8, TX8, 9), (RX9, TX9, 28), (RJ0, TJ0, 3), (RE0, TE, 0), (RE1, TE, 0), (RE2, TE, 0), (RE3, TE, 0), (RE4, TE, 0)]
def hh_dfl : Nat → List (Int32 ⊕ (Option Nat ⊕ (UInt64 ⊕ Int64))) := fun k => match k with
  | 0 => [.inr (.inl none), .inr (.inl none), .inl 0, .inl 0]
  | 1 => [.inr (.inl none), .inl 0, .inl 0]
  | 2 => [.inr (.inl none), .inr (.inl none), .inl 0]
  | 3 => [.inr (.inl none), .inl 0, .inl 0]
  | 4 => [.inr (.inl none), .inl 0]
  | 5 => [.inr (.inl none), .inl 0]
  | 6 => [.inl 0, .inr (.inl none), .inl 0]
  | 7 => [.inr (.inl none), .inr (.inl none), .inl 0, .inr (.inl none), .inr (.inl none), .inr (.inl none), .inr (.inl none), .inl 0, .inl 0, .inl 0, .inl 0]
  | 8 => [.inl 0, .inr (.inl none), .inl 0, .inr (.inl none), .inr (.inl none), .inr (.inl none), .inr (.inl none), .inr (.inl none), .inr (.inl none)]
  | 9 => [.inl 0, .inl 0, .inl 0, .inl 0, .inr (.inl none), .inl 0, .inr (.inl none), .inr (.inl none), .inr (.inl none), .inl 0, .inl 0, .inr (.inr (.inr 0)), .inr (.inl none), .inr (.inl none), .inr (.inl none), .inl 0, .inr (.inr (.inr 0)), .inl 0, .inl 0, .inl 0, .inl 0, .inr (.inl none), .inr (.inl none), .inl 0, .inl 0, .inr (.inl none), .inl 0, .inr (.inr (.inr 0))]
  | 10 => [.inl 0, .inr (.inl none), .inl 0]
  | 11 => []
  | 12 => []
  | 13 => []
  | 14 => []
  | _ => []
abbrev cX0_init : ByteArray := prog_2_method_1_code
def yX0_init : MethodName := ⟨RX0, "<init>", "()V"⟩
abbrev cX0_begin : ByteArray := prog_2_method_2_code
def yX0_begin : MethodName := ⟨RX0, "begin", "(Z)V"⟩
abbrev cX0_put : ByteArray := prog_2_method_3_code
def yX0_put : MethodName := ⟨RX0, "put", "(ID)V"⟩
abbrev cX0_size : ByteArray := prog_2_method_4_code
def yX0_size : MethodName := ⟨RX0, "size", "()I"⟩
abbrev cX0_isRanked : ByteArray := prog_2_method_5_code
def yX0_isRanked : MethodName := ⟨RX0, "isRanked", "()Z"⟩
abbrev cX0_documentAt : ByteArray := prog_2_method_6_code
def yX0_documentAt : MethodName := ⟨RX0, "documentAt", "(I)I"⟩
abbrev cX0_scoreAt : ByteArray := prog_2_method_7_code
def yX0_scoreAt : MethodName := ⟨RX0, "scoreAt", "(I)D"⟩
abbrev cX1_init : ByteArray := prog_3_method_1_code
def yX1_init : MethodName := ⟨RX1, "<init>", "(I)V"⟩
abbrev cX1_size : ByteArray := prog_3_method_2_code
def yX1_size : MethodName := ⟨RX1, "size", "()I"⟩
abbrev cX1_at : ByteArray := prog_3_method_3_code
def yX1_at : MethodName := ⟨RX1, "at", "(I)I"⟩
abbrev cX1_clear : ByteArray := prog_3_method_4_code
def yX1_clear : MethodName := ⟨RX1, "clear", "()V"⟩
abbrev cX1_put : ByteArray := prog_3_method_5_code
def yX1_put : MethodName := ⟨RX1, "put", "(I)I"⟩
abbrev cX1_encode : ByteArray := prog_3_method_6_code
def yX1_encode : MethodName := ⟨RX1, "encode", "(LIndexBuilder$Postings;)V"⟩
abbrev cX1_decode : ByteArray := prog_3_method_7_code
def yX1_decode : MethodName := ⟨RX1, "decode", "(LIndexBuilder$Postings;)V"⟩
abbrev cX1_raise : ByteArray := prog_3_method_8_code
def yX1_raise : MethodName := ⟨RX1, "raise", "(I)V"⟩
abbrev cX1_read : ByteArray := prog_3_method_9_code
def yX1_read : MethodName := ⟨RX1, "read", "()I"⟩
abbrev cX2_init : ByteArray := prog_4_method_1_code
def yX2_init : MethodName := ⟨RX2, "<init>", "(I)V"⟩
abbrev cX2_size : ByteArray := prog_4_method_2_code
def yX2_size : MethodName := ⟨RX2, "size", "()I"⟩
abbrev cX2_free : ByteArray := prog_4_method_3_code
def yX2_free : MethodName := ⟨RX2, "free", "()I"⟩
abbrev cX2_has : ByteArray := prog_4_method_4_code
def yX2_has : MethodName := ⟨RX2, "has", "(II)Z"⟩
abbrev cX2_cellAt : ByteArray := prog_4_method_5_code
def yX2_cellAt : MethodName := ⟨RX2, "cellAt", "(II)I"⟩
abbrev cX2_hasRoomFor : ByteArray := prog_4_method_6_code
def yX2_hasRoomFor : MethodName := ⟨RX2, "hasRoomFor", "(I)Z"⟩
abbrev cX2_write : ByteArray := prog_4_method_7_code
def yX2_write : MethodName := ⟨RX2, "write", "(LIndexBuilder$Bytes;I)LIndexBuilder$Run;"⟩
abbrev cX2_read : ByteArray := prog_4_method_8_code
def yX2_read : MethodName := ⟨RX2, "read", "(LIndexBuilder$Run;LIndexBuilder$Bytes;)V"⟩
abbrev cX2_release : ByteArray := prog_4_method_9_code
def yX2_release : MethodName := ⟨RX2, "release", "(LIndexBuilder$Run;)V"⟩
abbrev cX2_clear : ByteArray := prog_4_method_10_code
def yX2_clear : MethodName := ⟨RX2, "clear", "(I)V"⟩
abbrev cX2_blocksFor : ByteArray := prog_4_method_11_code
def yX2_blocksFor : MethodName := ⟨RX2, "blocksFor", "(I)I"⟩
abbrev cX2_takeLeast : ByteArray := prog_4_method_12_code
def yX2_takeLeast : MethodName := ⟨RX2, "takeLeast", "(I)[I"⟩
abbrev cX3_init : ByteArray := prog_5_method_1_code
def yX3_init : MethodName := ⟨RX3, "<init>", "()V"⟩
abbrev cX3_size : ByteArray := prog_5_method_2_code
def yX3_size : MethodName := ⟨RX3, "size", "()I"⟩
abbrev cX3_live : ByteArray := prog_5_method_3_code
def yX3_live : MethodName := ⟨RX3, "live", "()I"⟩
abbrev cX3_addNext : ByteArray := prog_5_method_4_code
def yX3_addNext : MethodName := ⟨RX3, "addNext", "()I"⟩
abbrev cX3_isLive : ByteArray := prog_5_method_5_code
def yX3_isLive : MethodName := ⟨RX3, "isLive", "(I)Z"⟩
abbrev cX3_leaveOut : ByteArray := prog_5_method_6_code
def yX3_leaveOut : MethodName := ⟨RX3, "leaveOut", "(I)V"⟩
abbrev cX4_init : ByteArray := prog_6_method_1_code
def yX4_init : MethodName := ⟨RX4, "<init>", "()V"⟩
abbrev cX4_begin : ByteArray := prog_6_method_2_code
def yX4_begin : MethodName := ⟨RX4, "begin", "(I)V"⟩
abbrev cX4_take : ByteArray := prog_6_method_3_code
def yX4_take : MethodName := ⟨RX4, "take", "(LIndexBuilder$Postings;LIndexBuilder$Documents;)V"⟩
abbrev cX4_bitsOf : ByteArray := prog_6_method_4_code
def yX4_bitsOf : MethodName := ⟨RX4, "bitsOf", "(I)I"⟩
abbrev cX4_frequency : ByteArray := prog_6_method_5_code
def yX4_frequency : MethodName := ⟨RX4, "frequency", "()I"⟩
abbrev cX4_share : ByteArray := prog_6_method_6_code
def yX4_share : MethodName := ⟨RX4, "share", "(II)D"⟩
abbrev cX5_init : ByteArray := prog_7_method_1_code
def yX5_init : MethodName := ⟨RX5, "<init>", "(I)V"⟩
abbrev cX5_keyOf : ByteArray := prog_7_method_2_code
def yX5_keyOf : MethodName := ⟨RX5, "keyOf", "(III)I"⟩
abbrev cX5_wordOf : ByteArray := prog_7_method_3_code
def yX5_wordOf : MethodName := ⟨RX5, "wordOf", "(I)I"⟩
abbrev cX5_documentOf : ByteArray := prog_7_method_4_code
def yX5_documentOf : MethodName := ⟨RX5, "documentOf", "(I)I"⟩
abbrev cX5_placeOf : ByteArray := prog_7_method_5_code
def yX5_placeOf : MethodName := ⟨RX5, "placeOf", "(I)I"⟩
abbrev cX5_size : ByteArray := prog_7_method_6_code
def yX5_size : MethodName := ⟨RX5, "size", "()I"⟩
abbrev cX5_keyAt : ByteArray := prog_7_method_7_code
def yX5_keyAt : MethodName := ⟨RX5, "keyAt", "(I)I"⟩
abbrev cX5_clear : ByteArray := prog_7_method_8_code
def yX5_clear : MethodName := ⟨RX5, "clear", "()V"⟩
abbrev cX5_insert : ByteArray := prog_7_method_9_code
def yX5_insert : MethodName := ⟨RX5, "insert", "(I)V"⟩
abbrev cX5_mergeIn : ByteArray := prog_7_method_10_code
def yX5_mergeIn : MethodName := ⟨RX5, "mergeIn", "(LIndexBuilder$Postings;)V"⟩
abbrev cX5_keepLive : ByteArray := prog_7_method_11_code
def yX5_keepLive : MethodName := ⟨RX5, "keepLive", "(LIndexBuilder$Documents;)V"⟩
abbrev cX6_init : ByteArray := prog_8_method_1_code
def yX6_init : MethodName := ⟨RX6, "<init>", "(I[II)V"⟩
abbrev cX6_isBetween : ByteArray := prog_8_method_2_code
def yX6_isBetween : MethodName := ⟨RX6, "isBetween", "(II)Z"⟩
abbrev cX7_init : ByteArray := prog_9_method_1_code
def yX7_init : MethodName := ⟨RX7, "<init>", "(LIndexBuilder$Documents;LIndexBuilder$Disk;I)V"⟩
abbrev cX7_size : ByteArray := prog_9_method_2_code
def yX7_size : MethodName := ⟨RX7, "size", "()I"⟩
abbrev cX7_levelOf : ByteArray := prog_9_method_3_code
def yX7_levelOf : MethodName := ⟨RX7, "levelOf", "(I)I"⟩
abbrev cX7_blocksOf : ByteArray := prog_9_method_4_code
def yX7_blocksOf : MethodName := ⟨RX7, "blocksOf", "(I)I"⟩
abbrev cX7_firstBlockOf : ByteArray := prog_9_method_5_code
def yX7_firstBlockOf : MethodName := ⟨RX7, "firstBlockOf", "(I)I"⟩
abbrev cX7_bytesOf : ByteArray := prog_9_method_6_code
def yX7_bytesOf : MethodName := ⟨RX7, "bytesOf", "(I)I"⟩
abbrev cX7_hasByte : ByteArray := prog_9_method_7_code
def yX7_hasByte : MethodName := ⟨RX7, "hasByte", "(II)Z"⟩
abbrev cX7_byteAt : ByteArray := prog_9_method_8_code
def yX7_byteAt : MethodName := ⟨RX7, "byteAt", "(II)I"⟩
abbrev cX7_freeBlocks : ByteArray := prog_9_method_9_code
def yX7_freeBlocks : MethodName := ⟨RX7, "freeBlocks", "()I"⟩
abbrev cX7_blocksRead : ByteArray := prog_9_method_10_code
def yX7_blocksRead : MethodName := ⟨RX7, "blocksRead", "()I"⟩
abbrev cX7_blocksWritten : ByteArray := prog_9_method_11_code
def yX7_blocksWritten : MethodName := ⟨RX7, "blocksWritten", "()I"⟩
abbrev cX7_mergesDone : ByteArray := prog_9_method_12_code
def yX7_mergesDone : MethodName := ⟨RX7, "mergesDone", "()I"⟩
abbrev cX7_mergesWithoutRoom : ByteArray := prog_9_method_13_code
def yX7_mergesWithoutRoom : MethodName := ⟨RX7, "mergesWithoutRoom", "()I"⟩
abbrev cX7_append : ByteArray := prog_9_method_14_code
def yX7_append : MethodName := ⟨RX7, "append", "(LIndexBuilder$Postings;)Z"⟩
abbrev cX7_mergeFullLevels : ByteArray := prog_9_method_15_code
def yX7_mergeFullLevels : MethodName := ⟨RX7, "mergeFullLevels", "()V"⟩
abbrev cX7_mergeAll : ByteArray := prog_9_method_16_code
def yX7_mergeAll : MethodName := ⟨RX7, "mergeAll", "()Z"⟩
abbrev cX7_readAll : ByteArray := prog_9_method_17_code
def yX7_readAll : MethodName := ⟨RX7, "readAll", "(LIndexBuilder$Places;LIndexBuilder$Places;)V"⟩
abbrev cX7_has : ByteArray := prog_9_method_18_code
def yX7_has : MethodName := ⟨RX7, "has", "(I)Z"⟩
abbrev cX7_leastFullLevel : ByteArray := prog_9_method_19_code
def yX7_leastFullLevel : MethodName := ⟨RX7, "leastFullLevel", "()I"⟩
abbrev cX7_runsOf : ByteArray := prog_9_method_20_code
def yX7_runsOf : MethodName := ⟨RX7, "runsOf", "(I)I"⟩
abbrev cX7_mergeLevels : ByteArray := prog_9_method_21_code
def yX7_mergeLevels : MethodName := ⟨RX7, "mergeLevels", "(II)Z"⟩
abbrev cX7_readPart : ByteArray := prog_9_method_22_code
def yX7_readPart : MethodName := ⟨RX7, "readPart", "(LIndexBuilder$Run;)V"⟩
abbrev cX7_fitsOnDisk : ByteArray := prog_9_method_23_code
def yX7_fitsOnDisk : MethodName := ⟨RX7, "fitsOnDisk", "()Z"⟩
abbrev cX7_writeAt : ByteArray := prog_9_method_24_code
def yX7_writeAt : MethodName := ⟨RX7, "writeAt", "(II)V"⟩
abbrev cX7_removeLevels : ByteArray := prog_9_method_25_code
def yX7_removeLevels : MethodName := ⟨RX7, "removeLevels", "(II)V"⟩
abbrev cX8_init : ByteArray := prog_1_method_1_code
def yX8_init : MethodName := ⟨RX8, "<init>", "(III)V"⟩
abbrev cX8_word : ByteArray := prog_1_method_2_code
def yX8_word : MethodName := ⟨RX8, "word", "(I)I"⟩
abbrev cX8_close : ByteArray := prog_1_method_3_code
def yX8_close : MethodName := ⟨RX8, "close", "()I"⟩
abbrev cX8_drop : ByteArray := prog_1_method_4_code
def yX8_drop : MethodName := ⟨RX8, "drop", "(I)I"⟩
abbrev cX8_flush : ByteArray := prog_1_method_5_code
def yX8_flush : MethodName := ⟨RX8, "flush", "()I"⟩
abbrev cX8_finish : ByteArray := prog_1_method_6_code
def yX8_finish : MethodName := ⟨RX8, "finish", "()I"⟩
abbrev cX8_find : ByteArray := prog_1_method_7_code
def yX8_find : MethodName := ⟨RX8, "find", "(III)I"⟩
abbrev cX8_rank : ByteArray := prog_1_method_8_code
def yX8_rank : MethodName := ⟨RX8, "rank", "(II)I"⟩
abbrev cX8_result : ByteArray := prog_1_method_9_code
def yX8_result : MethodName := ⟨RX8, "result", "(I)I"⟩
abbrev cX8_score : ByteArray := prog_1_method_10_code
def yX8_score : MethodName := ⟨RX8, "score", "(I)D"⟩
abbrev cX8_byteOf : ByteArray := prog_1_method_11_code
def yX8_byteOf : MethodName := ⟨RX8, "byteOf", "(II)I"⟩
abbrev cX8_run : ByteArray := prog_1_method_12_code
def yX8_run : MethodName := ⟨RX8, "run", "(II)I"⟩
abbrev cX8_count : ByteArray := prog_1_method_13_code
def yX8_count : MethodName := ⟨RX8, "count", "(I)I"⟩
abbrev cX8_clamp : ByteArray := prog_1_method_14_code
def yX8_clamp : MethodName := ⟨RX8, "clamp", "(III)I"⟩
abbrev cX8_isWord : ByteArray := prog_1_method_15_code
def yX8_isWord : MethodName := ⟨RX8, "isWord", "(I)Z"⟩
abbrev cX8_flushBuffer : ByteArray := prog_1_method_16_code
def yX8_flushBuffer : MethodName := ⟨RX8, "flushBuffer", "()Z"⟩
abbrev cX8_lookUp : ByteArray := prog_1_method_17_code
def yX8_lookUp : MethodName := ⟨RX8, "lookUp", "(II)V"⟩
abbrev cX8_fits : ByteArray := prog_1_method_18_code
def yX8_fits : MethodName := ⟨RX8, "fits", "(II)Z"⟩
abbrev cX9_init : ByteArray := prog_11_method_1_code
def yX9_init : MethodName := ⟨RX9, "<init>", "(III)V"⟩
abbrev cX9_clamp : ByteArray := prog_11_method_2_code
def yX9_clamp : MethodName := ⟨RX9, "clamp", "(III)I"⟩
abbrev cX9_thrown : ByteArray := prog_11_method_3_code
def yX9_thrown : MethodName := ⟨RX9, "thrown", "()I"⟩
abbrev cX9_fail : ByteArray := prog_11_method_4_code
def yX9_fail : MethodName := ⟨RX9, "fail", "(I)I"⟩
abbrev cX9_bits : ByteArray := prog_11_method_5_code
def yX9_bits : MethodName := ⟨RX9, "bits", "(J)I"⟩
abbrev cX9_in : ByteArray := prog_11_method_6_code
def yX9_in : MethodName := ⟨RX9, "in", "(JI)Z"⟩
abbrev cX9_noWord : ByteArray := prog_11_method_7_code
def yX9_noWord : MethodName := ⟨RX9, "noWord", "(I)Z"⟩
abbrev cX9_often : ByteArray := prog_11_method_8_code
def yX9_often : MethodName := ⟨RX9, "often", "(II)I"⟩
abbrev cX9_word : ByteArray := prog_11_method_9_code
def yX9_word : MethodName := ⟨RX9, "word", "(I)I"⟩
abbrev cX9_buffered : ByteArray := prog_11_method_10_code
def yX9_buffered : MethodName := ⟨RX9, "buffered", "()I"⟩
abbrev cX9_close : ByteArray := prog_11_method_11_code
def yX9_close : MethodName := ⟨RX9, "close", "()I"⟩
abbrev cX9_drop : ByteArray := prog_11_method_12_code
def yX9_drop : MethodName := ⟨RX9, "drop", "(I)I"⟩
abbrev cX9_put : ByteArray := prog_11_method_13_code
def yX9_put : MethodName := ⟨RX9, "put", "(I)V"⟩
abbrev cX9_putWord : ByteArray := prog_11_method_14_code
def yX9_putWord : MethodName := ⟨RX9, "putWord", "(JI)V"⟩
abbrev cX9_encode : ByteArray := prog_11_method_15_code
def yX9_encode : MethodName := ⟨RX9, "encode", "(J)V"⟩
abbrev cX9_room : ByteArray := prog_11_method_16_code
def yX9_room : MethodName := ⟨RX9, "room", "(J)J"⟩
abbrev cX9_flushing : ByteArray := prog_11_method_17_code
def yX9_flushing : MethodName := ⟨RX9, "flushing", "()Z"⟩
abbrev cX9_full : ByteArray := prog_11_method_18_code
def yX9_full : MethodName := ⟨RX9, "full", "()I"⟩
abbrev cX9_merge : ByteArray := prog_11_method_19_code
def yX9_merge : MethodName := ⟨RX9, "merge", "(I)Z"⟩
abbrev cX9_flush : ByteArray := prog_11_method_20_code
def yX9_flush : MethodName := ⟨RX9, "flush", "()I"⟩
abbrev cX9_finish : ByteArray := prog_11_method_21_code
def yX9_finish : MethodName := ⟨RX9, "finish", "()I"⟩
abbrev cX9_adjacent : ByteArray := prog_11_method_22_code
def yX9_adjacent : MethodName := ⟨RX9, "adjacent", "(III)Z"⟩
abbrev cX9_fits : ByteArray := prog_11_method_23_code
def yX9_fits : MethodName := ⟨RX9, "fits", "(IIII)Z"⟩
abbrev cX9_find : ByteArray := prog_11_method_24_code
def yX9_find : MethodName := ⟨RX9, "find", "(III)I"⟩
abbrev cX9_part : ByteArray := prog_11_method_25_code
def yX9_part : MethodName := ⟨RX9, "part", "(II)D"⟩
abbrev cX9_rank : ByteArray := prog_11_method_26_code
def yX9_rank : MethodName := ⟨RX9, "rank", "(II)I"⟩
abbrev cX9_result : ByteArray := prog_11_method_27_code
def yX9_result : MethodName := ⟨RX9, "result", "(I)I"⟩
abbrev cX9_score : ByteArray := prog_11_method_28_code
def yX9_score : MethodName := ⟨RX9, "score", "(I)D"⟩
abbrev cX9_byteOf : ByteArray := prog_11_method_29_code
def yX9_byteOf : MethodName := ⟨RX9, "byteOf", "(II)I"⟩
abbrev cX9_run : ByteArray := prog_11_method_30_code
def yX9_run : MethodName := ⟨RX9, "run", "(II)I"⟩
abbrev cX9_count : ByteArray := prog_11_method_31_code
def yX9_count : MethodName := ⟨RX9, "count", "(I)I"⟩
abbrev cL_cell : ByteArray := method_2_code
def yL_cell : MethodName := ⟨RL, "cell", "([II)I"⟩
abbrev cL_word : ByteArray := method_3_code
def yL_word : MethodName := ⟨RL, "word", "(LIndexBuilder;I[J)I"⟩
abbrev cL_close : ByteArray := method_4_code
def yL_close : MethodName := ⟨RL, "close", "(LIndexBuilder;[J)I"⟩
abbrev cL_drop : ByteArray := method_5_code
def yL_drop : MethodName := ⟨RL, "drop", "(LIndexBuilder;I[J)I"⟩
abbrev cL_flush : ByteArray := method_6_code
def yL_flush : MethodName := ⟨RL, "flush", "(LIndexBuilder;[J)I"⟩
abbrev cL_finish : ByteArray := method_7_code
def yL_finish : MethodName := ⟨RL, "finish", "(LIndexBuilder;[J)I"⟩
abbrev cL_find : ByteArray := method_8_code
def yL_find : MethodName := ⟨RL, "find", "(LIndexBuilder;III[J)I"⟩
abbrev cL_rank : ByteArray := method_9_code
def yL_rank : MethodName := ⟨RL, "rank", "(LIndexBuilder;II[J)I"⟩
abbrev cL_result : ByteArray := method_10_code
def yL_result : MethodName := ⟨RL, "result", "(LIndexBuilder;I[J)I"⟩
abbrev cL_score : ByteArray := method_11_code
def yL_score : MethodName := ⟨RL, "score", "(LIndexBuilder;I[D)I"⟩
abbrev cL_byteOf : ByteArray := method_12_code
def yL_byteOf : MethodName := ⟨RL, "byteOf", "(LIndexBuilder;II[J)I"⟩
abbrev cL_run : ByteArray := method_13_code
def yL_run : MethodName := ⟨RL, "run", "(LIndexBuilder;II[J)I"⟩
abbrev cJ0_init : ByteArray := prog_32_method_2_code
def yJ0_init : MethodName := ⟨RJ0, "<init>", "()V"⟩
abbrev cJ0_size : ByteArray := prog_32_method_8_code
def yJ0_size : MethodName := ⟨RJ0, "size", "()I"⟩
abbrev cJ0_isEmpty : ByteArray := prog_32_method_9_code
def yJ0_isEmpty : MethodName := ⟨RJ0, "isEmpty", "()Z"⟩
abbrev cJ0_get : ByteArray := prog_32_method_20_code
def yJ0_get : MethodName := ⟨RJ0, "get", "(I)Ljava/lang/Object;"⟩
abbrev cJ0_elementData : ByteArray := prog_32_method_18_code
def yJ0_elementData : MethodName := ⟨RJ0, "elementData", "(I)Ljava/lang/Object;"⟩
abbrev cJ0_add : ByteArray := prog_32_method_26_code
def yJ0_add : MethodName := ⟨RJ0, "add", "(ILjava/lang/Object;)V"⟩
abbrev cJ0_rangeCheckForAdd : ByteArray := prog_32_method_45_code
def yJ0_rangeCheckForAdd : MethodName := ⟨RJ0, "rangeCheckForAdd", "(I)V"⟩
abbrev cJ0_grow : ByteArray := prog_32_method_7_code
def yJ0_grow : MethodName := ⟨RJ0, "grow", "()[Ljava/lang/Object;"⟩
abbrev cJ0_grow1 : ByteArray := prog_32_method_6_code
def yJ0_grow1 : MethodName := ⟨RJ0, "grow", "(I)[Ljava/lang/Object;"⟩
abbrev cJ0_remove : ByteArray := prog_32_method_29_code
def yJ0_remove : MethodName := ⟨RJ0, "remove", "(I)Ljava/lang/Object;"⟩
abbrev cJ0_fastRemove : ByteArray := prog_32_method_39_code
def yJ0_fastRemove : MethodName := ⟨RJ0, "fastRemove", "([Ljava/lang/Object;I)V"⟩
abbrev cJ1_init : ByteArray := prog_31_method_1_code
def yJ1_init : MethodName := ⟨RJ1, "<init>", "()V"⟩
abbrev cJ2_init : ByteArray := prog_30_method_1_code
def yJ2_init : MethodName := ⟨RJ2, "<init>", "()V"⟩
abbrev cJ3_checkIndex : ByteArray := prog_37_method_17_code
def yJ3_checkIndex : MethodName := ⟨RJ3, "checkIndex", "(II)I"⟩
abbrev cJ4_checkIndex : ByteArray := prog_41_method_11_code
def yJ4_checkIndex : MethodName := ⟨RJ4, "checkIndex", "(IILjava/util/function/BiFunction;)I"⟩
abbrev cJ5_fill : ByteArray := prog_33_method_103_code
def yJ5_fill : MethodName := ⟨RJ5, "fill", "([II)V"⟩
abbrev cJ5_copyOf : ByteArray := prog_33_method_119_code
def yJ5_copyOf : MethodName := ⟨RJ5, "copyOf", "([Ljava/lang/Object;I)[Ljava/lang/Object;"⟩
abbrev cJ5_copyOf1 : ByteArray := prog_33_method_120_code
def yJ5_copyOf1 : MethodName := ⟨RJ5, "copyOf", "([Ljava/lang/Object;ILjava/lang/Class;)[Ljava/lang/Object;"⟩
abbrev cJ6_newLength : ByteArray := prog_40_method_27_code
def yJ6_newLength : MethodName := ⟨RJ6, "newLength", "(III)I"⟩
abbrev cJ7_max : ByteArray := prog_21_method_65_code
def yJ7_max : MethodName := ⟨RJ7, "max", "(II)I"⟩
abbrev cJ7_min : ByteArray := prog_21_method_69_code
def yJ7_min : MethodName := ⟨RJ7, "min", "(II)I"⟩
abbrev cJ8_bitCount : ByteArray := prog_19_method_49_code
def yJ8_bitCount : MethodName := ⟨RJ8, "bitCount", "(I)I"⟩
end
section
-- the abstract heap: a list of cells, addressed by their place; B is the address of place 0
/-- the address of a place: place 0 is the one cell of the library's that the lists share, the others are the law's own, from B on -/
def hh_ad (B e0 : Nat) : Nat → Nat
  | 0 => e0
  | i + 1 => B + i
abbrev hh_V : Type := Int32 ⊕ (Option Nat ⊕ (UInt64 ⊕ Int64))
abbrev hh_A : Type := List Int32 ⊕ (List UInt64 ⊕ (List Int64 ⊕ List (Option Nat)))
abbrev hh_C : Type := (Nat × hh_A) ⊕ (Nat × List hh_V)
abbrev hh_H : Type := List hh_C
/-- the library's empty array of objects -/
def hh_nil : hh_C := .inl (4, .inr (.inr (.inr [])))
def hh_v (B e0 : Nat) (v : hh_V) : Value := match v with
  | .inl x => .int x
  | .inr (.inl none) => .null
  | .inr (.inl (some i)) => .ref (hh_ad B e0 i)
  | .inr (.inr (.inl d)) => .double d
  | .inr (.inr (.inr d)) => .long d
def hh_a (B e0 : Nat) (a : hh_A) : vp_A := match a with
  | .inl l => (l.length, .inl (fun j => l.getD j 0))
  | .inr (.inl l) => (l.length, .inr (.inr (.inr (.inl (fun j => l.getD j 0)))))
  | .inr (.inr (.inl l)) => (l.length, .inr (.inl (fun j => l.getD j 0)))
  | .inr (.inr (.inr l)) => (l.length, .inr (.inr (.inr (.inr (fun j => (l.getD j none).map (hh_ad B e0))))))
def hh_c (B e0 : Nat) (cT : Nat → ClassId) (e : hh_C) : va_E := match e with
  | .inl (t, a) => .inl (cT t, hh_a B e0 a)
  | .inr (c, fs) => .inr (c, fs.map (hh_v B e0))
def hh_w (B e0 : Nat) (cT : Nat → ClassId) (h : hh_H) : va_W := h.mapIdx (fun i e => (hh_ad B e0 i, hh_c B e0 cT e))
theorem hh_w_get {B e0 : Nat} {cT : Nat → ClassId} {h : hh_H} {i : Nat} {e : hh_C} (hi : h[i]? = some e) : (hh_w B e0 cT h)[i]? = some (hh_ad B e0 i, hh_c B e0 cT e) := by
  simp [hh_w, List.getElem?_mapIdx, hi]
theorem hh_w_of {B e0 : Nat} {cT : Nat → ClassId} {h : hh_H} {i : Nat} {q : Nat × va_E} (hi : (hh_w B e0 cT h)[i]? = some q) : ∃ e, h[i]? = some e ∧ q = (hh_ad B e0 i, hh_c B e0 cT e) := by
  simp only [hh_w, List.getElem?_mapIdx, Option.map_eq_some_iff] at hi
  obtain ⟨e, h1, h2⟩ := hi
  exact ⟨e, h1, h2.symm⟩
theorem hh_w_set {B e0 : Nat} {cT : Nat → ClassId} {h : hh_H} {i : Nat} {e : hh_C} : (hh_w B e0 cT h).set i (hh_ad B e0 i, hh_c B e0 cT e) = hh_w B e0 cT (h.set i e) := by
  apply List.ext_getElem?
  intro j
  simp only [hh_w, List.getElem?_set, List.getElem?_mapIdx, List.length_mapIdx]
  by_cases hj : i = j
  · subst hj
    by_cases hl : i < h.length <;> simp [hl]
  · simp [hj]
theorem hh_w_app {B e0 : Nat} {cT : Nat → ClassId} {h : hh_H} {e : hh_C} : hh_w B e0 cT (h ++ [e]) = hh_w B e0 cT h ++ [(hh_ad B e0 h.length, hh_c B e0 cT e)] := by
  simp [hh_w, List.mapIdx_append]
theorem hh_ad_inj {B e0 i j : Nat} (he : e0 < B) (h : hh_ad B e0 i = hh_ad B e0 j) : i = j := by
  match i, j, h with
  | 0, 0, _ => rfl
  | 0, j + 1, h => exact absurd (show e0 = B + j from h) (by omega)
  | i + 1, 0, h => exact absurd (show B + i = e0 from h) (by omega)
  | i + 1, j + 1, h => exact congrArg (· + 1) (Nat.add_left_cancel (show B + i = B + j from h))
theorem hh_D {B e0 : Nat} {cT : Nat → ClassId} {h : hh_H} (he : e0 < B) : va_D (fun _ => True) (hh_w B e0 cT h) := by
  refine ⟨fun i j p q hi hj hpq => ?_, fun k q hk => trivial⟩
  obtain ⟨e, -, rfl⟩ := hh_w_of hi
  obtain ⟨e', -, rfl⟩ := hh_w_of hj
  exact hh_ad_inj he hpq
-- the words of the tables that every method takes along
def hh_T : List Cond := lw_tbl.filter goodWord
theorem hh_good : GoodIn hh_T hh_T := fun w hw => ⟨hw, good_of_word (List.mem_filter.mp hw).2⟩
theorem hh_at {w : Cond} (n : Nat) (h : lw_tbl[n]? = some w) (g : goodWord w = true) : w ∈ hh_T := List.mem_filter.mpr ⟨List.mem_of_getElem? h, g⟩
theorem hh_sub {ws : List Cond} (h : ∀ w ∈ ws, w ∈ lw_tbl) (g : ∀ w ∈ ws, goodWord w = true) : ∀ w ∈ ws, w ∈ hh_T := fun w hw => List.mem_filter.mpr ⟨h w hw, g w hw⟩
theorem hh_all1 {a : Cond} (h : a ∈ hh_T) : ∀ w ∈ [a], w ∈ hh_T := fun w hw => by rw [List.mem_singleton.mp hw]; exact h
theorem hh_all2 {a b : Cond} (h : a ∈ hh_T) (h2 : b ∈ hh_T) : ∀ w ∈ [a, b], w ∈ hh_T := fun w hw => by
  rcases List.mem_cons.mp hw with rfl | hw
  · exact h
  · rw [List.mem_singleton.mp hw]; exact h2
theorem hh_inT {w : Cond} (h : w ∈ lw_tbl) (g : goodWord w = true) : w ∈ hh_T := List.mem_filter.mpr ⟨h, g⟩
-- the judgement
def hh_cA (cT : Nat → ClassId) (vm : Vm) : Prop := vm.findClass "[I" = some (cT 0) ∧ vm.findClass "[Z" = some (cT 1) ∧ vm.findClass "[D" = some (cT 2) ∧ vm.findClass "[J" = some (cT 3) ∧ vm.findClass "[Ljava/lang/Object;" = some (cT 4) ∧ vm.findClass "[B" = some (cT 5)
abbrev hh_X : Type := Program × Launch × Env × Room × State × MethodId × Array Value × List Frame × Method × Code × (State → Prop) × va_G × (Nat → ClassId) × Nat × Nat × Nat
def hh_S (D : va_G) (cT : Nat → ClassId) (B e0 : Nat) (s : State) (h : hh_H) (H : Heap) (locs : List Loc) : Prop :=
  va_P D hh_cl (hh_w B e0 cT h) H ∧ (h[0]? = some hh_nil ∧ e0 < B ∧ H.size + 1 = B + h.length) ∧ va_S (fun q => B ≤ q) s.heap H locs
def hh_W (X : hh_X) (cn sn pc : Nat) (lv : List (Nat × Value)) (st : List Value) (h : hh_H) : Prop :=
  match X with
  | (p, l, e, R, s, m, args, below, meth, c, Q, D, cT, B, e0, nL) =>
    ∀ (H : Heap) (locs : List Loc) (ls : Array Slot), hh_S D cT B e0 s h H locs → lv_has ls nL lv → W p l e R s m args below meth c H locs cn sn Q (F0 m pc ls st)
def hh_tys (cT : Nat → ClassId) : List (ClassId × FieldType) := [(cT 0, .int), (cT 1, .boolean), (cT 2, .double), (cT 3, .long), (cT 4, .object "java/lang/Object"), (cT 5, .byte)]
def hh_ok (X : hh_X) (B e0 : Nat) (cc : ByteArray) (own : String) (nL : Nat) (ret : Option FieldType) (nm : String) (R : Room) : Prop :=
  match X with
  | (p, _, _, R', s, m, args, _, meth, c, _, D, cT, B', e0', nL') =>
    p.tables.exec = Jvm.exec ∧ c.code = cc ∧ c.maxLocals = nL ∧ s.vm.findClass own = some m.cls ∧ (∀ w ∈ hh_T, w.before args s = true) ∧ va_K D hh_cl (hh_tys cT) s ∧ meth.locks = false ∧ meth.sig.returnType = ret ∧ meth.name = nm ∧ R' = R ∧ B' = B ∧ e0' = e0 ∧ nL' = nL ∧ B ≤ s.heap.size ∧ (∀ q, s.heap.size ≤ q → B ≤ q) ∧
      hh_cA cT s.vm
/-- how a method ends -/
def hh_Q (D : va_G) (cT : Nat → ClassId) (B e0 : Nat) (o : Outcome) (h : hh_H) : Array Value → State → Outcome → State → Prop :=
  fun _ st o' t => o' = o ∧ va_P D hh_cl (hh_w B e0 cT h) t.heap ∧ (h[0]? = some hh_nil ∧ e0 < B ∧ t.heap.size + 1 = B + h.length) ∧ va_F (fun q => B ≤ q) st t
def hh_End (X : hh_X) (B e0 : Nat) (o : Outcome) (h : hh_H) (mc ms : Nat) : Prop :=
  match X with
  | (_, _, _, _, s, _, args, below, _, _, Q, D, cT, _, _, _) => Q = MQ below (hh_Q D cT B e0 o h) args s mc ms (fun q => B ≤ q)
def hh_Pc (D : va_G) (cT : Nat → ClassId) (B e0 : Nat) (av : List Value) (h : hh_H) : Array Value → State → Prop :=
  fun v U => v = av.toArray ∧ va_P D hh_cl (hh_w B e0 cT h) U.heap ∧ (h[0]? = some hh_nil ∧ e0 < B ∧ U.heap.size + 1 = B + h.length) ∧ va_K D hh_cl (hh_tys cT) U ∧ hh_cA cT U.vm
/-- a method's contract -/
def hh_Met (y : MethodName) (yb : ByteArray) (ym : Nat) (yr : Option FieldType) (rm : Room) (mc ms B e0 : Nat) (av : List Value) (h : hh_H) (o : Outcome) (h' : hh_H) : Prop :=
  ∀ (l : Launch) (D : va_G) (cT : Nat → ClassId), Met l y (.code y yb ym yr :: hh_T) rm (hh_Pc D cT B e0 av h) (hh_Q D cT B e0 o h') mc ms (fun q => B ≤ q)
-- the operations on the abstract heap
def hp_gv (h : hh_H) (a ci k : Nat) : Option hh_V := match h[a]? with
  | some (.inr (c, fs)) => if c = ci then fs[k]? else none
  | _ => none
def hp_gi (h : hh_H) (a ci k : Nat) : Option Int32 := match hp_gv h a ci k with
  | some (.inl x) => some x
  | _ => none
def hp_ga (h : hh_H) (a ci k : Nat) : Option Nat := match hp_gv h a ci k with
  | some (.inr (.inl (some i))) => some i
  | _ => none
def hp_gd (h : hh_H) (a ci k : Nat) : Option UInt64 := match hp_gv h a ci k with
  | some (.inr (.inr (.inl x))) => some x
  | _ => none
def hp_gj (h : hh_H) (a ci k : Nat) : Option Int64 := match hp_gv h a ci k with
  | some (.inr (.inr (.inr x))) => some x
  | _ => none
def hp_p (h : hh_H) (a ci k : Nat) (v : hh_V) : Option hh_H := match h[a]? with
  | some (.inr (c, fs)) => if c = ci ∧ k < fs.length then some (h.set a (.inr (c, fs.set k v))) else none
  | _ => none
def hp_pi (h : hh_H) (a ci k : Nat) (x : Int32) : Option hh_H := hp_p h a ci k (.inl x)
def hp_pz (h : hh_H) (a ci k : Nat) (x : Int32) : Option hh_H := if x = 0 ∨ x = 1 then hp_p h a ci k (.inl x) else none
def hp_pa (h : hh_H) (a ci k : Nat) (x : Nat) : Option hh_H := hp_p h a ci k (.inr (.inl (some x)))
def hp_pd (h : hh_H) (a ci k : Nat) (x : UInt64) : Option hh_H := hp_p h a ci k (.inr (.inr (.inl x)))
def hp_pj (h : hh_H) (a ci k : Nat) (x : Int64) : Option hh_H := hp_p h a ci k (.inr (.inr (.inr x)))
def hp_alen (a : hh_A) : Nat := match a with
  | .inl l => l.length
  | .inr (.inl l) => l.length
  | .inr (.inr (.inl l)) => l.length
  | .inr (.inr (.inr l)) => l.length
def hp_len (h : hh_H) (a : Nat) : Option Int32 := match h[a]? with
  | some (.inl (t, x)) => if t < 6 then some (Int32.ofNat (hp_alen x)) else none
  | _ => none
def hp_ints (h : hh_H) (a t : Nat) : Option (List Int32) := match h[a]? with
  | some (.inl (t', .inl l)) => if t' = t then some l else none
  | _ => none
def hp_dbls (h : hh_H) (a t : Nat) : Option (List UInt64) := match h[a]? with
  | some (.inl (t', .inr (.inl l))) => if t' = t then some l else none
  | _ => none
def hp_lngs (h : hh_H) (a t : Nat) : Option (List Int64) := match h[a]? with
  | some (.inl (t', .inr (.inr (.inl l)))) => if t' = t then some l else none
  | _ => none
def hp_ld {α : Type} (l : Option (List α)) (i : Int32) : Option α := match l with
  | some l => if i < 0 then none else l[i.toNatClampNeg]?
  | none => none
def hp_ai (h : hh_H) (a : Nat) (i : Int32) : Option Int32 := hp_ld (hp_ints h a 0) i
def hp_az (h : hh_H) (a : Nat) (i : Int32) : Option Int32 := hp_ld (hp_ints h a 1) i
def hp_ab (h : hh_H) (a : Nat) (i : Int32) : Option Int32 := hp_ld (hp_ints h a 5) i
def hp_ad (h : hh_H) (a : Nat) (i : Int32) : Option UInt64 := hp_ld (hp_dbls h a 2) i
def hp_aj (h : hh_H) (a : Nat) (i : Int32) : Option Int64 := hp_ld (hp_lngs h a 3) i
def hp_refs (h : hh_H) (a t : Nat) : Option (List (Option Nat)) := match h[a]? with
  | some (.inl (t', .inr (.inr (.inr l)))) => if t' = t then some l else none
  | _ => none
def hp_aq (h : hh_H) (a : Nat) (i : Int32) : Option Nat := match hp_ld (hp_refs h a 4) i with
  | some (some q) => some q
  | _ => none
def hp_st {α : Type} (l : Option (List α)) (i : Int32) (x : α) : Option (List α) := match l with
  | some l => if i < 0 then none else if i.toNatClampNeg < l.length then some (l.set i.toNatClampNeg x) else none
  | none => none
def hp_si (h : hh_H) (a : Nat) (i x : Int32) : Option hh_H := (hp_st (hp_ints h a 0) i x).map fun l => h.set a (.inl (0, .inl l))
def hp_sz (h : hh_H) (a : Nat) (i x : Int32) : Option hh_H := (hp_st (hp_ints h a 1) i (vp_nar .boolean x)).map fun l => h.set a (.inl (1, .inl l))
def hp_sb (h : hh_H) (a : Nat) (i x : Int32) : Option hh_H := (hp_st (hp_ints h a 5) i (vp_nar .byte x)).map fun l => h.set a (.inl (5, .inl l))
def hp_sd (h : hh_H) (a : Nat) (i : Int32) (x : UInt64) : Option hh_H := (hp_st (hp_dbls h a 2) i x).map fun l => h.set a (.inl (2, .inr (.inl l)))
def hp_sj (h : hh_H) (a : Nat) (i : Int32) (x : Int64) : Option hh_H := (hp_st (hp_lngs h a 3) i x).map fun l => h.set a (.inl (3, .inr (.inr (.inl l))))
def hp_sq (h : hh_H) (a : Nat) (i : Int32) (x : Option Nat) : Option hh_H := (hp_st (hp_refs h a 4) i x).map fun l => h.set a (.inl (4, .inr (.inr (.inr l))))
def hp_is (h : hh_H) (a ci : Nat) : Option Unit := match h[a]? with
  | some (.inr (c, _)) => if c = ci then some () else none
  | _ => none
theorem hp_is_of {h : hh_H} {a ci : Nat} {u : Unit} (hv : hp_is h a ci = some u) : ∃ fs, h[a]? = some (.inr (ci, fs)) := by
  unfold hp_is at hv
  split at hv
  · rename_i c fs he
    split at hv
    · rename_i hc
      subst hc
      exact ⟨fs, he⟩
    · cases hv
  · cases hv
def hp_new (h : hh_H) (ci : Nat) : Option (Nat × hh_H) := some (h.length, h ++ [.inr (ci, hh_dfl ci)])
def hp_zero (t n : Nat) : hh_A := match t with
  | 2 => .inr (.inl (List.replicate n 0))
  | 3 => .inr (.inr (.inl (List.replicate n 0)))
  | 4 => .inr (.inr (.inr (List.replicate n none)))
  | _ => .inl (List.replicate n 0)
def hp_na (h : hh_H) (t : Nat) (n : Int32) (bd : Nat) : Option (Nat × hh_H) := if n < 0 ∨ bd < n.toNatClampNeg then none else some (h.length, h ++ [.inl (t, hp_zero t n.toNatClampNeg)])
def hp_nn (x : UInt64) : Option UInt64 := if x &&& 0x7fffffffffffffff ≤ 0x7ff0000000000000 then some x else none
def hp_zb (x : Int32) : Option Int32 := if x = 0 ∨ x = 1 then some x else none
def hp_cb {ρ σ : Type} (o : Option (ρ × hh_H)) (k : ρ → hh_H → Option σ) : Option σ := match o with
  | some (r, h) => k r h
  | none => none
theorem hp_cbe {ρ σ : Type} {o : Option (ρ × hh_H)} {k : ρ → hh_H → Option σ} {z : σ} (hf : hp_cb o k = some z) : ∃ r h, o = some (r, h) ∧ k r h = some z := by
  match o, hf with
  | some (r, h), hf => exact ⟨r, h, rfl, hf⟩
theorem hp_bind {ρ σ : Type} {o : Option ρ} {k : ρ → Option σ} {z : σ} (hf : o.bind k = some z) : ∃ r, o = some r ∧ k r = some z := by
  match o, hf with
  | some r, hf => exact ⟨r, rfl, hf⟩
def hp_it {τ : Type} (z : τ) (b : τ → τ) : Nat → τ
  | 0 => z
  | n + 1 => b (hp_it z b n)
end
section
theorem r_iconst {X : hh_X} {B e0 : Nat} {cc : ByteArray} {own : String} {nL : Nat} {ret : Option FieldType} {nm : String} {R : Room} {cn sn pc : Nat} {lv : List (Nat × Value)} {st : List Value} {h : hh_H} (C : hh_ok X B e0 cc own nL ret nm R) {n : Int} {v : Int32} (d : decode cc pc = .ok (.iconst n, 1)) (hv : Int32.ofInt n = v) (k : hh_W X cn sn (pc + 1) lv (.int v :: st) h) : hh_W X cn sn pc lv st h := by
  obtain ⟨p, l, e, R', s, m, args, below, meth, c, Q, D, cT, B', e0', nL'⟩ := X
  obtain ⟨hx, hb, hml, hown, hts, hK, hlk, hrt, hnm, rfl, rfl, rfl, rfl, hB, hA, hcA⟩ := C
  intro H locs ls hS hl
  exact lv_iconst hx hb d hv (k H locs ls hS hl)
theorem r_bipush {X : hh_X} {B e0 : Nat} {cc : ByteArray} {own : String} {nL : Nat} {ret : Option FieldType} {nm : String} {R : Room} {cn sn pc : Nat} {lv : List (Nat × Value)} {st : List Value} {h : hh_H} (C : hh_ok X B e0 cc own nL ret nm R) {n : Int} {v : Int32} (d : decode cc pc = .ok (.bipush n, 2)) (hv : (Int8.ofInt n).toInt32 = v) (k : hh_W X cn sn (pc + 2) lv (.int v :: st) h) : hh_W X cn sn pc lv st h := by
  obtain ⟨p, l, e, R', s, m, args, below, meth, c, Q, D, cT, B', e0', nL'⟩ := X
  obtain ⟨hx, hb, hml, hown, hts, hK, hlk, hrt, hnm, rfl, rfl, rfl, rfl, hB, hA, hcA⟩ := C
  intro H locs ls hS hl
  exact lv_bipush hx hb d hv (k H locs ls hS hl)
theorem r_sipush {X : hh_X} {B e0 : Nat} {cc : ByteArray} {own : String} {nL : Nat} {ret : Option FieldType} {nm : String} {R : Room} {cn sn pc : Nat} {lv : List (Nat × Value)} {st : List Value} {h : hh_H} (C : hh_ok X B e0 cc own nL ret nm R) {n : Int} {v : Int32} (d : decode cc pc = .ok (.sipush n, 3)) (hv : (Int16.ofInt n).toInt32 = v) (k : hh_W X cn sn (pc + 3) lv (.int v :: st) h) : hh_W X cn sn pc lv st h := by
  obtain ⟨p, l, e, R', s, m, args, below, meth, c, Q, D, cT, B', e0', nL'⟩ := X
  obtain ⟨hx, hb, hml, hown, hts, hK, hlk, hrt, hnm, rfl, rfl, rfl, rfl, hB, hA, hcA⟩ := C
  intro H locs ls hS hl
  exact lv_sipush hx hb d hv (k H locs ls hS hl)
theorem r_lconst {X : hh_X} {B e0 : Nat} {cc : ByteArray} {own : String} {nL : Nat} {ret : Option FieldType} {nm : String} {R : Room} {cn sn pc : Nat} {lv : List (Nat × Value)} {st : List Value} {h : hh_H} (C : hh_ok X B e0 cc own nL ret nm R) {n : Fin 2} {v : Int64} (d : decode cc pc = .ok (.lconst n, 1)) (hv : Int64.ofNat (n : Nat) = v) (k : hh_W X cn sn (pc + 1) lv (.long v :: st) h) : hh_W X cn sn pc lv st h := by
  obtain ⟨p, l, e, R', s, m, args, below, meth, c, Q, D, cT, B', e0', nL'⟩ := X
  obtain ⟨hx, hb, hml, hown, hts, hK, hlk, hrt, hnm, rfl, rfl, rfl, rfl, hB, hA, hcA⟩ := C
  intro H locs ls hS hl
  exact lv_lconst hx hb d hv (k H locs ls hS hl)
theorem r_dconst0 {X : hh_X} {B e0 : Nat} {cc : ByteArray} {own : String} {nL : Nat} {ret : Option FieldType} {nm : String} {R : Room} {cn sn pc : Nat} {lv : List (Nat × Value)} {st : List Value} {h : hh_H} (C : hh_ok X B e0 cc own nL ret nm R) (d : decode cc pc = .ok (.dconst 0, 1)) (k : hh_W X cn sn (pc + 1) lv (.double FP.dconst0 :: st) h) : hh_W X cn sn pc lv st h := by
  obtain ⟨p, l, e, R', s, m, args, below, meth, c, Q, D, cT, B', e0', nL'⟩ := X
  obtain ⟨hx, hb, hml, hown, hts, hK, hlk, hrt, hnm, rfl, rfl, rfl, rfl, hB, hA, hcA⟩ := C
  intro H locs ls hS hl
  exact lv_dconst0 hx hb d (k H locs ls hS hl)
theorem r_dconst1 {X : hh_X} {B e0 : Nat} {cc : ByteArray} {own : String} {nL : Nat} {ret : Option FieldType} {nm : String} {R : Room} {cn sn pc : Nat} {lv : List (Nat × Value)} {st : List Value} {h : hh_H} (C : hh_ok X B e0 cc own nL ret nm R) (d : decode cc pc = .ok (.dconst 1, 1)) (k : hh_W X cn sn (pc + 1) lv (.double FP.dconst1 :: st) h) : hh_W X cn sn pc lv st h := by
  obtain ⟨p, l, e, R', s, m, args, below, meth, c, Q, D, cT, B', e0', nL'⟩ := X
  obtain ⟨hx, hb, hml, hown, hts, hK, hlk, hrt, hnm, rfl, rfl, rfl, rfl, hB, hA, hcA⟩ := C
  intro H locs ls hS hl
  exact lv_dconst1 hx hb d (k H locs ls hS hl)
theorem r_ldc {X : hh_X} {B e0 : Nat} {cc : ByteArray} {own : String} {nL : Nat} {ret : Option FieldType} {nm : String} {R : Room} {cn sn pc : Nat} {lv : List (Nat × Value)} {st : List Value} {h : hh_H} (C : hh_ok X B e0 cc own nL ret nm R) {idx : Nat} {v : Int32} (d : decode cc pc = .ok (.ldc idx, 2)) (hw : Jvm.Cond.constant own idx v ∈ hh_T) (k : hh_W X cn sn (pc + 2) lv (.int v :: st) h) : hh_W X cn sn pc lv st h := by
  obtain ⟨p, l, e, R', s, m, args, below, meth, c, Q, D, cT, B', e0', nL'⟩ := X
  obtain ⟨hx, hb, hml, hown, hts, hK, hlk, hrt, hnm, rfl, rfl, rfl, rfl, hB, hA, hcA⟩ := C
  intro H locs ls hS hl
  exact lv_ldc hx hb hown (hts _ hw) d (k H locs ls hS hl)
theorem r_iload_n {X : hh_X} {B e0 : Nat} {cc : ByteArray} {own : String} {nL : Nat} {ret : Option FieldType} {nm : String} {R : Room} {cn sn pc : Nat} {lv : List (Nat × Value)} {st : List Value} {h : hh_H} (C : hh_ok X B e0 cc own nL ret nm R) {k0 : Fin 4} {i : Nat} {x : Int32} (d : decode cc pc = .ok (.iload_n k0, 1)) (hi : (k0 : Nat) = i) (q : Nat) (hq : lv[q]? = some (i, .int x)) (k : hh_W X cn sn (pc + 1) lv (.int x :: st) h) : hh_W X cn sn pc lv st h := by
  obtain ⟨p, l, e, R', s, m, args, below, meth, c, Q, D, cT, B', e0', nL'⟩ := X
  obtain ⟨hx, hb, hml, hown, hts, hK, hlk, hrt, hnm, rfl, rfl, rfl, rfl, hB, hA, hcA⟩ := C
  intro H locs ls hS hl
  exact lv_iload_n hx hb d hi (lv_at hl q hq) (k H locs ls hS hl)
theorem r_iload {X : hh_X} {B e0 : Nat} {cc : ByteArray} {own : String} {nL : Nat} {ret : Option FieldType} {nm : String} {R : Room} {cn sn pc : Nat} {lv : List (Nat × Value)} {st : List Value} {h : hh_H} (C : hh_ok X B e0 cc own nL ret nm R) {i : Nat} {x : Int32} (d : decode cc pc = .ok (.iload i, 2)) (q : Nat) (hq : lv[q]? = some (i, .int x)) (k : hh_W X cn sn (pc + 2) lv (.int x :: st) h) : hh_W X cn sn pc lv st h := by
  obtain ⟨p, l, e, R', s, m, args, below, meth, c, Q, D, cT, B', e0', nL'⟩ := X
  obtain ⟨hx, hb, hml, hown, hts, hK, hlk, hrt, hnm, rfl, rfl, rfl, rfl, hB, hA, hcA⟩ := C
  intro H locs ls hS hl
  exact lv_iload hx hb d (lv_at hl q hq) (k H locs ls hS hl)
theorem r_istore_n {X : hh_X} {B e0 : Nat} {cc : ByteArray} {own : String} {nL : Nat} {ret : Option FieldType} {nm : String} {R : Room} {cn sn pc : Nat} {lv : List (Nat × Value)} {st : List Value} {h : hh_H} (C : hh_ok X B e0 cc own nL ret nm R) {k0 : Fin 4} {i : Nat} {x : Int32} {lv' : List (Nat × Value)} (d : decode cc pc = .ok (.istore_n k0, 1)) (hi : (k0 : Nat) = i) (hn : i < nL) (hq : (i, Value.int x) :: lv.filter (fun q => !(q.1 == i) && !(q.1 + 1 == i && q.2.category == 2)) = lv') (k : hh_W X cn sn (pc + 1) lv' st h) : hh_W X cn sn pc lv (.int x :: st) h := by
  obtain ⟨p, l, e, R', s, m, args, below, meth, c, Q, D, cT, B', e0', nL'⟩ := X
  obtain ⟨hx, hb, hml, hown, hts, hK, hlk, hrt, hnm, rfl, rfl, rfl, rfl, hB, hA, hcA⟩ := C
  intro H locs ls hS hl
  exact lv_istore_n hx hb d hi hl hn hq (fun ls hl => k H locs ls hS hl)
theorem r_istore {X : hh_X} {B e0 : Nat} {cc : ByteArray} {own : String} {nL : Nat} {ret : Option FieldType} {nm : String} {R : Room} {cn sn pc : Nat} {lv : List (Nat × Value)} {st : List Value} {h : hh_H} (C : hh_ok X B e0 cc own nL ret nm R) {i : Nat} {x : Int32} {lv' : List (Nat × Value)} (d : decode cc pc = .ok (.istore i, 2)) (hn : i < nL) (hq : (i, Value.int x) :: lv.filter (fun q => !(q.1 == i) && !(q.1 + 1 == i && q.2.category == 2)) = lv') (k : hh_W X cn sn (pc + 2) lv' st h) : hh_W X cn sn pc lv (.int x :: st) h := by
  obtain ⟨p, l, e, R', s, m, args, below, meth, c, Q, D, cT, B', e0', nL'⟩ := X
  obtain ⟨hx, hb, hml, hown, hts, hK, hlk, hrt, hnm, rfl, rfl, rfl, rfl, hB, hA, hcA⟩ := C
  intro H locs ls hS hl
  exact lv_istore hx hb d hl hn hq (fun ls hl => k H locs ls hS hl)
theorem r_aload_n {X : hh_X} {B e0 : Nat} {cc : ByteArray} {own : String} {nL : Nat} {ret : Option FieldType} {nm : String} {R : Room} {cn sn pc : Nat} {lv : List (Nat × Value)} {st : List Value} {h : hh_H} (C : hh_ok X B e0 cc own nL ret nm R) {k0 : Fin 4} {i : Nat} {x : Nat} (d : decode cc pc = .ok (.aload_n k0, 1)) (hi : (k0 : Nat) = i) (q : Nat) (hq : lv[q]? = some (i, .ref x)) (k : hh_W X cn sn (pc + 1) lv (.ref x :: st) h) : hh_W X cn sn pc lv st h := by
  obtain ⟨p, l, e, R', s, m, args, below, meth, c, Q, D, cT, B', e0', nL'⟩ := X
  obtain ⟨hx, hb, hml, hown, hts, hK, hlk, hrt, hnm, rfl, rfl, rfl, rfl, hB, hA, hcA⟩ := C
  intro H locs ls hS hl
  exact lv_aload_n hx hb d hi (lv_at hl q hq) (k H locs ls hS hl)
theorem r_aload {X : hh_X} {B e0 : Nat} {cc : ByteArray} {own : String} {nL : Nat} {ret : Option FieldType} {nm : String} {R : Room} {cn sn pc : Nat} {lv : List (Nat × Value)} {st : List Value} {h : hh_H} (C : hh_ok X B e0 cc own nL ret nm R) {i : Nat} {x : Nat} (d : decode cc pc = .ok (.aload i, 2)) (q : Nat) (hq : lv[q]? = some (i, .ref x)) (k : hh_W X cn sn (pc + 2) lv (.ref x :: st) h) : hh_W X cn sn pc lv st h := by
  obtain ⟨p, l, e, R', s, m, args, below, meth, c, Q, D, cT, B', e0', nL'⟩ := X
  obtain ⟨hx, hb, hml, hown, hts, hK, hlk, hrt, hnm, rfl, rfl, rfl, rfl, hB, hA, hcA⟩ := C
  intro H locs ls hS hl
  exact lv_aload hx hb d (lv_at hl q hq) (k H locs ls hS hl)
theorem r_astore_n {X : hh_X} {B e0 : Nat} {cc : ByteArray} {own : String} {nL : Nat} {ret : Option FieldType} {nm : String} {R : Room} {cn sn pc : Nat} {lv : List (Nat × Value)} {st : List Value} {h : hh_H} (C : hh_ok X B e0 cc own nL ret nm R) {k0 : Fin 4} {i : Nat} {x : Nat} {lv' : List (Nat × Value)} (d : decode cc pc = .ok (.astore_n k0, 1)) (hi : (k0 : Nat) = i) (hn : i < nL) (hq : (i, Value.ref x) :: lv.filter (fun q => !(q.1 == i) && !(q.1 + 1 == i && q.2.category == 2)) = lv') (k : hh_W X cn sn (pc + 1) lv' st h) : hh_W X cn sn pc lv (.ref x :: st) h := by
  obtain ⟨p, l, e, R', s, m, args, below, meth, c, Q, D, cT, B', e0', nL'⟩ := X
  obtain ⟨hx, hb, hml, hown, hts, hK, hlk, hrt, hnm, rfl, rfl, rfl, rfl, hB, hA, hcA⟩ := C
  intro H locs ls hS hl
  exact lv_astore_n hx hb d hi hl hn hq (fun ls hl => k H locs ls hS hl)
theorem r_astore {X : hh_X} {B e0 : Nat} {cc : ByteArray} {own : String} {nL : Nat} {ret : Option FieldType} {nm : String} {R : Room} {cn sn pc : Nat} {lv : List (Nat × Value)} {st : List Value} {h : hh_H} (C : hh_ok X B e0 cc own nL ret nm R) {i : Nat} {x : Nat} {lv' : List (Nat × Value)} (d : decode cc pc = .ok (.astore i, 2)) (hn : i < nL) (hq : (i, Value.ref x) :: lv.filter (fun q => !(q.1 == i) && !(q.1 + 1 == i && q.2.category == 2)) = lv') (k : hh_W X cn sn (pc + 2) lv' st h) : hh_W X cn sn pc lv (.ref x :: st) h := by
  obtain ⟨p, l, e, R', s, m, args, below, meth, c, Q, D, cT, B', e0', nL'⟩ := X
  obtain ⟨hx, hb, hml, hown, hts, hK, hlk, hrt, hnm, rfl, rfl, rfl, rfl, hB, hA, hcA⟩ := C
  intro H locs ls hS hl
  exact lv_astore hx hb d hl hn hq (fun ls hl => k H locs ls hS hl)
theorem r_dload_n {X : hh_X} {B e0 : Nat} {cc : ByteArray} {own : String} {nL : Nat} {ret : Option FieldType} {nm : String} {R : Room} {cn sn pc : Nat} {lv : List (Nat × Value)} {st : List Value} {h : hh_H} (C : hh_ok X B e0 cc own nL ret nm R) {k0 : Fin 4} {i : Nat} {x : UInt64} (d : decode cc pc = .ok (.dload_n k0, 1)) (hi : (k0 : Nat) = i) (q : Nat) (hq : lv[q]? = some (i, .double x)) (k : hh_W X cn sn (pc + 1) lv (.double x :: st) h) : hh_W X cn sn pc lv st h := by
  obtain ⟨p, l, e, R', s, m, args, below, meth, c, Q, D, cT, B', e0', nL'⟩ := X
  obtain ⟨hx, hb, hml, hown, hts, hK, hlk, hrt, hnm, rfl, rfl, rfl, rfl, hB, hA, hcA⟩ := C
  intro H locs ls hS hl
  exact lv_dload_n hx hb d hi (lv_at hl q hq) (k H locs ls hS hl)
theorem r_dload {X : hh_X} {B e0 : Nat} {cc : ByteArray} {own : String} {nL : Nat} {ret : Option FieldType} {nm : String} {R : Room} {cn sn pc : Nat} {lv : List (Nat × Value)} {st : List Value} {h : hh_H} (C : hh_ok X B e0 cc own nL ret nm R) {i : Nat} {x : UInt64} (d : decode cc pc = .ok (.dload i, 2)) (q : Nat) (hq : lv[q]? = some (i, .double x)) (k : hh_W X cn sn (pc + 2) lv (.double x :: st) h) : hh_W X cn sn pc lv st h := by
  obtain ⟨p, l, e, R', s, m, args, below, meth, c, Q, D, cT, B', e0', nL'⟩ := X
  obtain ⟨hx, hb, hml, hown, hts, hK, hlk, hrt, hnm, rfl, rfl, rfl, rfl, hB, hA, hcA⟩ := C
  intro H locs ls hS hl
  exact lv_dload hx hb d (lv_at hl q hq) (k H locs ls hS hl)
theorem r_dstore_n {X : hh_X} {B e0 : Nat} {cc : ByteArray} {own : String} {nL : Nat} {ret : Option FieldType} {nm : String} {R : Room} {cn sn pc : Nat} {lv : List (Nat × Value)} {st : List Value} {h : hh_H} (C : hh_ok X B e0 cc own nL ret nm R) {k0 : Fin 4} {i : Nat} {x : UInt64} {lv' : List (Nat × Value)} (d : decode cc pc = .ok (.dstore_n k0, 1)) (hi : (k0 : Nat) = i) (hn : i + 1 < nL) (hq : (i, Value.double x) :: lv.filter (fun q => !(q.1 == i) && (!(q.1 == i + 1) && !(q.1 + 1 == i && q.2.category == 2))) = lv') (k : hh_W X cn sn (pc + 1) lv' st h) : hh_W X cn sn pc lv (.double x :: st) h := by
  obtain ⟨p, l, e, R', s, m, args, below, meth, c, Q, D, cT, B', e0', nL'⟩ := X
  obtain ⟨hx, hb, hml, hown, hts, hK, hlk, hrt, hnm, rfl, rfl, rfl, rfl, hB, hA, hcA⟩ := C
  intro H locs ls hS hl
  exact lv_dstore_n hx hb d hi hl hn hq (fun ls hl => k H locs ls hS hl)
theorem r_dstore {X : hh_X} {B e0 : Nat} {cc : ByteArray} {own : String} {nL : Nat} {ret : Option FieldType} {nm : String} {R : Room} {cn sn pc : Nat} {lv : List (Nat × Value)} {st : List Value} {h : hh_H} (C : hh_ok X B e0 cc own nL ret nm R) {i : Nat} {x : UInt64} {lv' : List (Nat × Value)} (d : decode cc pc = .ok (.dstore i, 2)) (hn : i + 1 < nL) (hq : (i, Value.double x) :: lv.filter (fun q => !(q.1 == i) && (!(q.1 == i + 1) && !(q.1 + 1 == i && q.2.category == 2))) = lv') (k : hh_W X cn sn (pc + 2) lv' st h) : hh_W X cn sn pc lv (.double x :: st) h := by
  obtain ⟨p, l, e, R', s, m, args, below, meth, c, Q, D, cT, B', e0', nL'⟩ := X
  obtain ⟨hx, hb, hml, hown, hts, hK, hlk, hrt, hnm, rfl, rfl, rfl, rfl, hB, hA, hcA⟩ := C
  intro H locs ls hS hl
  exact lv_dstore hx hb d hl hn hq (fun ls hl => k H locs ls hS hl)
theorem r_lload_n {X : hh_X} {B e0 : Nat} {cc : ByteArray} {own : String} {nL : Nat} {ret : Option FieldType} {nm : String} {R : Room} {cn sn pc : Nat} {lv : List (Nat × Value)} {st : List Value} {h : hh_H} (C : hh_ok X B e0 cc own nL ret nm R) {k0 : Fin 4} {i : Nat} {x : Int64} (d : decode cc pc = .ok (.lload_n k0, 1)) (hi : (k0 : Nat) = i) (q : Nat) (hq : lv[q]? = some (i, .long x)) (k : hh_W X cn sn (pc + 1) lv (.long x :: st) h) : hh_W X cn sn pc lv st h := by
  obtain ⟨p, l, e, R', s, m, args, below, meth, c, Q, D, cT, B', e0', nL'⟩ := X
  obtain ⟨hx, hb, hml, hown, hts, hK, hlk, hrt, hnm, rfl, rfl, rfl, rfl, hB, hA, hcA⟩ := C
  intro H locs ls hS hl
  exact lv_lload_n hx hb d hi (lv_at hl q hq) (k H locs ls hS hl)
theorem r_lload {X : hh_X} {B e0 : Nat} {cc : ByteArray} {own : String} {nL : Nat} {ret : Option FieldType} {nm : String} {R : Room} {cn sn pc : Nat} {lv : List (Nat × Value)} {st : List Value} {h : hh_H} (C : hh_ok X B e0 cc own nL ret nm R) {i : Nat} {x : Int64} (d : decode cc pc = .ok (.lload i, 2)) (q : Nat) (hq : lv[q]? = some (i, .long x)) (k : hh_W X cn sn (pc + 2) lv (.long x :: st) h) : hh_W X cn sn pc lv st h := by
  obtain ⟨p, l, e, R', s, m, args, below, meth, c, Q, D, cT, B', e0', nL'⟩ := X
  obtain ⟨hx, hb, hml, hown, hts, hK, hlk, hrt, hnm, rfl, rfl, rfl, rfl, hB, hA, hcA⟩ := C
  intro H locs ls hS hl
  exact lv_lload hx hb d (lv_at hl q hq) (k H locs ls hS hl)
theorem r_lstore_n {X : hh_X} {B e0 : Nat} {cc : ByteArray} {own : String} {nL : Nat} {ret : Option FieldType} {nm : String} {R : Room} {cn sn pc : Nat} {lv : List (Nat × Value)} {st : List Value} {h : hh_H} (C : hh_ok X B e0 cc own nL ret nm R) {k0 : Fin 4} {i : Nat} {x : Int64} {lv' : List (Nat × Value)} (d : decode cc pc = .ok (.lstore_n k0, 1)) (hi : (k0 : Nat) = i) (hn : i + 1 < nL) (hq : (i, Value.long x) :: lv.filter (fun q => !(q.1 == i) && (!(q.1 == i + 1) && !(q.1 + 1 == i && q.2.category == 2))) = lv') (k : hh_W X cn sn (pc + 1) lv' st h) : hh_W X cn sn pc lv (.long x :: st) h := by
  obtain ⟨p, l, e, R', s, m, args, below, meth, c, Q, D, cT, B', e0', nL'⟩ := X
  obtain ⟨hx, hb, hml, hown, hts, hK, hlk, hrt, hnm, rfl, rfl, rfl, rfl, hB, hA, hcA⟩ := C
  intro H locs ls hS hl
  exact lv_lstore_n hx hb d hi hl hn hq (fun ls hl => k H locs ls hS hl)
theorem r_lstore {X : hh_X} {B e0 : Nat} {cc : ByteArray} {own : String} {nL : Nat} {ret : Option FieldType} {nm : String} {R : Room} {cn sn pc : Nat} {lv : List (Nat × Value)} {st : List Value} {h : hh_H} (C : hh_ok X B e0 cc own nL ret nm R) {i : Nat} {x : Int64} {lv' : List (Nat × Value)} (d : decode cc pc = .ok (.lstore i, 2)) (hn : i + 1 < nL) (hq : (i, Value.long x) :: lv.filter (fun q => !(q.1 == i) && (!(q.1 == i + 1) && !(q.1 + 1 == i && q.2.category == 2))) = lv') (k : hh_W X cn sn (pc + 2) lv' st h) : hh_W X cn sn pc lv (.long x :: st) h := by
  obtain ⟨p, l, e, R', s, m, args, below, meth, c, Q, D, cT, B', e0', nL'⟩ := X
  obtain ⟨hx, hb, hml, hown, hts, hK, hlk, hrt, hnm, rfl, rfl, rfl, rfl, hB, hA, hcA⟩ := C
  intro H locs ls hS hl
  exact lv_lstore hx hb d hl hn hq (fun ls hl => k H locs ls hS hl)
theorem r_iinc {X : hh_X} {B e0 : Nat} {cc : ByteArray} {own : String} {nL : Nat} {ret : Option FieldType} {nm : String} {R : Room} {cn sn pc : Nat} {lv : List (Nat × Value)} {st : List Value} {h : hh_H} (C : hh_ok X B e0 cc own nL ret nm R) {i : Nat} {n : Int} {x v : Int32} {lv' : List (Nat × Value)} (d : decode cc pc = .ok (.iinc i n, 3)) (q : Nat) (hk : lv[q]? = some (i, .int x)) (hv : x + Int32.ofInt n = v) (hn : i < nL) (hq : (i, Value.int v) :: lv.filter (fun q => !(q.1 == i) && !(q.1 + 1 == i && q.2.category == 2)) = lv') (k : hh_W X cn sn (pc + 3) lv' st h) : hh_W X cn sn pc lv st h := by
  obtain ⟨p, l, e, R', s, m, args, below, meth, c, Q, D, cT, B', e0', nL'⟩ := X
  obtain ⟨hx, hb, hml, hown, hts, hK, hlk, hrt, hnm, rfl, rfl, rfl, rfl, hB, hA, hcA⟩ := C
  intro H locs ls hS hl
  exact lv_iinc hx hb d hl hk hv hn hq (fun ls hl => k H locs ls hS hl)
theorem r_iadd {X : hh_X} {B e0 : Nat} {cc : ByteArray} {own : String} {nL : Nat} {ret : Option FieldType} {nm : String} {R : Room} {cn sn pc : Nat} {lv : List (Nat × Value)} {st : List Value} {h : hh_H} (C : hh_ok X B e0 cc own nL ret nm R) {x y : Int32} (d : decode cc pc = .ok (.iadd, 1)) (k : hh_W X cn sn (pc + 1) lv (.int (x + y) :: st) h) : hh_W X cn sn pc lv (.int y :: .int x :: st) h := by
  obtain ⟨p, l, e, R', s, m, args, below, meth, c, Q, D, cT, B', e0', nL'⟩ := X
  obtain ⟨hx, hb, hml, hown, hts, hK, hlk, hrt, hnm, rfl, rfl, rfl, rfl, hB, hA, hcA⟩ := C
  intro H locs ls hS hl
  exact lv_iadd hx hb d (k H locs ls hS hl)
theorem r_isub {X : hh_X} {B e0 : Nat} {cc : ByteArray} {own : String} {nL : Nat} {ret : Option FieldType} {nm : String} {R : Room} {cn sn pc : Nat} {lv : List (Nat × Value)} {st : List Value} {h : hh_H} (C : hh_ok X B e0 cc own nL ret nm R) {x y : Int32} (d : decode cc pc = .ok (.isub, 1)) (k : hh_W X cn sn (pc + 1) lv (.int (x - y) :: st) h) : hh_W X cn sn pc lv (.int y :: .int x :: st) h := by
  obtain ⟨p, l, e, R', s, m, args, below, meth, c, Q, D, cT, B', e0', nL'⟩ := X
  obtain ⟨hx, hb, hml, hown, hts, hK, hlk, hrt, hnm, rfl, rfl, rfl, rfl, hB, hA, hcA⟩ := C
  intro H locs ls hS hl
  exact lv_isub hx hb d (k H locs ls hS hl)
theorem r_imul {X : hh_X} {B e0 : Nat} {cc : ByteArray} {own : String} {nL : Nat} {ret : Option FieldType} {nm : String} {R : Room} {cn sn pc : Nat} {lv : List (Nat × Value)} {st : List Value} {h : hh_H} (C : hh_ok X B e0 cc own nL ret nm R) {x y : Int32} (d : decode cc pc = .ok (.imul, 1)) (k : hh_W X cn sn (pc + 1) lv (.int (x * y) :: st) h) : hh_W X cn sn pc lv (.int y :: .int x :: st) h := by
  obtain ⟨p, l, e, R', s, m, args, below, meth, c, Q, D, cT, B', e0', nL'⟩ := X
  obtain ⟨hx, hb, hml, hown, hts, hK, hlk, hrt, hnm, rfl, rfl, rfl, rfl, hB, hA, hcA⟩ := C
  intro H locs ls hS hl
  exact lv_imul hx hb d (k H locs ls hS hl)
theorem r_iand {X : hh_X} {B e0 : Nat} {cc : ByteArray} {own : String} {nL : Nat} {ret : Option FieldType} {nm : String} {R : Room} {cn sn pc : Nat} {lv : List (Nat × Value)} {st : List Value} {h : hh_H} (C : hh_ok X B e0 cc own nL ret nm R) {x y : Int32} (d : decode cc pc = .ok (.iand, 1)) (k : hh_W X cn sn (pc + 1) lv (.int (x &&& y) :: st) h) : hh_W X cn sn pc lv (.int y :: .int x :: st) h := by
  obtain ⟨p, l, e, R', s, m, args, below, meth, c, Q, D, cT, B', e0', nL'⟩ := X
  obtain ⟨hx, hb, hml, hown, hts, hK, hlk, hrt, hnm, rfl, rfl, rfl, rfl, hB, hA, hcA⟩ := C
  intro H locs ls hS hl
  exact lv_iand hx hb d (k H locs ls hS hl)
theorem r_ior {X : hh_X} {B e0 : Nat} {cc : ByteArray} {own : String} {nL : Nat} {ret : Option FieldType} {nm : String} {R : Room} {cn sn pc : Nat} {lv : List (Nat × Value)} {st : List Value} {h : hh_H} (C : hh_ok X B e0 cc own nL ret nm R) {x y : Int32} (d : decode cc pc = .ok (.ior, 1)) (k : hh_W X cn sn (pc + 1) lv (.int (x ||| y) :: st) h) : hh_W X cn sn pc lv (.int y :: .int x :: st) h := by
  obtain ⟨p, l, e, R', s, m, args, below, meth, c, Q, D, cT, B', e0', nL'⟩ := X
  obtain ⟨hx, hb, hml, hown, hts, hK, hlk, hrt, hnm, rfl, rfl, rfl, rfl, hB, hA, hcA⟩ := C
  intro H locs ls hS hl
  exact lv_ior hx hb d (k H locs ls hS hl)
theorem r_ixor {X : hh_X} {B e0 : Nat} {cc : ByteArray} {own : String} {nL : Nat} {ret : Option FieldType} {nm : String} {R : Room} {cn sn pc : Nat} {lv : List (Nat × Value)} {st : List Value} {h : hh_H} (C : hh_ok X B e0 cc own nL ret nm R) {x y : Int32} (d : decode cc pc = .ok (.ixor, 1)) (k : hh_W X cn sn (pc + 1) lv (.int (x ^^^ y) :: st) h) : hh_W X cn sn pc lv (.int y :: .int x :: st) h := by
  obtain ⟨p, l, e, R', s, m, args, below, meth, c, Q, D, cT, B', e0', nL'⟩ := X
  obtain ⟨hx, hb, hml, hown, hts, hK, hlk, hrt, hnm, rfl, rfl, rfl, rfl, hB, hA, hcA⟩ := C
  intro H locs ls hS hl
  exact lv_ixor hx hb d (k H locs ls hS hl)
theorem r_ishl {X : hh_X} {B e0 : Nat} {cc : ByteArray} {own : String} {nL : Nat} {ret : Option FieldType} {nm : String} {R : Room} {cn sn pc : Nat} {lv : List (Nat × Value)} {st : List Value} {h : hh_H} (C : hh_ok X B e0 cc own nL ret nm R) {x y : Int32} (d : decode cc pc = .ok (.ishl, 1)) (k : hh_W X cn sn (pc + 1) lv (.int (x <<< (y &&& 31)) :: st) h) : hh_W X cn sn pc lv (.int y :: .int x :: st) h := by
  obtain ⟨p, l, e, R', s, m, args, below, meth, c, Q, D, cT, B', e0', nL'⟩ := X
  obtain ⟨hx, hb, hml, hown, hts, hK, hlk, hrt, hnm, rfl, rfl, rfl, rfl, hB, hA, hcA⟩ := C
  intro H locs ls hS hl
  exact lv_ishl hx hb d (k H locs ls hS hl)
theorem r_ishr {X : hh_X} {B e0 : Nat} {cc : ByteArray} {own : String} {nL : Nat} {ret : Option FieldType} {nm : String} {R : Room} {cn sn pc : Nat} {lv : List (Nat × Value)} {st : List Value} {h : hh_H} (C : hh_ok X B e0 cc own nL ret nm R) {x y : Int32} (d : decode cc pc = .ok (.ishr, 1)) (k : hh_W X cn sn (pc + 1) lv (.int (x >>> (y &&& 31)) :: st) h) : hh_W X cn sn pc lv (.int y :: .int x :: st) h := by
  obtain ⟨p, l, e, R', s, m, args, below, meth, c, Q, D, cT, B', e0', nL'⟩ := X
  obtain ⟨hx, hb, hml, hown, hts, hK, hlk, hrt, hnm, rfl, rfl, rfl, rfl, hB, hA, hcA⟩ := C
  intro H locs ls hS hl
  exact lv_ishr hx hb d (k H locs ls hS hl)
theorem r_ladd {X : hh_X} {B e0 : Nat} {cc : ByteArray} {own : String} {nL : Nat} {ret : Option FieldType} {nm : String} {R : Room} {cn sn pc : Nat} {lv : List (Nat × Value)} {st : List Value} {h : hh_H} (C : hh_ok X B e0 cc own nL ret nm R) {x y : Int64} (d : decode cc pc = .ok (.ladd, 1)) (k : hh_W X cn sn (pc + 1) lv (.long (x + y) :: st) h) : hh_W X cn sn pc lv (.long y :: .long x :: st) h := by
  obtain ⟨p, l, e, R', s, m, args, below, meth, c, Q, D, cT, B', e0', nL'⟩ := X
  obtain ⟨hx, hb, hml, hown, hts, hK, hlk, hrt, hnm, rfl, rfl, rfl, rfl, hB, hA, hcA⟩ := C
  intro H locs ls hS hl
  exact lv_ladd hx hb d (k H locs ls hS hl)
theorem r_lsub {X : hh_X} {B e0 : Nat} {cc : ByteArray} {own : String} {nL : Nat} {ret : Option FieldType} {nm : String} {R : Room} {cn sn pc : Nat} {lv : List (Nat × Value)} {st : List Value} {h : hh_H} (C : hh_ok X B e0 cc own nL ret nm R) {x y : Int64} (d : decode cc pc = .ok (.lsub, 1)) (k : hh_W X cn sn (pc + 1) lv (.long (x - y) :: st) h) : hh_W X cn sn pc lv (.long y :: .long x :: st) h := by
  obtain ⟨p, l, e, R', s, m, args, below, meth, c, Q, D, cT, B', e0', nL'⟩ := X
  obtain ⟨hx, hb, hml, hown, hts, hK, hlk, hrt, hnm, rfl, rfl, rfl, rfl, hB, hA, hcA⟩ := C
  intro H locs ls hS hl
  exact lv_lsub hx hb d (k H locs ls hS hl)
theorem r_lmul {X : hh_X} {B e0 : Nat} {cc : ByteArray} {own : String} {nL : Nat} {ret : Option FieldType} {nm : String} {R : Room} {cn sn pc : Nat} {lv : List (Nat × Value)} {st : List Value} {h : hh_H} (C : hh_ok X B e0 cc own nL ret nm R) {x y : Int64} (d : decode cc pc = .ok (.lmul, 1)) (k : hh_W X cn sn (pc + 1) lv (.long (x * y) :: st) h) : hh_W X cn sn pc lv (.long y :: .long x :: st) h := by
  obtain ⟨p, l, e, R', s, m, args, below, meth, c, Q, D, cT, B', e0', nL'⟩ := X
  obtain ⟨hx, hb, hml, hown, hts, hK, hlk, hrt, hnm, rfl, rfl, rfl, rfl, hB, hA, hcA⟩ := C
  intro H locs ls hS hl
  exact lv_lmul hx hb d (k H locs ls hS hl)
theorem r_idiv {X : hh_X} {B e0 : Nat} {cc : ByteArray} {own : String} {nL : Nat} {ret : Option FieldType} {nm : String} {R : Room} {cn sn pc : Nat} {lv : List (Nat × Value)} {st : List Value} {h : hh_H} (C : hh_ok X B e0 cc own nL ret nm R) {x y : Int32} (d : decode cc pc = .ok (.idiv, 1)) (hne : ¬ y = 0) (k : hh_W X cn sn (pc + 1) lv (.int (x / y) :: st) h) : hh_W X cn sn pc lv (.int y :: .int x :: st) h := by
  obtain ⟨p, l, e, R', s, m, args, below, meth, c, Q, D, cT, B', e0', nL'⟩ := X
  obtain ⟨hx, hb, hml, hown, hts, hK, hlk, hrt, hnm, rfl, rfl, rfl, rfl, hB, hA, hcA⟩ := C
  intro H locs ls hS hl
  exact lv_idiv hx hb d hne (k H locs ls hS hl)
theorem r_irem {X : hh_X} {B e0 : Nat} {cc : ByteArray} {own : String} {nL : Nat} {ret : Option FieldType} {nm : String} {R : Room} {cn sn pc : Nat} {lv : List (Nat × Value)} {st : List Value} {h : hh_H} (C : hh_ok X B e0 cc own nL ret nm R) {x y : Int32} (d : decode cc pc = .ok (.irem, 1)) (hne : ¬ y = 0) (k : hh_W X cn sn (pc + 1) lv (.int (x - x / y * y) :: st) h) : hh_W X cn sn pc lv (.int y :: .int x :: st) h := by
  obtain ⟨p, l, e, R', s, m, args, below, meth, c, Q, D, cT, B', e0', nL'⟩ := X
  obtain ⟨hx, hb, hml, hown, hts, hK, hlk, hrt, hnm, rfl, rfl, rfl, rfl, hB, hA, hcA⟩ := C
  intro H locs ls hS hl
  exact lv_irem hx hb d hne (k H locs ls hS hl)
theorem r_ineg {X : hh_X} {B e0 : Nat} {cc : ByteArray} {own : String} {nL : Nat} {ret : Option FieldType} {nm : String} {R : Room} {cn sn pc : Nat} {lv : List (Nat × Value)} {st : List Value} {h : hh_H} (C : hh_ok X B e0 cc own nL ret nm R) {x : Int32} (d : decode cc pc = .ok (.ineg, 1)) (k : hh_W X cn sn (pc + 1) lv (.int (-x) :: st) h) : hh_W X cn sn pc lv (.int x :: st) h := by
  obtain ⟨p, l, e, R', s, m, args, below, meth, c, Q, D, cT, B', e0', nL'⟩ := X
  obtain ⟨hx, hb, hml, hown, hts, hK, hlk, hrt, hnm, rfl, rfl, rfl, rfl, hB, hA, hcA⟩ := C
  intro H locs ls hS hl
  exact lv_ineg hx hb d (k H locs ls hS hl)
theorem r_iushr {X : hh_X} {B e0 : Nat} {cc : ByteArray} {own : String} {nL : Nat} {ret : Option FieldType} {nm : String} {R : Room} {cn sn pc : Nat} {lv : List (Nat × Value)} {st : List Value} {h : hh_H} (C : hh_ok X B e0 cc own nL ret nm R) {x y v : Int32} (d : decode cc pc = .ok (.iushr, 1)) (hv : (x.toUInt32 >>> (y.toUInt32 &&& Int32.toUInt32 31)).toInt32 = v) (k : hh_W X cn sn (pc + 1) lv (.int v :: st) h) : hh_W X cn sn pc lv (.int y :: .int x :: st) h := by
  obtain ⟨p, l, e, R', s, m, args, below, meth, c, Q, D, cT, B', e0', nL'⟩ := X
  obtain ⟨hx, hb, hml, hown, hts, hK, hlk, hrt, hnm, rfl, rfl, rfl, rfl, hB, hA, hcA⟩ := C
  intro H locs ls hS hl
  exact lv_iushr hx hb d hv (k H locs ls hS hl)
theorem r_dadd {X : hh_X} {B e0 : Nat} {cc : ByteArray} {own : String} {nL : Nat} {ret : Option FieldType} {nm : String} {R : Room} {cn sn pc : Nat} {lv : List (Nat × Value)} {st : List Value} {h : hh_H} (C : hh_ok X B e0 cc own nL ret nm R) {x y v : UInt64} (d : decode cc pc = .ok (.dadd, 1)) (hv : hp_nn (FP.dadd x y) = some v) (k : hh_W X cn sn (pc + 1) lv (.double v :: st) h) : hh_W X cn sn pc lv (.double y :: .double x :: st) h := by
  obtain ⟨p, l, e, R', s, m, args, below, meth, c, Q, D, cT, B', e0', nL'⟩ := X
  obtain ⟨hx, hb, hml, hown, hts, hK, hlk, hrt, hnm, rfl, rfl, rfl, rfl, hB, hA, hcA⟩ := C
  intro H locs ls hS hl
  unfold hp_nn at hv
  split at hv
  · rename_i hn
    cases hv
    exact lv_dadd hx hb d hn (k H locs ls hS hl)
  · cases hv
theorem r_ddiv {X : hh_X} {B e0 : Nat} {cc : ByteArray} {own : String} {nL : Nat} {ret : Option FieldType} {nm : String} {R : Room} {cn sn pc : Nat} {lv : List (Nat × Value)} {st : List Value} {h : hh_H} (C : hh_ok X B e0 cc own nL ret nm R) {x y v : UInt64} (d : decode cc pc = .ok (.ddiv, 1)) (hv : hp_nn (FP.ddiv x y) = some v) (k : hh_W X cn sn (pc + 1) lv (.double v :: st) h) : hh_W X cn sn pc lv (.double y :: .double x :: st) h := by
  obtain ⟨p, l, e, R', s, m, args, below, meth, c, Q, D, cT, B', e0', nL'⟩ := X
  obtain ⟨hx, hb, hml, hown, hts, hK, hlk, hrt, hnm, rfl, rfl, rfl, rfl, hB, hA, hcA⟩ := C
  intro H locs ls hS hl
  unfold hp_nn at hv
  split at hv
  · rename_i hn
    cases hv
    exact lv_ddiv hx hb d hn (k H locs ls hS hl)
  · cases hv
theorem r_dsub {X : hh_X} {B e0 : Nat} {cc : ByteArray} {own : String} {nL : Nat} {ret : Option FieldType} {nm : String} {R : Room} {cn sn pc : Nat} {lv : List (Nat × Value)} {st : List Value} {h : hh_H} (C : hh_ok X B e0 cc own nL ret nm R) {x y v : UInt64} (d : decode cc pc = .ok (.dsub, 1)) (hv : hp_nn (FP.dsub x y) = some v) (k : hh_W X cn sn (pc + 1) lv (.double v :: st) h) : hh_W X cn sn pc lv (.double y :: .double x :: st) h := by
  obtain ⟨p, l, e, R', s, m, args, below, meth, c, Q, D, cT, B', e0', nL'⟩ := X
  obtain ⟨hx, hb, hml, hown, hts, hK, hlk, hrt, hnm, rfl, rfl, rfl, rfl, hB, hA, hcA⟩ := C
  intro H locs ls hS hl
  unfold hp_nn at hv
  split at hv
  · rename_i hn
    cases hv
    exact lv_dsub hx hb d hn (k H locs ls hS hl)
  · cases hv
theorem r_dmul {X : hh_X} {B e0 : Nat} {cc : ByteArray} {own : String} {nL : Nat} {ret : Option FieldType} {nm : String} {R : Room} {cn sn pc : Nat} {lv : List (Nat × Value)} {st : List Value} {h : hh_H} (C : hh_ok X B e0 cc own nL ret nm R) {x y v : UInt64} (d : decode cc pc = .ok (.dmul, 1)) (hv : hp_nn (FP.dmul x y) = some v) (k : hh_W X cn sn (pc + 1) lv (.double v :: st) h) : hh_W X cn sn pc lv (.double y :: .double x :: st) h := by
  obtain ⟨p, l, e, R', s, m, args, below, meth, c, Q, D, cT, B', e0', nL'⟩ := X
  obtain ⟨hx, hb, hml, hown, hts, hK, hlk, hrt, hnm, rfl, rfl, rfl, rfl, hB, hA, hcA⟩ := C
  intro H locs ls hS hl
  unfold hp_nn at hv
  split at hv
  · rename_i hn
    cases hv
    exact lv_dmul hx hb d hn (k H locs ls hS hl)
  · cases hv
theorem r_dcmp {X : hh_X} {B e0 : Nat} {cc : ByteArray} {own : String} {nL : Nat} {ret : Option FieldType} {nm : String} {R : Room} {cn sn pc : Nat} {lv : List (Nat × Value)} {st : List Value} {h : hh_H} (C : hh_ok X B e0 cc own nL ret nm R) {x y : UInt64} {op : CmpOp} (d : decode cc pc = .ok (.dcmp op, 1)) (k : hh_W X cn sn (pc + 1) lv (.int (Op.cmpValue (FP.dcmp x y) op) :: st) h) : hh_W X cn sn pc lv (.double y :: .double x :: st) h := by
  obtain ⟨p, l, e, R', s, m, args, below, meth, c, Q, D, cT, B', e0', nL'⟩ := X
  obtain ⟨hx, hb, hml, hown, hts, hK, hlk, hrt, hnm, rfl, rfl, rfl, rfl, hB, hA, hcA⟩ := C
  intro H locs ls hS hl
  exact lv_dcmp hx hb d (k H locs ls hS hl)
theorem r_i2d {X : hh_X} {B e0 : Nat} {cc : ByteArray} {own : String} {nL : Nat} {ret : Option FieldType} {nm : String} {R : Room} {cn sn pc : Nat} {lv : List (Nat × Value)} {st : List Value} {h : hh_H} (C : hh_ok X B e0 cc own nL ret nm R) {x : Int32} (d : decode cc pc = .ok (.i2d, 1)) (k : hh_W X cn sn (pc + 1) lv (.double (FP.i2d x) :: st) h) : hh_W X cn sn pc lv (.int x :: st) h := by
  obtain ⟨p, l, e, R', s, m, args, below, meth, c, Q, D, cT, B', e0', nL'⟩ := X
  obtain ⟨hx, hb, hml, hown, hts, hK, hlk, hrt, hnm, rfl, rfl, rfl, rfl, hB, hA, hcA⟩ := C
  intro H locs ls hS hl
  exact lv_i2d hx hb d (k H locs ls hS hl)
theorem r_i2l {X : hh_X} {B e0 : Nat} {cc : ByteArray} {own : String} {nL : Nat} {ret : Option FieldType} {nm : String} {R : Room} {cn sn pc : Nat} {lv : List (Nat × Value)} {st : List Value} {h : hh_H} (C : hh_ok X B e0 cc own nL ret nm R) {x : Int32} (d : decode cc pc = .ok (.i2l, 1)) (k : hh_W X cn sn (pc + 1) lv (.long x.toInt64 :: st) h) : hh_W X cn sn pc lv (.int x :: st) h := by
  obtain ⟨p, l, e, R', s, m, args, below, meth, c, Q, D, cT, B', e0', nL'⟩ := X
  obtain ⟨hx, hb, hml, hown, hts, hK, hlk, hrt, hnm, rfl, rfl, rfl, rfl, hB, hA, hcA⟩ := C
  intro H locs ls hS hl
  exact lv_i2l hx hb d rfl (k H locs ls hS hl)
theorem r_l2i {X : hh_X} {B e0 : Nat} {cc : ByteArray} {own : String} {nL : Nat} {ret : Option FieldType} {nm : String} {R : Room} {cn sn pc : Nat} {lv : List (Nat × Value)} {st : List Value} {h : hh_H} (C : hh_ok X B e0 cc own nL ret nm R) {x : Int64} (d : decode cc pc = .ok (.l2i, 1)) (k : hh_W X cn sn (pc + 1) lv (.int x.toInt32 :: st) h) : hh_W X cn sn pc lv (.long x :: st) h := by
  obtain ⟨p, l, e, R', s, m, args, below, meth, c, Q, D, cT, B', e0', nL'⟩ := X
  obtain ⟨hx, hb, hml, hown, hts, hK, hlk, hrt, hnm, rfl, rfl, rfl, rfl, hB, hA, hcA⟩ := C
  intro H locs ls hS hl
  exact lv_l2i hx hb d rfl (k H locs ls hS hl)
theorem r_land {X : hh_X} {B e0 : Nat} {cc : ByteArray} {own : String} {nL : Nat} {ret : Option FieldType} {nm : String} {R : Room} {cn sn pc : Nat} {lv : List (Nat × Value)} {st : List Value} {h : hh_H} (C : hh_ok X B e0 cc own nL ret nm R) {x y : Int64} (d : decode cc pc = .ok (.land, 1)) (k : hh_W X cn sn (pc + 1) lv (.long (x &&& y) :: st) h) : hh_W X cn sn pc lv (.long y :: .long x :: st) h := by
  obtain ⟨p, l, e, R', s, m, args, below, meth, c, Q, D, cT, B', e0', nL'⟩ := X
  obtain ⟨hx, hb, hml, hown, hts, hK, hlk, hrt, hnm, rfl, rfl, rfl, rfl, hB, hA, hcA⟩ := C
  intro H locs ls hS hl
  exact lv_land hx hb d (k H locs ls hS hl)
theorem r_lor {X : hh_X} {B e0 : Nat} {cc : ByteArray} {own : String} {nL : Nat} {ret : Option FieldType} {nm : String} {R : Room} {cn sn pc : Nat} {lv : List (Nat × Value)} {st : List Value} {h : hh_H} (C : hh_ok X B e0 cc own nL ret nm R) {x y : Int64} (d : decode cc pc = .ok (.lor, 1)) (k : hh_W X cn sn (pc + 1) lv (.long (x ||| y) :: st) h) : hh_W X cn sn pc lv (.long y :: .long x :: st) h := by
  obtain ⟨p, l, e, R', s, m, args, below, meth, c, Q, D, cT, B', e0', nL'⟩ := X
  obtain ⟨hx, hb, hml, hown, hts, hK, hlk, hrt, hnm, rfl, rfl, rfl, rfl, hB, hA, hcA⟩ := C
  intro H locs ls hS hl
  exact lv_lor hx hb d (k H locs ls hS hl)
theorem r_lxor {X : hh_X} {B e0 : Nat} {cc : ByteArray} {own : String} {nL : Nat} {ret : Option FieldType} {nm : String} {R : Room} {cn sn pc : Nat} {lv : List (Nat × Value)} {st : List Value} {h : hh_H} (C : hh_ok X B e0 cc own nL ret nm R) {x y : Int64} (d : decode cc pc = .ok (.lxor, 1)) (k : hh_W X cn sn (pc + 1) lv (.long (x ^^^ y) :: st) h) : hh_W X cn sn pc lv (.long y :: .long x :: st) h := by
  obtain ⟨p, l, e, R', s, m, args, below, meth, c, Q, D, cT, B', e0', nL'⟩ := X
  obtain ⟨hx, hb, hml, hown, hts, hK, hlk, hrt, hnm, rfl, rfl, rfl, rfl, hB, hA, hcA⟩ := C
  intro H locs ls hS hl
  exact lv_lxor hx hb d (k H locs ls hS hl)
theorem r_lshl {X : hh_X} {B e0 : Nat} {cc : ByteArray} {own : String} {nL : Nat} {ret : Option FieldType} {nm : String} {R : Room} {cn sn pc : Nat} {lv : List (Nat × Value)} {st : List Value} {h : hh_H} (C : hh_ok X B e0 cc own nL ret nm R) {x : Int64} {y : Int32} (d : decode cc pc = .ok (.lshl, 1)) (k : hh_W X cn sn (pc + 1) lv (.long (x <<< (y.toInt64 &&& 63)) :: st) h) : hh_W X cn sn pc lv (.int y :: .long x :: st) h := by
  obtain ⟨p, l, e, R', s, m, args, below, meth, c, Q, D, cT, B', e0', nL'⟩ := X
  obtain ⟨hx, hb, hml, hown, hts, hK, hlk, hrt, hnm, rfl, rfl, rfl, rfl, hB, hA, hcA⟩ := C
  intro H locs ls hS hl
  exact lv_lshl hx hb d rfl (k H locs ls hS hl)
theorem r_lushr {X : hh_X} {B e0 : Nat} {cc : ByteArray} {own : String} {nL : Nat} {ret : Option FieldType} {nm : String} {R : Room} {cn sn pc : Nat} {lv : List (Nat × Value)} {st : List Value} {h : hh_H} (C : hh_ok X B e0 cc own nL ret nm R) {x : Int64} {y : Int32} (d : decode cc pc = .ok (.lushr, 1)) (k : hh_W X cn sn (pc + 1) lv (.long (x.toUInt64 >>> (y.toInt64.toUInt64 &&& Int64.toUInt64 63)).toInt64 :: st) h) : hh_W X cn sn pc lv (.int y :: .long x :: st) h := by
  obtain ⟨p, l, e, R', s, m, args, below, meth, c, Q, D, cT, B', e0', nL'⟩ := X
  obtain ⟨hx, hb, hml, hown, hts, hK, hlk, hrt, hnm, rfl, rfl, rfl, rfl, hB, hA, hcA⟩ := C
  intro H locs ls hS hl
  exact lv_lushr hx hb d rfl (k H locs ls hS hl)
theorem r_i2b {X : hh_X} {B e0 : Nat} {cc : ByteArray} {own : String} {nL : Nat} {ret : Option FieldType} {nm : String} {R : Room} {cn sn pc : Nat} {lv : List (Nat × Value)} {st : List Value} {h : hh_H} (C : hh_ok X B e0 cc own nL ret nm R) {x : Int32} (d : decode cc pc = .ok (.i2b, 1)) (k : hh_W X cn sn (pc + 1) lv (.int x.toInt8.toInt32 :: st) h) : hh_W X cn sn pc lv (.int x :: st) h := by
  obtain ⟨p, l, e, R', s, m, args, below, meth, c, Q, D, cT, B', e0', nL'⟩ := X
  obtain ⟨hx, hb, hml, hown, hts, hK, hlk, hrt, hnm, rfl, rfl, rfl, rfl, hB, hA, hcA⟩ := C
  intro H locs ls hS hl
  exact lv_i2b hx hb d rfl (k H locs ls hS hl)
theorem r_ldcw {X : hh_X} {B e0 : Nat} {cc : ByteArray} {own : String} {nL : Nat} {ret : Option FieldType} {nm : String} {R : Room} {cn sn pc : Nat} {lv : List (Nat × Value)} {st : List Value} {h : hh_H} (C : hh_ok X B e0 cc own nL ret nm R) {idx : Nat} {v : Int32} (d : decode cc pc = .ok (.ldc_w idx, 3)) (hw : Jvm.Cond.constant own idx v ∈ hh_T) (k : hh_W X cn sn (pc + 3) lv (.int v :: st) h) : hh_W X cn sn pc lv st h := by
  obtain ⟨p, l, e, R', s, m, args, below, meth, c, Q, D, cT, B', e0', nL'⟩ := X
  obtain ⟨hx, hb, hml, hown, hts, hK, hlk, hrt, hnm, rfl, rfl, rfl, rfl, hB, hA, hcA⟩ := C
  intro H locs ls hS hl
  exact lv_ldcw hx hb hown (hts _ hw) d (k H locs ls hS hl)
theorem r_ldc2 {X : hh_X} {B e0 : Nat} {cc : ByteArray} {own : String} {nL : Nat} {ret : Option FieldType} {nm : String} {R : Room} {cn sn pc : Nat} {lv : List (Nat × Value)} {st : List Value} {h : hh_H} (C : hh_ok X B e0 cc own nL ret nm R) {idx : Nat} {v : Int64} (d : decode cc pc = .ok (.ldc2_w idx, 3)) (hw : Jvm.Cond.constantLong own idx v ∈ hh_T) (k : hh_W X cn sn (pc + 3) lv (.long v :: st) h) : hh_W X cn sn pc lv st h := by
  obtain ⟨p, l, e, R', s, m, args, below, meth, c, Q, D, cT, B', e0', nL'⟩ := X
  obtain ⟨hx, hb, hml, hown, hts, hK, hlk, hrt, hnm, rfl, rfl, rfl, rfl, hB, hA, hcA⟩ := C
  intro H locs ls hS hl
  exact lv_ldc2 hx hb hown (hts _ hw) d (k H locs ls hS hl)
theorem r_null {X : hh_X} {B e0 : Nat} {cc : ByteArray} {own : String} {nL : Nat} {ret : Option FieldType} {nm : String} {R : Room} {cn sn pc : Nat} {lv : List (Nat × Value)} {st : List Value} {h : hh_H} (C : hh_ok X B e0 cc own nL ret nm R) (d : decode cc pc = .ok (.aconst_null, 1)) (k : hh_W X cn sn (pc + 1) lv (.null :: st) h) : hh_W X cn sn pc lv st h := by
  obtain ⟨p, l, e, R', s, m, args, below, meth, c, Q, D, cT, B', e0', nL'⟩ := X
  obtain ⟨hx, hb, hml, hown, hts, hK, hlk, hrt, hnm, rfl, rfl, rfl, rfl, hB, hA, hcA⟩ := C
  intro H locs ls hS hl
  exact lv_null hx hb d (k H locs ls hS hl)
theorem r_lcmp {X : hh_X} {B e0 : Nat} {cc : ByteArray} {own : String} {nL : Nat} {ret : Option FieldType} {nm : String} {R : Room} {cn sn pc : Nat} {lv : List (Nat × Value)} {st : List Value} {h : hh_H} (C : hh_ok X B e0 cc own nL ret nm R) {x y : Int64} (d : decode cc pc = .ok (.lcmp, 1)) (k : hh_W X cn sn (pc + 1) lv (.int (lg_cmp x y) :: st) h) : hh_W X cn sn pc lv (.long y :: .long x :: st) h := by
  obtain ⟨p, l, e, R', s, m, args, below, meth, c, Q, D, cT, B', e0', nL'⟩ := X
  obtain ⟨hx, hb, hml, hown, hts, hK, hlk, hrt, hnm, rfl, rfl, rfl, rfl, hB, hA, hcA⟩ := C
  intro H locs ls hS hl
  exact W.lcmp hx hb d (k H locs ls hS hl)
theorem r_dup {X : hh_X} {B e0 : Nat} {cc : ByteArray} {own : String} {nL : Nat} {ret : Option FieldType} {nm : String} {R : Room} {cn sn pc : Nat} {lv : List (Nat × Value)} {st : List Value} {h : hh_H} (C : hh_ok X B e0 cc own nL ret nm R) {a : Value} (d : decode cc pc = .ok (.dup, 1)) (ha : a.category = 1) (k : hh_W X cn sn (pc + 1) lv (a :: a :: st) h) : hh_W X cn sn pc lv (a :: st) h := by
  obtain ⟨p, l, e, R', s, m, args, below, meth, c, Q, D, cT, B', e0', nL'⟩ := X
  obtain ⟨hx, hb, hml, hown, hts, hK, hlk, hrt, hnm, rfl, rfl, rfl, rfl, hB, hA, hcA⟩ := C
  intro H locs ls hS hl
  exact lv_dup hx hb d ha (k H locs ls hS hl)
theorem r_pop {X : hh_X} {B e0 : Nat} {cc : ByteArray} {own : String} {nL : Nat} {ret : Option FieldType} {nm : String} {R : Room} {cn sn pc : Nat} {lv : List (Nat × Value)} {st : List Value} {h : hh_H} (C : hh_ok X B e0 cc own nL ret nm R) {a : Value} (d : decode cc pc = .ok (.pop, 1)) (ha : a.category = 1) (k : hh_W X cn sn (pc + 1) lv st h) : hh_W X cn sn pc lv (a :: st) h := by
  obtain ⟨p, l, e, R', s, m, args, below, meth, c, Q, D, cT, B', e0', nL'⟩ := X
  obtain ⟨hx, hb, hml, hown, hts, hK, hlk, hrt, hnm, rfl, rfl, rfl, rfl, hB, hA, hcA⟩ := C
  intro H locs ls hS hl
  exact lv_pop hx hb d ha (k H locs ls hS hl)
theorem r_dup_x1 {X : hh_X} {B e0 : Nat} {cc : ByteArray} {own : String} {nL : Nat} {ret : Option FieldType} {nm : String} {R : Room} {cn sn pc : Nat} {lv : List (Nat × Value)} {st : List Value} {h : hh_H} (C : hh_ok X B e0 cc own nL ret nm R) {a b : Value} (d : decode cc pc = .ok (.dup_x1, 1)) (ha : a.category = 1) (hb0 : b.category = 1) (k : hh_W X cn sn (pc + 1) lv (a :: b :: a :: st) h) : hh_W X cn sn pc lv (a :: b :: st) h := by
  obtain ⟨p, l, e, R', s, m, args, below, meth, c, Q, D, cT, B', e0', nL'⟩ := X
  obtain ⟨hx, hb, hml, hown, hts, hK, hlk, hrt, hnm, rfl, rfl, rfl, rfl, hB, hA, hcA⟩ := C
  intro H locs ls hS hl
  exact lv_dup_x1 hx hb d ha hb0 (k H locs ls hS hl)
theorem r_dup_x2 {X : hh_X} {B e0 : Nat} {cc : ByteArray} {own : String} {nL : Nat} {ret : Option FieldType} {nm : String} {R : Room} {cn sn pc : Nat} {lv : List (Nat × Value)} {st : List Value} {h : hh_H} (C : hh_ok X B e0 cc own nL ret nm R) {a b g : Value} (d : decode cc pc = .ok (.dup_x2, 1)) (ha : a.category = 1) (hb0 : b.category = 1) (hc0 : g.category = 1) (k : hh_W X cn sn (pc + 1) lv (a :: b :: g :: a :: st) h) : hh_W X cn sn pc lv (a :: b :: g :: st) h := by
  obtain ⟨p, l, e, R', s, m, args, below, meth, c, Q, D, cT, B', e0', nL'⟩ := X
  obtain ⟨hx, hb, hml, hown, hts, hK, hlk, hrt, hnm, rfl, rfl, rfl, rfl, hB, hA, hcA⟩ := C
  intro H locs ls hS hl
  exact lv_dup_x2 hx hb d ha hb0 hc0 (k H locs ls hS hl)
theorem r_dup2 {X : hh_X} {B e0 : Nat} {cc : ByteArray} {own : String} {nL : Nat} {ret : Option FieldType} {nm : String} {R : Room} {cn sn pc : Nat} {lv : List (Nat × Value)} {st : List Value} {h : hh_H} (C : hh_ok X B e0 cc own nL ret nm R) {a b : Value} (d : decode cc pc = .ok (.dup2, 1)) (ha : a.category = 1) (hb0 : b.category = 1) (k : hh_W X cn sn (pc + 1) lv (a :: b :: a :: b :: st) h) : hh_W X cn sn pc lv (a :: b :: st) h := by
  obtain ⟨p, l, e, R', s, m, args, below, meth, c, Q, D, cT, B', e0', nL'⟩ := X
  obtain ⟨hx, hb, hml, hown, hts, hK, hlk, hrt, hnm, rfl, rfl, rfl, rfl, hB, hA, hcA⟩ := C
  intro H locs ls hS hl
  exact lv_dup2_11 hx hb d ha hb0 (k H locs ls hS hl)
theorem r_if_eq {X : hh_X} {B e0 : Nat} {cc : ByteArray} {own : String} {nL : Nat} {ret : Option FieldType} {nm : String} {R : Room} {cn sn pc : Nat} {lv : List (Nat × Value)} {st : List Value} {h : hh_H} (C : hh_ok X B e0 cc own nL ret nm R) {x : Int32} {off : Int} {tgt : Nat} (d : decode cc pc = .ok (.ifCond .eq off, 3)) (ht : (pc : Int) + off = (tgt : Int)) (kt : x = 0 → hh_W X cn sn tgt lv st h) (kf : ¬ x = 0 → hh_W X cn sn (pc + 3) lv st h) : hh_W X cn sn pc lv (.int x :: st) h := by
  obtain ⟨p, l, e, R', s, m, args, below, meth, c, Q, D, cT, B', e0', nL'⟩ := X
  obtain ⟨hx, hb, hml, hown, hts, hK, hlk, hrt, hnm, rfl, rfl, rfl, rfl, hB, hA, hcA⟩ := C
  intro H locs ls hS hl
  exact lv_if_eq hx hb d ht (fun q => kt q H locs ls hS hl) (fun q => kf q H locs ls hS hl)
theorem r_if_ne {X : hh_X} {B e0 : Nat} {cc : ByteArray} {own : String} {nL : Nat} {ret : Option FieldType} {nm : String} {R : Room} {cn sn pc : Nat} {lv : List (Nat × Value)} {st : List Value} {h : hh_H} (C : hh_ok X B e0 cc own nL ret nm R) {x : Int32} {off : Int} {tgt : Nat} (d : decode cc pc = .ok (.ifCond .ne off, 3)) (ht : (pc : Int) + off = (tgt : Int)) (kt : ¬ x = 0 → hh_W X cn sn tgt lv st h) (kf : x = 0 → hh_W X cn sn (pc + 3) lv st h) : hh_W X cn sn pc lv (.int x :: st) h := by
  obtain ⟨p, l, e, R', s, m, args, below, meth, c, Q, D, cT, B', e0', nL'⟩ := X
  obtain ⟨hx, hb, hml, hown, hts, hK, hlk, hrt, hnm, rfl, rfl, rfl, rfl, hB, hA, hcA⟩ := C
  intro H locs ls hS hl
  exact lv_if_ne hx hb d ht (fun q => kt q H locs ls hS hl) (fun q => kf q H locs ls hS hl)
theorem r_if_lt {X : hh_X} {B e0 : Nat} {cc : ByteArray} {own : String} {nL : Nat} {ret : Option FieldType} {nm : String} {R : Room} {cn sn pc : Nat} {lv : List (Nat × Value)} {st : List Value} {h : hh_H} (C : hh_ok X B e0 cc own nL ret nm R) {x : Int32} {off : Int} {tgt : Nat} (d : decode cc pc = .ok (.ifCond .lt off, 3)) (ht : (pc : Int) + off = (tgt : Int)) (kt : x < 0 → hh_W X cn sn tgt lv st h) (kf : ¬ x < 0 → hh_W X cn sn (pc + 3) lv st h) : hh_W X cn sn pc lv (.int x :: st) h := by
  obtain ⟨p, l, e, R', s, m, args, below, meth, c, Q, D, cT, B', e0', nL'⟩ := X
  obtain ⟨hx, hb, hml, hown, hts, hK, hlk, hrt, hnm, rfl, rfl, rfl, rfl, hB, hA, hcA⟩ := C
  intro H locs ls hS hl
  exact lv_if_lt hx hb d ht (fun q => kt q H locs ls hS hl) (fun q => kf q H locs ls hS hl)
theorem r_if_ge {X : hh_X} {B e0 : Nat} {cc : ByteArray} {own : String} {nL : Nat} {ret : Option FieldType} {nm : String} {R : Room} {cn sn pc : Nat} {lv : List (Nat × Value)} {st : List Value} {h : hh_H} (C : hh_ok X B e0 cc own nL ret nm R) {x : Int32} {off : Int} {tgt : Nat} (d : decode cc pc = .ok (.ifCond .ge off, 3)) (ht : (pc : Int) + off = (tgt : Int)) (kt : 0 ≤ x → hh_W X cn sn tgt lv st h) (kf : ¬ 0 ≤ x → hh_W X cn sn (pc + 3) lv st h) : hh_W X cn sn pc lv (.int x :: st) h := by
  obtain ⟨p, l, e, R', s, m, args, below, meth, c, Q, D, cT, B', e0', nL'⟩ := X
  obtain ⟨hx, hb, hml, hown, hts, hK, hlk, hrt, hnm, rfl, rfl, rfl, rfl, hB, hA, hcA⟩ := C
  intro H locs ls hS hl
  exact lv_if_ge hx hb d ht (fun q => kt q H locs ls hS hl) (fun q => kf q H locs ls hS hl)
theorem r_if_gt {X : hh_X} {B e0 : Nat} {cc : ByteArray} {own : String} {nL : Nat} {ret : Option FieldType} {nm : String} {R : Room} {cn sn pc : Nat} {lv : List (Nat × Value)} {st : List Value} {h : hh_H} (C : hh_ok X B e0 cc own nL ret nm R) {x : Int32} {off : Int} {tgt : Nat} (d : decode cc pc = .ok (.ifCond .gt off, 3)) (ht : (pc : Int) + off = (tgt : Int)) (kt : 0 < x → hh_W X cn sn tgt lv st h) (kf : ¬ 0 < x → hh_W X cn sn (pc + 3) lv st h) : hh_W X cn sn pc lv (.int x :: st) h := by
  obtain ⟨p, l, e, R', s, m, args, below, meth, c, Q, D, cT, B', e0', nL'⟩ := X
  obtain ⟨hx, hb, hml, hown, hts, hK, hlk, hrt, hnm, rfl, rfl, rfl, rfl, hB, hA, hcA⟩ := C
  intro H locs ls hS hl
  exact lv_if_gt hx hb d ht (fun q => kt q H locs ls hS hl) (fun q => kf q H locs ls hS hl)
theorem r_if_le {X : hh_X} {B e0 : Nat} {cc : ByteArray} {own : String} {nL : Nat} {ret : Option FieldType} {nm : String} {R : Room} {cn sn pc : Nat} {lv : List (Nat × Value)} {st : List Value} {h : hh_H} (C : hh_ok X B e0 cc own nL ret nm R) {x : Int32} {off : Int} {tgt : Nat} (d : decode cc pc = .ok (.ifCond .le off, 3)) (ht : (pc : Int) + off = (tgt : Int)) (kt : x ≤ 0 → hh_W X cn sn tgt lv st h) (kf : ¬ x ≤ 0 → hh_W X cn sn (pc + 3) lv st h) : hh_W X cn sn pc lv (.int x :: st) h := by
  obtain ⟨p, l, e, R', s, m, args, below, meth, c, Q, D, cT, B', e0', nL'⟩ := X
  obtain ⟨hx, hb, hml, hown, hts, hK, hlk, hrt, hnm, rfl, rfl, rfl, rfl, hB, hA, hcA⟩ := C
  intro H locs ls hS hl
  exact lv_if_le hx hb d ht (fun q => kt q H locs ls hS hl) (fun q => kf q H locs ls hS hl)
theorem r_icmp_eq {X : hh_X} {B e0 : Nat} {cc : ByteArray} {own : String} {nL : Nat} {ret : Option FieldType} {nm : String} {R : Room} {cn sn pc : Nat} {lv : List (Nat × Value)} {st : List Value} {h : hh_H} (C : hh_ok X B e0 cc own nL ret nm R) {x y : Int32} {off : Int} {tgt : Nat} (d : decode cc pc = .ok (.if_icmp .eq off, 3)) (ht : (pc : Int) + off = (tgt : Int)) (kt : x = y → hh_W X cn sn tgt lv st h) (kf : ¬ x = y → hh_W X cn sn (pc + 3) lv st h) : hh_W X cn sn pc lv (.int y :: .int x :: st) h := by
  obtain ⟨p, l, e, R', s, m, args, below, meth, c, Q, D, cT, B', e0', nL'⟩ := X
  obtain ⟨hx, hb, hml, hown, hts, hK, hlk, hrt, hnm, rfl, rfl, rfl, rfl, hB, hA, hcA⟩ := C
  intro H locs ls hS hl
  exact lv_icmp_eq hx hb d ht (fun q => kt q H locs ls hS hl) (fun q => kf q H locs ls hS hl)
theorem r_icmp_ne {X : hh_X} {B e0 : Nat} {cc : ByteArray} {own : String} {nL : Nat} {ret : Option FieldType} {nm : String} {R : Room} {cn sn pc : Nat} {lv : List (Nat × Value)} {st : List Value} {h : hh_H} (C : hh_ok X B e0 cc own nL ret nm R) {x y : Int32} {off : Int} {tgt : Nat} (d : decode cc pc = .ok (.if_icmp .ne off, 3)) (ht : (pc : Int) + off = (tgt : Int)) (kt : ¬ x = y → hh_W X cn sn tgt lv st h) (kf : x = y → hh_W X cn sn (pc + 3) lv st h) : hh_W X cn sn pc lv (.int y :: .int x :: st) h := by
  obtain ⟨p, l, e, R', s, m, args, below, meth, c, Q, D, cT, B', e0', nL'⟩ := X
  obtain ⟨hx, hb, hml, hown, hts, hK, hlk, hrt, hnm, rfl, rfl, rfl, rfl, hB, hA, hcA⟩ := C
  intro H locs ls hS hl
  exact lv_icmp_ne hx hb d ht (fun q => kt q H locs ls hS hl) (fun q => kf q H locs ls hS hl)
theorem r_icmp_lt {X : hh_X} {B e0 : Nat} {cc : ByteArray} {own : String} {nL : Nat} {ret : Option FieldType} {nm : String} {R : Room} {cn sn pc : Nat} {lv : List (Nat × Value)} {st : List Value} {h : hh_H} (C : hh_ok X B e0 cc own nL ret nm R) {x y : Int32} {off : Int} {tgt : Nat} (d : decode cc pc = .ok (.if_icmp .lt off, 3)) (ht : (pc : Int) + off = (tgt : Int)) (kt : x < y → hh_W X cn sn tgt lv st h) (kf : ¬ x < y → hh_W X cn sn (pc + 3) lv st h) : hh_W X cn sn pc lv (.int y :: .int x :: st) h := by
  obtain ⟨p, l, e, R', s, m, args, below, meth, c, Q, D, cT, B', e0', nL'⟩ := X
  obtain ⟨hx, hb, hml, hown, hts, hK, hlk, hrt, hnm, rfl, rfl, rfl, rfl, hB, hA, hcA⟩ := C
  intro H locs ls hS hl
  exact lv_icmp_lt hx hb d ht (fun q => kt q H locs ls hS hl) (fun q => kf q H locs ls hS hl)
theorem r_icmp_ge {X : hh_X} {B e0 : Nat} {cc : ByteArray} {own : String} {nL : Nat} {ret : Option FieldType} {nm : String} {R : Room} {cn sn pc : Nat} {lv : List (Nat × Value)} {st : List Value} {h : hh_H} (C : hh_ok X B e0 cc own nL ret nm R) {x y : Int32} {off : Int} {tgt : Nat} (d : decode cc pc = .ok (.if_icmp .ge off, 3)) (ht : (pc : Int) + off = (tgt : Int)) (kt : y ≤ x → hh_W X cn sn tgt lv st h) (kf : ¬ y ≤ x → hh_W X cn sn (pc + 3) lv st h) : hh_W X cn sn pc lv (.int y :: .int x :: st) h := by
  obtain ⟨p, l, e, R', s, m, args, below, meth, c, Q, D, cT, B', e0', nL'⟩ := X
  obtain ⟨hx, hb, hml, hown, hts, hK, hlk, hrt, hnm, rfl, rfl, rfl, rfl, hB, hA, hcA⟩ := C
  intro H locs ls hS hl
  exact lv_icmp_ge hx hb d ht (fun q => kt q H locs ls hS hl) (fun q => kf q H locs ls hS hl)
theorem r_icmp_gt {X : hh_X} {B e0 : Nat} {cc : ByteArray} {own : String} {nL : Nat} {ret : Option FieldType} {nm : String} {R : Room} {cn sn pc : Nat} {lv : List (Nat × Value)} {st : List Value} {h : hh_H} (C : hh_ok X B e0 cc own nL ret nm R) {x y : Int32} {off : Int} {tgt : Nat} (d : decode cc pc = .ok (.if_icmp .gt off, 3)) (ht : (pc : Int) + off = (tgt : Int)) (kt : y < x → hh_W X cn sn tgt lv st h) (kf : ¬ y < x → hh_W X cn sn (pc + 3) lv st h) : hh_W X cn sn pc lv (.int y :: .int x :: st) h := by
  obtain ⟨p, l, e, R', s, m, args, below, meth, c, Q, D, cT, B', e0', nL'⟩ := X
  obtain ⟨hx, hb, hml, hown, hts, hK, hlk, hrt, hnm, rfl, rfl, rfl, rfl, hB, hA, hcA⟩ := C
  intro H locs ls hS hl
  exact lv_icmp_gt hx hb d ht (fun q => kt q H locs ls hS hl) (fun q => kf q H locs ls hS hl)
theorem r_icmp_le {X : hh_X} {B e0 : Nat} {cc : ByteArray} {own : String} {nL : Nat} {ret : Option FieldType} {nm : String} {R : Room} {cn sn pc : Nat} {lv : List (Nat × Value)} {st : List Value} {h : hh_H} (C : hh_ok X B e0 cc own nL ret nm R) {x y : Int32} {off : Int} {tgt : Nat} (d : decode cc pc = .ok (.if_icmp .le off, 3)) (ht : (pc : Int) + off = (tgt : Int)) (kt : x ≤ y → hh_W X cn sn tgt lv st h) (kf : ¬ x ≤ y → hh_W X cn sn (pc + 3) lv st h) : hh_W X cn sn pc lv (.int y :: .int x :: st) h := by
  obtain ⟨p, l, e, R', s, m, args, below, meth, c, Q, D, cT, B', e0', nL'⟩ := X
  obtain ⟨hx, hb, hml, hown, hts, hK, hlk, hrt, hnm, rfl, rfl, rfl, rfl, hB, hA, hcA⟩ := C
  intro H locs ls hS hl
  exact lv_icmp_le hx hb d ht (fun q => kt q H locs ls hS hl) (fun q => kf q H locs ls hS hl)
theorem r_goto {X : hh_X} {B e0 : Nat} {cc : ByteArray} {own : String} {nL : Nat} {ret : Option FieldType} {nm : String} {R : Room} {cn sn pc : Nat} {lv : List (Nat × Value)} {st : List Value} {h : hh_H} (C : hh_ok X B e0 cc own nL ret nm R) {off : Int} {tgt : Nat} (d : decode cc pc = .ok (.goto off, 3)) (ht : (pc : Int) + off = (tgt : Int)) (k : hh_W X cn sn tgt lv st h) : hh_W X cn sn pc lv st h := by
  obtain ⟨p, l, e, R', s, m, args, below, meth, c, Q, D, cT, B', e0', nL'⟩ := X
  obtain ⟨hx, hb, hml, hown, hts, hK, hlk, hrt, hnm, rfl, rfl, rfl, rfl, hB, hA, hcA⟩ := C
  intro H locs ls hS hl
  exact lv_goto hx hb d ht (k H locs ls hS hl)
theorem r_tsOut {X : hh_X} {B e0 : Nat} {cc : ByteArray} {own : String} {nL : Nat} {ret : Option FieldType} {nm : String} {R : Room} {cn sn pc : Nat} {lv : List (Nat × Value)} {st : List Value} {h : hh_H} (C : hh_ok X B e0 cc own nL ret nm R) {dflt lo hi : Int} {offs : Array Int} {len : Nat} {x : Int32} {tgt : Nat} (d : decode cc pc = .ok (.tableswitch dflt lo hi offs, len)) (hq : x.toInt < lo ∨ hi < x.toInt) (ht : (pc : Int) + dflt = (tgt : Int)) (k : hh_W X cn sn tgt lv st h) : hh_W X cn sn pc lv (.int x :: st) h := by
  obtain ⟨p, l, e, R', s, m, args, below, meth, c, Q, D, cT, B', e0', nL'⟩ := X
  obtain ⟨hx, hb, hml, hown, hts, hK, hlk, hrt, hnm, rfl, rfl, rfl, rfl, hB, hA, hcA⟩ := C
  intro H locs ls hS hl
  exact lv_tableOut hx hb d hq ht (k H locs ls hS hl)
theorem r_tsIn {X : hh_X} {B e0 : Nat} {cc : ByteArray} {own : String} {nL : Nat} {ret : Option FieldType} {nm : String} {R : Room} {cn sn pc : Nat} {lv : List (Nat × Value)} {st : List Value} {h : hh_H} (C : hh_ok X B e0 cc own nL ret nm R) {dflt lo hi off : Int} {offs : Array Int} {len : Nat} {x v : Int32} {tgt : Nat} (d : decode cc pc = .ok (.tableswitch dflt lo hi offs, len)) (hv : x = v) (h1 : ¬ v.toInt < lo) (h2 : ¬ hi < v.toInt) (ho : offs[(v.toInt - lo).toNat]? = some off) (ht : (pc : Int) + off = (tgt : Int)) (k : hh_W X cn sn tgt lv st h) : hh_W X cn sn pc lv (.int x :: st) h := by
  obtain ⟨p, l, e, R', s, m, args, below, meth, c, Q, D, cT, B', e0', nL'⟩ := X
  obtain ⟨hx, hb, hml, hown, hts, hK, hlk, hrt, hnm, rfl, rfl, rfl, rfl, hB, hA, hcA⟩ := C
  intro H locs ls hS hl
  subst hv
  exact lv_tableIn hx hb d h1 h2 ho ht (k H locs ls hS hl)
end
section
theorem hh_pick {X : hh_X} {cn sn pc : Nat} {lv lv' : List (Nat × Value)} {st : List Value} {h : hh_H} (ks : List Nat) (hk : lv_pick lv ks = lv') (k : hh_W X cn sn pc lv' st h) : hh_W X cn sn pc lv st h := by
  obtain ⟨p, l, e, R', s, m, args, below, meth, c, Q, D, cT, B', e0', nL'⟩ := X
  intro H locs ls hS hl
  exact k H locs ls hS (lv_sub hl ks hk)
theorem hh_widen {X : hh_X} {cn sn cn' sn' pc : Nat} {lv : List (Nat × Value)} {st : List Value} {h : hh_H} (h1 : cn ≤ cn') (h2 : sn ≤ sn') (k : hh_W X cn' sn' pc lv st h) : hh_W X cn sn pc lv st h := by
  obtain ⟨p, l, e, R', s, m, args, below, meth, c, Q, D, cT, B', e0', nL'⟩ := X
  intro H locs ls hS hl
  exact W.widen h1 h2 (k H locs ls hS hl)
-- fields
def hh_FL (own : String) (idx ci k : Nat) (ty : FieldType) (fin : Bool) : Prop :=
  ∃ (Cn : String) (T : u_T) (N : Nat) (tys : Nat → FieldType), hh_cl[ci]? = some (Cn, T, N) ∧ k < N ∧ (∀ w ∈ u_ws Cn T N, w ∈ hh_T) ∧ Cond.fieldLink own idx (T k).1 (T k).2.1 (T k).2.2.1 ∈ hh_T ∧ (T k).2.2.2 = fin ∧ parseFieldDescriptor (T k).2.2.1 = some ty ∧
    (∀ j, j < N → parseFieldDescriptor (T j).2.2.1 = some (tys j)) ∧ (∀ a, a < N → ∀ b, b < N → a ≠ b → (T a).2.1 ≠ (T b).2.1)
def hh_FN (own : String) (idx ci k : Nat) : Prop :=
  ∃ (Cn : String) (T : u_T) (N : Nat) (host : String), hh_cl[ci]? = some (Cn, T, N) ∧ k < N ∧ (∀ w ∈ u_ws Cn T N, w ∈ hh_T) ∧ Cond.fieldLinkNest own idx (T k).1 (T k).2.1 (T k).2.2.1 host ∈ hh_T
theorem hp_gv_of {h : hh_H} {a ci k : Nat} {v : hh_V} (hv : hp_gv h a ci k = some v) : ∃ fs, h[a]? = some (.inr (ci, fs)) ∧ fs[k]? = some v := by
  unfold hp_gv at hv
  split at hv
  · rename_i c fs he
    split at hv
    · rename_i hc
      subst hc
      exact ⟨fs, he, hv⟩
    · cases hv
  · cases hv
theorem hp_gi_of {h : hh_H} {a ci k : Nat} {v : Int32} (hv : hp_gi h a ci k = some v) : ∃ fs, h[a]? = some (.inr (ci, fs)) ∧ fs[k]? = some (.inl v) := by
  unfold hp_gi at hv
  split at hv
  · rename_i x he
    cases hv
    exact hp_gv_of he
  · cases hv
theorem hp_ga_of {h : hh_H} {a ci k : Nat} {v : Nat} (hv : hp_ga h a ci k = some v) : ∃ fs, h[a]? = some (.inr (ci, fs)) ∧ fs[k]? = some (.inr (.inl (some v))) := by
  unfold hp_ga at hv
  split at hv
  · rename_i x he
    cases hv
    exact hp_gv_of he
  · cases hv
theorem hp_gd_of {h : hh_H} {a ci k : Nat} {v : UInt64} (hv : hp_gd h a ci k = some v) : ∃ fs, h[a]? = some (.inr (ci, fs)) ∧ fs[k]? = some (.inr (.inr (.inl v))) := by
  unfold hp_gd at hv
  split at hv
  · rename_i x he
    cases hv
    exact hp_gv_of he
  · cases hv
theorem hp_gj_of {h : hh_H} {a ci k : Nat} {v : Int64} (hv : hp_gj h a ci k = some v) : ∃ fs, h[a]? = some (.inr (ci, fs)) ∧ fs[k]? = some (.inr (.inr (.inr v))) := by
  unfold hp_gj at hv
  split at hv
  · rename_i x he
    cases hv
    exact hp_gv_of he
  · cases hv
theorem hp_p_of {h h' : hh_H} {a ci k : Nat} {v : hh_V} (hv : hp_p h a ci k v = some h') : ∃ fs, h[a]? = some (.inr (ci, fs)) ∧ k < fs.length ∧ h' = h.set a (.inr (ci, fs.set k v)) := by
  unfold hp_p at hv
  split at hv
  · rename_i c fs he
    split at hv
    · rename_i hc
      obtain ⟨hc, hk⟩ := hc
      subst hc
      cases hv
      exact ⟨fs, he, hk, rfl⟩
    · cases hv
  · cases hv
section Fields
variable {X : hh_X} {B e0 : Nat} {cc : ByteArray} {own : String} {nL : Nat} {ret : Option FieldType} {nm : String} {R : Room} {cn sn pc idx : Nat} {lv : List (Nat × Value)} {st : List Value} {h h' : hh_H} {ci k a : Nat} {ty : FieldType} {fin : Bool}
theorem r_getV (C : hh_ok X B e0 cc own nL ret nm R) (d : decode cc pc = .ok (.getfield idx, 3)) (F : hh_FL own idx ci k ty fin) {fs : List hh_V} {v : hh_V} (he : h[a]? = some (.inr (ci, fs))) (hv : fs[k]? = some v)
    (kk : hh_W X cn sn (pc + 3) lv (hh_v B e0 v :: st) h) : hh_W X cn sn pc lv (.ref (hh_ad B e0 a) :: st) h := by
  obtain ⟨p, l, e, R', s, m, args, below, meth, c, Q, D, cT, B', e0', nL'⟩ := X
  obtain ⟨hx, hb, hml, hown, hts, hK, hlk, hrt, hnm, rfl, rfl, rfl, rfl, hB, hA, hcA⟩ := C
  obtain ⟨Cn, T, N, tys, h1, h2, h3, h4, -⟩ := F
  intro H locs ls hS hl
  exact va_get hx hb hts h3 hown hK hS.1 a (hh_w_get he) h1 k h2 (hts _ h4) (fun x hx => hx) (v := hh_v B' e0' v) (by rw [List.getElem?_map, hv]; rfl) d (kk H locs ls hS hl)
theorem r_getVN (C : hh_ok X B e0 cc own nL ret nm R) (d : decode cc pc = .ok (.getfield idx, 3)) (F : hh_FN own idx ci k) {fs : List hh_V} {v : hh_V} (he : h[a]? = some (.inr (ci, fs))) (hv : fs[k]? = some v)
    (kk : hh_W X cn sn (pc + 3) lv (hh_v B e0 v :: st) h) : hh_W X cn sn pc lv (.ref (hh_ad B e0 a) :: st) h := by
  obtain ⟨p, l, e, R', s, m, args, below, meth, c, Q, D, cT, B', e0', nL'⟩ := X
  obtain ⟨hx, hb, hml, hown, hts, hK, hlk, hrt, hnm, rfl, rfl, rfl, rfl, hB, hA, hcA⟩ := C
  obtain ⟨Cn, T, N, host, h1, h2, h3, h4⟩ := F
  intro H locs ls hS hl
  exact va_getN hx hb hts h3 hown hK hS.1 a (hh_w_get he) h1 k h2 (hts _ h4) (fun x hx => hx) (v := hh_v B' e0' v) (by rw [List.getElem?_map, hv]; rfl) d (kk H locs ls hS hl)
theorem r_getI (C : hh_ok X B e0 cc own nL ret nm R) (d : decode cc pc = .ok (.getfield idx, 3)) (F : hh_FL own idx ci k ty fin) {v : Int32} (hv : hp_gi h a ci k = some v) (kk : hh_W X cn sn (pc + 3) lv (.int v :: st) h) : hh_W X cn sn pc lv (.ref (hh_ad B e0 a) :: st) h := by
  obtain ⟨fs, he, h1⟩ := hp_gi_of hv
  exact r_getV C d F he h1 kk
theorem r_getA (C : hh_ok X B e0 cc own nL ret nm R) (d : decode cc pc = .ok (.getfield idx, 3)) (F : hh_FL own idx ci k ty fin) {v : Nat} (hv : hp_ga h a ci k = some v) (kk : hh_W X cn sn (pc + 3) lv (.ref (hh_ad B e0 v) :: st) h) : hh_W X cn sn pc lv (.ref (hh_ad B e0 a) :: st) h := by
  obtain ⟨fs, he, h1⟩ := hp_ga_of hv
  exact r_getV C d F he h1 kk
theorem r_getD (C : hh_ok X B e0 cc own nL ret nm R) (d : decode cc pc = .ok (.getfield idx, 3)) (F : hh_FL own idx ci k ty fin) {v : UInt64} (hv : hp_gd h a ci k = some v) (kk : hh_W X cn sn (pc + 3) lv (.double v :: st) h) : hh_W X cn sn pc lv (.ref (hh_ad B e0 a) :: st) h := by
  obtain ⟨fs, he, h1⟩ := hp_gd_of hv
  exact r_getV C d F he h1 kk
theorem r_getJ (C : hh_ok X B e0 cc own nL ret nm R) (d : decode cc pc = .ok (.getfield idx, 3)) (F : hh_FL own idx ci k ty fin) {v : Int64} (hv : hp_gj h a ci k = some v) (kk : hh_W X cn sn (pc + 3) lv (.long v :: st) h) : hh_W X cn sn pc lv (.ref (hh_ad B e0 a) :: st) h := by
  obtain ⟨fs, he, h1⟩ := hp_gj_of hv
  exact r_getV C d F he h1 kk
theorem r_getIN (C : hh_ok X B e0 cc own nL ret nm R) (d : decode cc pc = .ok (.getfield idx, 3)) (F : hh_FN own idx ci k) {v : Int32} (hv : hp_gi h a ci k = some v) (kk : hh_W X cn sn (pc + 3) lv (.int v :: st) h) : hh_W X cn sn pc lv (.ref (hh_ad B e0 a) :: st) h := by
  obtain ⟨fs, he, h1⟩ := hp_gi_of hv
  exact r_getVN C d F he h1 kk
theorem r_getAN (C : hh_ok X B e0 cc own nL ret nm R) (d : decode cc pc = .ok (.getfield idx, 3)) (F : hh_FN own idx ci k) {v : Nat} (hv : hp_ga h a ci k = some v) (kk : hh_W X cn sn (pc + 3) lv (.ref (hh_ad B e0 v) :: st) h) : hh_W X cn sn pc lv (.ref (hh_ad B e0 a) :: st) h := by
  obtain ⟨fs, he, h1⟩ := hp_ga_of hv
  exact r_getVN C d F he h1 kk
/-- a cell of the world has changed, and nothing else -/
theorem hh_S_set {D : va_G} {cT : Nat → ClassId} {s : State} {H H1 : Heap} {locs : List Loc} {e' : hh_C} {i : Nat} (hS : hh_S D cT B e0 s h H locs) {e1 : hh_C} (he : h[a]? = some e1) (hnn : e1 ≠ hh_nil) (hat : va_at D hh_cl (hh_ad B e0 a, hh_c B e0 cT e') H1) (hz : H1.size = H.size) (ho : ∀ q : Nat, q ≠ hh_ad B e0 a → H1[q]? = H[q]?) :
    hh_S D cT B e0 s (h.set a e') H1 (locs ++ [⟨hh_ad B e0 a, i⟩]) := by
  obtain ⟨hP, ⟨h0, he0, hs⟩, hF⟩ := hS
  have ha0 : a ≠ 0 := fun q => by
    subst q
    exact hnn (Option.some.inj (he.symm.trans h0))
  have hge : B ≤ hh_ad B e0 a := by
    match a, ha0 with
    | a + 1, _ => exact Nat.le_add_right _ _
  refine ⟨?_, ⟨by rw [List.getElem?_set, if_neg ha0]; exact h0, he0, by rw [hz, hs, List.length_set]⟩, hF.put hz ho hge⟩
  rw [← hh_w_set]
  exact hP.set (hh_D he0) (hh_w_get he) hat ho
theorem r_putV (C : hh_ok X B e0 cc own nL ret nm R) (d : decode cc pc = .ok (.putfield idx, 3)) (F : hh_FL own idx ci k ty false) {v : hh_V} (hn : narrow ty (hh_v B e0 v) = hh_v B e0 v) (hfit : fits ty (hh_v B e0 v) = true) (hv : hp_p h a ci k v = some h')
    (kk : hh_W X cn sn (pc + 3) lv st h') : hh_W X cn sn pc lv (hh_v B e0 v :: .ref (hh_ad B e0 a) :: st) h := by
  obtain ⟨p, l, e, R', s, m, args, below, meth, c, Q, D, cT, B', e0', nL'⟩ := X
  obtain ⟨hx, hb, hml, hown, hts, hK, hlk, hrt, hnm, rfl, rfl, rfl, rfl, hB, hA, hcA⟩ := C
  obtain ⟨Cn, T, N, tys, h1, h2, h3, h4, hfin, hd, hty, hne⟩ := F
  obtain ⟨fs, he, hkl, rfl⟩ := hp_p_of hv
  intro H locs ls hS hl
  have hap := va_apart (own := own) hts h3 tys hty hne hK h1
  obtain ⟨r, g1, cell, q1, q2, q3, q4⟩ := hS.1 a _ (hh_w_get he)
  have hr : r = (Cn, T, N) := Option.some.inj (g1.symm.trans h1)
  subst hr
  obtain ⟨hSl, hfc, kC, hkC, hkind⟩ := hK.1 ci _ h1
  obtain ⟨cf, kf, fi, f, hi, hsl⟩ := hSl k h2
  have hlay := hts _ (h3 _ (u_in_lay h2))
  unfold u_lay at hlay
  rw [if_neg (by rw [hfin]; decide)] at hlay
  have hst := (u_facts hfc hkC (u_lays hts h3 h2) hi).1
  have h6 := u_store hfc hkC hkind hlay hi hd hn hfit
  refine W.putK hx hb (f := f) ⟨hown, hts _ h4, ⟨_, _, _, hi⟩, hst⟩ (by rw [q2]; exact h6) q1 q3 (by rw [hsl]; exact k2_hasslot (q4 k h2)) rfl rfl d fun H' e1 e2 e3 => ?_
  rw [hsl] at e1 ⊢
  refine kk H' _ ls (hh_S_set hS he (fun q => by cases q) ⟨_, h1, ?_⟩ e2 e3) hl
  refine t_OB.to (V := updV (vp_V (fs.map (hh_v B' e0'))) k (hh_v B' e0' v)) ⟨_, e1, q2, q3, t_set q4 hap h2 _⟩ (fun j _ => ?_)
  rw [vp_updV_set (by rw [List.length_map]; exact hkl), ← List.map_set]
theorem r_putVF (C : hh_ok X B e0 cc own nL ret nm R) (d : decode cc pc = .ok (.putfield idx, 3)) (F : hh_FL own idx ci k ty true) (hin : nm = "<init>") (hdc : ∀ Cn T N, hh_cl[ci]? = some (Cn, T, N) → (T k).1 = own) {v : hh_V} (hn : narrow ty (hh_v B e0 v) = hh_v B e0 v) (hfit : fits ty (hh_v B e0 v) = true) (hv : hp_p h a ci k v = some h')
    (kk : hh_W X cn sn (pc + 3) lv st h') : hh_W X cn sn pc lv (hh_v B e0 v :: .ref (hh_ad B e0 a) :: st) h := by
  obtain ⟨p, l, e, R', s, m, args, below, meth, c, Q, D, cT, B', e0', nL'⟩ := X
  obtain ⟨hx, hb, hml, hown, hts, hK, hlk, hrt, hnm, rfl, rfl, rfl, rfl, hB, hA, hcA⟩ := C
  obtain ⟨Cn, T, N, tys, h1, h2, h3, h4, hfin, hd, hty, hne⟩ := F
  obtain ⟨fs, he, hkl, rfl⟩ := hp_p_of hv
  have hdecl := hdc _ _ _ h1
  intro H locs ls hS hl
  have hap := va_apart (own := own) hts h3 tys hty hne hK h1
  obtain ⟨r, g1, cell, q1, q2, q3, q4⟩ := hS.1 a _ (hh_w_get he)
  have hr : r = (Cn, T, N) := Option.some.inj (g1.symm.trans h1)
  subst hr
  obtain ⟨hSl, hfc, kC, hkC, hkind⟩ := hK.1 ci _ h1
  obtain ⟨cf, kf, fi, f, hi, hsl⟩ := hSl k h2
  have hlay := hts _ (h3 _ (u_in_lay h2))
  unfold u_lay at hlay
  rw [if_pos hfin] at hlay
  have hst := (u_facts hfc hkC (u_lays hts h3 h2) hi).1
  have hcf : m.cls = cf := by
    obtain ⟨_, _, c', _, _, _, -, -, hf', -, -, -, hown2, -⟩ := Cond.laysFinal_spec hlay
    have e1 : c' = cf := by have := hi.symm.trans hf'; simp at this; exact this.1.symm
    rw [hdecl] at hown2
    rw [← e1]; exact Option.some.inj (hown.symm.trans hown2)
  have h6 := u_fits hfc hkC hkind (Or.inr hlay) hi hd hn hfit
  refine W.putFinK hx hb hown (hts _ h4) hi hst hcf (hnm.trans hin) (by rw [q2]; exact h6) q1 q3 (by rw [hsl]; exact k2_hasslot (q4 k h2)) rfl rfl d fun H' e1 e2 e3 => ?_
  rw [hsl] at e1 ⊢
  refine kk H' _ ls (hh_S_set hS he (fun q => by cases q) ⟨_, h1, ?_⟩ e2 e3) hl
  refine t_OB.to (V := updV (vp_V (fs.map (hh_v B' e0'))) k (hh_v B' e0' v)) ⟨_, e1, q2, q3, t_set q4 hap h2 _⟩ (fun j _ => ?_)
  rw [vp_updV_set (by rw [List.length_map]; exact hkl), ← List.map_set]
theorem r_putI (C : hh_ok X B e0 cc own nL ret nm R) (d : decode cc pc = .ok (.putfield idx, 3)) (F : hh_FL own idx ci k .int false) {x : Int32} (hv : hp_pi h a ci k x = some h') (kk : hh_W X cn sn (pc + 3) lv st h') : hh_W X cn sn pc lv (.int x :: .ref (hh_ad B e0 a) :: st) h :=
  r_putV (v := .inl x) C d F rfl rfl hv kk
theorem r_putIF (C : hh_ok X B e0 cc own nL ret nm R) (d : decode cc pc = .ok (.putfield idx, 3)) (F : hh_FL own idx ci k .int true) (hin : nm = "<init>") (hdc : ∀ Cn T N, hh_cl[ci]? = some (Cn, T, N) → (T k).1 = own) {x : Int32} (hv : hp_pi h a ci k x = some h') (kk : hh_W X cn sn (pc + 3) lv st h') : hh_W X cn sn pc lv (.int x :: .ref (hh_ad B e0 a) :: st) h :=
  r_putVF (v := .inl x) C d F hin hdc rfl rfl hv kk
theorem r_putA (C : hh_ok X B e0 cc own nL ret nm R) (d : decode cc pc = .ok (.putfield idx, 3)) (F : hh_FL own idx ci k ty false) (hr : ∀ q, narrow ty (.ref q) = .ref q ∧ fits ty (.ref q) = true) {x : Nat} (hv : hp_pa h a ci k x = some h') (kk : hh_W X cn sn (pc + 3) lv st h') : hh_W X cn sn pc lv (.ref (hh_ad B e0 x) :: .ref (hh_ad B e0 a) :: st) h :=
  r_putV (v := .inr (.inl (some x))) C d F (hr _).1 (hr _).2 hv kk
theorem r_putAF (C : hh_ok X B e0 cc own nL ret nm R) (d : decode cc pc = .ok (.putfield idx, 3)) (F : hh_FL own idx ci k ty true) (hin : nm = "<init>") (hdc : ∀ Cn T N, hh_cl[ci]? = some (Cn, T, N) → (T k).1 = own) (hr : ∀ q, narrow ty (.ref q) = .ref q ∧ fits ty (.ref q) = true) {x : Nat} (hv : hp_pa h a ci k x = some h') (kk : hh_W X cn sn (pc + 3) lv st h') : hh_W X cn sn pc lv (.ref (hh_ad B e0 x) :: .ref (hh_ad B e0 a) :: st) h :=
  r_putVF (v := .inr (.inl (some x))) C d F hin hdc (hr _).1 (hr _).2 hv kk
theorem r_putJ (C : hh_ok X B e0 cc own nL ret nm R) (d : decode cc pc = .ok (.putfield idx, 3)) (F : hh_FL own idx ci k .long false) {x : Int64} (hv : hp_pj h a ci k x = some h') (kk : hh_W X cn sn (pc + 3) lv st h') : hh_W X cn sn pc lv (.long x :: .ref (hh_ad B e0 a) :: st) h :=
  r_putV (v := .inr (.inr (.inr x))) C d F rfl rfl hv kk
theorem r_putZ (C : hh_ok X B e0 cc own nL ret nm R) (d : decode cc pc = .ok (.putfield idx, 3)) (F : hh_FL own idx ci k .boolean false) {x : Int32} (hv : hp_pz h a ci k x = some h') (kk : hh_W X cn sn (pc + 3) lv st h') : hh_W X cn sn pc lv (.int x :: .ref (hh_ad B e0 a) :: st) h := by
  unfold hp_pz at hv
  split at hv
  · rename_i hz
    refine r_putV (v := .inl x) C d F ?_ ?_ hv kk
    · rcases hz with rfl | rfl <;> rfl
    · rcases hz with rfl | rfl <;> rfl
  · cases hv
end Fields
theorem hp_ints_of {h : hh_H} {a t : Nat} {l : List Int32} (hv : hp_ints h a t = some l) : h[a]? = some (.inl (t, .inl l)) := by
  unfold hp_ints at hv
  split at hv
  · rename_i t' l' he
    split at hv
    · rename_i ht
      subst ht
      cases hv
      exact he
    · cases hv
  · cases hv
theorem hp_dbls_of {h : hh_H} {a t : Nat} {l : List UInt64} (hv : hp_dbls h a t = some l) : h[a]? = some (.inl (t, .inr (.inl l))) := by
  unfold hp_dbls at hv
  split at hv
  · rename_i t' l' he
    split at hv
    · rename_i ht
      subst ht
      cases hv
      exact he
    · cases hv
  · cases hv
theorem hp_lngs_of {h : hh_H} {a t : Nat} {l : List Int64} (hv : hp_lngs h a t = some l) : h[a]? = some (.inl (t, .inr (.inr (.inl l)))) := by
  unfold hp_lngs at hv
  split at hv
  · rename_i t' l' he
    split at hv
    · rename_i ht
      subst ht
      cases hv
      exact he
    · cases hv
  · cases hv
theorem hp_ld_of {α : Type} {o : Option (List α)} {i : Int32} {v : α} (z : α) (hv : hp_ld o i = some v) : ∃ l, o = some l ∧ vp_in i l.length ∧ l.getD i.toNatClampNeg z = v := by
  match o, hv with
  | some l, hv =>
    simp only [hp_ld] at hv
    split at hv
    · cases hv
    · rename_i hi
      have hl := (List.getElem?_eq_some_iff.mp hv).1
      refine ⟨l, rfl, fun q => ?_, ?_⟩
      · rcases q with q | q
        · exact hi q
        · exact absurd hl (Nat.not_lt.mpr q)
      · simp [List.getD_eq_getElem?_getD, hv]
theorem hp_st_of {α : Type} {o : Option (List α)} {i : Int32} {v : α} {l' : List α} (hv : hp_st o i v = some l') : ∃ l, o = some l ∧ vp_in i l.length ∧ l' = l.set i.toNatClampNeg v := by
  match o, hv with
  | some l, hv =>
    simp only [hp_st] at hv
    split at hv
    · cases hv
    · rename_i hi
      split at hv
      · rename_i hl
        cases hv
        refine ⟨l, rfl, fun q => ?_, rfl⟩
        rcases q with q | q
        · exact hi q
        · exact absurd hl (Nat.not_lt.mpr q)
      · cases hv
theorem hp_getD_set {α : Type} {l : List α} {i : Nat} {x z : α} (hi : i < l.length) (j : Nat) : (l.set i x).getD j z = if j = i then x else l.getD j z := by
  by_cases hj : j = i
  · subst hj
    simp [List.getD_eq_getElem?_getD, List.getElem?_set, hi]
  · simp [List.getD_eq_getElem?_getD, List.getElem?_set, Ne.symm hj, hj]
theorem hp_inlt {i : Int32} {n : Nat} (h : vp_in i n) : i.toNatClampNeg < n := Nat.not_le.mp fun q => h (Or.inr q)
section Arrays
variable {X : hh_X} {B e0 : Nat} {cc : ByteArray} {own : String} {nL : Nat} {ret : Option FieldType} {nm : String} {R : Room} {cn sn pc idx : Nat} {lv : List (Nat × Value)} {st : List Value} {h h' : hh_H} {a : Nat}
theorem r_ai (C : hh_ok X B e0 cc own nL ret nm R) (d : decode cc pc = .ok (.iaload, 1)) {i v : Int32} (hv : hp_ai h a i = some v) (kk : hh_W X cn sn (pc + 1) lv (.int v :: st) h) : hh_W X cn sn pc lv (.int i :: .ref (hh_ad B e0 a) :: st) h := by
  obtain ⟨p, l, e, R', s, m, args, below, meth, c, Q, D, cT, B', e0', nL'⟩ := X
  obtain ⟨hx, hb, hml, hown, hts, hK, hlk, hrt, hnm, rfl, rfl, rfl, rfl, hB, hA, hcA⟩ := C
  obtain ⟨f, h1, h2, rfl⟩ := hp_ld_of 0 hv
  intro H locs ls hS hl
  exact va_iald hx hb hK hS.1 a 0 (hh_w_get (hp_ints_of h1)) rfl h2 d (kk H locs ls hS hl)
theorem r_az (C : hh_ok X B e0 cc own nL ret nm R) (d : decode cc pc = .ok (.baload, 1)) {i v : Int32} (hv : hp_az h a i = some v) (kk : hh_W X cn sn (pc + 1) lv (.int v :: st) h) : hh_W X cn sn pc lv (.int i :: .ref (hh_ad B e0 a) :: st) h := by
  obtain ⟨p, l, e, R', s, m, args, below, meth, c, Q, D, cT, B', e0', nL'⟩ := X
  obtain ⟨hx, hb, hml, hown, hts, hK, hlk, hrt, hnm, rfl, rfl, rfl, rfl, hB, hA, hcA⟩ := C
  obtain ⟨f, h1, h2, rfl⟩ := hp_ld_of 0 hv
  intro H locs ls hS hl
  exact va_zald hx hb hK hS.1 a 1 (hh_w_get (hp_ints_of h1)) rfl h2 d (kk H locs ls hS hl)
theorem r_ab (C : hh_ok X B e0 cc own nL ret nm R) (d : decode cc pc = .ok (.baload, 1)) {i v : Int32} (hv : hp_ab h a i = some v) (kk : hh_W X cn sn (pc + 1) lv (.int v :: st) h) : hh_W X cn sn pc lv (.int i :: .ref (hh_ad B e0 a) :: st) h := by
  obtain ⟨p, l, e, R', s, m, args, below, meth, c, Q, D, cT, B', e0', nL'⟩ := X
  obtain ⟨hx, hb, hml, hown, hts, hK, hlk, hrt, hnm, rfl, rfl, rfl, rfl, hB, hA, hcA⟩ := C
  obtain ⟨f, h1, h2, rfl⟩ := hp_ld_of 0 hv
  intro H locs ls hS hl
  exact va_bald hx hb hK hS.1 a 5 (hh_w_get (hp_ints_of h1)) rfl h2 d (kk H locs ls hS hl)
theorem r_ad (C : hh_ok X B e0 cc own nL ret nm R) (d : decode cc pc = .ok (.daload, 1)) {i : Int32} {v : UInt64} (hv : hp_ad h a i = some v) (kk : hh_W X cn sn (pc + 1) lv (.double v :: st) h) : hh_W X cn sn pc lv (.int i :: .ref (hh_ad B e0 a) :: st) h := by
  obtain ⟨p, l, e, R', s, m, args, below, meth, c, Q, D, cT, B', e0', nL'⟩ := X
  obtain ⟨hx, hb, hml, hown, hts, hK, hlk, hrt, hnm, rfl, rfl, rfl, rfl, hB, hA, hcA⟩ := C
  obtain ⟨f, h1, h2, rfl⟩ := hp_ld_of 0 hv
  intro H locs ls hS hl
  exact va_dald hx hb hK hS.1 a 2 (hh_w_get (hp_dbls_of h1)) rfl h2 d (kk H locs ls hS hl)
theorem r_aj (C : hh_ok X B e0 cc own nL ret nm R) (d : decode cc pc = .ok (.laload, 1)) {i : Int32} {v : Int64} (hv : hp_aj h a i = some v) (kk : hh_W X cn sn (pc + 1) lv (.long v :: st) h) : hh_W X cn sn pc lv (.int i :: .ref (hh_ad B e0 a) :: st) h := by
  obtain ⟨p, l, e, R', s, m, args, below, meth, c, Q, D, cT, B', e0', nL'⟩ := X
  obtain ⟨hx, hb, hml, hown, hts, hK, hlk, hrt, hnm, rfl, rfl, rfl, rfl, hB, hA, hcA⟩ := C
  obtain ⟨f, h1, h2, rfl⟩ := hp_ld_of 0 hv
  intro H locs ls hS hl
  exact va_lald hx hb hK hS.1 a 3 (hh_w_get (hp_lngs_of h1)) rfl h2 d (kk H locs ls hS hl)
theorem r_alen (C : hh_ok X B e0 cc own nL ret nm R) (d : decode cc pc = .ok (.arraylength, 1)) {v : Int32} (hv : hp_len h a = some v) (kk : hh_W X cn sn (pc + 1) lv (.int v :: st) h) : hh_W X cn sn pc lv (.ref (hh_ad B e0 a) :: st) h := by
  obtain ⟨p, l, e, R', s, m, args, below, meth, c, Q, D, cT, B', e0', nL'⟩ := X
  obtain ⟨hx, hb, hml, hown, hts, hK, hlk, hrt, hnm, rfl, rfl, rfl, rfl, hB, hA, hcA⟩ := C
  unfold hp_len at hv
  split at hv
  · rename_i t x he
    split at hv
    · rename_i ht
      cases hv
      intro H locs ls hS hl
      obtain ⟨ty, hty⟩ : ∃ ty, (hh_tys cT)[t]? = some (cT t, ty) := by
        match t, ht with
        | 0, _ => exact ⟨_, rfl⟩
        | 1, _ => exact ⟨_, rfl⟩
        | 2, _ => exact ⟨_, rfl⟩
        | 3, _ => exact ⟨_, rfl⟩
        | 4, _ => exact ⟨_, rfl⟩
        | 5, _ => exact ⟨_, rfl⟩
      refine va_alen hx hb hK hS.1 a t (hh_w_get he) hty ?_ d (kk H locs ls hS hl)
      match x with
      | .inl l => rfl
      | .inr (.inl l) => rfl
      | .inr (.inr (.inl l)) => rfl
      | .inr (.inr (.inr l)) => rfl
    · cases hv
  · cases hv
theorem r_si (C : hh_ok X B e0 cc own nL ret nm R) (d : decode cc pc = .ok (.iastore, 1)) {i x : Int32} (hv : hp_si h a i x = some h') (kk : hh_W X cn sn (pc + 1) lv st h') : hh_W X cn sn pc lv (.int x :: .int i :: .ref (hh_ad B e0 a) :: st) h := by
  obtain ⟨p, l, e, R', s, m, args, below, meth, c, Q, D, cT, B', e0', nL'⟩ := X
  obtain ⟨hx, hb, hml, hown, hts, hK, hlk, hrt, hnm, rfl, rfl, rfl, rfl, hB, hA, hcA⟩ := C
  obtain ⟨f', h1, rfl⟩ := Option.map_eq_some_iff.mp hv
  obtain ⟨f, h2, h3, rfl⟩ := hp_st_of h1
  have he := hp_ints_of h2
  intro H locs ls hS hl
  refine W.iast hx hb (hS.1 a _ (hh_w_get he)) ((hK.2 0 _ rfl).1 f.length (fun j => .int (f.getD j 0))) (fun q => by cases q) (by show ¬ (i < 0 ∨ (arrV _ _ _).slots.size ≤ _); rw [arrV_size]; exact h3) rfl rfl d fun H1 e1 z oq => ?_
  refine kk H1 _ ls (hh_S_set hS he (fun q => by cases q) ?_ z oq) hl
  show H1[hh_ad B' e0' a]? = some (vp_cell _ _)
  rw [e1]
  show some ((arrV _ _ _).setSlot _ _) = some (arrV (cT 0) (f.set i.toNatClampNeg x).length (fun j => .int ((f.set i.toNatClampNeg x).getD j 0)))
  rw [arrV_store, List.length_set]
  congr 2
  funext q
  rw [hp_getD_set (hp_inlt h3)]
  by_cases hq : q = i.toNatClampNeg <;> simp [updV, hq]
theorem r_sz (C : hh_ok X B e0 cc own nL ret nm R) (d : decode cc pc = .ok (.bastore, 1)) {i x : Int32} (hv : hp_sz h a i x = some h') (kk : hh_W X cn sn (pc + 1) lv st h') : hh_W X cn sn pc lv (.int x :: .int i :: .ref (hh_ad B e0 a) :: st) h := by
  obtain ⟨p, l, e, R', s, m, args, below, meth, c, Q, D, cT, B', e0', nL'⟩ := X
  obtain ⟨hx, hb, hml, hown, hts, hK, hlk, hrt, hnm, rfl, rfl, rfl, rfl, hB, hA, hcA⟩ := C
  obtain ⟨f', h1, rfl⟩ := Option.map_eq_some_iff.mp hv
  obtain ⟨f, h2, h3, rfl⟩ := hp_st_of h1
  have he := hp_ints_of h2
  intro H locs ls hS hl
  refine W.zast hx hb (hS.1 a _ (hh_w_get he)) ((hK.2 1 _ rfl).1 f.length (fun j => .int (f.getD j 0))) (fun q => by cases q) (by show ¬ (i < 0 ∨ (arrV _ _ _).slots.size ≤ _); rw [arrV_size]; exact h3) rfl rfl d fun H1 e1 z oq => ?_
  refine kk H1 _ ls (hh_S_set hS he (fun q => by cases q) ?_ z oq) hl
  show H1[hh_ad B' e0' a]? = some (vp_cell _ _)
  rw [e1]
  show some ((arrV _ _ _).setSlot _ _) = some (arrV (cT 1) (f.set i.toNatClampNeg (vp_nar .boolean x)).length (fun j => .int ((f.set i.toNatClampNeg (vp_nar .boolean x)).getD j 0)))
  rw [arrV_store, List.length_set]
  congr 2
  funext q
  rw [hp_getD_set (hp_inlt h3)]
  by_cases hq : q = i.toNatClampNeg
  · simp [updV, hq]; rfl
  · simp [updV, hq]
theorem r_sb (C : hh_ok X B e0 cc own nL ret nm R) (d : decode cc pc = .ok (.bastore, 1)) {i x : Int32} (hv : hp_sb h a i x = some h') (kk : hh_W X cn sn (pc + 1) lv st h') : hh_W X cn sn pc lv (.int x :: .int i :: .ref (hh_ad B e0 a) :: st) h := by
  obtain ⟨p, l, e, R', s, m, args, below, meth, c, Q, D, cT, B', e0', nL'⟩ := X
  obtain ⟨hx, hb, hml, hown, hts, hK, hlk, hrt, hnm, rfl, rfl, rfl, rfl, hB, hA, hcA⟩ := C
  obtain ⟨f', h1, rfl⟩ := Option.map_eq_some_iff.mp hv
  obtain ⟨f, h2, h3, rfl⟩ := hp_st_of h1
  have he := hp_ints_of h2
  intro H locs ls hS hl
  refine W.bast hx hb (hS.1 a _ (hh_w_get he)) ((hK.2 5 _ rfl).1 f.length (fun j => .int (f.getD j 0))) (fun q => by cases q) (by show ¬ (i < 0 ∨ (arrV _ _ _).slots.size ≤ _); rw [arrV_size]; exact h3) rfl rfl d fun H1 e1 z oq => ?_
  refine kk H1 _ ls (hh_S_set hS he (fun q => by cases q) ?_ z oq) hl
  show H1[hh_ad B' e0' a]? = some (vp_cell _ _)
  rw [e1]
  show some ((arrV _ _ _).setSlot _ _) = some (arrV (cT 5) (f.set i.toNatClampNeg (vp_nar .byte x)).length (fun j => .int ((f.set i.toNatClampNeg (vp_nar .byte x)).getD j 0)))
  rw [arrV_store, List.length_set]
  congr 2
  funext q
  rw [hp_getD_set (hp_inlt h3)]
  by_cases hq : q = i.toNatClampNeg
  · simp [updV, hq]; rfl
  · simp [updV, hq]
theorem r_sd (C : hh_ok X B e0 cc own nL ret nm R) (d : decode cc pc = .ok (.dastore, 1)) {i : Int32} {x : UInt64} (hv : hp_sd h a i x = some h') (kk : hh_W X cn sn (pc + 1) lv st h') : hh_W X cn sn pc lv (.double x :: .int i :: .ref (hh_ad B e0 a) :: st) h := by
  obtain ⟨p, l, e, R', s, m, args, below, meth, c, Q, D, cT, B', e0', nL'⟩ := X
  obtain ⟨hx, hb, hml, hown, hts, hK, hlk, hrt, hnm, rfl, rfl, rfl, rfl, hB, hA, hcA⟩ := C
  obtain ⟨f', h1, rfl⟩ := Option.map_eq_some_iff.mp hv
  obtain ⟨f, h2, h3, rfl⟩ := hp_st_of h1
  have he := hp_dbls_of h2
  intro H locs ls hS hl
  refine W.dast hx hb (hS.1 a _ (hh_w_get he)) ((hK.2 2 _ rfl).1 f.length (fun j => .double (f.getD j 0))) (fun q => by cases q) (by show ¬ (i < 0 ∨ (arrV _ _ _).slots.size ≤ _); rw [arrV_size]; exact h3) rfl rfl d fun H1 e1 z oq => ?_
  refine kk H1 _ ls (hh_S_set hS he (fun q => by cases q) ?_ z oq) hl
  show H1[hh_ad B' e0' a]? = some (vp_cell _ _)
  rw [e1]
  show some ((arrV _ _ _).setSlot _ _) = some (arrV (cT 2) (f.set i.toNatClampNeg x).length (fun j => .double ((f.set i.toNatClampNeg x).getD j 0)))
  rw [arrV_store, List.length_set]
  congr 2
  funext q
  rw [hp_getD_set (hp_inlt h3)]
  by_cases hq : q = i.toNatClampNeg <;> simp [updV, hq]
theorem r_sj (C : hh_ok X B e0 cc own nL ret nm R) (d : decode cc pc = .ok (.lastore, 1)) {i : Int32} {x : Int64} (hv : hp_sj h a i x = some h') (kk : hh_W X cn sn (pc + 1) lv st h') : hh_W X cn sn pc lv (.long x :: .int i :: .ref (hh_ad B e0 a) :: st) h := by
  obtain ⟨p, l, e, R', s, m, args, below, meth, c, Q, D, cT, B', e0', nL'⟩ := X
  obtain ⟨hx, hb, hml, hown, hts, hK, hlk, hrt, hnm, rfl, rfl, rfl, rfl, hB, hA, hcA⟩ := C
  obtain ⟨f', h1, rfl⟩ := Option.map_eq_some_iff.mp hv
  obtain ⟨f, h2, h3, rfl⟩ := hp_st_of h1
  have he := hp_lngs_of h2
  intro H locs ls hS hl
  refine W.last hx hb (hS.1 a _ (hh_w_get he)) ((hK.2 3 _ rfl).1 f.length (fun j => .long (f.getD j 0))) (fun q => by cases q) (by show ¬ (i < 0 ∨ (arrV _ _ _).slots.size ≤ _); rw [arrV_size]; exact h3) rfl rfl d fun H1 e1 z oq => ?_
  refine kk H1 _ ls (hh_S_set hS he (fun q => by cases q) ?_ z oq) hl
  show H1[hh_ad B' e0' a]? = some (vp_cell _ _)
  rw [e1]
  show some ((arrV _ _ _).setSlot _ _) = some (arrV (cT 3) (f.set i.toNatClampNeg x).length (fun j => .long ((f.set i.toNatClampNeg x).getD j 0)))
  rw [arrV_store, List.length_set]
  congr 2
  funext q
  rw [hp_getD_set (hp_inlt h3)]
  by_cases hq : q = i.toNatClampNeg <;> simp [updV, hq]
/-- a cell has come -/
theorem hh_S_app {D : va_G} {cT : Nat → ClassId} {s : State} {H H1 : Heap} {locs : List Loc} {e' : hh_C} (hS : hh_S D cT B e0 s h H locs) (hat : va_at D hh_cl (hh_ad B e0 h.length, hh_c B e0 cT e') H1) (hz : H1.size = H.size + 1) (ho : ∀ q : Nat, q < H.size → H1[q]? = H[q]?) :
    hh_S D cT B e0 s (h ++ [e']) H1 locs := by
  obtain ⟨hP, ⟨h0, he0, hs⟩, hF⟩ := hS
  have hk : ∀ (k : Nat) (x : Nat × va_E), (hh_w B e0 cT h)[k]? = some x → H1[x.1]? = H[x.1]? := fun k x hx => ho x.1 ((hP k x hx).lt)
  refine ⟨?_, ⟨by rw [List.getElem?_append_left (List.getElem?_eq_some_iff.mp h0).1]; exact h0, he0, by rw [hz, List.length_append]; show H.size + 1 + 1 = B + (h.length + 1); omega⟩, Nat.le_trans hF.1 (by omega), fun x h1 h2 => (ho x (Nat.lt_of_lt_of_le h1 hF.1)).trans (hF.2.1 x h1 h2), hF.2.2⟩
  rw [hh_w_app]
  refine (hP.kept hk).app (fun k x hx => ?_)
  have hz : k < 1 := (List.getElem?_eq_some_iff.mp hx).1
  rw [show k = 0 by omega] at hx
  cases hx
  exact hat
theorem hh_size {n : Nat} (hs : h[0]? = some hh_nil ∧ e0 < B ∧ n + 1 = B + h.length) : n = hh_ad B e0 h.length := by
  have hl := (List.getElem?_eq_some_iff.mp hs.1).1
  match hh : h.length, hl with
  | k + 1, _ =>
    have := hs.2.2
    rw [hh] at this
    show n = B + k
    omega
def hh_NW (own : String) (idx ci N : Nat) : Prop :=
  ∃ (Cn : String) (T : u_T) (tys : Nat → FieldType), hh_cl[ci]? = some (Cn, T, N) ∧ (∀ w ∈ u_ws Cn T N, w ∈ hh_T) ∧ Cond.classLink own idx Cn ∈ hh_T ∧ Cond.instantiable Cn N ∈ hh_T ∧ Cond.initialized Cn ∈ hh_T ∧ (∀ j, j < N → parseFieldDescriptor (T j).2.2.1 = some (tys j)) ∧
    (∀ B e0 j, j < N → defaultValue (tys j) = vp_V ((hh_dfl ci).map (hh_v B e0)) j)
theorem r_new {N ci : Nat} {q : Nat} (C : hh_ok X B e0 cc own nL ret nm R) (d : decode cc pc = .ok (.new idx, 3)) (F : hh_NW own idx ci N) (hc : cn + 1 ≤ R.cells) (hs : sn + N ≤ R.slots) (hv : hp_new h ci = some (q, h')) (kk : hh_W X (cn + 1) (sn + N) (pc + 3) lv (.ref (hh_ad B e0 q) :: st) h') : hh_W X cn sn pc lv st h := by
  obtain ⟨p, l, e, R', s, m, args, below, meth, c, Q, D, cT, B', e0', nL'⟩ := X
  obtain ⟨hx, hb, hml, hown, hts, hK, hlk, hrt, hnm, rfl, rfl, rfl, rfl, hB, hA, hcA⟩ := C
  obtain ⟨Cn, T, tys, h1, h2, h3, h4, h5, h6, h7⟩ := F
  cases hv
  intro H locs ls hS hl
  have hKn := hK.1 ci _ h1
  refine W.newcK hx hb hown (hts _ h3) (hts _ h4) (hts _ h5) rfl d hc hs hKn.2.1 rfl fun H1 kC hkC e1 z1 o1 => ?_
  have hsz : H.size = hh_ad B' e0' h.length := hh_size hS.2.1
  refine W.eq (g2 := F0 m (pc + 3) ls (.ref (hh_ad B' e0' h.length) :: st)) (by rw [← hsz]) ?_
  refine kk H1 locs ls (hh_S_app hS ?_ z1 o1) hl
  refine ⟨_, h1, ?_⟩
  have hb2 := (u_born tys hts h2 hKn hkC e1 h6).to (fun j hj => h7 B' e0' j hj)
  rw [hsz] at hb2
  exact hb2
theorem hp_na_of {t bd q : Nat} {n : Int32} (hv : hp_na h t n bd = some (q, h')) : ¬ n < 0 ∧ n.toNatClampNeg ≤ bd ∧ q = h.length ∧ h' = h ++ [.inl (t, hp_zero t n.toNatClampNeg)] := by
  unfold hp_na at hv
  split at hv
  · cases hv
  · rename_i hc
    cases hv
    exact ⟨fun z => hc (Or.inl z), Nat.not_lt.mp fun z => hc (Or.inr z), rfl, rfl⟩
theorem hp_rep {α : Type} (n : Nat) (z : α) : (fun j => (List.replicate n z).getD j z) = fun _ => z := by
  funext j
  rw [List.getD_eq_getElem?_getD, List.getElem?_replicate]
  split <;> rfl
theorem r_na {q bd t : Nat} {n : Int32} {at0 : ArrayType} (C : hh_ok X B e0 cc own nL ret nm R) (d : decode cc pc = .ok (.newarray at0, 2)) (ha : Cond.arrayClass (newarray.typeOf at0) ∈ hh_T) (hbd : bd * componentBytes (newarray.typeOf at0) ≤ 536870912)
    (hcell : ∀ (cA : ClassId) (n B e0 : Nat), vp_cell cA (hh_a B e0 (hp_zero t n)) = arrV cA n (fun _ => defaultValue (newarray.typeOf at0)))
    (hcls : ∀ (vm : Vm) (cT : Nat → ClassId), hh_cA cT vm → vm.findClass ("[" ++ (newarray.typeOf at0).toString) = some (cT t))
    (hc : cn + 1 ≤ R.cells) (hs : sn + bd ≤ R.slots) (hv : hp_na h t n bd = some (q, h')) (kk : hh_W X (cn + 1) (sn + bd) (pc + 2) lv (.ref (hh_ad B e0 q) :: st) h') : hh_W X cn sn pc lv (.int n :: st) h := by
  obtain ⟨p, l, e, R', s, m, args, below, meth, c, Q, D, cT, B', e0', nL'⟩ := X
  obtain ⟨hx, hb, hml, hown, hts, hK, hlk, hrt, hnm, rfl, rfl, rfl, rfl, hB, hA, hcA⟩ := C
  obtain ⟨h1, h2, rfl, rfl⟩ := hp_na_of hv
  intro H locs ls hS hl
  refine va_newaK hx hb (hts _ ha) rfl d rfl h1 rfl (Nat.le_trans (Nat.mul_le_mul_right _ h2) hbd) hc (Nat.le_trans (Nat.add_le_add_left h2 _) hs) rfl fun H1 cA e1 z1 o1 hAr hNm => ?_
  have hcA : cA = cT t := Option.some.inj (hNm.symm.trans (hcls _ cT hcA))
  subst hcA
  have hsz : H.size = hh_ad B' e0' h.length := hh_size hS.2.1
  refine W.eq (g2 := F0 m (pc + 2) ls (.ref (hh_ad B' e0' h.length) :: st)) (by rw [← hsz]) ?_
  refine W.widen (Nat.le_refl _) (Nat.add_le_add_left h2 _) ?_
  refine kk H1 locs ls (hh_S_app hS ?_ z1 o1) hl
  show H1[hh_ad B' e0' h.length]? = some (vp_cell _ _)
  rw [hcell, ← hsz]
  exact e1
end Arrays
end
section
section Ends
variable {X : hh_X} {B e0 : Nat} {cc : ByteArray} {own : String} {nL : Nat} {ret : Option FieldType} {nm : String} {R : Room} {cn sn pc idx mc ms : Nat} {lv : List (Nat × Value)} {st : List Value} {h h' : hh_H}
theorem hh_Qof {D : va_G} {cT : Nat → ClassId} {s t : State} {H : Heap} {locs : List Loc} {o : Outcome} {as : Array Value} (hS : hh_S D cT B e0 s h H locs) (ht : t.heap = H) : hh_Q D cT B e0 o h as s o t :=
  ⟨rfl, by rw [ht]; exact hS.1, by rw [ht]; exact hS.2.1, hS.2.2.F ht⟩
theorem r_ireturn (C : hh_ok X B e0 cc own nL (some .int) nm R) {rr : Int32 × hh_H} {v : Int32} (E : hh_End X B e0 (.returned (some (.int rr.1))) rr.2 mc ms) (d : decode cc pc = .ok (.ireturn, 1)) (hc : cn ≤ mc) (hs : sn ≤ ms) (hf : some (v, h) = some rr) : hh_W X cn sn pc lv [.int v] h := by
  obtain ⟨p, l, e, R', s, m, args, below, meth, c, Q, D, cT, B', e0', nL'⟩ := X
  obtain ⟨hx, hb, hml, hown, hts, hK, hlk, hrt, hnm, rfl, rfl, rfl, rfl, hB, hA, hcA⟩ := C
  cases hf
  cases E
  intro H locs ls hS hl
  exact W.widen hc hs (W.iret hx hb hrt (fun t ht hW => hh_Qof hS ht) hS.2.2.2.2 d hlk)
theorem r_ireturnz {ty : FieldType} (C : hh_ok X B e0 cc own nL (some ty) nm R) {rr : Int32 × hh_H} {v : Int32} (E : hh_End X B e0 (.returned (some (.int rr.1))) rr.2 mc ms) (d : decode cc pc = .ok (.ireturn, 1)) (hn : narrow ty (.int v) = .int v) (hc : cn ≤ mc) (hs : sn ≤ ms) (hf : some (v, h) = some rr) : hh_W X cn sn pc lv [.int v] h := by
  obtain ⟨p, l, e, R', s, m, args, below, meth, c, Q, D, cT, B', e0', nL'⟩ := X
  obtain ⟨hx, hb, hml, hown, hts, hK, hlk, hrt, hnm, rfl, rfl, rfl, rfl, hB, hA, hcA⟩ := C
  cases hf
  cases E
  intro H locs ls hS hl
  exact W.widen hc hs (W.zret hx hb hrt hn (fun t ht hW => hh_Qof hS ht) hS.2.2.2.2 d hlk)
theorem hp_zb_of {x v : Int32} (hv : hp_zb x = some v) : x = v ∧ narrow .boolean (.int v) = .int v := by
  unfold hp_zb at hv
  split at hv
  · rename_i hz
    cases hv
    refine ⟨rfl, ?_⟩
    rcases hz with rfl | rfl <;> rfl
  · cases hv
theorem r_return (C : hh_ok X B e0 cc own nL none nm R) {rr : Unit × hh_H} (E : hh_End X B e0 (.returned none) rr.2 mc ms) (d : decode cc pc = .ok (.return_, 1)) (hc : cn ≤ mc) (hs : sn ≤ ms) (hf : some ((), h) = some rr) : hh_W X cn sn pc lv [] h := by
  obtain ⟨p, l, e, R', s, m, args, below, meth, c, Q, D, cT, B', e0', nL'⟩ := X
  obtain ⟨hx, hb, hml, hown, hts, hK, hlk, hrt, hnm, rfl, rfl, rfl, rfl, hB, hA, hcA⟩ := C
  cases hf
  cases E
  intro H locs ls hS hl
  exact W.widen hc hs (W.vret hx hb hrt (fun t ht hW => hh_Qof hS ht) hS.2.2.2.2 d hlk)
theorem r_dreturn (C : hh_ok X B e0 cc own nL (some .double) nm R) {rr : UInt64 × hh_H} {v : UInt64} (E : hh_End X B e0 (.returned (some (.double rr.1))) rr.2 mc ms) (d : decode cc pc = .ok (.dreturn, 1)) (hc : cn ≤ mc) (hs : sn ≤ ms) (hf : some (v, h) = some rr) : hh_W X cn sn pc lv [.double v] h := by
  obtain ⟨p, l, e, R', s, m, args, below, meth, c, Q, D, cT, B', e0', nL'⟩ := X
  obtain ⟨hx, hb, hml, hown, hts, hK, hlk, hrt, hnm, rfl, rfl, rfl, rfl, hB, hA, hcA⟩ := C
  cases hf
  cases E
  intro H locs ls hS hl
  exact W.widen hc hs (W.dret hx hb hrt (fun t ht hW => hh_Qof hS ht) hS.2.2.2.2 d hlk)
theorem r_areturn {rt : FieldType} (C : hh_ok X B e0 cc own nL (some rt) nm R) {rr : Nat × hh_H} {v : Nat} (E : hh_End X B e0 (.returned (some (.ref (hh_ad B e0 rr.1)))) rr.2 mc ms) (d : decode cc pc = .ok (.areturn, 1)) (hr : (∃ n, rt = .object n) ∨ ∃ t, rt = .array t) (hc : cn ≤ mc) (hs : sn ≤ ms) (hf : some (v, h) = some rr) : hh_W X cn sn pc lv [.ref (hh_ad B e0 v)] h := by
  obtain ⟨p, l, e, R', s, m, args, below, meth, c, Q, D, cT, B', e0', nL'⟩ := X
  obtain ⟨hx, hb, hml, hown, hts, hK, hlk, hrt, hnm, rfl, rfl, rfl, rfl, hB, hA, hcA⟩ := C
  cases hf
  cases E
  intro H locs ls hS hl
  exact W.widen hc hs (W.aret hx hb hrt hr (Or.inr ⟨_, rfl⟩) (fun t ht hW => hh_Qof hS ht) hS.2.2.2.2 d hlk)
theorem hh_sz {n : Nat} (hs : h[0]? = some hh_nil ∧ e0 < B ∧ n + 1 = B + h.length) : B ≤ n := by
  have hl := (List.getElem?_eq_some_iff.mp hs.1).1
  omega
theorem hh_met {y : MethodName} {yb : ByteArray} {ym : Nat} {yr : Option FieldType} {rm : Room} {av : List Value} {o : Outcome} (hy : plainName y.cls = true) (hlen : (lg_sl av).length ≤ ym)
    (hw : ∀ X : hh_X, hh_ok X B e0 yb y.cls ym yr y.name rm → hh_End X B e0 o h' mc ms → hh_W X 0 0 0 (lv_args 0 av) [] h) : hh_Met y yb ym yr rm mc ms B e0 av h o h' := by
  intro l D cT
  refine Met.ofW (cc := yb) (maxL := ym) (ret := yr) hy rfl ?_
  intro p e s m args below meth c s₁ Bd hml hv
  obtain ⟨rfl, hP, hsz, hK, hcls⟩ := hv
  have hts := atoms_spec (ws := .code y yb ym yr :: hh_T) Bd.pre
  have hown : s.vm.findClass y.cls = some m.cls := findClass_of_methodNamed Bd.named
  have hl := lv_entry av (n := ym) hlen
  rw [lg_entry_eq]
  exact hw (p, l, e, rm, s, m, av.toArray, below, meth, c, _, D, cT, B, e0, ym) ⟨Bd.exec, Bd.bytes, hml, hown, fun w hw => hts w (List.mem_cons_of_mem _ hw), hK, Bd.notSynchronized, Bd.returns, (name_of_methodNamed Bd.named Bd.method).1, rfl, rfl, rfl, rfl, hh_sz hsz, fun q hq => Nat.le_trans (hh_sz hsz) hq, hcls⟩ rfl s.heap [] _ ⟨hP, hsz, va_S.rf⟩ hl
theorem hh_blind {D : va_G} {cT : Nat → ClassId} {av : List Value} : FrameBlind (hh_Pc D cT B e0 av h) := by
  intro a U g mk hq
  obtain ⟨h1, h2, h3, h4, h5⟩ := hq
  exact ⟨h1, h2, h3, va_K.moved (u := U) (U := U.calling g mk a) (Vm.Alike.refl U.vm) h4, h5⟩
theorem hh_pre {D : va_G} {cT : Nat → ClassId} {av : List Value} {s U : State} {H : Heap} {locs : List Loc} (hS : hh_S D cT B e0 s h H locs) (hK : va_K D hh_cl (hh_tys cT) s)
    (hc : hh_cA cT s.vm) (hU : U.heap = H) (hW : s.WarmedH U.vm) : hh_Pc D cT B e0 av h av.toArray U := by
  have hf : ∀ C : String, U.vm.findClass C = s.vm.findClass C := fun C => hW.alike.findClass C _
  exact ⟨rfl, by rw [hU]; exact hS.1, by rw [hU]; exact hS.2.1, va_K.moved hW.alike hK, by unfold hh_cA; rw [hf, hf, hf, hf, hf, hf]; exact hc⟩
/-- behind a call -/
theorem hh_back {p : Program} {l : Launch} {e : Env} {s : State} {m : MethodId} {args : Array Value} {below : List Frame} {meth : Method} {c : Code} {Q : State → Prop} {D : va_G} {cT : Nat → ClassId} {H : Heap} {locs : List Loc} {ls : Array Slot} {st0 rest : List Value} {v : Option Value} {as : Array Value}
    (hr : va_Run p l e R s m args below meth c H locs cn sn mc ms (F0 m pc ls st0) rest (hh_Q D cT B e0 (.returned v) h' as) (fun q => B ≤ q)) (hS : hh_S D cT B e0 s h H locs)
    (kk : ∀ (H1 : Heap) (locs1 : List Loc), hh_S D cT B e0 s h' H1 locs1 → W p l e R s m args below meth c H1 locs1 (cn + mc) (sn + ms) Q (F0 m (pc + 3) ls (v.toList ++ rest))) : W p l e R s m args below meth c H locs cn sn Q (F0 m pc ls st0) := by
  intro T hT X
  obtain ⟨v', st₀, t, T', L, h0, X', hL, e1, e2, ⟨hv, hP, hz, hF⟩, st⟩ := hr T hT X
  cases hv
  obtain ⟨hz0, hk⟩ := hF
  rw [h0] at hz0 hk
  obtain ⟨t2, a1, b1⟩ := kk T'.heap (locs ++ L) ⟨by rw [e1]; exact hP, by rw [e1]; exact hz, Nat.le_trans hS.2.2.1 (by rw [e1]; exact hz0), fun q h1 h2 => by rw [e1, hk q (Nat.lt_of_lt_of_le h1 hS.2.2.1) h2]; exact hS.2.2.2.1 q h1 h2, fun q hq => by
      rcases List.mem_append.mp hq with h | h
      · exact hS.2.2.2.2 q h
      · exact hL q h⟩ T' rfl X'
  exact ⟨t2, st t2 a1, b1⟩
theorem hh_goodC {y : MethodName} {yb : ByteArray} {ym : Nat} {yr : Option FieldType} (hc : Cond.code y yb ym yr ∈ hh_T) : GoodIn hh_T (.code y yb ym yr :: hh_T) := by
  intro w hw
  rcases List.mem_cons.mp hw with rfl | hw
  · exact hh_good _ hc
  · exact hh_good _ hw
/-- what a call site's words say -/
def hh_CS (own : String) (idx : Nat) (y : MethodName) (yb : ByteArray) (ym : Nat) (yr : Option FieldType) (n : Nat) (kind : List Cond) : Prop :=
  Cond.code y yb ym yr ∈ hh_T ∧ Cond.methodLink own idx y ∈ hh_T ∧ Cond.initialized y.cls ∈ hh_T ∧ (∀ w ∈ kind, w ∈ hh_T) ∧ (y.cls ≠ "java/lang/invoke/MethodHandle" ∧ y.cls ≠ "java/lang/invoke/VarHandle" ∧ (parseMethodDescriptor y.desc).map (fun d => d.parameters.length) = some n)
variable {y : MethodName} {yb : ByteArray} {ym n : Nat} {yr : Option FieldType} {rm : Room} {v : Option Value}
theorem r_callV (C : hh_ok X B e0 cc own nL ret nm R) (d : decode cc pc = .ok (.invokevirtual idx, 3)) (S : hh_CS own idx y yb ym yr n [.instanceMethod y, .selects y.cls y y]) {a ci : Nat} {fs : List hh_V} {T : u_T} {N : Nat} (hcl : hh_cl[ci]? = some (y.cls, T, N)) (ho : h[a]? = some (.inr (ci, fs)))
    {As : List Value} (hM : hh_Met y yb ym yr rm mc ms B e0 (.ref (hh_ad B e0 a) :: As) h (.returned v) h') (hn : As.length = n) (hrc : rm.cells = mc) (hrs : rm.slots = ms) (hR : rm.frames + 1 ≤ R.frames ∧ 8 + (ym + 11) + rm.locals ≤ R.locals) (hf : cn + mc ≤ R.cells ∧ sn + ms ≤ R.slots) (hst : (st.map fun v => v.category).sum ≤ 8)
    {st0 : List Value} (he : st0 = As.reverse ++ .ref (hh_ad B e0 a) :: st) (kk : hh_W X (cn + mc) (sn + ms) (pc + 3) lv (v.toList ++ st) h') : hh_W X cn sn pc lv st0 h := by
  obtain ⟨p, l, e, R', s, m, args, below, meth, c, Q, D, cT, B', e0', nL'⟩ := X
  obtain ⟨hx, hb, hml, hown, hts, hK, hlk, hrt, hnm, rfl, rfl, rfl, rfl, hB, hA, hcA⟩ := C
  obtain ⟨s1, s2, s3, s4, s5⟩ := S
  subst he
  intro H locs ls hS hl
  refine hh_back (va_runV (As := As) (rest := st) (C := y.cls) ⟨hx, hb, hml, hown, hts⟩ (hM l D cT) ⟨callB_of n hts (hh_goodC s1) rfl hrc hrs (hts _ s3) (hts _ s2) s5 hR, hts _ (s4 _ (by simp)), hts _ (s4 _ (by simp))⟩ ⟨hh_blind, va_recv hK hS.1 hcl (hh_w_get ho), fun U hU hW => hh_pre hS hK hcA hU hW⟩ rfl hn (by exact hl.1) rfl (lv_room hst) d hf) hS (fun H1 locs1 hS1 => kk H1 locs1 ls hS1 hl)
theorem r_callS (C : hh_ok X B e0 cc own nL ret nm R) (d : decode cc pc = .ok (.invokestatic idx, 3)) (S : hh_CS own idx y yb ym yr n [.static y])
    {As : List Value} (hM : hh_Met y yb ym yr rm mc ms B e0 As h (.returned v) h') (hn : As.length = n) (hrc : rm.cells = mc) (hrs : rm.slots = ms) (hR : rm.frames + 1 ≤ R.frames ∧ 8 + (ym + 11) + rm.locals ≤ R.locals) (hf : cn + mc ≤ R.cells ∧ sn + ms ≤ R.slots) (hst : (st.map fun v => v.category).sum ≤ 8)
    {st0 : List Value} (he : st0 = As.reverse ++ st) (kk : hh_W X (cn + mc) (sn + ms) (pc + 3) lv (v.toList ++ st) h') : hh_W X cn sn pc lv st0 h := by
  obtain ⟨p, l, e, R', s, m, args, below, meth, c, Q, D, cT, B', e0', nL'⟩ := X
  obtain ⟨hx, hb, hml, hown, hts, hK, hlk, hrt, hnm, rfl, rfl, rfl, rfl, hB, hA, hcA⟩ := C
  obtain ⟨s1, s2, s3, s4, s5⟩ := S
  subst he
  intro H locs ls hS hl
  refine hh_back (va_runS (As := As) (rest := st) ⟨hx, hb, hml, hown, hts⟩ (hM l D cT) ⟨callB_of n hts (hh_goodC s1) rfl hrc hrs (hts _ s3) (hts _ s2) s5 hR, hts _ (s4 _ (by simp))⟩ ⟨hh_blind, fun U hU hW => hh_pre hS hK hcA hU hW⟩ rfl hn (by exact hl.1) rfl (lv_room hst) d hf) hS (fun H1 locs1 hS1 => kk H1 locs1 ls hS1 hl)
theorem r_callI (C : hh_ok X B e0 cc own nL ret nm R) (d : decode cc pc = .ok (.invokespecial idx, 3)) (S : hh_CS own idx y yb ym none n [.instanceMethod y]) (hy1 : y.name = "<init>") {a : Nat}
    {As : List Value} (hM : hh_Met y yb ym none rm mc ms B e0 (.ref (hh_ad B e0 a) :: As) h (.returned v) h') (hn : As.length = n) (hrc : rm.cells = mc) (hrs : rm.slots = ms) (hR : rm.frames + 1 ≤ R.frames ∧ 8 + (ym + 11) + rm.locals ≤ R.locals) (hf : cn + mc ≤ R.cells ∧ sn + ms ≤ R.slots) (hst : (st.map fun v => v.category).sum ≤ 8)
    {st0 : List Value} (he : st0 = As.reverse ++ .ref (hh_ad B e0 a) :: st) (kk : hh_W X (cn + mc) (sn + ms) (pc + 3) lv (v.toList ++ st) h') : hh_W X cn sn pc lv st0 h := by
  obtain ⟨p, l, e, R', s, m, args, below, meth, c, Q, D, cT, B', e0', nL'⟩ := X
  obtain ⟨hx, hb, hml, hown, hts, hK, hlk, hrt, hnm, rfl, rfl, rfl, rfl, hB, hA, hcA⟩ := C
  obtain ⟨s1, s2, s3, s4, s5⟩ := S
  subst he
  intro H locs ls hS hl
  refine hh_back (va_runI (As := As) (rest := st) (b := hh_ad B' e0' a) ⟨hx, hb, hml, hown, hts⟩ (hM l D cT) ⟨callB_of n hts (hh_goodC s1) rfl hrc hrs (hts _ s3) (hts _ s2) s5 hR, hy1, hts _ (s4 _ (by simp))⟩ ⟨hh_blind, fun U hU hW => hh_pre hS hK hcA hU hW⟩ rfl hn (by exact hl.1) rfl (lv_room hst) d hf) hS (fun H1 locs1 hS1 => kk H1 locs1 ls hS1 hl)
theorem r_objInit {q : Nat} (C : hh_ok X B e0 cc own nL ret nm R) (d : decode cc pc = .ok (.invokespecial idx, 3)) (hw : Cond.methodLink own idx Lib.objectInit ∈ hh_T) (hi : Cond.instanceMethod Lib.objectInit ∈ hh_T) (hco : Cond.code Lib.objectInit ⟨#[0xb1]⟩ 1 none ∈ hh_T) (hR : 1 ≤ R.frames ∧ 20 ≤ R.locals) (hst : (st.map fun v => v.category).sum ≤ 8)
    (kk : hh_W X cn sn (pc + 3) lv st h) : hh_W X cn sn pc lv (.ref q :: st) h := by
  obtain ⟨p, l, e, R', s, m, args, below, meth, c, Q, D, cT, B', e0', nL'⟩ := X
  obtain ⟨hx, hb, hml, hown, hts, hK, hlk, hrt, hnm, rfl, rfl, rfl, rfl, hB, hA, hcA⟩ := C
  intro H locs ls hS hl
  refine W.objInit hx hb hown (hts _ hw) (hts _ hi) (hts _ hco) rfl (by rw [hml]; exact hl.1) rfl d hR.1 ?_ (kk H locs ls hS hl)
  have := lv_room (m := m) (pc := pc) (ls := ls) (rest := .ref q :: st) hst
  omega
end Ends
end
section
theorem oi_inst : Cond.instanceMethod Lib.objectInit ∈ hh_T := hh_at 74 (by decide +kernel) (by decide +kernel)
theorem oi_code : Cond.code Lib.objectInit ⟨#[0xb1]⟩ 1 none ∈ hh_T := hh_at 75 (by decide +kernel) (by decide +kernel)
section More
variable {X : hh_X} {B e0 : Nat} {cc : ByteArray} {own : String} {nL : Nat} {ret : Option FieldType} {nm : String} {R : Room} {cn sn pc idx mc ms : Nat} {lv : List (Nat × Value)} {st : List Value} {h h' : hh_H} {q bd : Nat} {n : Int32}
theorem ac_int : Cond.arrayClass (newarray.typeOf .int) ∈ hh_T := hh_at 101 (by decide +kernel) (by decide +kernel)
theorem az_int (cA : ClassId) (n B e0 : Nat) : vp_cell cA (hh_a B e0 (hp_zero 0 n)) = arrV cA n (fun _ => defaultValue (newarray.typeOf .int)) := by
  show arrV cA (List.replicate n 0).length (fun j => .int ((List.replicate n 0).getD j 0)) = _
  rw [List.length_replicate]
  congr 1
  funext j
  exact congrArg _ (congrFun (hp_rep n 0) j)
theorem r_na_int (C : hh_ok X B e0 cc own nL ret nm R) (d : decode cc pc = .ok (.newarray .int, 2)) (hbd : bd * 4 ≤ 536870912) (hc : cn + 1 ≤ R.cells) (hs : sn + bd ≤ R.slots) (hv : hp_na h 0 n bd = some (q, h')) (kk : hh_W X (cn + 1) (sn + bd) (pc + 2) lv (.ref (hh_ad B e0 q) :: st) h') : hh_W X cn sn pc lv (.int n :: st) h :=
  r_na C d ac_int hbd az_int (fun vm cT h => h.1) hc hs hv kk
theorem ac_boolean : Cond.arrayClass (newarray.typeOf .boolean) ∈ hh_T := hh_at 102 (by decide +kernel) (by decide +kernel)
theorem az_boolean (cA : ClassId) (n B e0 : Nat) : vp_cell cA (hh_a B e0 (hp_zero 1 n)) = arrV cA n (fun _ => defaultValue (newarray.typeOf .boolean)) := by
  show arrV cA (List.replicate n 0).length (fun j => .int ((List.replicate n 0).getD j 0)) = _
  rw [List.length_replicate]
  congr 1
  funext j
  exact congrArg _ (congrFun (hp_rep n 0) j)
theorem r_na_boolean (C : hh_ok X B e0 cc own nL ret nm R) (d : decode cc pc = .ok (.newarray .boolean, 2)) (hbd : bd * 1 ≤ 536870912) (hc : cn + 1 ≤ R.cells) (hs : sn + bd ≤ R.slots) (hv : hp_na h 1 n bd = some (q, h')) (kk : hh_W X (cn + 1) (sn + bd) (pc + 2) lv (.ref (hh_ad B e0 q) :: st) h') : hh_W X cn sn pc lv (.int n :: st) h :=
  r_na C d ac_boolean hbd az_boolean (fun vm cT h => h.2.1) hc hs hv kk
theorem ac_double : Cond.arrayClass (newarray.typeOf .double) ∈ hh_T := hh_at 252 (by decide +kernel) (by decide +kernel)
theorem az_double (cA : ClassId) (n B e0 : Nat) : vp_cell cA (hh_a B e0 (hp_zero 2 n)) = arrV cA n (fun _ => defaultValue (newarray.typeOf .double)) := by
  show arrV cA (List.replicate n 0).length (fun j => .double ((List.replicate n 0).getD j 0)) = _
  rw [List.length_replicate]
  congr 1
  funext j
  exact congrArg _ (congrFun (hp_rep n 0) j)
theorem r_na_double (C : hh_ok X B e0 cc own nL ret nm R) (d : decode cc pc = .ok (.newarray .double, 2)) (hbd : bd * 8 ≤ 536870912) (hc : cn + 1 ≤ R.cells) (hs : sn + bd ≤ R.slots) (hv : hp_na h 2 n bd = some (q, h')) (kk : hh_W X (cn + 1) (sn + bd) (pc + 2) lv (.ref (hh_ad B e0 q) :: st) h') : hh_W X cn sn pc lv (.int n :: st) h :=
  r_na C d ac_double hbd az_double (fun vm cT h => h.2.2.1) hc hs hv kk
theorem ac_long : Cond.arrayClass (newarray.typeOf .long) ∈ hh_T := hh_at 1275 (by decide +kernel) (by decide +kernel)
theorem az_long (cA : ClassId) (n B e0 : Nat) : vp_cell cA (hh_a B e0 (hp_zero 3 n)) = arrV cA n (fun _ => defaultValue (newarray.typeOf .long)) := by
  show arrV cA (List.replicate n 0).length (fun j => .long ((List.replicate n 0).getD j 0)) = _
  rw [List.length_replicate]
  congr 1
  funext j
  exact congrArg _ (congrFun (hp_rep n 0) j)
theorem r_na_long (C : hh_ok X B e0 cc own nL ret nm R) (d : decode cc pc = .ok (.newarray .long, 2)) (hbd : bd * 8 ≤ 536870912) (hc : cn + 1 ≤ R.cells) (hs : sn + bd ≤ R.slots) (hv : hp_na h 3 n bd = some (q, h')) (kk : hh_W X (cn + 1) (sn + bd) (pc + 2) lv (.ref (hh_ad B e0 q) :: st) h') : hh_W X cn sn pc lv (.int n :: st) h :=
  r_na C d ac_long hbd az_long (fun vm cT h => h.2.2.2.1) hc hs hv kk
theorem ac_byte : Cond.arrayClass (newarray.typeOf .byte) ∈ hh_T := hh_at 413 (by decide +kernel) (by decide +kernel)
theorem az_byte (cA : ClassId) (n B e0 : Nat) : vp_cell cA (hh_a B e0 (hp_zero 5 n)) = arrV cA n (fun _ => defaultValue (newarray.typeOf .byte)) := by
  show arrV cA (List.replicate n 0).length (fun j => .int ((List.replicate n 0).getD j 0)) = _
  rw [List.length_replicate]
  congr 1
  funext j
  exact congrArg _ (congrFun (hp_rep n 0) j)
theorem r_na_byte (C : hh_ok X B e0 cc own nL ret nm R) (d : decode cc pc = .ok (.newarray .byte, 2)) (hbd : bd * 1 ≤ 536870912) (hc : cn + 1 ≤ R.cells) (hs : sn + bd ≤ R.slots) (hv : hp_na h 5 n bd = some (q, h')) (kk : hh_W X (cn + 1) (sn + bd) (pc + 2) lv (.ref (hh_ad B e0 q) :: st) h') : hh_W X cn sn pc lv (.int n :: st) h :=
  r_na C d ac_byte hbd az_byte (fun vm cT h => h.2.2.2.2.2) hc hs hv kk
def hh_CA (own : String) (idx ci : Nat) : Prop := ∃ (Cn : String) (T : u_T) (N : Nat), hh_cl[ci]? = some (Cn, T, N) ∧ Cond.classLink own idx Cn ∈ hh_T
theorem r_cast {a ci : Nat} {fs : List hh_V} (C : hh_ok X B e0 cc own nL ret nm R) (d : decode cc pc = .ok (.checkcast idx, 3)) (F : hh_CA own idx ci) (ho : h[a]? = some (.inr (ci, fs))) (kk : hh_W X cn sn (pc + 3) lv (.ref (hh_ad B e0 a) :: st) h) : hh_W X cn sn pc lv (.ref (hh_ad B e0 a) :: st) h := by
  obtain ⟨p, l, e, R', s, m, args, below, meth, c, Q, D, cT, B', e0', nL'⟩ := X
  obtain ⟨hx, hb, hml, hown, hts, hK, hlk, hrt, hnm, rfl, rfl, rfl, rfl, hB, hA, hcA⟩ := C
  obtain ⟨Cn, T, N, h1, h2⟩ := F
  intro H locs ls hS hl
  exact va_castS hx hb hown (hts _ h2) (hK.1 ci _ h1).2 (va_recv hK hS.1 h1 (hh_w_get ho)) d (kk H locs ls hS hl)
theorem r_lreturn (C : hh_ok X B e0 cc own nL (some .long) nm R) {rr : Int64 × hh_H} {v : Int64} (E : hh_End X B e0 (.returned (some (.long rr.1))) rr.2 mc ms) (d : decode cc pc = .ok (.lreturn, 1)) (hc : cn ≤ mc) (hs : sn ≤ ms) (hf : some (v, h) = some rr) : hh_W X cn sn pc lv [.long v] h := by
  obtain ⟨p, l, e, R', s, m, args, below, meth, c, Q, D, cT, B', e0', nL'⟩ := X
  obtain ⟨hx, hb, hml, hown, hts, hK, hlk, hrt, hnm, rfl, rfl, rfl, rfl, hB, hA, hcA⟩ := C
  cases hf
  cases E
  intro H locs ls hS hl
  exact W.widen hc hs (W.lret hx hb hrt (fun t ht hW => hh_Qof hS ht) hS.2.2.2.2 d hlk)
end More
end
section
theorem dX3_init_0 : decode cX3_init 0 = .ok (.aload_n 0, 1) := by decide +kernel
theorem dX3_init_1 : decode cX3_init 1 = .ok (.invokespecial 3, 3) := by decide +kernel
theorem dX3_init_4 : decode cX3_init 4 = .ok (.aload_n 0, 1) := by decide +kernel
theorem dX3_init_5 : decode cX3_init 5 = .ok (.bipush 40, 2) := by decide +kernel
theorem dX3_init_7 : decode cX3_init 7 = .ok (.newarray .boolean, 2) := by decide +kernel
theorem dX3_init_9 : decode cX3_init 9 = .ok (.putfield 9, 3) := by decide +kernel
theorem dX3_init_12 : decode cX3_init 12 = .ok (.aload_n 0, 1) := by decide +kernel
theorem dX3_init_13 : decode cX3_init 13 = .ok (.iconst 0, 1) := by decide +kernel
theorem dX3_init_14 : decode cX3_init 14 = .ok (.putfield 15, 3) := by decide +kernel
theorem dX3_init_17 : decode cX3_init 17 = .ok (.aload_n 0, 1) := by decide +kernel
theorem dX3_init_18 : decode cX3_init 18 = .ok (.iconst 0, 1) := by decide +kernel
theorem dX3_init_19 : decode cX3_init 19 = .ok (.putfield 19, 3) := by decide +kernel
theorem dX3_init_22 : decode cX3_init 22 = .ok (.return_, 1) := by decide +kernel
theorem dX3_size_0 : decode cX3_size 0 = .ok (.aload_n 0, 1) := by decide +kernel
theorem dX3_size_1 : decode cX3_size 1 = .ok (.getfield 15, 3) := by decide +kernel
theorem dX3_size_4 : decode cX3_size 4 = .ok (.ireturn, 1) := by decide +kernel
theorem dX3_live_0 : decode cX3_live 0 = .ok (.aload_n 0, 1) := by decide +kernel
theorem dX3_live_1 : decode cX3_live 1 = .ok (.getfield 19, 3) := by decide +kernel
theorem dX3_live_4 : decode cX3_live 4 = .ok (.ireturn, 1) := by decide +kernel
theorem dX3_addNext_0 : decode cX3_addNext 0 = .ok (.aload_n 0, 1) := by decide +kernel
theorem dX3_addNext_1 : decode cX3_addNext 1 = .ok (.dup, 1) := by decide +kernel
theorem dX3_addNext_2 : decode cX3_addNext 2 = .ok (.getfield 15, 3) := by decide +kernel
theorem dX3_addNext_5 : decode cX3_addNext 5 = .ok (.iconst 1, 1) := by decide +kernel
theorem dX3_addNext_6 : decode cX3_addNext 6 = .ok (.iadd, 1) := by decide +kernel
theorem dX3_addNext_7 : decode cX3_addNext 7 = .ok (.putfield 15, 3) := by decide +kernel
theorem dX3_addNext_10 : decode cX3_addNext 10 = .ok (.aload_n 0, 1) := by decide +kernel
theorem dX3_addNext_11 : decode cX3_addNext 11 = .ok (.dup, 1) := by decide +kernel
theorem dX3_addNext_12 : decode cX3_addNext 12 = .ok (.getfield 19, 3) := by decide +kernel
theorem dX3_addNext_15 : decode cX3_addNext 15 = .ok (.iconst 1, 1) := by decide +kernel
theorem dX3_addNext_16 : decode cX3_addNext 16 = .ok (.iadd, 1) := by decide +kernel
theorem dX3_addNext_17 : decode cX3_addNext 17 = .ok (.putfield 19, 3) := by decide +kernel
theorem dX3_addNext_20 : decode cX3_addNext 20 = .ok (.aload_n 0, 1) := by decide +kernel
theorem dX3_addNext_21 : decode cX3_addNext 21 = .ok (.getfield 15, 3) := by decide +kernel
theorem dX3_addNext_24 : decode cX3_addNext 24 = .ok (.iconst 1, 1) := by decide +kernel
theorem dX3_addNext_25 : decode cX3_addNext 25 = .ok (.isub, 1) := by decide +kernel
theorem dX3_addNext_26 : decode cX3_addNext 26 = .ok (.ireturn, 1) := by decide +kernel
theorem dX3_isLive_0 : decode cX3_isLive 0 = .ok (.iload_n 1, 1) := by decide +kernel
theorem dX3_isLive_1 : decode cX3_isLive 1 = .ok (.ifCond .lt 33, 3) := by decide +kernel
theorem dX3_isLive_4 : decode cX3_isLive 4 = .ok (.iload_n 1, 1) := by decide +kernel
theorem dX3_isLive_5 : decode cX3_isLive 5 = .ok (.aload_n 0, 1) := by decide +kernel
theorem dX3_isLive_6 : decode cX3_isLive 6 = .ok (.getfield 15, 3) := by decide +kernel
theorem dX3_isLive_9 : decode cX3_isLive 9 = .ok (.if_icmp .ge 25, 3) := by decide +kernel
theorem dX3_isLive_12 : decode cX3_isLive 12 = .ok (.iload_n 1, 1) := by decide +kernel
theorem dX3_isLive_13 : decode cX3_isLive 13 = .ok (.aload_n 0, 1) := by decide +kernel
theorem dX3_isLive_14 : decode cX3_isLive 14 = .ok (.getfield 9, 3) := by decide +kernel
theorem dX3_isLive_17 : decode cX3_isLive 17 = .ok (.arraylength, 1) := by decide +kernel
theorem dX3_isLive_18 : decode cX3_isLive 18 = .ok (.if_icmp .ge 16, 3) := by decide +kernel
theorem dX3_isLive_21 : decode cX3_isLive 21 = .ok (.aload_n 0, 1) := by decide +kernel
theorem dX3_isLive_22 : decode cX3_isLive 22 = .ok (.getfield 9, 3) := by decide +kernel
theorem dX3_isLive_25 : decode cX3_isLive 25 = .ok (.iload_n 1, 1) := by decide +kernel
theorem dX3_isLive_26 : decode cX3_isLive 26 = .ok (.baload, 1) := by decide +kernel
theorem dX3_isLive_27 : decode cX3_isLive 27 = .ok (.ifCond .ne 7, 3) := by decide +kernel
theorem dX3_isLive_30 : decode cX3_isLive 30 = .ok (.iconst 1, 1) := by decide +kernel
theorem dX3_isLive_31 : decode cX3_isLive 31 = .ok (.goto 4, 3) := by decide +kernel
theorem dX3_isLive_34 : decode cX3_isLive 34 = .ok (.iconst 0, 1) := by decide +kernel
theorem dX3_isLive_35 : decode cX3_isLive 35 = .ok (.ireturn, 1) := by decide +kernel
theorem dX3_leaveOut_0 : decode cX3_leaveOut 0 = .ok (.aload_n 0, 1) := by decide +kernel
theorem dX3_leaveOut_1 : decode cX3_leaveOut 1 = .ok (.iload_n 1, 1) := by decide +kernel
theorem dX3_leaveOut_2 : decode cX3_leaveOut 2 = .ok (.invokevirtual 22, 3) := by decide +kernel
theorem dX3_leaveOut_5 : decode cX3_leaveOut 5 = .ok (.ifCond .eq 20, 3) := by decide +kernel
theorem dX3_leaveOut_8 : decode cX3_leaveOut 8 = .ok (.aload_n 0, 1) := by decide +kernel
theorem dX3_leaveOut_9 : decode cX3_leaveOut 9 = .ok (.getfield 9, 3) := by decide +kernel
theorem dX3_leaveOut_12 : decode cX3_leaveOut 12 = .ok (.iload_n 1, 1) := by decide +kernel
theorem dX3_leaveOut_13 : decode cX3_leaveOut 13 = .ok (.iconst 1, 1) := by decide +kernel
theorem dX3_leaveOut_14 : decode cX3_leaveOut 14 = .ok (.bastore, 1) := by decide +kernel
theorem dX3_leaveOut_15 : decode cX3_leaveOut 15 = .ok (.aload_n 0, 1) := by decide +kernel
theorem dX3_leaveOut_16 : decode cX3_leaveOut 16 = .ok (.dup, 1) := by decide +kernel
theorem dX3_leaveOut_17 : decode cX3_leaveOut 17 = .ok (.getfield 19, 3) := by decide +kernel
theorem dX3_leaveOut_20 : decode cX3_leaveOut 20 = .ok (.iconst 1, 1) := by decide +kernel
theorem dX3_leaveOut_21 : decode cX3_leaveOut 21 = .ok (.isub, 1) := by decide +kernel
theorem dX3_leaveOut_22 : decode cX3_leaveOut 22 = .ok (.putfield 19, 3) := by decide +kernel
theorem dX3_leaveOut_25 : decode cX3_leaveOut 25 = .ok (.return_, 1) := by decide +kernel
end
section
theorem dX5_init_0 : decode cX5_init 0 = .ok (.aload_n 0, 1) := by decide +kernel
theorem dX5_init_1 : decode cX5_init 1 = .ok (.invokespecial 3, 3) := by decide +kernel
theorem dX5_init_4 : decode cX5_init 4 = .ok (.aload_n 0, 1) := by decide +kernel
theorem dX5_init_5 : decode cX5_init 5 = .ok (.iload_n 1, 1) := by decide +kernel
theorem dX5_init_6 : decode cX5_init 6 = .ok (.newarray .int, 2) := by decide +kernel
theorem dX5_init_8 : decode cX5_init 8 = .ok (.putfield 9, 3) := by decide +kernel
theorem dX5_init_11 : decode cX5_init 11 = .ok (.aload_n 0, 1) := by decide +kernel
theorem dX5_init_12 : decode cX5_init 12 = .ok (.iconst 0, 1) := by decide +kernel
theorem dX5_init_13 : decode cX5_init 13 = .ok (.putfield 15, 3) := by decide +kernel
theorem dX5_init_16 : decode cX5_init 16 = .ok (.return_, 1) := by decide +kernel
theorem dX5_keyOf_0 : decode cX5_keyOf 0 = .ok (.iload_n 0, 1) := by decide +kernel
theorem dX5_keyOf_1 : decode cX5_keyOf 1 = .ok (.bipush 40, 2) := by decide +kernel
theorem dX5_keyOf_3 : decode cX5_keyOf 3 = .ok (.imul, 1) := by decide +kernel
theorem dX5_keyOf_4 : decode cX5_keyOf 4 = .ok (.iload_n 1, 1) := by decide +kernel
theorem dX5_keyOf_5 : decode cX5_keyOf 5 = .ok (.iadd, 1) := by decide +kernel
theorem dX5_keyOf_6 : decode cX5_keyOf 6 = .ok (.bipush 20, 2) := by decide +kernel
theorem dX5_keyOf_8 : decode cX5_keyOf 8 = .ok (.imul, 1) := by decide +kernel
theorem dX5_keyOf_9 : decode cX5_keyOf 9 = .ok (.iload_n 2, 1) := by decide +kernel
theorem dX5_keyOf_10 : decode cX5_keyOf 10 = .ok (.iadd, 1) := by decide +kernel
theorem dX5_keyOf_11 : decode cX5_keyOf 11 = .ok (.ireturn, 1) := by decide +kernel
theorem dX5_wordOf_0 : decode cX5_wordOf 0 = .ok (.iload_n 0, 1) := by decide +kernel
theorem dX5_wordOf_1 : decode cX5_wordOf 1 = .ok (.sipush 800, 3) := by decide +kernel
theorem dX5_wordOf_4 : decode cX5_wordOf 4 = .ok (.idiv, 1) := by decide +kernel
theorem dX5_wordOf_5 : decode cX5_wordOf 5 = .ok (.ireturn, 1) := by decide +kernel
theorem dX5_documentOf_0 : decode cX5_documentOf 0 = .ok (.iload_n 0, 1) := by decide +kernel
theorem dX5_documentOf_1 : decode cX5_documentOf 1 = .ok (.bipush 20, 2) := by decide +kernel
theorem dX5_documentOf_3 : decode cX5_documentOf 3 = .ok (.idiv, 1) := by decide +kernel
theorem dX5_documentOf_4 : decode cX5_documentOf 4 = .ok (.bipush 40, 2) := by decide +kernel
theorem dX5_documentOf_6 : decode cX5_documentOf 6 = .ok (.irem, 1) := by decide +kernel
theorem dX5_documentOf_7 : decode cX5_documentOf 7 = .ok (.ireturn, 1) := by decide +kernel
theorem dX5_placeOf_0 : decode cX5_placeOf 0 = .ok (.iload_n 0, 1) := by decide +kernel
theorem dX5_placeOf_1 : decode cX5_placeOf 1 = .ok (.bipush 20, 2) := by decide +kernel
theorem dX5_placeOf_3 : decode cX5_placeOf 3 = .ok (.irem, 1) := by decide +kernel
theorem dX5_placeOf_4 : decode cX5_placeOf 4 = .ok (.ireturn, 1) := by decide +kernel
theorem dX5_size_0 : decode cX5_size 0 = .ok (.aload_n 0, 1) := by decide +kernel
theorem dX5_size_1 : decode cX5_size 1 = .ok (.getfield 15, 3) := by decide +kernel
theorem dX5_size_4 : decode cX5_size 4 = .ok (.ireturn, 1) := by decide +kernel
theorem dX5_keyAt_0 : decode cX5_keyAt 0 = .ok (.iload_n 1, 1) := by decide +kernel
theorem dX5_keyAt_1 : decode cX5_keyAt 1 = .ok (.ifCond .lt 20, 3) := by decide +kernel
theorem dX5_keyAt_4 : decode cX5_keyAt 4 = .ok (.iload_n 1, 1) := by decide +kernel
theorem dX5_keyAt_5 : decode cX5_keyAt 5 = .ok (.aload_n 0, 1) := by decide +kernel
theorem dX5_keyAt_6 : decode cX5_keyAt 6 = .ok (.getfield 15, 3) := by decide +kernel
theorem dX5_keyAt_9 : decode cX5_keyAt 9 = .ok (.if_icmp .ge 12, 3) := by decide +kernel
theorem dX5_keyAt_12 : decode cX5_keyAt 12 = .ok (.aload_n 0, 1) := by decide +kernel
theorem dX5_keyAt_13 : decode cX5_keyAt 13 = .ok (.getfield 9, 3) := by decide +kernel
theorem dX5_keyAt_16 : decode cX5_keyAt 16 = .ok (.iload_n 1, 1) := by decide +kernel
theorem dX5_keyAt_17 : decode cX5_keyAt 17 = .ok (.iaload, 1) := by decide +kernel
theorem dX5_keyAt_18 : decode cX5_keyAt 18 = .ok (.goto 4, 3) := by decide +kernel
theorem dX5_keyAt_21 : decode cX5_keyAt 21 = .ok (.iconst 0, 1) := by decide +kernel
theorem dX5_keyAt_22 : decode cX5_keyAt 22 = .ok (.ireturn, 1) := by decide +kernel
theorem dX5_clear_0 : decode cX5_clear 0 = .ok (.aload_n 0, 1) := by decide +kernel
theorem dX5_clear_1 : decode cX5_clear 1 = .ok (.iconst 0, 1) := by decide +kernel
theorem dX5_clear_2 : decode cX5_clear 2 = .ok (.putfield 15, 3) := by decide +kernel
theorem dX5_clear_5 : decode cX5_clear 5 = .ok (.return_, 1) := by decide +kernel
theorem dX5_insert_0 : decode cX5_insert 0 = .ok (.aload_n 0, 1) := by decide +kernel
theorem dX5_insert_1 : decode cX5_insert 1 = .ok (.getfield 15, 3) := by decide +kernel
theorem dX5_insert_4 : decode cX5_insert 4 = .ok (.aload_n 0, 1) := by decide +kernel
theorem dX5_insert_5 : decode cX5_insert 5 = .ok (.getfield 9, 3) := by decide +kernel
theorem dX5_insert_8 : decode cX5_insert 8 = .ok (.arraylength, 1) := by decide +kernel
theorem dX5_insert_9 : decode cX5_insert 9 = .ok (.if_icmp .lt 4, 3) := by decide +kernel
theorem dX5_insert_12 : decode cX5_insert 12 = .ok (.return_, 1) := by decide +kernel
theorem dX5_insert_13 : decode cX5_insert 13 = .ok (.aload_n 0, 1) := by decide +kernel
theorem dX5_insert_14 : decode cX5_insert 14 = .ok (.getfield 15, 3) := by decide +kernel
theorem dX5_insert_17 : decode cX5_insert 17 = .ok (.istore_n 2, 1) := by decide +kernel
theorem dX5_insert_18 : decode cX5_insert 18 = .ok (.iload_n 2, 1) := by decide +kernel
theorem dX5_insert_19 : decode cX5_insert 19 = .ok (.ifCond .le 35, 3) := by decide +kernel
theorem dX5_insert_22 : decode cX5_insert 22 = .ok (.aload_n 0, 1) := by decide +kernel
theorem dX5_insert_23 : decode cX5_insert 23 = .ok (.getfield 9, 3) := by decide +kernel
theorem dX5_insert_26 : decode cX5_insert 26 = .ok (.iload_n 2, 1) := by decide +kernel
theorem dX5_insert_27 : decode cX5_insert 27 = .ok (.iconst 1, 1) := by decide +kernel
theorem dX5_insert_28 : decode cX5_insert 28 = .ok (.isub, 1) := by decide +kernel
theorem dX5_insert_29 : decode cX5_insert 29 = .ok (.iaload, 1) := by decide +kernel
theorem dX5_insert_30 : decode cX5_insert 30 = .ok (.iload_n 1, 1) := by decide +kernel
theorem dX5_insert_31 : decode cX5_insert 31 = .ok (.if_icmp .le 23, 3) := by decide +kernel
theorem dX5_insert_34 : decode cX5_insert 34 = .ok (.aload_n 0, 1) := by decide +kernel
theorem dX5_insert_35 : decode cX5_insert 35 = .ok (.getfield 9, 3) := by decide +kernel
theorem dX5_insert_38 : decode cX5_insert 38 = .ok (.iload_n 2, 1) := by decide +kernel
theorem dX5_insert_39 : decode cX5_insert 39 = .ok (.aload_n 0, 1) := by decide +kernel
theorem dX5_insert_40 : decode cX5_insert 40 = .ok (.getfield 9, 3) := by decide +kernel
theorem dX5_insert_43 : decode cX5_insert 43 = .ok (.iload_n 2, 1) := by decide +kernel
theorem dX5_insert_44 : decode cX5_insert 44 = .ok (.iconst 1, 1) := by decide +kernel
theorem dX5_insert_45 : decode cX5_insert 45 = .ok (.isub, 1) := by decide +kernel
theorem dX5_insert_46 : decode cX5_insert 46 = .ok (.iaload, 1) := by decide +kernel
theorem dX5_insert_47 : decode cX5_insert 47 = .ok (.iastore, 1) := by decide +kernel
theorem dX5_insert_48 : decode cX5_insert 48 = .ok (.iinc 2 (-1), 3) := by decide +kernel
theorem dX5_insert_51 : decode cX5_insert 51 = .ok (.goto (-33), 3) := by decide +kernel
theorem dX5_insert_54 : decode cX5_insert 54 = .ok (.aload_n 0, 1) := by decide +kernel
theorem dX5_insert_55 : decode cX5_insert 55 = .ok (.getfield 9, 3) := by decide +kernel
theorem dX5_insert_58 : decode cX5_insert 58 = .ok (.iload_n 2, 1) := by decide +kernel
theorem dX5_insert_59 : decode cX5_insert 59 = .ok (.iload_n 1, 1) := by decide +kernel
theorem dX5_insert_60 : decode cX5_insert 60 = .ok (.iastore, 1) := by decide +kernel
theorem dX5_insert_61 : decode cX5_insert 61 = .ok (.aload_n 0, 1) := by decide +kernel
theorem dX5_insert_62 : decode cX5_insert 62 = .ok (.dup, 1) := by decide +kernel
theorem dX5_insert_63 : decode cX5_insert 63 = .ok (.getfield 15, 3) := by decide +kernel
theorem dX5_insert_66 : decode cX5_insert 66 = .ok (.iconst 1, 1) := by decide +kernel
theorem dX5_insert_67 : decode cX5_insert 67 = .ok (.iadd, 1) := by decide +kernel
theorem dX5_insert_68 : decode cX5_insert 68 = .ok (.putfield 15, 3) := by decide +kernel
theorem dX5_insert_71 : decode cX5_insert 71 = .ok (.return_, 1) := by decide +kernel
theorem dX5_mergeIn_0 : decode cX5_mergeIn 0 = .ok (.aload_n 0, 1) := by decide +kernel
theorem dX5_mergeIn_1 : decode cX5_mergeIn 1 = .ok (.getfield 15, 3) := by decide +kernel
theorem dX5_mergeIn_4 : decode cX5_mergeIn 4 = .ok (.aload_n 1, 1) := by decide +kernel
theorem dX5_mergeIn_5 : decode cX5_mergeIn 5 = .ok (.getfield 15, 3) := by decide +kernel
theorem dX5_mergeIn_8 : decode cX5_mergeIn 8 = .ok (.iadd, 1) := by decide +kernel
theorem dX5_mergeIn_9 : decode cX5_mergeIn 9 = .ok (.istore_n 2, 1) := by decide +kernel
theorem dX5_mergeIn_10 : decode cX5_mergeIn 10 = .ok (.iload_n 2, 1) := by decide +kernel
theorem dX5_mergeIn_11 : decode cX5_mergeIn 11 = .ok (.aload_n 0, 1) := by decide +kernel
theorem dX5_mergeIn_12 : decode cX5_mergeIn 12 = .ok (.getfield 9, 3) := by decide +kernel
theorem dX5_mergeIn_15 : decode cX5_mergeIn 15 = .ok (.arraylength, 1) := by decide +kernel
theorem dX5_mergeIn_16 : decode cX5_mergeIn 16 = .ok (.if_icmp .le 4, 3) := by decide +kernel
theorem dX5_mergeIn_19 : decode cX5_mergeIn 19 = .ok (.return_, 1) := by decide +kernel
theorem dX5_mergeIn_20 : decode cX5_mergeIn 20 = .ok (.aload_n 0, 1) := by decide +kernel
theorem dX5_mergeIn_21 : decode cX5_mergeIn 21 = .ok (.getfield 15, 3) := by decide +kernel
theorem dX5_mergeIn_24 : decode cX5_mergeIn 24 = .ok (.iconst 1, 1) := by decide +kernel
theorem dX5_mergeIn_25 : decode cX5_mergeIn 25 = .ok (.isub, 1) := by decide +kernel
theorem dX5_mergeIn_26 : decode cX5_mergeIn 26 = .ok (.istore_n 3, 1) := by decide +kernel
theorem dX5_mergeIn_27 : decode cX5_mergeIn 27 = .ok (.aload_n 1, 1) := by decide +kernel
theorem dX5_mergeIn_28 : decode cX5_mergeIn 28 = .ok (.getfield 15, 3) := by decide +kernel
theorem dX5_mergeIn_31 : decode cX5_mergeIn 31 = .ok (.iconst 1, 1) := by decide +kernel
theorem dX5_mergeIn_32 : decode cX5_mergeIn 32 = .ok (.isub, 1) := by decide +kernel
theorem dX5_mergeIn_33 : decode cX5_mergeIn 33 = .ok (.istore 4, 2) := by decide +kernel
theorem dX5_mergeIn_35 : decode cX5_mergeIn 35 = .ok (.iload_n 2, 1) := by decide +kernel
theorem dX5_mergeIn_36 : decode cX5_mergeIn 36 = .ok (.iconst 1, 1) := by decide +kernel
theorem dX5_mergeIn_37 : decode cX5_mergeIn 37 = .ok (.isub, 1) := by decide +kernel
theorem dX5_mergeIn_38 : decode cX5_mergeIn 38 = .ok (.istore 5, 2) := by decide +kernel
theorem dX5_mergeIn_40 : decode cX5_mergeIn 40 = .ok (.iload 5, 2) := by decide +kernel
theorem dX5_mergeIn_42 : decode cX5_mergeIn 42 = .ok (.ifCond .lt 70, 3) := by decide +kernel
theorem dX5_mergeIn_45 : decode cX5_mergeIn 45 = .ok (.iload 4, 2) := by decide +kernel
theorem dX5_mergeIn_47 : decode cX5_mergeIn 47 = .ok (.ifCond .lt 65, 3) := by decide +kernel
theorem dX5_mergeIn_50 : decode cX5_mergeIn 50 = .ok (.iload_n 3, 1) := by decide +kernel
theorem dX5_mergeIn_51 : decode cX5_mergeIn 51 = .ok (.ifCond .lt 38, 3) := by decide +kernel
theorem dX5_mergeIn_54 : decode cX5_mergeIn 54 = .ok (.aload_n 0, 1) := by decide +kernel
theorem dX5_mergeIn_55 : decode cX5_mergeIn 55 = .ok (.getfield 9, 3) := by decide +kernel
theorem dX5_mergeIn_58 : decode cX5_mergeIn 58 = .ok (.iload_n 3, 1) := by decide +kernel
theorem dX5_mergeIn_59 : decode cX5_mergeIn 59 = .ok (.iaload, 1) := by decide +kernel
theorem dX5_mergeIn_60 : decode cX5_mergeIn 60 = .ok (.aload_n 1, 1) := by decide +kernel
theorem dX5_mergeIn_61 : decode cX5_mergeIn 61 = .ok (.getfield 9, 3) := by decide +kernel
theorem dX5_mergeIn_64 : decode cX5_mergeIn 64 = .ok (.iload 4, 2) := by decide +kernel
theorem dX5_mergeIn_66 : decode cX5_mergeIn 66 = .ok (.iaload, 1) := by decide +kernel
theorem dX5_mergeIn_67 : decode cX5_mergeIn 67 = .ok (.if_icmp .le 22, 3) := by decide +kernel
theorem dX5_mergeIn_70 : decode cX5_mergeIn 70 = .ok (.aload_n 0, 1) := by decide +kernel
theorem dX5_mergeIn_71 : decode cX5_mergeIn 71 = .ok (.getfield 9, 3) := by decide +kernel
theorem dX5_mergeIn_74 : decode cX5_mergeIn 74 = .ok (.iload 5, 2) := by decide +kernel
theorem dX5_mergeIn_76 : decode cX5_mergeIn 76 = .ok (.aload_n 0, 1) := by decide +kernel
theorem dX5_mergeIn_77 : decode cX5_mergeIn 77 = .ok (.getfield 9, 3) := by decide +kernel
theorem dX5_mergeIn_80 : decode cX5_mergeIn 80 = .ok (.iload_n 3, 1) := by decide +kernel
theorem dX5_mergeIn_81 : decode cX5_mergeIn 81 = .ok (.iaload, 1) := by decide +kernel
theorem dX5_mergeIn_82 : decode cX5_mergeIn 82 = .ok (.iastore, 1) := by decide +kernel
theorem dX5_mergeIn_83 : decode cX5_mergeIn 83 = .ok (.iinc 3 (-1), 3) := by decide +kernel
theorem dX5_mergeIn_86 : decode cX5_mergeIn 86 = .ok (.goto 20, 3) := by decide +kernel
theorem dX5_mergeIn_89 : decode cX5_mergeIn 89 = .ok (.aload_n 0, 1) := by decide +kernel
theorem dX5_mergeIn_90 : decode cX5_mergeIn 90 = .ok (.getfield 9, 3) := by decide +kernel
theorem dX5_mergeIn_93 : decode cX5_mergeIn 93 = .ok (.iload 5, 2) := by decide +kernel
theorem dX5_mergeIn_95 : decode cX5_mergeIn 95 = .ok (.aload_n 1, 1) := by decide +kernel
theorem dX5_mergeIn_96 : decode cX5_mergeIn 96 = .ok (.getfield 9, 3) := by decide +kernel
theorem dX5_mergeIn_99 : decode cX5_mergeIn 99 = .ok (.iload 4, 2) := by decide +kernel
theorem dX5_mergeIn_101 : decode cX5_mergeIn 101 = .ok (.iaload, 1) := by decide +kernel
theorem dX5_mergeIn_102 : decode cX5_mergeIn 102 = .ok (.iastore, 1) := by decide +kernel
theorem dX5_mergeIn_103 : decode cX5_mergeIn 103 = .ok (.iinc 4 (-1), 3) := by decide +kernel
theorem dX5_mergeIn_106 : decode cX5_mergeIn 106 = .ok (.iinc 5 (-1), 3) := by decide +kernel
theorem dX5_mergeIn_109 : decode cX5_mergeIn 109 = .ok (.goto (-69), 3) := by decide +kernel
theorem dX5_mergeIn_112 : decode cX5_mergeIn 112 = .ok (.aload_n 0, 1) := by decide +kernel
theorem dX5_mergeIn_113 : decode cX5_mergeIn 113 = .ok (.iload_n 2, 1) := by decide +kernel
theorem dX5_mergeIn_114 : decode cX5_mergeIn 114 = .ok (.putfield 15, 3) := by decide +kernel
theorem dX5_mergeIn_117 : decode cX5_mergeIn 117 = .ok (.return_, 1) := by decide +kernel
theorem dX5_keepLive_0 : decode cX5_keepLive 0 = .ok (.iconst 0, 1) := by decide +kernel
theorem dX5_keepLive_1 : decode cX5_keepLive 1 = .ok (.istore_n 2, 1) := by decide +kernel
theorem dX5_keepLive_2 : decode cX5_keepLive 2 = .ok (.iconst 0, 1) := by decide +kernel
theorem dX5_keepLive_3 : decode cX5_keepLive 3 = .ok (.istore_n 3, 1) := by decide +kernel
theorem dX5_keepLive_4 : decode cX5_keepLive 4 = .ok (.iload_n 3, 1) := by decide +kernel
theorem dX5_keepLive_5 : decode cX5_keepLive 5 = .ok (.aload_n 0, 1) := by decide +kernel
theorem dX5_keepLive_6 : decode cX5_keepLive 6 = .ok (.getfield 15, 3) := by decide +kernel
theorem dX5_keepLive_9 : decode cX5_keepLive 9 = .ok (.if_icmp .ge 40, 3) := by decide +kernel
theorem dX5_keepLive_12 : decode cX5_keepLive 12 = .ok (.aload_n 1, 1) := by decide +kernel
theorem dX5_keepLive_13 : decode cX5_keepLive 13 = .ok (.aload_n 0, 1) := by decide +kernel
theorem dX5_keepLive_14 : decode cX5_keepLive 14 = .ok (.getfield 9, 3) := by decide +kernel
theorem dX5_keepLive_17 : decode cX5_keepLive 17 = .ok (.iload_n 3, 1) := by decide +kernel
theorem dX5_keepLive_18 : decode cX5_keepLive 18 = .ok (.iaload, 1) := by decide +kernel
theorem dX5_keepLive_19 : decode cX5_keepLive 19 = .ok (.invokestatic 19, 3) := by decide +kernel
theorem dX5_keepLive_22 : decode cX5_keepLive 22 = .ok (.invokevirtual 23, 3) := by decide +kernel
theorem dX5_keepLive_25 : decode cX5_keepLive 25 = .ok (.ifCond .eq 18, 3) := by decide +kernel
theorem dX5_keepLive_28 : decode cX5_keepLive 28 = .ok (.aload_n 0, 1) := by decide +kernel
theorem dX5_keepLive_29 : decode cX5_keepLive 29 = .ok (.getfield 9, 3) := by decide +kernel
theorem dX5_keepLive_32 : decode cX5_keepLive 32 = .ok (.iload_n 2, 1) := by decide +kernel
theorem dX5_keepLive_33 : decode cX5_keepLive 33 = .ok (.aload_n 0, 1) := by decide +kernel
theorem dX5_keepLive_34 : decode cX5_keepLive 34 = .ok (.getfield 9, 3) := by decide +kernel
theorem dX5_keepLive_37 : decode cX5_keepLive 37 = .ok (.iload_n 3, 1) := by decide +kernel
theorem dX5_keepLive_38 : decode cX5_keepLive 38 = .ok (.iaload, 1) := by decide +kernel
theorem dX5_keepLive_39 : decode cX5_keepLive 39 = .ok (.iastore, 1) := by decide +kernel
theorem dX5_keepLive_40 : decode cX5_keepLive 40 = .ok (.iinc 2 1, 3) := by decide +kernel
theorem dX5_keepLive_43 : decode cX5_keepLive 43 = .ok (.iinc 3 1, 3) := by decide +kernel
theorem dX5_keepLive_46 : decode cX5_keepLive 46 = .ok (.goto (-42), 3) := by decide +kernel
theorem dX5_keepLive_49 : decode cX5_keepLive 49 = .ok (.aload_n 0, 1) := by decide +kernel
theorem dX5_keepLive_50 : decode cX5_keepLive 50 = .ok (.iload_n 2, 1) := by decide +kernel
theorem dX5_keepLive_51 : decode cX5_keepLive 51 = .ok (.putfield 15, 3) := by decide +kernel
theorem dX5_keepLive_54 : decode cX5_keepLive 54 = .ok (.return_, 1) := by decide +kernel
end
section
def f_Documents_init (F : Nat) (a0 : Nat) (h : hh_H) : Option (Unit × hh_H) :=
  hp_cb (hp_na h 1 40 40) fun a1 h3 =>
  (hp_pa h3 a0 3 0 a1).bind fun h4 =>
  (hp_pi h4 a0 3 1 0).bind fun h6 =>
  (hp_pi h6 a0 3 2 0).bind fun h8 =>
  some ((), h8)
def f_Documents_size (F : Nat) (a0 : Nat) (h : hh_H) : Option (Int32 × hh_H) :=
  (hp_gi h a0 3 1).bind fun v1 =>
  some (v1, h)
def f_Documents_live (F : Nat) (a0 : Nat) (h : hh_H) : Option (Int32 × hh_H) :=
  (hp_gi h a0 3 2).bind fun v1 =>
  some (v1, h)
def f_Documents_addNext (F : Nat) (a0 : Nat) (h : hh_H) : Option (Int32 × hh_H) :=
  (hp_gi h a0 3 1).bind fun v1 =>
  (hp_pi h a0 3 1 (v1 + 1)).bind fun h3 =>
  (hp_gi h3 a0 3 2).bind fun v5 =>
  (hp_pi h3 a0 3 2 (v5 + 1)).bind fun h7 =>
  (hp_gi h7 a0 3 1).bind fun v9 =>
  some (v9 - 1, h7)
def f_Documents_isLive (F : Nat) (a0 : Nat) (x1 : Int32) (h : hh_H) : Option (Int32 × hh_H) :=
  if x1 < 0 then
    some (0, h)
  else
    (hp_gi h a0 3 1).bind fun v2 =>
    if v2 ≤ x1 then
      some (0, h)
    else
      (hp_ga h a0 3 0).bind fun v5 =>
      (hp_len h v5).bind fun v7 =>
      if v7 ≤ x1 then
        some (0, h)
      else
        (hp_ga h a0 3 0).bind fun v10 =>
        (hp_az h v10 x1).bind fun v12 =>
        if v12 = 0 then
          some (1, h)
        else
          some (0, h)
def f_Documents_leaveOut (F : Nat) (a0 : Nat) (x1 : Int32) (h : hh_H) : Option (Unit × hh_H) :=
  (hp_is h a0 3).bind fun _ =>
  hp_cb (f_Documents_isLive F a0 x1 h) fun q1 h2 =>
  if q1 = 0 then
    some ((), h2)
  else
    (hp_ga h2 a0 3 0).bind fun v7 =>
    (hp_sz h2 v7 x1 1).bind fun h9 =>
    (hp_gi h9 a0 3 2).bind fun v11 =>
    (hp_pi h9 a0 3 2 (v11 - 1)).bind fun h13 =>
    some ((), h13)
theorem oi_RX3_3 : Cond.methodLink RX3 3 Lib.objectInit ∈ hh_T := hh_at 90 (by decide +kernel) (by decide +kernel)
theorem lay_X3 : ∀ w ∈ u_ws RX3 TX3 3, w ∈ hh_T := hh_sub (by decide +kernel) (by decide +kernel)
theorem tyok_X3 : ∀ k, k < 3 → parseFieldDescriptor (TX3 k).2.2.1 = some (tyX3 k) := by decide +kernel
theorem nmok_X3 : ∀ a, a < 3 → ∀ b, b < 3 → a ≠ b → (TX3 a).2.1 ≠ (TX3 b).2.1 := by decide +kernel
theorem fl_RX3_9 : hh_FL RX3 9 3 0 (.array .boolean) true := ⟨_, _, _, tyX3, rfl, by decide, lay_X3, hh_at 91 (by decide +kernel) (by decide +kernel), rfl, by decide +kernel, tyok_X3, nmok_X3⟩
theorem fl_RX3_15 : hh_FL RX3 15 3 1 .int false := ⟨_, _, _, tyX3, rfl, by decide, lay_X3, hh_at 92 (by decide +kernel) (by decide +kernel), rfl, by decide +kernel, tyok_X3, nmok_X3⟩
theorem fl_RX3_19 : hh_FL RX3 19 3 2 .int false := ⟨_, _, _, tyX3, rfl, by decide, lay_X3, hh_at 93 (by decide +kernel) (by decide +kernel), rfl, by decide +kernel, tyok_X3, nmok_X3⟩
theorem cw_X3_isLive : Cond.code yX3_isLive cX3_isLive 2 (some .boolean) ∈ hh_T := hh_at 469 (by decide +kernel) (by decide +kernel)
theorem cs_RX3_22 : hh_CS RX3 22 yX3_isLive cX3_isLive 2 (some .boolean) 1 [.instanceMethod yX3_isLive, .selects yX3_isLive.cls yX3_isLive yX3_isLive] := ⟨cw_X3_isLive, hh_at 994 (by decide +kernel) (by decide +kernel), hh_at 37 (by decide +kernel) (by decide +kernel), hh_all2 (hh_at 467 (by decide +kernel) (by decide +kernel)) (hh_at 468 (by decide +kernel) (by decide +kernel)), by decide +kernel⟩
def mc_Documents_init : Nat := 1
def ms_Documents_init : Nat := 40
def rm_Documents_init : Room := { frames := 1, cells := 1, slots := 40, locals := 20 }
abbrev ok_Documents_init (X : hh_X) (B e0 : Nat) : Prop := hh_ok X B e0 cX3_init RX3 1 none "<init>" rm_Documents_init
set_option maxRecDepth 100000 in
set_option maxHeartbeats 4000000 in
theorem w_Documents_init {X : hh_X} {B e0 : Nat} {rr : Unit × hh_H} (C : ok_Documents_init X B e0) (E : hh_End X B e0 (.returned none) rr.2 mc_Documents_init ms_Documents_init) (F : Nat) (a0 : Nat) (h : hh_H)
    (hf : f_Documents_init F a0 h = some rr) : hh_W X 0 0 0 [(0, .ref (hh_ad B e0 a0))] [] h := by
  unfold f_Documents_init at hf
  refine r_aload_n C dX3_init_0 rfl 0 rfl ?_
  refine r_objInit C dX3_init_1 oi_RX3_3 oi_inst oi_code (by decide) (Nat.le_of_ble_eq_true rfl) ?_
  refine r_aload_n C dX3_init_4 rfl 0 rfl ?_
  refine r_bipush C dX3_init_5 (v := 40) (by decide) ?_
  obtain ⟨a1, h3, e2, hf⟩ := hp_cbe hf
  refine r_na_boolean (bd := 40) C dX3_init_7 (by decide) (by decide) (by decide) e2 ?_
  obtain ⟨h4, e5, hf⟩ := hp_bind hf
  refine r_putAF C dX3_init_9 fl_RX3_9 rfl (fun _ _ _ q => by cases q; rfl) (fun _ => ⟨rfl, rfl⟩) e5 ?_
  refine r_aload_n C dX3_init_12 rfl 0 rfl ?_
  refine r_iconst C dX3_init_13 (v := 0) (by decide) ?_
  obtain ⟨h6, e7, hf⟩ := hp_bind hf
  refine r_putI C dX3_init_14 fl_RX3_15 e7 ?_
  refine r_aload_n C dX3_init_17 rfl 0 rfl ?_
  refine r_iconst C dX3_init_18 (v := 0) (by decide) ?_
  obtain ⟨h8, e9, hf⟩ := hp_bind hf
  refine r_putI C dX3_init_19 fl_RX3_19 e9 ?_
  exact r_return C E dX3_init_22 (by decide) (by decide) hf
theorem c_Documents_init (B e0 F : Nat) (a0 : Nat) (h : hh_H) (rr : Unit × hh_H) (hf : f_Documents_init F a0 h = some rr) : hh_Met yX3_init cX3_init 1 none rm_Documents_init mc_Documents_init ms_Documents_init B e0 [.ref (hh_ad B e0 a0)] h (.returned none) rr.2 :=
  hh_met (by decide) (Nat.le_of_ble_eq_true rfl) fun X C E => hh_pick [0] rfl (w_Documents_init C E F a0 h hf)
def mc_Documents_size : Nat := 0
def ms_Documents_size : Nat := 0
def rm_Documents_size : Room := { frames := 0, cells := 0, slots := 0, locals := 0 }
abbrev ok_Documents_size (X : hh_X) (B e0 : Nat) : Prop := hh_ok X B e0 cX3_size RX3 1 (some .int) "size" rm_Documents_size
set_option maxRecDepth 100000 in
set_option maxHeartbeats 4000000 in
theorem w_Documents_size {X : hh_X} {B e0 : Nat} {rr : Int32 × hh_H} (C : ok_Documents_size X B e0) (E : hh_End X B e0 (.returned (some (.int rr.1))) rr.2 mc_Documents_size ms_Documents_size) (F : Nat) (a0 : Nat) (h : hh_H)
    (hf : f_Documents_size F a0 h = some rr) : hh_W X 0 0 0 [(0, .ref (hh_ad B e0 a0))] [] h := by
  unfold f_Documents_size at hf
  refine r_aload_n C dX3_size_0 rfl 0 rfl ?_
  obtain ⟨v1, e2, hf⟩ := hp_bind hf
  refine r_getI C dX3_size_1 fl_RX3_15 e2 ?_
  exact r_ireturn C E dX3_size_4 (by decide) (by decide) hf
theorem c_Documents_size (B e0 F : Nat) (a0 : Nat) (h : hh_H) (rr : Int32 × hh_H) (hf : f_Documents_size F a0 h = some rr) : hh_Met yX3_size cX3_size 1 (some .int) rm_Documents_size mc_Documents_size ms_Documents_size B e0 [.ref (hh_ad B e0 a0)] h (.returned (some (.int rr.1))) rr.2 :=
  hh_met (by decide) (Nat.le_of_ble_eq_true rfl) fun X C E => hh_pick [0] rfl (w_Documents_size C E F a0 h hf)
def mc_Documents_live : Nat := 0
def ms_Documents_live : Nat := 0
def rm_Documents_live : Room := { frames := 0, cells := 0, slots := 0, locals := 0 }
abbrev ok_Documents_live (X : hh_X) (B e0 : Nat) : Prop := hh_ok X B e0 cX3_live RX3 1 (some .int) "live" rm_Documents_live
set_option maxRecDepth 100000 in
set_option maxHeartbeats 4000000 in
theorem w_Documents_live {X : hh_X} {B e0 : Nat} {rr : Int32 × hh_H} (C : ok_Documents_live X B e0) (E : hh_End X B e0 (.returned (some (.int rr.1))) rr.2 mc_Documents_live ms_Documents_live) (F : Nat) (a0 : Nat) (h : hh_H)
    (hf : f_Documents_live F a0 h = some rr) : hh_W X 0 0 0 [(0, .ref (hh_ad B e0 a0))] [] h := by
  unfold f_Documents_live at hf
  refine r_aload_n C dX3_live_0 rfl 0 rfl ?_
  obtain ⟨v1, e2, hf⟩ := hp_bind hf
  refine r_getI C dX3_live_1 fl_RX3_19 e2 ?_
  exact r_ireturn C E dX3_live_4 (by decide) (by decide) hf
theorem c_Documents_live (B e0 F : Nat) (a0 : Nat) (h : hh_H) (rr : Int32 × hh_H) (hf : f_Documents_live F a0 h = some rr) : hh_Met yX3_live cX3_live 1 (some .int) rm_Documents_live mc_Documents_live ms_Documents_live B e0 [.ref (hh_ad B e0 a0)] h (.returned (some (.int rr.1))) rr.2 :=
  hh_met (by decide) (Nat.le_of_ble_eq_true rfl) fun X C E => hh_pick [0] rfl (w_Documents_live C E F a0 h hf)
def mc_Documents_addNext : Nat := 0
def ms_Documents_addNext : Nat := 0
def rm_Documents_addNext : Room := { frames := 0, cells := 0, slots := 0, locals := 0 }
abbrev ok_Documents_addNext (X : hh_X) (B e0 : Nat) : Prop := hh_ok X B e0 cX3_addNext RX3 1 (some .int) "addNext" rm_Documents_addNext
set_option maxRecDepth 100000 in
set_option maxHeartbeats 4000000 in
theorem w_Documents_addNext {X : hh_X} {B e0 : Nat} {rr : Int32 × hh_H} (C : ok_Documents_addNext X B e0) (E : hh_End X B e0 (.returned (some (.int rr.1))) rr.2 mc_Documents_addNext ms_Documents_addNext) (F : Nat) (a0 : Nat) (h : hh_H)
    (hf : f_Documents_addNext F a0 h = some rr) : hh_W X 0 0 0 [(0, .ref (hh_ad B e0 a0))] [] h := by
  unfold f_Documents_addNext at hf
  refine r_aload_n C dX3_addNext_0 rfl 0 rfl ?_
  refine r_dup C dX3_addNext_1 rfl ?_
  obtain ⟨v1, e2, hf⟩ := hp_bind hf
  refine r_getI C dX3_addNext_2 fl_RX3_15 e2 ?_
  refine r_iconst C dX3_addNext_5 (v := 1) (by decide) ?_
  refine r_iadd C dX3_addNext_6 ?_
  obtain ⟨h3, e4, hf⟩ := hp_bind hf
  refine r_putI C dX3_addNext_7 fl_RX3_15 e4 ?_
  refine r_aload_n C dX3_addNext_10 rfl 0 rfl ?_
  refine r_dup C dX3_addNext_11 rfl ?_
  obtain ⟨v5, e6, hf⟩ := hp_bind hf
  refine r_getI C dX3_addNext_12 fl_RX3_19 e6 ?_
  refine r_iconst C dX3_addNext_15 (v := 1) (by decide) ?_
  refine r_iadd C dX3_addNext_16 ?_
  obtain ⟨h7, e8, hf⟩ := hp_bind hf
  refine r_putI C dX3_addNext_17 fl_RX3_19 e8 ?_
  refine r_aload_n C dX3_addNext_20 rfl 0 rfl ?_
  obtain ⟨v9, e10, hf⟩ := hp_bind hf
  refine r_getI C dX3_addNext_21 fl_RX3_15 e10 ?_
  refine r_iconst C dX3_addNext_24 (v := 1) (by decide) ?_
  refine r_isub C dX3_addNext_25 ?_
  exact r_ireturn C E dX3_addNext_26 (by decide) (by decide) hf
theorem c_Documents_addNext (B e0 F : Nat) (a0 : Nat) (h : hh_H) (rr : Int32 × hh_H) (hf : f_Documents_addNext F a0 h = some rr) : hh_Met yX3_addNext cX3_addNext 1 (some .int) rm_Documents_addNext mc_Documents_addNext ms_Documents_addNext B e0 [.ref (hh_ad B e0 a0)] h (.returned (some (.int rr.1))) rr.2 :=
  hh_met (by decide) (Nat.le_of_ble_eq_true rfl) fun X C E => hh_pick [0] rfl (w_Documents_addNext C E F a0 h hf)
def mc_Documents_isLive : Nat := 0
def ms_Documents_isLive : Nat := 0
def rm_Documents_isLive : Room := { frames := 0, cells := 0, slots := 0, locals := 0 }
abbrev ok_Documents_isLive (X : hh_X) (B e0 : Nat) : Prop := hh_ok X B e0 cX3_isLive RX3 2 (some .boolean) "isLive" rm_Documents_isLive
set_option maxRecDepth 100000 in
set_option maxHeartbeats 4000000 in
theorem w_Documents_isLive {X : hh_X} {B e0 : Nat} {rr : Int32 × hh_H} (C : ok_Documents_isLive X B e0) (E : hh_End X B e0 (.returned (some (.int rr.1))) rr.2 mc_Documents_isLive ms_Documents_isLive) (F : Nat) (a0 : Nat) (x1 : Int32) (h : hh_H)
    (hf : f_Documents_isLive F a0 x1 h = some rr) : hh_W X 0 0 0 [(0, .ref (hh_ad B e0 a0)), (1, .int x1)] [] h := by
  unfold f_Documents_isLive at hf
  refine r_iload_n C dX3_isLive_0 rfl 1 rfl ?_
  refine r_if_lt C dX3_isLive_1 (tgt := 34) (by decide) (fun c1 => ?_) (fun c1 => ?_)
  · rw [if_pos c1] at hf
    refine r_iconst C dX3_isLive_34 (v := 0) (by decide) ?_
    exact r_ireturnz C E dX3_isLive_35 rfl (by decide) (by decide) hf
  · rw [if_neg c1] at hf
    refine r_iload_n C dX3_isLive_4 rfl 1 rfl ?_
    refine r_aload_n C dX3_isLive_5 rfl 0 rfl ?_
    obtain ⟨v2, e3, hf⟩ := hp_bind hf
    refine r_getI C dX3_isLive_6 fl_RX3_15 e3 ?_
    refine r_icmp_ge C dX3_isLive_9 (tgt := 34) (by decide) (fun c4 => ?_) (fun c4 => ?_)
    · rw [if_pos c4] at hf
      refine r_iconst C dX3_isLive_34 (v := 0) (by decide) ?_
      exact r_ireturnz C E dX3_isLive_35 rfl (by decide) (by decide) hf
    · rw [if_neg c4] at hf
      refine r_iload_n C dX3_isLive_12 rfl 1 rfl ?_
      refine r_aload_n C dX3_isLive_13 rfl 0 rfl ?_
      obtain ⟨v5, e6, hf⟩ := hp_bind hf
      refine r_getA C dX3_isLive_14 fl_RX3_9 e6 ?_
      obtain ⟨v7, e8, hf⟩ := hp_bind hf
      refine r_alen C dX3_isLive_17 e8 ?_
      refine r_icmp_ge C dX3_isLive_18 (tgt := 34) (by decide) (fun c9 => ?_) (fun c9 => ?_)
      · rw [if_pos c9] at hf
        refine r_iconst C dX3_isLive_34 (v := 0) (by decide) ?_
        exact r_ireturnz C E dX3_isLive_35 rfl (by decide) (by decide) hf
      · rw [if_neg c9] at hf
        refine r_aload_n C dX3_isLive_21 rfl 0 rfl ?_
        obtain ⟨v10, e11, hf⟩ := hp_bind hf
        refine r_getA C dX3_isLive_22 fl_RX3_9 e11 ?_
        refine r_iload_n C dX3_isLive_25 rfl 1 rfl ?_
        obtain ⟨v12, e13, hf⟩ := hp_bind hf
        refine r_az C dX3_isLive_26 e13 ?_
        refine r_if_ne C dX3_isLive_27 (tgt := 34) (by decide) (fun c14 => ?_) (fun c14 => ?_)
        · rw [if_neg c14] at hf
          refine r_iconst C dX3_isLive_34 (v := 0) (by decide) ?_
          exact r_ireturnz C E dX3_isLive_35 rfl (by decide) (by decide) hf
        · rw [if_pos c14] at hf
          refine r_iconst C dX3_isLive_30 (v := 1) (by decide) ?_
          refine r_goto C dX3_isLive_31 (tgt := 35) (by decide) ?_
          exact r_ireturnz C E dX3_isLive_35 rfl (by decide) (by decide) hf
theorem c_Documents_isLive (B e0 F : Nat) (a0 : Nat) (x1 : Int32) (h : hh_H) (rr : Int32 × hh_H) (hf : f_Documents_isLive F a0 x1 h = some rr) : hh_Met yX3_isLive cX3_isLive 2 (some .boolean) rm_Documents_isLive mc_Documents_isLive ms_Documents_isLive B e0 [.ref (hh_ad B e0 a0), .int x1] h (.returned (some (.int rr.1))) rr.2 :=
  hh_met (by decide) (Nat.le_of_ble_eq_true rfl) fun X C E => hh_pick [0, 1] rfl (w_Documents_isLive C E F a0 x1 h hf)
def mc_Documents_leaveOut : Nat := 0
def ms_Documents_leaveOut : Nat := 0
def rm_Documents_leaveOut : Room := { frames := 1, cells := 0, slots := 0, locals := 21 }
abbrev ok_Documents_leaveOut (X : hh_X) (B e0 : Nat) : Prop := hh_ok X B e0 cX3_leaveOut RX3 2 none "leaveOut" rm_Documents_leaveOut
set_option maxRecDepth 100000 in
set_option maxHeartbeats 4000000 in
theorem w_Documents_leaveOut {X : hh_X} {B e0 : Nat} {rr : Unit × hh_H} (C : ok_Documents_leaveOut X B e0) (E : hh_End X B e0 (.returned none) rr.2 mc_Documents_leaveOut ms_Documents_leaveOut) (F : Nat) (a0 : Nat) (x1 : Int32) (h : hh_H)
    (hf : f_Documents_leaveOut F a0 x1 h = some rr) : hh_W X 0 0 0 [(0, .ref (hh_ad B e0 a0)), (1, .int x1)] [] h := by
  unfold f_Documents_leaveOut at hf
  refine r_aload_n C dX3_leaveOut_0 rfl 0 rfl ?_
  refine r_iload_n C dX3_leaveOut_1 rfl 1 rfl ?_
  obtain ⟨_, e4, hf⟩ := hp_bind hf
  obtain ⟨g5, e4⟩ := hp_is_of e4
  obtain ⟨q1, h2, e3, hf⟩ := hp_cbe hf
  refine r_callV C dX3_leaveOut_2 cs_RX3_22 rfl e4 (c_Documents_isLive B e0 F a0 x1 h _ e3) rfl rfl rfl ⟨by decide, by decide⟩ ⟨by decide, by decide⟩ (Nat.le_of_ble_eq_true rfl) rfl ?_
  refine r_if_eq C dX3_leaveOut_5 (tgt := 25) (by decide) (fun c6 => ?_) (fun c6 => ?_)
  · rw [if_pos c6] at hf
    exact r_return C E dX3_leaveOut_25 (by decide) (by decide) hf
  · rw [if_neg c6] at hf
    refine r_aload_n C dX3_leaveOut_8 rfl 0 rfl ?_
    obtain ⟨v7, e8, hf⟩ := hp_bind hf
    refine r_getA C dX3_leaveOut_9 fl_RX3_9 e8 ?_
    refine r_iload_n C dX3_leaveOut_12 rfl 1 rfl ?_
    refine r_iconst C dX3_leaveOut_13 (v := 1) (by decide) ?_
    obtain ⟨h9, e10, hf⟩ := hp_bind hf
    refine r_sz C dX3_leaveOut_14 e10 ?_
    refine r_aload_n C dX3_leaveOut_15 rfl 0 rfl ?_
    refine r_dup C dX3_leaveOut_16 rfl ?_
    obtain ⟨v11, e12, hf⟩ := hp_bind hf
    refine r_getI C dX3_leaveOut_17 fl_RX3_19 e12 ?_
    refine r_iconst C dX3_leaveOut_20 (v := 1) (by decide) ?_
    refine r_isub C dX3_leaveOut_21 ?_
    obtain ⟨h13, e14, hf⟩ := hp_bind hf
    refine r_putI C dX3_leaveOut_22 fl_RX3_19 e14 ?_
    exact r_return C E dX3_leaveOut_25 (by decide) (by decide) hf
theorem c_Documents_leaveOut (B e0 F : Nat) (a0 : Nat) (x1 : Int32) (h : hh_H) (rr : Unit × hh_H) (hf : f_Documents_leaveOut F a0 x1 h = some rr) : hh_Met yX3_leaveOut cX3_leaveOut 2 none rm_Documents_leaveOut mc_Documents_leaveOut ms_Documents_leaveOut B e0 [.ref (hh_ad B e0 a0), .int x1] h (.returned none) rr.2 :=
  hh_met (by decide) (Nat.le_of_ble_eq_true rfl) fun X C E => hh_pick [0, 1] rfl (w_Documents_leaveOut C E F a0 x1 h hf)
end
section
def f_Postings_init (F : Nat) (a0 : Nat) (x1 : Int32) (h : hh_H) : Option (Unit × hh_H) :=
  hp_cb (hp_na h 0 x1 800) fun a1 h3 =>
  (hp_pa h3 a0 5 0 a1).bind fun h4 =>
  (hp_pi h4 a0 5 1 0).bind fun h6 =>
  some ((), h6)
def f_Postings_keyOf (F : Nat) (x0 : Int32) (x1 : Int32) (x2 : Int32) (h : hh_H) : Option (Int32 × hh_H) :=
  some ((((x0 * 40) + x1) * 20) + x2, h)
def f_Postings_wordOf (F : Nat) (x0 : Int32) (h : hh_H) : Option (Int32 × hh_H) :=
  some (x0 / 800, h)
def f_Postings_documentOf (F : Nat) (x0 : Int32) (h : hh_H) : Option (Int32 × hh_H) :=
  some ((x0 / 20) - (x0 / 20) / 40 * 40, h)
def f_Postings_placeOf (F : Nat) (x0 : Int32) (h : hh_H) : Option (Int32 × hh_H) :=
  some (x0 - x0 / 20 * 20, h)
def f_Postings_size (F : Nat) (a0 : Nat) (h : hh_H) : Option (Int32 × hh_H) :=
  (hp_gi h a0 5 1).bind fun v1 =>
  some (v1, h)
def f_Postings_keyAt (F : Nat) (a0 : Nat) (x1 : Int32) (h : hh_H) : Option (Int32 × hh_H) :=
  if x1 < 0 then
    some (0, h)
  else
    (hp_gi h a0 5 1).bind fun v2 =>
    if v2 ≤ x1 then
      some (0, h)
    else
      (hp_ga h a0 5 0).bind fun v5 =>
      (hp_ai h v5 x1).bind fun v7 =>
      some (v7, h)
def f_Postings_clear (F : Nat) (a0 : Nat) (h : hh_H) : Option (Unit × hh_H) :=
  (hp_pi h a0 5 1 0).bind fun h1 =>
  some ((), h1)
def f_Postings_insert_54 (F : Nat) (a0 : Nat) (x1 : Int32) (x2 : Int32) (h : hh_H) : Option (Unit × hh_H) :=
  (hp_ga h a0 5 0).bind fun v1 =>
  (hp_si h v1 x2 x1).bind fun h3 =>
  (hp_gi h3 a0 5 1).bind fun v5 =>
  (hp_pi h3 a0 5 1 (v5 + 1)).bind fun h7 =>
  some ((), h7)
def f_Postings_insert_18 (F : Nat) (r18 : Nat → Int32 → Int32 → hh_H → Option (Unit × hh_H)) (a0 : Nat) (x1 : Int32) (x2 : Int32) (h : hh_H) : Option (Unit × hh_H) :=
  if x2 ≤ 0 then
    f_Postings_insert_54 F a0 x1 x2 h
  else
    (hp_ga h a0 5 0).bind fun v10 =>
    (hp_ai h v10 (x2 - 1)).bind fun v12 =>
    if v12 ≤ x1 then
      f_Postings_insert_54 F a0 x1 x2 h
    else
      (hp_ga h a0 5 0).bind fun v15 =>
      (hp_ga h a0 5 0).bind fun v17 =>
      (hp_ai h v17 (x2 - 1)).bind fun v19 =>
      (hp_si h v15 x2 v19).bind fun h21 =>
      r18 a0 x1 (x2 + (-1)) h21
def l_Postings_insert_18 (F : Nat) : Nat → Int32 → Int32 → hh_H → Option (Unit × hh_H) := hp_it (fun _ _ _ _ => none) (f_Postings_insert_18 F) F
def f_Postings_insert (F : Nat) (a0 : Nat) (x1 : Int32) (h : hh_H) : Option (Unit × hh_H) :=
  (hp_gi h a0 5 1).bind fun v23 =>
  (hp_ga h a0 5 0).bind fun v25 =>
  (hp_len h v25).bind fun v27 =>
  if v23 < v27 then
    (hp_gi h a0 5 1).bind fun v30 =>
    l_Postings_insert_18 F a0 x1 v30 h
  else
    some ((), h)
def f_Postings_mergeIn_89 (F : Nat) (r40 : Nat → Nat → Int32 → Int32 → Int32 → Int32 → hh_H → Option (Unit × hh_H)) (a0 : Nat) (a1 : Nat) (x2 : Int32) (x3 : Int32) (x4 : Int32) (x5 : Int32) (h : hh_H) : Option (Unit × hh_H) :=
  (hp_ga h a0 5 0).bind fun v1 =>
  (hp_ga h a1 5 0).bind fun v3 =>
  (hp_ai h v3 x4).bind fun v5 =>
  (hp_si h v1 x5 v5).bind fun h7 =>
  r40 a0 a1 x2 x3 (x4 + (-1)) (x5 + (-1)) h7
def f_Postings_mergeIn_40 (F : Nat) (r40 : Nat → Nat → Int32 → Int32 → Int32 → Int32 → hh_H → Option (Unit × hh_H)) (a0 : Nat) (a1 : Nat) (x2 : Int32) (x3 : Int32) (x4 : Int32) (x5 : Int32) (h : hh_H) : Option (Unit × hh_H) :=
  if x5 < 0 then
    (hp_pi h a0 5 1 x2).bind fun h10 =>
    some ((), h10)
  else
    if x4 < 0 then
      (hp_pi h a0 5 1 x2).bind fun h13 =>
      some ((), h13)
    else
      if x3 < 0 then
        f_Postings_mergeIn_89 F r40 a0 a1 x2 x3 x4 x5 h
      else
        (hp_ga h a0 5 0).bind fun v16 =>
        (hp_ai h v16 x3).bind fun v18 =>
        (hp_ga h a1 5 0).bind fun v20 =>
        (hp_ai h v20 x4).bind fun v22 =>
        if v18 ≤ v22 then
          f_Postings_mergeIn_89 F r40 a0 a1 x2 x3 x4 x5 h
        else
          (hp_ga h a0 5 0).bind fun v25 =>
          (hp_ga h a0 5 0).bind fun v27 =>
          (hp_ai h v27 x3).bind fun v29 =>
          (hp_si h v25 x5 v29).bind fun h31 =>
          r40 a0 a1 x2 (x3 + (-1)) x4 (x5 + (-1)) h31
def l_Postings_mergeIn_40 (F : Nat) : Nat → Nat → Int32 → Int32 → Int32 → Int32 → hh_H → Option (Unit × hh_H) := hp_it (fun _ _ _ _ _ _ _ => none) (f_Postings_mergeIn_40 F) F
def f_Postings_mergeIn (F : Nat) (a0 : Nat) (a1 : Nat) (h : hh_H) : Option (Unit × hh_H) :=
  (hp_gi h a0 5 1).bind fun v33 =>
  (hp_gi h a1 5 1).bind fun v35 =>
  (hp_ga h a0 5 0).bind fun v37 =>
  (hp_len h v37).bind fun v39 =>
  if (v33 + v35) ≤ v39 then
    (hp_gi h a0 5 1).bind fun v42 =>
    (hp_gi h a1 5 1).bind fun v44 =>
    l_Postings_mergeIn_40 F a0 a1 (v33 + v35) (v42 - 1) (v44 - 1) ((v33 + v35) - 1) h
  else
    some ((), h)
def f_Postings_keepLive_4 (F : Nat) (r4 : Nat → Nat → Int32 → Int32 → hh_H → Option (Unit × hh_H)) (a0 : Nat) (a1 : Nat) (x2 : Int32) (x3 : Int32) (h : hh_H) : Option (Unit × hh_H) :=
  (hp_gi h a0 5 1).bind fun v1 =>
  if v1 ≤ x3 then
    (hp_pi h a0 5 1 x2).bind fun h4 =>
    some ((), h4)
  else
    (hp_ga h a0 5 0).bind fun v6 =>
    (hp_ai h v6 x3).bind fun v8 =>
    hp_cb (f_Postings_documentOf F v8 h) fun q10 h11 =>
    (hp_is h11 a1 3).bind fun _ =>
    hp_cb (f_Documents_isLive F a1 q10 h11) fun q13 h14 =>
    if q13 = 0 then
      r4 a0 a1 x2 (x3 + 1) h14
    else
      (hp_ga h14 a0 5 0).bind fun v19 =>
      (hp_ga h14 a0 5 0).bind fun v21 =>
      (hp_ai h14 v21 x3).bind fun v23 =>
      (hp_si h14 v19 x2 v23).bind fun h25 =>
      r4 a0 a1 (x2 + 1) (x3 + 1) h25
def l_Postings_keepLive_4 (F : Nat) : Nat → Nat → Int32 → Int32 → hh_H → Option (Unit × hh_H) := hp_it (fun _ _ _ _ _ => none) (f_Postings_keepLive_4 F) F
def f_Postings_keepLive (F : Nat) (a0 : Nat) (a1 : Nat) (h : hh_H) : Option (Unit × hh_H) :=
  l_Postings_keepLive_4 F a0 a1 0 0 h
theorem oi_RX5_3 : Cond.methodLink RX5 3 Lib.objectInit ∈ hh_T := hh_at 108 (by decide +kernel) (by decide +kernel)
theorem lay_X5 : ∀ w ∈ u_ws RX5 TX5 2, w ∈ hh_T := hh_sub (by decide +kernel) (by decide +kernel)
theorem tyok_X5 : ∀ k, k < 2 → parseFieldDescriptor (TX5 k).2.2.1 = some (tyX5 k) := by decide +kernel
theorem nmok_X5 : ∀ a, a < 2 → ∀ b, b < 2 → a ≠ b → (TX5 a).2.1 ≠ (TX5 b).2.1 := by decide +kernel
theorem fl_RX5_9 : hh_FL RX5 9 5 0 (.array .int) true := ⟨_, _, _, tyX5, rfl, by decide, lay_X5, hh_at 109 (by decide +kernel) (by decide +kernel), rfl, by decide +kernel, tyok_X5, nmok_X5⟩
theorem fl_RX5_15 : hh_FL RX5 15 5 1 .int false := ⟨_, _, _, tyX5, rfl, by decide, lay_X5, hh_at 110 (by decide +kernel) (by decide +kernel), rfl, by decide +kernel, tyok_X5, nmok_X5⟩
theorem cw_X5_documentOf : Cond.code yX5_documentOf cX5_documentOf 1 (some .int) ∈ hh_T := hh_at 465 (by decide +kernel) (by decide +kernel)
theorem cs_RX5_19 : hh_CS RX5 19 yX5_documentOf cX5_documentOf 1 (some .int) 1 [.static yX5_documentOf] := ⟨cw_X5_documentOf, hh_at 463 (by decide +kernel) (by decide +kernel), hh_at 38 (by decide +kernel) (by decide +kernel), hh_all1 (hh_at 464 (by decide +kernel) (by decide +kernel)), by decide +kernel⟩
theorem cs_RX5_23 : hh_CS RX5 23 yX3_isLive cX3_isLive 2 (some .boolean) 1 [.instanceMethod yX3_isLive, .selects yX3_isLive.cls yX3_isLive yX3_isLive] := ⟨cw_X3_isLive, hh_at 466 (by decide +kernel) (by decide +kernel), hh_at 37 (by decide +kernel) (by decide +kernel), hh_all2 (hh_at 467 (by decide +kernel) (by decide +kernel)) (hh_at 468 (by decide +kernel) (by decide +kernel)), by decide +kernel⟩
def mc_Postings_init : Nat := 1
def ms_Postings_init : Nat := 800
def rm_Postings_init : Room := { frames := 1, cells := 1, slots := 800, locals := 20 }
abbrev ok_Postings_init (X : hh_X) (B e0 : Nat) : Prop := hh_ok X B e0 cX5_init RX5 2 none "<init>" rm_Postings_init
set_option maxRecDepth 100000 in
set_option maxHeartbeats 4000000 in
theorem w_Postings_init {X : hh_X} {B e0 : Nat} {rr : Unit × hh_H} (C : ok_Postings_init X B e0) (E : hh_End X B e0 (.returned none) rr.2 mc_Postings_init ms_Postings_init) (F : Nat) (a0 : Nat) (x1 : Int32) (h : hh_H)
    (hf : f_Postings_init F a0 x1 h = some rr) : hh_W X 0 0 0 [(0, .ref (hh_ad B e0 a0)), (1, .int x1)] [] h := by
  unfold f_Postings_init at hf
  refine r_aload_n C dX5_init_0 rfl 0 rfl ?_
  refine r_objInit C dX5_init_1 oi_RX5_3 oi_inst oi_code (by decide) (Nat.le_of_ble_eq_true rfl) ?_
  refine r_aload_n C dX5_init_4 rfl 0 rfl ?_
  refine r_iload_n C dX5_init_5 rfl 1 rfl ?_
  obtain ⟨a1, h3, e2, hf⟩ := hp_cbe hf
  refine r_na_int (bd := 800) C dX5_init_6 (by decide) (by decide) (by decide) e2 ?_
  obtain ⟨h4, e5, hf⟩ := hp_bind hf
  refine r_putAF C dX5_init_8 fl_RX5_9 rfl (fun _ _ _ q => by cases q; rfl) (fun _ => ⟨rfl, rfl⟩) e5 ?_
  refine r_aload_n C dX5_init_11 rfl 0 rfl ?_
  refine r_iconst C dX5_init_12 (v := 0) (by decide) ?_
  obtain ⟨h6, e7, hf⟩ := hp_bind hf
  refine r_putI C dX5_init_13 fl_RX5_15 e7 ?_
  exact r_return C E dX5_init_16 (by decide) (by decide) hf
theorem c_Postings_init (B e0 F : Nat) (a0 : Nat) (x1 : Int32) (h : hh_H) (rr : Unit × hh_H) (hf : f_Postings_init F a0 x1 h = some rr) : hh_Met yX5_init cX5_init 2 none rm_Postings_init mc_Postings_init ms_Postings_init B e0 [.ref (hh_ad B e0 a0), .int x1] h (.returned none) rr.2 :=
  hh_met (by decide) (Nat.le_of_ble_eq_true rfl) fun X C E => hh_pick [0, 1] rfl (w_Postings_init C E F a0 x1 h hf)
def mc_Postings_keyOf : Nat := 0
def ms_Postings_keyOf : Nat := 0
def rm_Postings_keyOf : Room := { frames := 0, cells := 0, slots := 0, locals := 0 }
abbrev ok_Postings_keyOf (X : hh_X) (B e0 : Nat) : Prop := hh_ok X B e0 cX5_keyOf RX5 3 (some .int) "keyOf" rm_Postings_keyOf
set_option maxRecDepth 100000 in
set_option maxHeartbeats 4000000 in
theorem w_Postings_keyOf {X : hh_X} {B e0 : Nat} {rr : Int32 × hh_H} (C : ok_Postings_keyOf X B e0) (E : hh_End X B e0 (.returned (some (.int rr.1))) rr.2 mc_Postings_keyOf ms_Postings_keyOf) (F : Nat) (x0 : Int32) (x1 : Int32) (x2 : Int32) (h : hh_H)
    (hf : f_Postings_keyOf F x0 x1 x2 h = some rr) : hh_W X 0 0 0 [(0, .int x0), (1, .int x1), (2, .int x2)] [] h := by
  unfold f_Postings_keyOf at hf
  refine r_iload_n C dX5_keyOf_0 rfl 0 rfl ?_
  refine r_bipush C dX5_keyOf_1 (v := 40) (by decide) ?_
  refine r_imul C dX5_keyOf_3 ?_
  refine r_iload_n C dX5_keyOf_4 rfl 1 rfl ?_
  refine r_iadd C dX5_keyOf_5 ?_
  refine r_bipush C dX5_keyOf_6 (v := 20) (by decide) ?_
  refine r_imul C dX5_keyOf_8 ?_
  refine r_iload_n C dX5_keyOf_9 rfl 2 rfl ?_
  refine r_iadd C dX5_keyOf_10 ?_
  exact r_ireturn C E dX5_keyOf_11 (by decide) (by decide) hf
theorem c_Postings_keyOf (B e0 F : Nat) (x0 : Int32) (x1 : Int32) (x2 : Int32) (h : hh_H) (rr : Int32 × hh_H) (hf : f_Postings_keyOf F x0 x1 x2 h = some rr) : hh_Met yX5_keyOf cX5_keyOf 3 (some .int) rm_Postings_keyOf mc_Postings_keyOf ms_Postings_keyOf B e0 [.int x0, .int x1, .int x2] h (.returned (some (.int rr.1))) rr.2 :=
  hh_met (by decide) (Nat.le_of_ble_eq_true rfl) fun X C E => hh_pick [0, 1, 2] rfl (w_Postings_keyOf C E F x0 x1 x2 h hf)
def mc_Postings_wordOf : Nat := 0
def ms_Postings_wordOf : Nat := 0
def rm_Postings_wordOf : Room := { frames := 0, cells := 0, slots := 0, locals := 0 }
abbrev ok_Postings_wordOf (X : hh_X) (B e0 : Nat) : Prop := hh_ok X B e0 cX5_wordOf RX5 1 (some .int) "wordOf" rm_Postings_wordOf
set_option maxRecDepth 100000 in
set_option maxHeartbeats 4000000 in
theorem w_Postings_wordOf {X : hh_X} {B e0 : Nat} {rr : Int32 × hh_H} (C : ok_Postings_wordOf X B e0) (E : hh_End X B e0 (.returned (some (.int rr.1))) rr.2 mc_Postings_wordOf ms_Postings_wordOf) (F : Nat) (x0 : Int32) (h : hh_H)
    (hf : f_Postings_wordOf F x0 h = some rr) : hh_W X 0 0 0 [(0, .int x0)] [] h := by
  unfold f_Postings_wordOf at hf
  refine r_iload_n C dX5_wordOf_0 rfl 0 rfl ?_
  refine r_sipush C dX5_wordOf_1 (v := 800) (by decide) ?_
  refine r_idiv C dX5_wordOf_4 (by decide) ?_
  exact r_ireturn C E dX5_wordOf_5 (by decide) (by decide) hf
theorem c_Postings_wordOf (B e0 F : Nat) (x0 : Int32) (h : hh_H) (rr : Int32 × hh_H) (hf : f_Postings_wordOf F x0 h = some rr) : hh_Met yX5_wordOf cX5_wordOf 1 (some .int) rm_Postings_wordOf mc_Postings_wordOf ms_Postings_wordOf B e0 [.int x0] h (.returned (some (.int rr.1))) rr.2 :=
  hh_met (by decide) (Nat.le_of_ble_eq_true rfl) fun X C E => hh_pick [0] rfl (w_Postings_wordOf C E F x0 h hf)
def mc_Postings_documentOf : Nat := 0
def ms_Postings_documentOf : Nat := 0
def rm_Postings_documentOf : Room := { frames := 0, cells := 0, slots := 0, locals := 0 }
abbrev ok_Postings_documentOf (X : hh_X) (B e0 : Nat) : Prop := hh_ok X B e0 cX5_documentOf RX5 1 (some .int) "documentOf" rm_Postings_documentOf
set_option maxRecDepth 100000 in
set_option maxHeartbeats 4000000 in
theorem w_Postings_documentOf {X : hh_X} {B e0 : Nat} {rr : Int32 × hh_H} (C : ok_Postings_documentOf X B e0) (E : hh_End X B e0 (.returned (some (.int rr.1))) rr.2 mc_Postings_documentOf ms_Postings_documentOf) (F : Nat) (x0 : Int32) (h : hh_H)
    (hf : f_Postings_documentOf F x0 h = some rr) : hh_W X 0 0 0 [(0, .int x0)] [] h := by
  unfold f_Postings_documentOf at hf
  refine r_iload_n C dX5_documentOf_0 rfl 0 rfl ?_
  refine r_bipush C dX5_documentOf_1 (v := 20) (by decide) ?_
  refine r_idiv C dX5_documentOf_3 (by decide) ?_
  refine r_bipush C dX5_documentOf_4 (v := 40) (by decide) ?_
  refine r_irem C dX5_documentOf_6 (by decide) ?_
  exact r_ireturn C E dX5_documentOf_7 (by decide) (by decide) hf
theorem c_Postings_documentOf (B e0 F : Nat) (x0 : Int32) (h : hh_H) (rr : Int32 × hh_H) (hf : f_Postings_documentOf F x0 h = some rr) : hh_Met yX5_documentOf cX5_documentOf 1 (some .int) rm_Postings_documentOf mc_Postings_documentOf ms_Postings_documentOf B e0 [.int x0] h (.returned (some (.int rr.1))) rr.2 :=
  hh_met (by decide) (Nat.le_of_ble_eq_true rfl) fun X C E => hh_pick [0] rfl (w_Postings_documentOf C E F x0 h hf)
def mc_Postings_placeOf : Nat := 0
def ms_Postings_placeOf : Nat := 0
def rm_Postings_placeOf : Room := { frames := 0, cells := 0, slots := 0, locals := 0 }
abbrev ok_Postings_placeOf (X : hh_X) (B e0 : Nat) : Prop := hh_ok X B e0 cX5_placeOf RX5 1 (some .int) "placeOf" rm_Postings_placeOf
set_option maxRecDepth 100000 in
set_option maxHeartbeats 4000000 in
theorem w_Postings_placeOf {X : hh_X} {B e0 : Nat} {rr : Int32 × hh_H} (C : ok_Postings_placeOf X B e0) (E : hh_End X B e0 (.returned (some (.int rr.1))) rr.2 mc_Postings_placeOf ms_Postings_placeOf) (F : Nat) (x0 : Int32) (h : hh_H)
    (hf : f_Postings_placeOf F x0 h = some rr) : hh_W X 0 0 0 [(0, .int x0)] [] h := by
  unfold f_Postings_placeOf at hf
  refine r_iload_n C dX5_placeOf_0 rfl 0 rfl ?_
  refine r_bipush C dX5_placeOf_1 (v := 20) (by decide) ?_
  refine r_irem C dX5_placeOf_3 (by decide) ?_
  exact r_ireturn C E dX5_placeOf_4 (by decide) (by decide) hf
theorem c_Postings_placeOf (B e0 F : Nat) (x0 : Int32) (h : hh_H) (rr : Int32 × hh_H) (hf : f_Postings_placeOf F x0 h = some rr) : hh_Met yX5_placeOf cX5_placeOf 1 (some .int) rm_Postings_placeOf mc_Postings_placeOf ms_Postings_placeOf B e0 [.int x0] h (.returned (some (.int rr.1))) rr.2 :=
  hh_met (by decide) (Nat.le_of_ble_eq_true rfl) fun X C E => hh_pick [0] rfl (w_Postings_placeOf C E F x0 h hf)
def mc_Postings_size : Nat := 0
def ms_Postings_size : Nat := 0
def rm_Postings_size : Room := { frames := 0, cells := 0, slots := 0, locals := 0 }
abbrev ok_Postings_size (X : hh_X) (B e0 : Nat) : Prop := hh_ok X B e0 cX5_size RX5 1 (some .int) "size" rm_Postings_size
set_option maxRecDepth 100000 in
set_option maxHeartbeats 4000000 in
theorem w_Postings_size {X : hh_X} {B e0 : Nat} {rr : Int32 × hh_H} (C : ok_Postings_size X B e0) (E : hh_End X B e0 (.returned (some (.int rr.1))) rr.2 mc_Postings_size ms_Postings_size) (F : Nat) (a0 : Nat) (h : hh_H)
    (hf : f_Postings_size F a0 h = some rr) : hh_W X 0 0 0 [(0, .ref (hh_ad B e0 a0))] [] h := by
  unfold f_Postings_size at hf
  refine r_aload_n C dX5_size_0 rfl 0 rfl ?_
  obtain ⟨v1, e2, hf⟩ := hp_bind hf
  refine r_getI C dX5_size_1 fl_RX5_15 e2 ?_
  exact r_ireturn C E dX5_size_4 (by decide) (by decide) hf
theorem c_Postings_size (B e0 F : Nat) (a0 : Nat) (h : hh_H) (rr : Int32 × hh_H) (hf : f_Postings_size F a0 h = some rr) : hh_Met yX5_size cX5_size 1 (some .int) rm_Postings_size mc_Postings_size ms_Postings_size B e0 [.ref (hh_ad B e0 a0)] h (.returned (some (.int rr.1))) rr.2 :=
  hh_met (by decide) (Nat.le_of_ble_eq_true rfl) fun X C E => hh_pick [0] rfl (w_Postings_size C E F a0 h hf)
def mc_Postings_keyAt : Nat := 0
def ms_Postings_keyAt : Nat := 0
def rm_Postings_keyAt : Room := { frames := 0, cells := 0, slots := 0, locals := 0 }
abbrev ok_Postings_keyAt (X : hh_X) (B e0 : Nat) : Prop := hh_ok X B e0 cX5_keyAt RX5 2 (some .int) "keyAt" rm_Postings_keyAt
set_option maxRecDepth 100000 in
set_option maxHeartbeats 4000000 in
theorem w_Postings_keyAt {X : hh_X} {B e0 : Nat} {rr : Int32 × hh_H} (C : ok_Postings_keyAt X B e0) (E : hh_End X B e0 (.returned (some (.int rr.1))) rr.2 mc_Postings_keyAt ms_Postings_keyAt) (F : Nat) (a0 : Nat) (x1 : Int32) (h : hh_H)
    (hf : f_Postings_keyAt F a0 x1 h = some rr) : hh_W X 0 0 0 [(0, .ref (hh_ad B e0 a0)), (1, .int x1)] [] h := by
  unfold f_Postings_keyAt at hf
  refine r_iload_n C dX5_keyAt_0 rfl 1 rfl ?_
  refine r_if_lt C dX5_keyAt_1 (tgt := 21) (by decide) (fun c1 => ?_) (fun c1 => ?_)
  · rw [if_pos c1] at hf
    refine r_iconst C dX5_keyAt_21 (v := 0) (by decide) ?_
    exact r_ireturn C E dX5_keyAt_22 (by decide) (by decide) hf
  · rw [if_neg c1] at hf
    refine r_iload_n C dX5_keyAt_4 rfl 1 rfl ?_
    refine r_aload_n C dX5_keyAt_5 rfl 0 rfl ?_
    obtain ⟨v2, e3, hf⟩ := hp_bind hf
    refine r_getI C dX5_keyAt_6 fl_RX5_15 e3 ?_
    refine r_icmp_ge C dX5_keyAt_9 (tgt := 21) (by decide) (fun c4 => ?_) (fun c4 => ?_)
    · rw [if_pos c4] at hf
      refine r_iconst C dX5_keyAt_21 (v := 0) (by decide) ?_
      exact r_ireturn C E dX5_keyAt_22 (by decide) (by decide) hf
    · rw [if_neg c4] at hf
      refine r_aload_n C dX5_keyAt_12 rfl 0 rfl ?_
      obtain ⟨v5, e6, hf⟩ := hp_bind hf
      refine r_getA C dX5_keyAt_13 fl_RX5_9 e6 ?_
      refine r_iload_n C dX5_keyAt_16 rfl 1 rfl ?_
      obtain ⟨v7, e8, hf⟩ := hp_bind hf
      refine r_ai C dX5_keyAt_17 e8 ?_
      refine r_goto C dX5_keyAt_18 (tgt := 22) (by decide) ?_
      exact r_ireturn C E dX5_keyAt_22 (by decide) (by decide) hf
theorem c_Postings_keyAt (B e0 F : Nat) (a0 : Nat) (x1 : Int32) (h : hh_H) (rr : Int32 × hh_H) (hf : f_Postings_keyAt F a0 x1 h = some rr) : hh_Met yX5_keyAt cX5_keyAt 2 (some .int) rm_Postings_keyAt mc_Postings_keyAt ms_Postings_keyAt B e0 [.ref (hh_ad B e0 a0), .int x1] h (.returned (some (.int rr.1))) rr.2 :=
  hh_met (by decide) (Nat.le_of_ble_eq_true rfl) fun X C E => hh_pick [0, 1] rfl (w_Postings_keyAt C E F a0 x1 h hf)
def mc_Postings_clear : Nat := 0
def ms_Postings_clear : Nat := 0
def rm_Postings_clear : Room := { frames := 0, cells := 0, slots := 0, locals := 0 }
abbrev ok_Postings_clear (X : hh_X) (B e0 : Nat) : Prop := hh_ok X B e0 cX5_clear RX5 1 none "clear" rm_Postings_clear
set_option maxRecDepth 100000 in
set_option maxHeartbeats 4000000 in
theorem w_Postings_clear {X : hh_X} {B e0 : Nat} {rr : Unit × hh_H} (C : ok_Postings_clear X B e0) (E : hh_End X B e0 (.returned none) rr.2 mc_Postings_clear ms_Postings_clear) (F : Nat) (a0 : Nat) (h : hh_H)
    (hf : f_Postings_clear F a0 h = some rr) : hh_W X 0 0 0 [(0, .ref (hh_ad B e0 a0))] [] h := by
  unfold f_Postings_clear at hf
  refine r_aload_n C dX5_clear_0 rfl 0 rfl ?_
  refine r_iconst C dX5_clear_1 (v := 0) (by decide) ?_
  obtain ⟨h1, e2, hf⟩ := hp_bind hf
  refine r_putI C dX5_clear_2 fl_RX5_15 e2 ?_
  exact r_return C E dX5_clear_5 (by decide) (by decide) hf
theorem c_Postings_clear (B e0 F : Nat) (a0 : Nat) (h : hh_H) (rr : Unit × hh_H) (hf : f_Postings_clear F a0 h = some rr) : hh_Met yX5_clear cX5_clear 1 none rm_Postings_clear mc_Postings_clear ms_Postings_clear B e0 [.ref (hh_ad B e0 a0)] h (.returned none) rr.2 :=
  hh_met (by decide) (Nat.le_of_ble_eq_true rfl) fun X C E => hh_pick [0] rfl (w_Postings_clear C E F a0 h hf)
def mc_Postings_insert : Nat := 0
def ms_Postings_insert : Nat := 0
def rm_Postings_insert : Room := { frames := 0, cells := 0, slots := 0, locals := 0 }
abbrev ok_Postings_insert (X : hh_X) (B e0 : Nat) : Prop := hh_ok X B e0 cX5_insert RX5 3 none "insert" rm_Postings_insert
set_option maxRecDepth 100000 in
set_option maxHeartbeats 4000000 in
theorem w_Postings_insert_54 {X : hh_X} {B e0 : Nat} {rr : Unit × hh_H} (C : ok_Postings_insert X B e0) (E : hh_End X B e0 (.returned none) rr.2 mc_Postings_insert ms_Postings_insert) (F : Nat) (a0 : Nat) (x1 : Int32) (x2 : Int32) (h : hh_H)
    (hf : f_Postings_insert_54 F a0 x1 x2 h = some rr) : hh_W X 0 0 54 [(0, .ref (hh_ad B e0 a0)), (1, .int x1), (2, .int x2)] [] h := by
  unfold f_Postings_insert_54 at hf
  refine r_aload_n C dX5_insert_54 rfl 0 rfl ?_
  obtain ⟨v1, e2, hf⟩ := hp_bind hf
  refine r_getA C dX5_insert_55 fl_RX5_9 e2 ?_
  refine r_iload_n C dX5_insert_58 rfl 2 rfl ?_
  refine r_iload_n C dX5_insert_59 rfl 1 rfl ?_
  obtain ⟨h3, e4, hf⟩ := hp_bind hf
  refine r_si C dX5_insert_60 e4 ?_
  refine r_aload_n C dX5_insert_61 rfl 0 rfl ?_
  refine r_dup C dX5_insert_62 rfl ?_
  obtain ⟨v5, e6, hf⟩ := hp_bind hf
  refine r_getI C dX5_insert_63 fl_RX5_15 e6 ?_
  refine r_iconst C dX5_insert_66 (v := 1) (by decide) ?_
  refine r_iadd C dX5_insert_67 ?_
  obtain ⟨h7, e8, hf⟩ := hp_bind hf
  refine r_putI C dX5_insert_68 fl_RX5_15 e8 ?_
  exact r_return C E dX5_insert_71 (by decide) (by decide) hf
set_option maxRecDepth 100000 in
set_option maxHeartbeats 4000000 in
theorem w_Postings_insert_18 {X : hh_X} {B e0 : Nat} {rr : Unit × hh_H} (C : ok_Postings_insert X B e0) (E : hh_End X B e0 (.returned none) rr.2 mc_Postings_insert ms_Postings_insert) (F : Nat) (r18 : Nat → Int32 → Int32 → hh_H → Option (Unit × hh_H)) (H18 : ∀ (a0 : Nat) (x1 : Int32) (x2 : Int32) (h : hh_H), r18 a0 x1 x2 h = some rr → hh_W X 0 0 18 [(0, .ref (hh_ad B e0 a0)), (1, .int x1), (2, .int x2)] [] h) (a0 : Nat) (x1 : Int32) (x2 : Int32) (h : hh_H)
    (hf : f_Postings_insert_18 F r18 a0 x1 x2 h = some rr) : hh_W X 0 0 18 [(0, .ref (hh_ad B e0 a0)), (1, .int x1), (2, .int x2)] [] h := by
  unfold f_Postings_insert_18 at hf
  refine r_iload_n C dX5_insert_18 rfl 2 rfl ?_
  refine r_if_le C dX5_insert_19 (tgt := 54) (by decide) (fun c9 => ?_) (fun c9 => ?_)
  · rw [if_pos c9] at hf
    refine hh_pick [0, 1, 2] rfl ?_
    exact w_Postings_insert_54 C E F a0 x1 x2 h hf
  · rw [if_neg c9] at hf
    refine r_aload_n C dX5_insert_22 rfl 0 rfl ?_
    obtain ⟨v10, e11, hf⟩ := hp_bind hf
    refine r_getA C dX5_insert_23 fl_RX5_9 e11 ?_
    refine r_iload_n C dX5_insert_26 rfl 2 rfl ?_
    refine r_iconst C dX5_insert_27 (v := 1) (by decide) ?_
    refine r_isub C dX5_insert_28 ?_
    obtain ⟨v12, e13, hf⟩ := hp_bind hf
    refine r_ai C dX5_insert_29 e13 ?_
    refine r_iload_n C dX5_insert_30 rfl 1 rfl ?_
    refine r_icmp_le C dX5_insert_31 (tgt := 54) (by decide) (fun c14 => ?_) (fun c14 => ?_)
    · rw [if_pos c14] at hf
      refine hh_pick [0, 1, 2] rfl ?_
      exact w_Postings_insert_54 C E F a0 x1 x2 h hf
    · rw [if_neg c14] at hf
      refine r_aload_n C dX5_insert_34 rfl 0 rfl ?_
      obtain ⟨v15, e16, hf⟩ := hp_bind hf
      refine r_getA C dX5_insert_35 fl_RX5_9 e16 ?_
      refine r_iload_n C dX5_insert_38 rfl 2 rfl ?_
      refine r_aload_n C dX5_insert_39 rfl 0 rfl ?_
      obtain ⟨v17, e18, hf⟩ := hp_bind hf
      refine r_getA C dX5_insert_40 fl_RX5_9 e18 ?_
      refine r_iload_n C dX5_insert_43 rfl 2 rfl ?_
      refine r_iconst C dX5_insert_44 (v := 1) (by decide) ?_
      refine r_isub C dX5_insert_45 ?_
      obtain ⟨v19, e20, hf⟩ := hp_bind hf
      refine r_ai C dX5_insert_46 e20 ?_
      obtain ⟨h21, e22, hf⟩ := hp_bind hf
      refine r_si C dX5_insert_47 e22 ?_
      refine r_iinc (lv' := [(2, .int (x2 + (-1))), (0, .ref (hh_ad B e0 a0)), (1, .int x1)]) C dX5_insert_48 2 rfl rfl (by decide) rfl ?_
      refine r_goto C dX5_insert_51 (tgt := 18) (by decide) ?_
      refine hh_pick [1, 2, 0] rfl ?_
      exact H18 a0 x1 (x2 + (-1)) h21 hf
theorem wl_Postings_insert_18 {X : hh_X} {B e0 : Nat} {rr : Unit × hh_H} (C : ok_Postings_insert X B e0) (E : hh_End X B e0 (.returned none) rr.2 mc_Postings_insert ms_Postings_insert) (F : Nat) :
    ∀ (n : Nat) (a0 : Nat) (x1 : Int32) (x2 : Int32) (h : hh_H), hp_it (fun _ _ _ _ => none) (f_Postings_insert_18 F) n a0 x1 x2 h = some rr → hh_W X 0 0 18 [(0, .ref (hh_ad B e0 a0)), (1, .int x1), (2, .int x2)] [] h := by
  intro n
  induction n with
  | zero => intro a0 x1 x2 h hf; cases hf
  | succ n ih =>
    intro a0 x1 x2 h hf
    exact w_Postings_insert_18 C E F _ ih a0 x1 x2 h hf
set_option maxRecDepth 100000 in
set_option maxHeartbeats 4000000 in
theorem w_Postings_insert {X : hh_X} {B e0 : Nat} {rr : Unit × hh_H} (C : ok_Postings_insert X B e0) (E : hh_End X B e0 (.returned none) rr.2 mc_Postings_insert ms_Postings_insert) (F : Nat) (a0 : Nat) (x1 : Int32) (h : hh_H)
    (hf : f_Postings_insert F a0 x1 h = some rr) : hh_W X 0 0 0 [(0, .ref (hh_ad B e0 a0)), (1, .int x1)] [] h := by
  unfold f_Postings_insert at hf
  refine r_aload_n C dX5_insert_0 rfl 0 rfl ?_
  obtain ⟨v23, e24, hf⟩ := hp_bind hf
  refine r_getI C dX5_insert_1 fl_RX5_15 e24 ?_
  refine r_aload_n C dX5_insert_4 rfl 0 rfl ?_
  obtain ⟨v25, e26, hf⟩ := hp_bind hf
  refine r_getA C dX5_insert_5 fl_RX5_9 e26 ?_
  obtain ⟨v27, e28, hf⟩ := hp_bind hf
  refine r_alen C dX5_insert_8 e28 ?_
  refine r_icmp_lt C dX5_insert_9 (tgt := 13) (by decide) (fun c29 => ?_) (fun c29 => ?_)
  · rw [if_pos c29] at hf
    refine r_aload_n C dX5_insert_13 rfl 0 rfl ?_
    obtain ⟨v30, e31, hf⟩ := hp_bind hf
    refine r_getI C dX5_insert_14 fl_RX5_15 e31 ?_
    refine r_istore_n (lv' := [(2, .int v30), (0, .ref (hh_ad B e0 a0)), (1, .int x1)]) C dX5_insert_17 rfl (by decide) rfl ?_
    refine hh_pick [1, 2, 0] rfl ?_
    exact wl_Postings_insert_18 C E F F a0 x1 v30 h hf
  · rw [if_neg c29] at hf
    exact r_return C E dX5_insert_12 (by decide) (by decide) hf
theorem c_Postings_insert (B e0 F : Nat) (a0 : Nat) (x1 : Int32) (h : hh_H) (rr : Unit × hh_H) (hf : f_Postings_insert F a0 x1 h = some rr) : hh_Met yX5_insert cX5_insert 3 none rm_Postings_insert mc_Postings_insert ms_Postings_insert B e0 [.ref (hh_ad B e0 a0), .int x1] h (.returned none) rr.2 :=
  hh_met (by decide) (Nat.le_of_ble_eq_true rfl) fun X C E => hh_pick [0, 1] rfl (w_Postings_insert C E F a0 x1 h hf)
def mc_Postings_mergeIn : Nat := 0
def ms_Postings_mergeIn : Nat := 0
def rm_Postings_mergeIn : Room := { frames := 0, cells := 0, slots := 0, locals := 0 }
abbrev ok_Postings_mergeIn (X : hh_X) (B e0 : Nat) : Prop := hh_ok X B e0 cX5_mergeIn RX5 6 none "mergeIn" rm_Postings_mergeIn
set_option maxRecDepth 100000 in
set_option maxHeartbeats 4000000 in
theorem w_Postings_mergeIn_89 {X : hh_X} {B e0 : Nat} {rr : Unit × hh_H} (C : ok_Postings_mergeIn X B e0) (E : hh_End X B e0 (.returned none) rr.2 mc_Postings_mergeIn ms_Postings_mergeIn) (F : Nat) (r40 : Nat → Nat → Int32 → Int32 → Int32 → Int32 → hh_H → Option (Unit × hh_H)) (H40 : ∀ (a0 : Nat) (a1 : Nat) (x2 : Int32) (x3 : Int32) (x4 : Int32) (x5 : Int32) (h : hh_H), r40 a0 a1 x2 x3 x4 x5 h = some rr → hh_W X 0 0 40 [(0, .ref (hh_ad B e0 a0)), (1, .ref (hh_ad B e0 a1)), (2, .int x2), (3, .int x3), (4, .int x4), (5, .int x5)] [] h) (a0 : Nat) (a1 : Nat) (x2 : Int32) (x3 : Int32) (x4 : Int32) (x5 : Int32) (h : hh_H)
    (hf : f_Postings_mergeIn_89 F r40 a0 a1 x2 x3 x4 x5 h = some rr) : hh_W X 0 0 89 [(0, .ref (hh_ad B e0 a0)), (1, .ref (hh_ad B e0 a1)), (2, .int x2), (3, .int x3), (4, .int x4), (5, .int x5)] [] h := by
  unfold f_Postings_mergeIn_89 at hf
  refine r_aload_n C dX5_mergeIn_89 rfl 0 rfl ?_
  obtain ⟨v1, e2, hf⟩ := hp_bind hf
  refine r_getA C dX5_mergeIn_90 fl_RX5_9 e2 ?_
  refine r_iload C dX5_mergeIn_93 5 rfl ?_
  refine r_aload_n C dX5_mergeIn_95 rfl 1 rfl ?_
  obtain ⟨v3, e4, hf⟩ := hp_bind hf
  refine r_getA C dX5_mergeIn_96 fl_RX5_9 e4 ?_
  refine r_iload C dX5_mergeIn_99 4 rfl ?_
  obtain ⟨v5, e6, hf⟩ := hp_bind hf
  refine r_ai C dX5_mergeIn_101 e6 ?_
  obtain ⟨h7, e8, hf⟩ := hp_bind hf
  refine r_si C dX5_mergeIn_102 e8 ?_
  refine r_iinc (lv' := [(4, .int (x4 + (-1))), (0, .ref (hh_ad B e0 a0)), (1, .ref (hh_ad B e0 a1)), (2, .int x2), (3, .int x3), (5, .int x5)]) C dX5_mergeIn_103 4 rfl rfl (by decide) rfl ?_
  refine r_iinc (lv' := [(5, .int (x5 + (-1))), (4, .int (x4 + (-1))), (0, .ref (hh_ad B e0 a0)), (1, .ref (hh_ad B e0 a1)), (2, .int x2), (3, .int x3)]) C dX5_mergeIn_106 5 rfl rfl (by decide) rfl ?_
  refine r_goto C dX5_mergeIn_109 (tgt := 40) (by decide) ?_
  refine hh_pick [2, 3, 4, 5, 1, 0] rfl ?_
  exact H40 a0 a1 x2 x3 (x4 + (-1)) (x5 + (-1)) h7 hf
set_option maxRecDepth 100000 in
set_option maxHeartbeats 4000000 in
theorem w_Postings_mergeIn_40 {X : hh_X} {B e0 : Nat} {rr : Unit × hh_H} (C : ok_Postings_mergeIn X B e0) (E : hh_End X B e0 (.returned none) rr.2 mc_Postings_mergeIn ms_Postings_mergeIn) (F : Nat) (r40 : Nat → Nat → Int32 → Int32 → Int32 → Int32 → hh_H → Option (Unit × hh_H)) (H40 : ∀ (a0 : Nat) (a1 : Nat) (x2 : Int32) (x3 : Int32) (x4 : Int32) (x5 : Int32) (h : hh_H), r40 a0 a1 x2 x3 x4 x5 h = some rr → hh_W X 0 0 40 [(0, .ref (hh_ad B e0 a0)), (1, .ref (hh_ad B e0 a1)), (2, .int x2), (3, .int x3), (4, .int x4), (5, .int x5)] [] h) (a0 : Nat) (a1 : Nat) (x2 : Int32) (x3 : Int32) (x4 : Int32) (x5 : Int32) (h : hh_H)
    (hf : f_Postings_mergeIn_40 F r40 a0 a1 x2 x3 x4 x5 h = some rr) : hh_W X 0 0 40 [(0, .ref (hh_ad B e0 a0)), (1, .ref (hh_ad B e0 a1)), (2, .int x2), (3, .int x3), (4, .int x4), (5, .int x5)] [] h := by
  unfold f_Postings_mergeIn_40 at hf
  refine r_iload C dX5_mergeIn_40 5 rfl ?_
  refine r_if_lt C dX5_mergeIn_42 (tgt := 112) (by decide) (fun c9 => ?_) (fun c9 => ?_)
  · rw [if_pos c9] at hf
    refine r_aload_n C dX5_mergeIn_112 rfl 0 rfl ?_
    refine r_iload_n C dX5_mergeIn_113 rfl 2 rfl ?_
    obtain ⟨h10, e11, hf⟩ := hp_bind hf
    refine r_putI C dX5_mergeIn_114 fl_RX5_15 e11 ?_
    exact r_return C E dX5_mergeIn_117 (by decide) (by decide) hf
  · rw [if_neg c9] at hf
    refine r_iload C dX5_mergeIn_45 4 rfl ?_
    refine r_if_lt C dX5_mergeIn_47 (tgt := 112) (by decide) (fun c12 => ?_) (fun c12 => ?_)
    · rw [if_pos c12] at hf
      refine r_aload_n C dX5_mergeIn_112 rfl 0 rfl ?_
      refine r_iload_n C dX5_mergeIn_113 rfl 2 rfl ?_
      obtain ⟨h13, e14, hf⟩ := hp_bind hf
      refine r_putI C dX5_mergeIn_114 fl_RX5_15 e14 ?_
      exact r_return C E dX5_mergeIn_117 (by decide) (by decide) hf
    · rw [if_neg c12] at hf
      refine r_iload_n C dX5_mergeIn_50 rfl 3 rfl ?_
      refine r_if_lt C dX5_mergeIn_51 (tgt := 89) (by decide) (fun c15 => ?_) (fun c15 => ?_)
      · rw [if_pos c15] at hf
        refine hh_pick [0, 1, 2, 3, 4, 5] rfl ?_
        exact w_Postings_mergeIn_89 C E F r40 H40 a0 a1 x2 x3 x4 x5 h hf
      · rw [if_neg c15] at hf
        refine r_aload_n C dX5_mergeIn_54 rfl 0 rfl ?_
        obtain ⟨v16, e17, hf⟩ := hp_bind hf
        refine r_getA C dX5_mergeIn_55 fl_RX5_9 e17 ?_
        refine r_iload_n C dX5_mergeIn_58 rfl 3 rfl ?_
        obtain ⟨v18, e19, hf⟩ := hp_bind hf
        refine r_ai C dX5_mergeIn_59 e19 ?_
        refine r_aload_n C dX5_mergeIn_60 rfl 1 rfl ?_
        obtain ⟨v20, e21, hf⟩ := hp_bind hf
        refine r_getA C dX5_mergeIn_61 fl_RX5_9 e21 ?_
        refine r_iload C dX5_mergeIn_64 4 rfl ?_
        obtain ⟨v22, e23, hf⟩ := hp_bind hf
        refine r_ai C dX5_mergeIn_66 e23 ?_
        refine r_icmp_le C dX5_mergeIn_67 (tgt := 89) (by decide) (fun c24 => ?_) (fun c24 => ?_)
        · rw [if_pos c24] at hf
          refine hh_pick [0, 1, 2, 3, 4, 5] rfl ?_
          exact w_Postings_mergeIn_89 C E F r40 H40 a0 a1 x2 x3 x4 x5 h hf
        · rw [if_neg c24] at hf
          refine r_aload_n C dX5_mergeIn_70 rfl 0 rfl ?_
          obtain ⟨v25, e26, hf⟩ := hp_bind hf
          refine r_getA C dX5_mergeIn_71 fl_RX5_9 e26 ?_
          refine r_iload C dX5_mergeIn_74 5 rfl ?_
          refine r_aload_n C dX5_mergeIn_76 rfl 0 rfl ?_
          obtain ⟨v27, e28, hf⟩ := hp_bind hf
          refine r_getA C dX5_mergeIn_77 fl_RX5_9 e28 ?_
          refine r_iload_n C dX5_mergeIn_80 rfl 3 rfl ?_
          obtain ⟨v29, e30, hf⟩ := hp_bind hf
          refine r_ai C dX5_mergeIn_81 e30 ?_
          obtain ⟨h31, e32, hf⟩ := hp_bind hf
          refine r_si C dX5_mergeIn_82 e32 ?_
          refine r_iinc (lv' := [(3, .int (x3 + (-1))), (0, .ref (hh_ad B e0 a0)), (1, .ref (hh_ad B e0 a1)), (2, .int x2), (4, .int x4), (5, .int x5)]) C dX5_mergeIn_83 3 rfl rfl (by decide) rfl ?_
          refine r_goto C dX5_mergeIn_86 (tgt := 106) (by decide) ?_
          refine r_iinc (lv' := [(5, .int (x5 + (-1))), (3, .int (x3 + (-1))), (0, .ref (hh_ad B e0 a0)), (1, .ref (hh_ad B e0 a1)), (2, .int x2), (4, .int x4)]) C dX5_mergeIn_106 5 rfl rfl (by decide) rfl ?_
          refine r_goto C dX5_mergeIn_109 (tgt := 40) (by decide) ?_
          refine hh_pick [2, 3, 4, 1, 5, 0] rfl ?_
          exact H40 a0 a1 x2 (x3 + (-1)) x4 (x5 + (-1)) h31 hf
theorem wl_Postings_mergeIn_40 {X : hh_X} {B e0 : Nat} {rr : Unit × hh_H} (C : ok_Postings_mergeIn X B e0) (E : hh_End X B e0 (.returned none) rr.2 mc_Postings_mergeIn ms_Postings_mergeIn) (F : Nat) :
    ∀ (n : Nat) (a0 : Nat) (a1 : Nat) (x2 : Int32) (x3 : Int32) (x4 : Int32) (x5 : Int32) (h : hh_H), hp_it (fun _ _ _ _ _ _ _ => none) (f_Postings_mergeIn_40 F) n a0 a1 x2 x3 x4 x5 h = some rr → hh_W X 0 0 40 [(0, .ref (hh_ad B e0 a0)), (1, .ref (hh_ad B e0 a1)), (2, .int x2), (3, .int x3), (4, .int x4), (5, .int x5)] [] h := by
  intro n
  induction n with
  | zero => intro a0 a1 x2 x3 x4 x5 h hf; cases hf
  | succ n ih =>
    intro a0 a1 x2 x3 x4 x5 h hf
    exact w_Postings_mergeIn_40 C E F _ ih a0 a1 x2 x3 x4 x5 h hf
set_option maxRecDepth 100000 in
set_option maxHeartbeats 4000000 in
theorem w_Postings_mergeIn {X : hh_X} {B e0 : Nat} {rr : Unit × hh_H} (C : ok_Postings_mergeIn X B e0) (E : hh_End X B e0 (.returned none) rr.2 mc_Postings_mergeIn ms_Postings_mergeIn) (F : Nat) (a0 : Nat) (a1 : Nat) (h : hh_H)
    (hf : f_Postings_mergeIn F a0 a1 h = some rr) : hh_W X 0 0 0 [(0, .ref (hh_ad B e0 a0)), (1, .ref (hh_ad B e0 a1))] [] h := by
  unfold f_Postings_mergeIn at hf
  refine r_aload_n C dX5_mergeIn_0 rfl 0 rfl ?_
  obtain ⟨v33, e34, hf⟩ := hp_bind hf
  refine r_getI C dX5_mergeIn_1 fl_RX5_15 e34 ?_
  refine r_aload_n C dX5_mergeIn_4 rfl 1 rfl ?_
  obtain ⟨v35, e36, hf⟩ := hp_bind hf
  refine r_getI C dX5_mergeIn_5 fl_RX5_15 e36 ?_
  refine r_iadd C dX5_mergeIn_8 ?_
  refine r_istore_n (lv' := [(2, .int (v33 + v35)), (0, .ref (hh_ad B e0 a0)), (1, .ref (hh_ad B e0 a1))]) C dX5_mergeIn_9 rfl (by decide) rfl ?_
  refine r_iload_n C dX5_mergeIn_10 rfl 0 rfl ?_
  refine r_aload_n C dX5_mergeIn_11 rfl 1 rfl ?_
  obtain ⟨v37, e38, hf⟩ := hp_bind hf
  refine r_getA C dX5_mergeIn_12 fl_RX5_9 e38 ?_
  obtain ⟨v39, e40, hf⟩ := hp_bind hf
  refine r_alen C dX5_mergeIn_15 e40 ?_
  refine r_icmp_le C dX5_mergeIn_16 (tgt := 20) (by decide) (fun c41 => ?_) (fun c41 => ?_)
  · rw [if_pos c41] at hf
    refine r_aload_n C dX5_mergeIn_20 rfl 1 rfl ?_
    obtain ⟨v42, e43, hf⟩ := hp_bind hf
    refine r_getI C dX5_mergeIn_21 fl_RX5_15 e43 ?_
    refine r_iconst C dX5_mergeIn_24 (v := 1) (by decide) ?_
    refine r_isub C dX5_mergeIn_25 ?_
    refine r_istore_n (lv' := [(3, .int (v42 - 1)), (2, .int (v33 + v35)), (0, .ref (hh_ad B e0 a0)), (1, .ref (hh_ad B e0 a1))]) C dX5_mergeIn_26 rfl (by decide) rfl ?_
    refine r_aload_n C dX5_mergeIn_27 rfl 3 rfl ?_
    obtain ⟨v44, e45, hf⟩ := hp_bind hf
    refine r_getI C dX5_mergeIn_28 fl_RX5_15 e45 ?_
    refine r_iconst C dX5_mergeIn_31 (v := 1) (by decide) ?_
    refine r_isub C dX5_mergeIn_32 ?_
    refine r_istore (lv' := [(4, .int (v44 - 1)), (3, .int (v42 - 1)), (2, .int (v33 + v35)), (0, .ref (hh_ad B e0 a0)), (1, .ref (hh_ad B e0 a1))]) C dX5_mergeIn_33 (by decide) rfl ?_
    refine r_iload_n C dX5_mergeIn_35 rfl 2 rfl ?_
    refine r_iconst C dX5_mergeIn_36 (v := 1) (by decide) ?_
    refine r_isub C dX5_mergeIn_37 ?_
    refine r_istore (lv' := [(5, .int ((v33 + v35) - 1)), (4, .int (v44 - 1)), (3, .int (v42 - 1)), (2, .int (v33 + v35)), (0, .ref (hh_ad B e0 a0)), (1, .ref (hh_ad B e0 a1))]) C dX5_mergeIn_38 (by decide) rfl ?_
    refine hh_pick [4, 5, 3, 2, 1, 0] rfl ?_
    exact wl_Postings_mergeIn_40 C E F F a0 a1 (v33 + v35) (v42 - 1) (v44 - 1) ((v33 + v35) - 1) h hf
  · rw [if_neg c41] at hf
    exact r_return C E dX5_mergeIn_19 (by decide) (by decide) hf
theorem c_Postings_mergeIn (B e0 F : Nat) (a0 : Nat) (a1 : Nat) (h : hh_H) (rr : Unit × hh_H) (hf : f_Postings_mergeIn F a0 a1 h = some rr) : hh_Met yX5_mergeIn cX5_mergeIn 6 none rm_Postings_mergeIn mc_Postings_mergeIn ms_Postings_mergeIn B e0 [.ref (hh_ad B e0 a0), .ref (hh_ad B e0 a1)] h (.returned none) rr.2 :=
  hh_met (by decide) (Nat.le_of_ble_eq_true rfl) fun X C E => hh_pick [0, 1] rfl (w_Postings_mergeIn C E F a0 a1 h hf)
def mc_Postings_keepLive : Nat := 0
def ms_Postings_keepLive : Nat := 0
def rm_Postings_keepLive : Room := { frames := 1, cells := 0, slots := 0, locals := 21 }
abbrev ok_Postings_keepLive (X : hh_X) (B e0 : Nat) : Prop := hh_ok X B e0 cX5_keepLive RX5 4 none "keepLive" rm_Postings_keepLive
set_option maxRecDepth 100000 in
set_option maxHeartbeats 4000000 in
theorem w_Postings_keepLive_4 {X : hh_X} {B e0 : Nat} {rr : Unit × hh_H} (C : ok_Postings_keepLive X B e0) (E : hh_End X B e0 (.returned none) rr.2 mc_Postings_keepLive ms_Postings_keepLive) (F : Nat) (r4 : Nat → Nat → Int32 → Int32 → hh_H → Option (Unit × hh_H)) (H4 : ∀ (a0 : Nat) (a1 : Nat) (x2 : Int32) (x3 : Int32) (h : hh_H), r4 a0 a1 x2 x3 h = some rr → hh_W X 0 0 4 [(0, .ref (hh_ad B e0 a0)), (1, .ref (hh_ad B e0 a1)), (2, .int x2), (3, .int x3)] [] h) (a0 : Nat) (a1 : Nat) (x2 : Int32) (x3 : Int32) (h : hh_H)
    (hf : f_Postings_keepLive_4 F r4 a0 a1 x2 x3 h = some rr) : hh_W X 0 0 4 [(0, .ref (hh_ad B e0 a0)), (1, .ref (hh_ad B e0 a1)), (2, .int x2), (3, .int x3)] [] h := by
  unfold f_Postings_keepLive_4 at hf
  refine r_iload_n C dX5_keepLive_4 rfl 3 rfl ?_
  refine r_aload_n C dX5_keepLive_5 rfl 0 rfl ?_
  obtain ⟨v1, e2, hf⟩ := hp_bind hf
  refine r_getI C dX5_keepLive_6 fl_RX5_15 e2 ?_
  refine r_icmp_ge C dX5_keepLive_9 (tgt := 49) (by decide) (fun c3 => ?_) (fun c3 => ?_)
  · rw [if_pos c3] at hf
    refine r_aload_n C dX5_keepLive_49 rfl 0 rfl ?_
    refine r_iload_n C dX5_keepLive_50 rfl 2 rfl ?_
    obtain ⟨h4, e5, hf⟩ := hp_bind hf
    refine r_putI C dX5_keepLive_51 fl_RX5_15 e5 ?_
    exact r_return C E dX5_keepLive_54 (by decide) (by decide) hf
  · rw [if_neg c3] at hf
    refine r_aload_n C dX5_keepLive_12 rfl 1 rfl ?_
    refine r_aload_n C dX5_keepLive_13 rfl 0 rfl ?_
    obtain ⟨v6, e7, hf⟩ := hp_bind hf
    refine r_getA C dX5_keepLive_14 fl_RX5_9 e7 ?_
    refine r_iload_n C dX5_keepLive_17 rfl 3 rfl ?_
    obtain ⟨v8, e9, hf⟩ := hp_bind hf
    refine r_ai C dX5_keepLive_18 e9 ?_
    obtain ⟨q10, h11, e12, hf⟩ := hp_cbe hf
    refine r_callS C dX5_keepLive_19 cs_RX5_19 (c_Postings_documentOf B e0 F v8 h _ e12) rfl rfl rfl ⟨by decide, by decide⟩ ⟨by decide, by decide⟩ (Nat.le_of_ble_eq_true rfl) rfl ?_
    obtain ⟨_, e16, hf⟩ := hp_bind hf
    obtain ⟨g17, e16⟩ := hp_is_of e16
    obtain ⟨q13, h14, e15, hf⟩ := hp_cbe hf
    refine r_callV C dX5_keepLive_22 cs_RX5_23 rfl e16 (c_Documents_isLive B e0 F a1 q10 h11 _ e15) rfl rfl rfl ⟨by decide, by decide⟩ ⟨by decide, by decide⟩ (Nat.le_of_ble_eq_true rfl) rfl ?_
    refine r_if_eq C dX5_keepLive_25 (tgt := 43) (by decide) (fun c18 => ?_) (fun c18 => ?_)
    · rw [if_pos c18] at hf
      refine r_iinc (lv' := [(3, .int (x3 + 1)), (0, .ref (hh_ad B e0 a0)), (1, .ref (hh_ad B e0 a1)), (2, .int x2)]) C dX5_keepLive_43 3 rfl rfl (by decide) rfl ?_
      refine r_goto C dX5_keepLive_46 (tgt := 4) (by decide) ?_
      refine hh_pick [1, 2, 3, 0] rfl ?_
      exact H4 a0 a1 x2 (x3 + 1) h14 hf
    · rw [if_neg c18] at hf
      refine r_aload_n C dX5_keepLive_28 rfl 0 rfl ?_
      obtain ⟨v19, e20, hf⟩ := hp_bind hf
      refine r_getA C dX5_keepLive_29 fl_RX5_9 e20 ?_
      refine r_iload_n C dX5_keepLive_32 rfl 2 rfl ?_
      refine r_aload_n C dX5_keepLive_33 rfl 0 rfl ?_
      obtain ⟨v21, e22, hf⟩ := hp_bind hf
      refine r_getA C dX5_keepLive_34 fl_RX5_9 e22 ?_
      refine r_iload_n C dX5_keepLive_37 rfl 3 rfl ?_
      obtain ⟨v23, e24, hf⟩ := hp_bind hf
      refine r_ai C dX5_keepLive_38 e24 ?_
      obtain ⟨h25, e26, hf⟩ := hp_bind hf
      refine r_si C dX5_keepLive_39 e26 ?_
      refine r_iinc (lv' := [(2, .int (x2 + 1)), (0, .ref (hh_ad B e0 a0)), (1, .ref (hh_ad B e0 a1)), (3, .int x3)]) C dX5_keepLive_40 2 rfl rfl (by decide) rfl ?_
      refine r_iinc (lv' := [(3, .int (x3 + 1)), (2, .int (x2 + 1)), (0, .ref (hh_ad B e0 a0)), (1, .ref (hh_ad B e0 a1))]) C dX5_keepLive_43 3 rfl rfl (by decide) rfl ?_
      refine r_goto C dX5_keepLive_46 (tgt := 4) (by decide) ?_
      refine hh_pick [2, 3, 1, 0] rfl ?_
      exact H4 a0 a1 (x2 + 1) (x3 + 1) h25 hf
theorem wl_Postings_keepLive_4 {X : hh_X} {B e0 : Nat} {rr : Unit × hh_H} (C : ok_Postings_keepLive X B e0) (E : hh_End X B e0 (.returned none) rr.2 mc_Postings_keepLive ms_Postings_keepLive) (F : Nat) :
    ∀ (n : Nat) (a0 : Nat) (a1 : Nat) (x2 : Int32) (x3 : Int32) (h : hh_H), hp_it (fun _ _ _ _ _ => none) (f_Postings_keepLive_4 F) n a0 a1 x2 x3 h = some rr → hh_W X 0 0 4 [(0, .ref (hh_ad B e0 a0)), (1, .ref (hh_ad B e0 a1)), (2, .int x2), (3, .int x3)] [] h := by
  intro n
  induction n with
  | zero => intro a0 a1 x2 x3 h hf; cases hf
  | succ n ih =>
    intro a0 a1 x2 x3 h hf
    exact w_Postings_keepLive_4 C E F _ ih a0 a1 x2 x3 h hf
set_option maxRecDepth 100000 in
set_option maxHeartbeats 4000000 in
theorem w_Postings_keepLive {X : hh_X} {B e0 : Nat} {rr : Unit × hh_H} (C : ok_Postings_keepLive X B e0) (E : hh_End X B e0 (.returned none) rr.2 mc_Postings_keepLive ms_Postings_keepLive) (F : Nat) (a0 : Nat) (a1 : Nat) (h : hh_H)
    (hf : f_Postings_keepLive F a0 a1 h = some rr) : hh_W X 0 0 0 [(0, .ref (hh_ad B e0 a0)), (1, .ref (hh_ad B e0 a1))] [] h := by
  unfold f_Postings_keepLive at hf
  refine r_iconst C dX5_keepLive_0 (v := 0) (by decide) ?_
  refine r_istore_n (lv' := [(2, .int 0), (0, .ref (hh_ad B e0 a0)), (1, .ref (hh_ad B e0 a1))]) C dX5_keepLive_1 rfl (by decide) rfl ?_
  refine r_iconst C dX5_keepLive_2 (v := 0) (by decide) ?_
  refine r_istore_n (lv' := [(3, .int 0), (2, .int 0), (0, .ref (hh_ad B e0 a0)), (1, .ref (hh_ad B e0 a1))]) C dX5_keepLive_3 rfl (by decide) rfl ?_
  refine hh_pick [2, 3, 1, 0] rfl ?_
  exact wl_Postings_keepLive_4 C E F F a0 a1 0 0 h hf
theorem c_Postings_keepLive (B e0 F : Nat) (a0 : Nat) (a1 : Nat) (h : hh_H) (rr : Unit × hh_H) (hf : f_Postings_keepLive F a0 a1 h = some rr) : hh_Met yX5_keepLive cX5_keepLive 4 none rm_Postings_keepLive mc_Postings_keepLive ms_Postings_keepLive B e0 [.ref (hh_ad B e0 a0), .ref (hh_ad B e0 a1)] h (.returned none) rr.2 :=
  hh_met (by decide) (Nat.le_of_ble_eq_true rfl) fun X C E => hh_pick [0, 1] rfl (w_Postings_keepLive C E F a0 a1 h hf)
end
