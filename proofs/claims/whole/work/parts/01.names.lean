-- ===== PART A: goes FIRST, ahead of the names: the tables' words, and 'selects' of the private methods out of them =====
/-- a private method of a class that the tables say can be made, by its rows of tables_1 -/
def lw_okq (q : MethodName × Nat) : Prop := (q.1.cls ≠ "java/lang/invoke/MethodHandle" ∧ q.1.cls ≠ "java/lang/invoke/VarHandle") ∧ Cond.instantiable q.1.cls q.2 ∈ tables_1 ∧ Cond.privateMethod q.1 ∈ tables_1 ∧ Cond.instanceMethod q.1 ∈ tables_1
theorem lw_p0 : lw_okq (⟨"ContextMix$History", "latestContext", "(I)I"⟩, 4) := ⟨⟨by decide +kernel, by decide +kernel⟩, List.mem_of_getElem? (i := 87) (by decide +kernel), List.mem_of_getElem? (i := 332) (by decide +kernel), List.mem_of_getElem? (i := 333) (by decide +kernel)⟩
theorem lw_p1 : lw_okq (⟨"ContextMix$History", "wordContext", "()I"⟩, 4) := ⟨⟨by decide +kernel, by decide +kernel⟩, List.mem_of_getElem? (i := 87) (by decide +kernel), List.mem_of_getElem? (i := 342) (by decide +kernel), List.mem_of_getElem? (i := 343) (by decide +kernel)⟩
theorem lw_p2 : lw_okq (⟨"ContextMix$History", "columnContext", "(I)I"⟩, 4) := ⟨⟨by decide +kernel, by decide +kernel⟩, List.mem_of_getElem? (i := 87) (by decide +kernel), List.mem_of_getElem? (i := 349) (by decide +kernel), List.mem_of_getElem? (i := 350) (by decide +kernel)⟩
theorem lw_p3 : lw_okq (⟨"ContextMix$History", "apartContext", "(I)I"⟩, 4) := ⟨⟨by decide +kernel, by decide +kernel⟩, List.mem_of_getElem? (i := 87) (by decide +kernel), List.mem_of_getElem? (i := 353) (by decide +kernel), List.mem_of_getElem? (i := 354) (by decide +kernel)⟩
theorem lw_p4 : lw_okq (⟨"ContextMix", "isFull", "()Z"⟩, 10) := ⟨⟨by decide +kernel, by decide +kernel⟩, List.mem_of_getElem? (i := 23) (by decide +kernel), List.mem_of_getElem? (i := 374) (by decide +kernel), List.mem_of_getElem? (i := 375) (by decide +kernel)⟩
theorem lw_p5 : lw_okq (⟨"ContextMix", "writeBit", "(Z)V"⟩, 10) := ⟨⟨by decide +kernel, by decide +kernel⟩, List.mem_of_getElem? (i := 23) (by decide +kernel), List.mem_of_getElem? (i := 378) (by decide +kernel), List.mem_of_getElem? (i := 379) (by decide +kernel)⟩
theorem lw_p6 : lw_okq (⟨"ContextMix", "beginReading", "()V"⟩, 10) := ⟨⟨by decide +kernel, by decide +kernel⟩, List.mem_of_getElem? (i := 23) (by decide +kernel), List.mem_of_getElem? (i := 499) (by decide +kernel), List.mem_of_getElem? (i := 500) (by decide +kernel)⟩
theorem lw_p7 : lw_okq (⟨"ContextMix", "takeByte", "()V"⟩, 10) := ⟨⟨by decide +kernel, by decide +kernel⟩, List.mem_of_getElem? (i := 23) (by decide +kernel), List.mem_of_getElem? (i := 507) (by decide +kernel), List.mem_of_getElem? (i := 508) (by decide +kernel)⟩
theorem lw_p8 : lw_okq (⟨"ContextMix", "readBit", "()Z"⟩, 10) := ⟨⟨by decide +kernel, by decide +kernel⟩, List.mem_of_getElem? (i := 23) (by decide +kernel), List.mem_of_getElem? (i := 525) (by decide +kernel), List.mem_of_getElem? (i := 526) (by decide +kernel)⟩
theorem lw_p9 : lw_okq (⟨"ContextMix", "sideOf", "(I)LContextMix$Side;"⟩, 10) := ⟨⟨by decide +kernel, by decide +kernel⟩, List.mem_of_getElem? (i := 23) (by decide +kernel), List.mem_of_getElem? (i := 573) (by decide +kernel), List.mem_of_getElem? (i := 574) (by decide +kernel)⟩
theorem lw_p10 : lw_okq (⟨"java/lang/Throwable", "fillInStackTrace", "(I)Ljava/lang/Throwable;"⟩, 6) := ⟨⟨by decide +kernel, by decide +kernel⟩, List.mem_of_getElem? (i := 676) (by decide +kernel), List.mem_of_getElem? (i := 674) (by decide +kernel), List.mem_of_getElem? (i := 675) (by decide +kernel)⟩
theorem lw_p11 : lw_okq (⟨"ContextMixModel", "freshAll", "()V"⟩, 32) := ⟨⟨by decide +kernel, by decide +kernel⟩, List.mem_of_getElem? (i := 729) (by decide +kernel), List.mem_of_getElem? (i := 740) (by decide +kernel), List.mem_of_getElem? (i := 741) (by decide +kernel)⟩
theorem lw_p12 : lw_okq (⟨"ContextMixModel", "fresh", "(I)V"⟩, 32) := ⟨⟨by decide +kernel, by decide +kernel⟩, List.mem_of_getElem? (i := 729) (by decide +kernel), List.mem_of_getElem? (i := 744) (by decide +kernel), List.mem_of_getElem? (i := 745) (by decide +kernel)⟩
theorem lw_p13 : lw_okq (⟨"ContextMixModel", "byteBegins", "(IZ)V"⟩, 32) := ⟨⟨by decide +kernel, by decide +kernel⟩, List.mem_of_getElem? (i := 729) (by decide +kernel), List.mem_of_getElem? (i := 753) (by decide +kernel), List.mem_of_getElem? (i := 754) (by decide +kernel)⟩
theorem lw_p14 : lw_okq (⟨"ContextMixModel", "contextOf", "(II)I"⟩, 32) := ⟨⟨by decide +kernel, by decide +kernel⟩, List.mem_of_getElem? (i := 729) (by decide +kernel), List.mem_of_getElem? (i := 757) (by decide +kernel), List.mem_of_getElem? (i := 758) (by decide +kernel)⟩
theorem lw_p15 : lw_okq (⟨"ContextMixModel", "latest", "(II)I"⟩, 32) := ⟨⟨by decide +kernel, by decide +kernel⟩, List.mem_of_getElem? (i := 729) (by decide +kernel), List.mem_of_getElem? (i := 767) (by decide +kernel), List.mem_of_getElem? (i := 768) (by decide +kernel)⟩
def lw_privs_1 : List (MethodName × Nat) := [(⟨"ContextMix$History", "latestContext", "(I)I"⟩, 4), (⟨"ContextMix$History", "wordContext", "()I"⟩, 4), (⟨"ContextMix$History", "columnContext", "(I)I"⟩, 4), (⟨"ContextMix$History", "apartContext", "(I)I"⟩, 4), (⟨"ContextMix", "isFull", "()Z"⟩, 10), (⟨"ContextMix", "writeBit", "(Z)V"⟩, 10), (⟨"ContextMix", "beginReading", "()V"⟩, 10), (⟨"ContextMix", "takeByte", "()V"⟩, 10), (⟨"ContextMix", "readBit", "()Z"⟩, 10), (⟨"ContextMix", "sideOf", "(I)LContextMix$Side;"⟩, 10), (⟨"java/lang/Throwable", "fillInStackTrace", "(I)Ljava/lang/Throwable;"⟩, 6), (⟨"ContextMixModel", "freshAll", "()V"⟩, 32), (⟨"ContextMixModel", "fresh", "(I)V"⟩, 32), (⟨"ContextMixModel", "byteBegins", "(IZ)V"⟩, 32), (⟨"ContextMixModel", "contextOf", "(II)I"⟩, 32), (⟨"ContextMixModel", "latest", "(II)I"⟩, 32)]
theorem lw_r1 : ∀ q ∈ lw_privs_1, lw_okq q := List.forall_mem_cons.mpr ⟨lw_p0, List.forall_mem_cons.mpr ⟨lw_p1, List.forall_mem_cons.mpr ⟨lw_p2, List.forall_mem_cons.mpr ⟨lw_p3, List.forall_mem_cons.mpr ⟨lw_p4, List.forall_mem_cons.mpr ⟨lw_p5, List.forall_mem_cons.mpr ⟨lw_p6, List.forall_mem_cons.mpr ⟨lw_p7, List.forall_mem_cons.mpr ⟨lw_p8, List.forall_mem_cons.mpr ⟨lw_p9, List.forall_mem_cons.mpr ⟨lw_p10, List.forall_mem_cons.mpr ⟨lw_p11, List.forall_mem_cons.mpr ⟨lw_p12, List.forall_mem_cons.mpr ⟨lw_p13, List.forall_mem_cons.mpr ⟨lw_p14, List.forall_mem_cons.mpr ⟨lw_p15, fun _ h => absurd h List.not_mem_nil⟩⟩⟩⟩⟩⟩⟩⟩⟩⟩⟩⟩⟩⟩⟩⟩
theorem lw_p16 : lw_okq (⟨"ContextMixModel", "match", "(IIZ)V"⟩, 32) := ⟨⟨by decide +kernel, by decide +kernel⟩, List.mem_of_getElem? (i := 729) (by decide +kernel), List.mem_of_getElem? (i := 774) (by decide +kernel), List.mem_of_getElem? (i := 775) (by decide +kernel)⟩
theorem lw_p17 : lw_okq (⟨"ContextMixModel", "hasWritten", "()Z"⟩, 32) := ⟨⟨by decide +kernel, by decide +kernel⟩, List.mem_of_getElem? (i := 729) (by decide +kernel), List.mem_of_getElem? (i := 892) (by decide +kernel), List.mem_of_getElem? (i := 893) (by decide +kernel)⟩
theorem lw_p18 : lw_okq (⟨"ContextMixModel", "isFull", "()Z"⟩, 32) := ⟨⟨by decide +kernel, by decide +kernel⟩, List.mem_of_getElem? (i := 729) (by decide +kernel), List.mem_of_getElem? (i := 904) (by decide +kernel), List.mem_of_getElem? (i := 905) (by decide +kernel)⟩
theorem lw_p19 : lw_okq (⟨"ContextMixModel", "writeBit", "(I)V"⟩, 32) := ⟨⟨by decide +kernel, by decide +kernel⟩, List.mem_of_getElem? (i := 729) (by decide +kernel), List.mem_of_getElem? (i := 908) (by decide +kernel), List.mem_of_getElem? (i := 909) (by decide +kernel)⟩
theorem lw_p20 : lw_okq (⟨"ContextMixModel", "work", "(I)V"⟩, 32) := ⟨⟨by decide +kernel, by decide +kernel⟩, List.mem_of_getElem? (i := 729) (by decide +kernel), List.mem_of_getElem? (i := 912) (by decide +kernel), List.mem_of_getElem? (i := 913) (by decide +kernel)⟩
theorem lw_p21 : lw_okq (⟨"ContextMixModel", "inputOf", "(II)I"⟩, 32) := ⟨⟨by decide +kernel, by decide +kernel⟩, List.mem_of_getElem? (i := 729) (by decide +kernel), List.mem_of_getElem? (i := 916) (by decide +kernel), List.mem_of_getElem? (i := 917) (by decide +kernel)⟩
theorem lw_p22 : lw_okq (⟨"ContextMixModel", "slotOf", "(II)I"⟩, 32) := ⟨⟨by decide +kernel, by decide +kernel⟩, List.mem_of_getElem? (i := 729) (by decide +kernel), List.mem_of_getElem? (i := 920) (by decide +kernel), List.mem_of_getElem? (i := 921) (by decide +kernel)⟩
theorem lw_p23 : lw_okq (⟨"ContextMixModel", "bitsDone", "(I)I"⟩, 32) := ⟨⟨by decide +kernel, by decide +kernel⟩, List.mem_of_getElem? (i := 729) (by decide +kernel), List.mem_of_getElem? (i := 924) (by decide +kernel), List.mem_of_getElem? (i := 925) (by decide +kernel)⟩
theorem lw_p24 : lw_okq (⟨"ContextMixModel", "told", "(III)I"⟩, 32) := ⟨⟨by decide +kernel, by decide +kernel⟩, List.mem_of_getElem? (i := 729) (by decide +kernel), List.mem_of_getElem? (i := 928) (by decide +kernel), List.mem_of_getElem? (i := 929) (by decide +kernel)⟩
theorem lw_p25 : lw_okq (⟨"ContextMixModel", "learn", "(II)V"⟩, 32) := ⟨⟨by decide +kernel, by decide +kernel⟩, List.mem_of_getElem? (i := 729) (by decide +kernel), List.mem_of_getElem? (i := 939) (by decide +kernel), List.mem_of_getElem? (i := 940) (by decide +kernel)⟩
theorem lw_p26 : lw_okq (⟨"ContextMixModel", "loadX", "()V"⟩, 32) := ⟨⟨by decide +kernel, by decide +kernel⟩, List.mem_of_getElem? (i := 729) (by decide +kernel), List.mem_of_getElem? (i := 955) (by decide +kernel), List.mem_of_getElem? (i := 956) (by decide +kernel)⟩
theorem lw_p27 : lw_okq (⟨"ContextMixModel", "nextOut", "()I"⟩, 32) := ⟨⟨by decide +kernel, by decide +kernel⟩, List.mem_of_getElem? (i := 729) (by decide +kernel), List.mem_of_getElem? (i := 959) (by decide +kernel), List.mem_of_getElem? (i := 960) (by decide +kernel)⟩
theorem lw_p28 : lw_okq (⟨"ContextMixModel", "firstLength", "()I"⟩, 32) := ⟨⟨by decide +kernel, by decide +kernel⟩, List.mem_of_getElem? (i := 729) (by decide +kernel), List.mem_of_getElem? (i := 1020) (by decide +kernel), List.mem_of_getElem? (i := 1021) (by decide +kernel)⟩
def lw_privs_2 : List (MethodName × Nat) := [(⟨"ContextMixModel", "match", "(IIZ)V"⟩, 32), (⟨"ContextMixModel", "hasWritten", "()Z"⟩, 32), (⟨"ContextMixModel", "isFull", "()Z"⟩, 32), (⟨"ContextMixModel", "writeBit", "(I)V"⟩, 32), (⟨"ContextMixModel", "work", "(I)V"⟩, 32), (⟨"ContextMixModel", "inputOf", "(II)I"⟩, 32), (⟨"ContextMixModel", "slotOf", "(II)I"⟩, 32), (⟨"ContextMixModel", "bitsDone", "(I)I"⟩, 32), (⟨"ContextMixModel", "told", "(III)I"⟩, 32), (⟨"ContextMixModel", "learn", "(II)V"⟩, 32), (⟨"ContextMixModel", "loadX", "()V"⟩, 32), (⟨"ContextMixModel", "nextOut", "()I"⟩, 32), (⟨"ContextMixModel", "firstLength", "()I"⟩, 32)]
theorem lw_r2 : ∀ q ∈ lw_privs_2, lw_okq q := List.forall_mem_cons.mpr ⟨lw_p16, List.forall_mem_cons.mpr ⟨lw_p17, List.forall_mem_cons.mpr ⟨lw_p18, List.forall_mem_cons.mpr ⟨lw_p19, List.forall_mem_cons.mpr ⟨lw_p20, List.forall_mem_cons.mpr ⟨lw_p21, List.forall_mem_cons.mpr ⟨lw_p22, List.forall_mem_cons.mpr ⟨lw_p23, List.forall_mem_cons.mpr ⟨lw_p24, List.forall_mem_cons.mpr ⟨lw_p25, List.forall_mem_cons.mpr ⟨lw_p26, List.forall_mem_cons.mpr ⟨lw_p27, List.forall_mem_cons.mpr ⟨lw_p28, fun _ h => absurd h List.not_mem_nil⟩⟩⟩⟩⟩⟩⟩⟩⟩⟩⟩⟩⟩
def lw_privs : List (MethodName × Nat) := lw_privs_1 ++ (lw_privs_2)
def lw_tbl : List Cond := k2_sels lw_privs ++ tables_1
theorem lw_privs_ok : ∀ q ∈ lw_privs, lw_okq q := by
  show ∀ q ∈ lw_privs_1 ++ (lw_privs_2), lw_okq q
  exact List.forall_mem_append.mpr ⟨lw_r1, lw_r2⟩
abbrev RX0 : String := "ContextMix$Coder"
def TX0 : u_T := fun k => match k with
  | 0 => ("ContextMix$Coder", "low", "J", false)
  | _ => ("ContextMix$Coder", "high", "J", false)
def tyX0 : Nat → FieldType := fun k => match k with
  | 0 => .long
  | _ => .long
theorem nmX0 : ∀ a, a < 2 → ∀ b, b < 2 → a ≠ b → (TX0 a).2.1 ≠ (TX0 b).2.1 := by decide +kernel
theorem tyX0_ok : ∀ k, k < 2 → parseFieldDescriptor (TX0 k).2.2.1 = some (tyX0 k) := by decide +kernel
abbrev RX1 : String := "ContextMix$Corrections"
def TX1 : u_T := fun k => match k with
  | 0 => ("ContextMix$Corrections", "cells", "[I", true)
  | _ => ("ContextMix$Corrections", "nearest", "I", false)
def tyX1 : Nat → FieldType := fun k => match k with
  | 0 => .array .int
  | _ => .int
theorem nmX1 : ∀ a, a < 2 → ∀ b, b < 2 → a ≠ b → (TX1 a).2.1 ≠ (TX1 b).2.1 := by decide +kernel
theorem tyX1_ok : ∀ k, k < 2 → parseFieldDescriptor (TX1 k).2.2.1 = some (tyX1 k) := by decide +kernel
abbrev RX2 : String := "ContextMix$History"
def TX2 : u_T := fun k => match k with
  | 0 => ("ContextMix$History", "bytes", "[I", true)
  | 1 => ("ContextMix$History", "size", "I", false)
  | 2 => ("ContextMix$History", "node", "I", false)
  | _ => ("ContextMix$History", "bitsGoing", "I", false)
def tyX2 : Nat → FieldType := fun k => match k with
  | 0 => .array .int
  | 1 => .int
  | 2 => .int
  | _ => .int
theorem nmX2 : ∀ a, a < 4 → ∀ b, b < 4 → a ≠ b → (TX2 a).2.1 ≠ (TX2 b).2.1 := by decide +kernel
theorem tyX2_ok : ∀ k, k < 4 → parseFieldDescriptor (TX2 k).2.2.1 = some (tyX2 k) := by decide +kernel
abbrev RX3 : String := "ContextMix$Match"
def TX3 : u_T := fun k => match k with
  | 0 => ("ContextMix$Match", "place", "I", false)
  | _ => ("ContextMix$Match", "length", "I", false)
def tyX3 : Nat → FieldType := fun k => match k with
  | 0 => .int
  | _ => .int
theorem nmX3 : ∀ a, a < 2 → ∀ b, b < 2 → a ≠ b → (TX3 a).2.1 ≠ (TX3 b).2.1 := by decide +kernel
theorem tyX3_ok : ∀ k, k < 2 → parseFieldDescriptor (TX3 k).2.2.1 = some (tyX3 k) := by decide +kernel
abbrev RX4 : String := "ContextMix$Mixer"
def TX4 : u_T := fun k => match k with
  | 0 => ("ContextMix$Mixer", "weights", "[I", true)
  | 1 => ("ContextMix$Mixer", "row", "I", false)
  | _ => ("ContextMix$Mixer", "told", "I", false)
def tyX4 : Nat → FieldType := fun k => match k with
  | 0 => .array .int
  | 1 => .int
  | _ => .int
theorem nmX4 : ∀ a, a < 3 → ∀ b, b < 3 → a ≠ b → (TX4 a).2.1 ≠ (TX4 b).2.1 := by decide +kernel
theorem tyX4_ok : ∀ k, k < 3 → parseFieldDescriptor (TX4 k).2.2.1 = some (tyX4 k) := by decide +kernel
abbrev RX5 : String := "ContextMix$Numbers"
def TX5 : u_T := fun k => match k with
  | _ => ("ContextMix$Numbers", "stretches", "[I", true)
def tyX5 : Nat → FieldType := fun k => match k with
  | _ => .array .int
theorem nmX5 : ∀ a, a < 1 → ∀ b, b < 1 → a ≠ b → (TX5 a).2.1 ≠ (TX5 b).2.1 := by decide +kernel
theorem tyX5_ok : ∀ k, k < 1 → parseFieldDescriptor (TX5 k).2.2.1 = some (tyX5 k) := by decide +kernel
abbrev RX6 : String := "ContextMix$Output"
def TX6 : u_T := fun k => match k with
  | 0 => ("ContextMix$Output", "bytes", "[I", true)
  | _ => ("ContextMix$Output", "size", "I", false)
def tyX6 : Nat → FieldType := fun k => match k with
  | 0 => .array .int
  | _ => .int
theorem nmX6 : ∀ a, a < 2 → ∀ b, b < 2 → a ≠ b → (TX6 a).2.1 ≠ (TX6 b).2.1 := by decide +kernel
theorem tyX6_ok : ∀ k, k < 2 → parseFieldDescriptor (TX6 k).2.2.1 = some (tyX6 k) := by decide +kernel
abbrev RX7 : String := "ContextMix$Predictors"
def TX7 : u_T := fun k => match k with
  | 0 => ("ContextMix$Predictors", "kinds", "[I", true)
  | 1 => ("ContextMix$Predictors", "ns", "[I", true)
  | 2 => ("ContextMix$Predictors", "offs", "[Z", true)
  | _ => ("ContextMix$Predictors", "size", "I", false)
def tyX7 : Nat → FieldType := fun k => match k with
  | 0 => .array .int
  | 1 => .array .int
  | 2 => .array .boolean
  | _ => .int
theorem nmX7 : ∀ a, a < 4 → ∀ b, b < 4 → a ≠ b → (TX7 a).2.1 ≠ (TX7 b).2.1 := by decide +kernel
theorem tyX7_ok : ∀ k, k < 4 → parseFieldDescriptor (TX7 k).2.2.1 = some (tyX7 k) := by decide +kernel
abbrev RX8 : String := "ContextMix$Side"
def TX8 : u_T := fun k => match k with
  | 0 => ("ContextMix$Side", "predictors", "LContextMix$Predictors;", true)
  | 1 => ("ContextMix$Side", "numbers", "LContextMix$Numbers;", true)
  | 2 => ("ContextMix$Side", "history", "LContextMix$History;", true)
  | 3 => ("ContextMix$Side", "slots", "LContextMix$Slots;", true)
  | 4 => ("ContextMix$Side", "byNode", "LContextMix$Mixer;", true)
  | 5 => ("ContextMix$Side", "byLatest", "LContextMix$Mixer;", true)
  | 6 => ("ContextMix$Side", "corrections", "LContextMix$Corrections;", true)
  | 7 => ("ContextMix$Side", "matches", "[LContextMix$Match;", true)
  | 8 => ("ContextMix$Side", "contexts", "[I", true)
  | _ => ("ContextMix$Side", "inputs", "[I", true)
def tyX8 : Nat → FieldType := fun k => match k with
  | 0 => .object "ContextMix$Predictors"
  | 1 => .object "ContextMix$Numbers"
  | 2 => .object "ContextMix$History"
  | 3 => .object "ContextMix$Slots"
  | 4 => .object "ContextMix$Mixer"
  | 5 => .object "ContextMix$Mixer"
  | 6 => .object "ContextMix$Corrections"
  | 7 => .array (.object "ContextMix$Match")
  | 8 => .array .int
  | _ => .array .int
theorem nmX8 : ∀ a, a < 10 → ∀ b, b < 10 → a ≠ b → (TX8 a).2.1 ≠ (TX8 b).2.1 := by decide +kernel
theorem tyX8_ok : ∀ k, k < 10 → parseFieldDescriptor (TX8 k).2.2.1 = some (tyX8 k) := by decide +kernel
abbrev RX9 : String := "ContextMix$Slots"
def TX9 : u_T := fun k => match k with
  | 0 => ("ContextMix$Slots", "chances", "[I", true)
  | _ => ("ContextMix$Slots", "counts", "[I", true)
def tyX9 : Nat → FieldType := fun k => match k with
  | 0 => .array .int
  | _ => .array .int
theorem nmX9 : ∀ a, a < 2 → ∀ b, b < 2 → a ≠ b → (TX9 a).2.1 ≠ (TX9 b).2.1 := by decide +kernel
theorem tyX9_ok : ∀ k, k < 2 → parseFieldDescriptor (TX9 k).2.2.1 = some (tyX9 k) := by decide +kernel
abbrev RX10 : String := "ContextMix"
def TX10 : u_T := fun k => match k with
  | 0 => ("ContextMix", "numbers", "LContextMix$Numbers;", true)
  | 1 => ("ContextMix", "predictors", "LContextMix$Predictors;", true)
  | 2 => ("ContextMix", "writer", "LContextMix$Side;", true)
  | 3 => ("ContextMix", "reader", "LContextMix$Side;", true)
  | 4 => ("ContextMix", "output", "LContextMix$Output;", true)
  | 5 => ("ContextMix", "writing", "LContextMix$Coder;", true)
  | 6 => ("ContextMix", "reading", "LContextMix$Coder;", true)
  | 7 => ("ContextMix", "code", "J", false)
  | 8 => ("ContextMix", "codePlace", "I", false)
  | _ => ("ContextMix", "ended", "Z", false)
def tyX10 : Nat → FieldType := fun k => match k with
  | 0 => .object "ContextMix$Numbers"
  | 1 => .object "ContextMix$Predictors"
  | 2 => .object "ContextMix$Side"
  | 3 => .object "ContextMix$Side"
  | 4 => .object "ContextMix$Output"
  | 5 => .object "ContextMix$Coder"
  | 6 => .object "ContextMix$Coder"
  | 7 => .long
  | 8 => .int
  | _ => .boolean
theorem nmX10 : ∀ a, a < 10 → ∀ b, b < 10 → a ≠ b → (TX10 a).2.1 ≠ (TX10 b).2.1 := by decide +kernel
theorem tyX10_ok : ∀ k, k < 10 → parseFieldDescriptor (TX10 k).2.2.1 = some (tyX10 k) := by decide +kernel
abbrev RX11 : String := "ContextMixModel"
def TX11 : u_T := fun k => match k with
  | 0 => ("ContextMixModel", "room", "I", true)
  | 1 => ("ContextMixModel", "stretched", "[I", true)
  | 2 => ("ContextMixModel", "thrown", "I", false)
  | 3 => ("ContextMixModel", "many", "I", false)
  | 4 => ("ContextMixModel", "kind", "[I", true)
  | 5 => ("ContextMixModel", "size", "[I", true)
  | 6 => ("ContextMixModel", "isOff", "[Z", true)
  | 7 => ("ContextMixModel", "bytes", "[I", true)
  | 8 => ("ContextMixModel", "went", "[I", true)
  | 9 => ("ContextMixModel", "node", "[I", true)
  | 10 => ("ContextMixModel", "context", "[I", true)
  | 11 => ("ContextMixModel", "points", "[I", true)
  | 12 => ("ContextMixModel", "length", "[I", true)
  | 13 => ("ContextMixModel", "slotChance", "[I", true)
  | 14 => ("ContextMixModel", "slotSeen", "[I", true)
  | 15 => ("ContextMixModel", "weights", "[I", true)
  | 16 => ("ContextMixModel", "cells", "[I", true)
  | 17 => ("ContextMixModel", "low", "[J", true)
  | 18 => ("ContextMixModel", "high", "[J", true)
  | 19 => ("ContextMixModel", "out", "[I", true)
  | 20 => ("ContextMixModel", "outSize", "I", false)
  | 21 => ("ContextMixModel", "bitsOf", "I", false)
  | 22 => ("ContextMixModel", "isEnded", "Z", false)
  | 23 => ("ContextMixModel", "x", "J", false)
  | 24 => ("ContextMixModel", "readAt", "I", false)
  | 25 => ("ContextMixModel", "inputs", "[I", true)
  | 26 => ("ContextMixModel", "told0", "I", false)
  | 27 => ("ContextMixModel", "told1", "I", false)
  | 28 => ("ContextMixModel", "set1", "I", false)
  | 29 => ("ContextMixModel", "cellAt", "I", false)
  | 30 => ("ContextMixModel", "cellPart", "I", false)
  | _ => ("ContextMixModel", "chanceNow", "I", false)
def tyX11 : Nat → FieldType := fun k => match k with
  | 0 => .int
  | 1 => .array .int
  | 2 => .int
  | 3 => .int
  | 4 => .array .int
  | 5 => .array .int
  | 6 => .array .boolean
  | 7 => .array .int
  | 8 => .array .int
  | 9 => .array .int
  | 10 => .array .int
  | 11 => .array .int
  | 12 => .array .int
  | 13 => .array .int
  | 14 => .array .int
  | 15 => .array .int
  | 16 => .array .int
  | 17 => .array .long
  | 18 => .array .long
  | 19 => .array .int
  | 20 => .int
  | 21 => .int
  | 22 => .boolean
  | 23 => .long
  | 24 => .int
  | 25 => .array .int
  | 26 => .int
  | 27 => .int
  | 28 => .int
  | 29 => .int
  | 30 => .int
  | _ => .int
theorem nmX11 : ∀ a, a < 32 → ∀ b, b < 32 → a ≠ b → (TX11 a).2.1 ≠ (TX11 b).2.1 := by decide +kernel
theorem tyX11_ok : ∀ k, k < 32 → parseFieldDescriptor (TX11 k).2.2.1 = some (tyX11 k) := by decide +kernel
abbrev RJ7 : String := "java/util/Arrays"
abbrev RJ9 : String := "java/lang/Math"
abbrev RJx00060 : String := "java/lang/ArrayIndexOutOfBoundsException"
abbrev RL : String := "ContextMixLaw"
abbrev cX0_init : ByteArray := prog_2_method_1_code
abbrev yX0_init : MethodName := ⟨RX0, "<init>", "()V"⟩
abbrev cX0_reset : ByteArray := prog_2_method_2_code
abbrev yX0_reset : MethodName := ⟨RX0, "reset", "()V"⟩
abbrev cX0_middle : ByteArray := prog_2_method_3_code
abbrev yX0_middle : MethodName := ⟨RX0, "middle", "(I)J"⟩
abbrev cX0_narrow : ByteArray := prog_2_method_4_code
abbrev yX0_narrow : MethodName := ⟨RX0, "narrow", "(ZJ)V"⟩
abbrev cX0_settled : ByteArray := prog_2_method_5_code
abbrev yX0_settled : MethodName := ⟨RX0, "settled", "()Z"⟩
abbrev cX0_highestOfLow : ByteArray := prog_2_method_6_code
abbrev yX0_highestOfLow : MethodName := ⟨RX0, "highestOfLow", "()I"⟩
abbrev cX0_shift : ByteArray := prog_2_method_7_code
abbrev yX0_shift : MethodName := ⟨RX0, "shift", "()V"⟩
abbrev cX1_init : ByteArray := prog_3_method_1_code
abbrev yX1_init : MethodName := ⟨RX1, "<init>", "()V"⟩
abbrev cX1_reset : ByteArray := prog_3_method_2_code
abbrev yX1_reset : MethodName := ⟨RX1, "reset", "()V"⟩
abbrev cX1_fill : ByteArray := prog_3_method_3_code
abbrev yX1_fill : MethodName := ⟨RX1, "fill", "([I)V"⟩
abbrev cX1_has : ByteArray := prog_3_method_4_code
abbrev yX1_has : MethodName := ⟨RX1, "has", "(II)Z"⟩
abbrev cX1_cellAt : ByteArray := prog_3_method_5_code
abbrev yX1_cellAt : MethodName := ⟨RX1, "cellAt", "(II)I"⟩
abbrev cX1_correct : ByteArray := prog_3_method_6_code
abbrev yX1_correct : MethodName := ⟨RX1, "correct", "(II)I"⟩
abbrev cX1_learn : ByteArray := prog_3_method_7_code
abbrev yX1_learn : MethodName := ⟨RX1, "learn", "(Z)V"⟩
abbrev cX2_init : ByteArray := prog_4_method_1_code
abbrev yX2_init : MethodName := ⟨RX2, "<init>", "()V"⟩
abbrev cX2_reset : ByteArray := prog_4_method_2_code
abbrev yX2_reset : MethodName := ⟨RX2, "reset", "()V"⟩
abbrev cX2_begun : ByteArray := prog_4_method_3_code
abbrev yX2_begun : MethodName := ⟨RX2, "begun", "()Z"⟩
abbrev cX2_byteAt : ByteArray := prog_4_method_4_code
abbrev yX2_byteAt : MethodName := ⟨RX2, "byteAt", "(I)I"⟩
abbrev cX2_back : ByteArray := prog_4_method_5_code
abbrev yX2_back : MethodName := ⟨RX2, "back", "(I)I"⟩
abbrev cX2_add : ByteArray := prog_4_method_6_code
abbrev yX2_add : MethodName := ⟨RX2, "add", "(Z)Z"⟩
abbrev cX2_contextOf : ByteArray := prog_4_method_7_code
abbrev yX2_contextOf : MethodName := ⟨RX2, "contextOf", "(II)I"⟩
abbrev cX2_latestContext : ByteArray := prog_4_method_8_code
abbrev yX2_latestContext : MethodName := ⟨RX2, "latestContext", "(I)I"⟩
abbrev cX2_wordContext : ByteArray := prog_4_method_9_code
abbrev yX2_wordContext : MethodName := ⟨RX2, "wordContext", "()I"⟩
abbrev cX2_columnContext : ByteArray := prog_4_method_10_code
abbrev yX2_columnContext : MethodName := ⟨RX2, "columnContext", "(I)I"⟩
abbrev cX2_apartContext : ByteArray := prog_4_method_11_code
abbrev yX2_apartContext : MethodName := ⟨RX2, "apartContext", "(I)I"⟩
abbrev cX2_sameBefore : ByteArray := prog_4_method_12_code
abbrev yX2_sameBefore : MethodName := ⟨RX2, "sameBefore", "(II)Z"⟩
abbrev cX2_sameAs : ByteArray := prog_4_method_13_code
abbrev yX2_sameAs : MethodName := ⟨RX2, "sameAs", "(LContextMix$History;)Z"⟩
abbrev cX2_isLetter : ByteArray := prog_4_method_14_code
abbrev yX2_isLetter : MethodName := ⟨RX2, "isLetter", "(I)Z"⟩
abbrev cX3_init : ByteArray := prog_5_method_1_code
abbrev yX3_init : MethodName := ⟨RX3, "<init>", "()V"⟩
abbrev cX3_follow : ByteArray := prog_5_method_2_code
abbrev yX3_follow : MethodName := ⟨RX3, "follow", "(LContextMix$History;)V"⟩
abbrev cX3_find : ByteArray := prog_5_method_3_code
abbrev yX3_find : MethodName := ⟨RX3, "find", "(LContextMix$History;I)V"⟩
abbrev cX3_told : ByteArray := prog_5_method_4_code
abbrev yX3_told : MethodName := ⟨RX3, "told", "(LContextMix$History;)I"⟩
abbrev cX4_init : ByteArray := prog_6_method_1_code
abbrev yX4_init : MethodName := ⟨RX4, "<init>", "()V"⟩
abbrev cX4_reset : ByteArray := prog_6_method_2_code
abbrev yX4_reset : MethodName := ⟨RX4, "reset", "()V"⟩
abbrev cX4_fill : ByteArray := prog_6_method_3_code
abbrev yX4_fill : MethodName := ⟨RX4, "fill", "([I)V"⟩
abbrev cX4_weightAt : ByteArray := prog_6_method_4_code
abbrev yX4_weightAt : MethodName := ⟨RX4, "weightAt", "(II)I"⟩
abbrev cX4_tell : ByteArray := prog_6_method_5_code
abbrev yX4_tell : MethodName := ⟨RX4, "tell", "(I[I)I"⟩
abbrev cX4_learn : ByteArray := prog_6_method_6_code
abbrev yX4_learn : MethodName := ⟨RX4, "learn", "(Z[I)V"⟩
abbrev cX5_init : ByteArray := prog_7_method_1_code
abbrev yX5_init : MethodName := ⟨RX5, "<init>", "()V"⟩
abbrev cX5_stretched : ByteArray := prog_7_method_2_code
abbrev yX5_stretched : MethodName := ⟨RX5, "stretched", "(I)I"⟩
abbrev cX5_squashed : ByteArray := prog_7_method_3_code
abbrev yX5_squashed : MethodName := ⟨RX5, "squashed", "(I)I"⟩
abbrev cX5_hash : ByteArray := prog_7_method_4_code
abbrev yX5_hash : MethodName := ⟨RX5, "hash", "(II)I"⟩
abbrev cX5_bound : ByteArray := prog_7_method_5_code
abbrev yX5_bound : MethodName := ⟨RX5, "bound", "(III)I"⟩
abbrev cX5_same : ByteArray := prog_7_method_6_code
abbrev yX5_same : MethodName := ⟨RX5, "same", "([I[I)Z"⟩
abbrev cX6_init : ByteArray := prog_8_method_1_code
abbrev yX6_init : MethodName := ⟨RX6, "<init>", "()V"⟩
abbrev cX6_has : ByteArray := prog_8_method_2_code
abbrev yX6_has : MethodName := ⟨RX6, "has", "(I)Z"⟩
abbrev cX6_byteAt : ByteArray := prog_8_method_3_code
abbrev yX6_byteAt : MethodName := ⟨RX6, "byteAt", "(I)I"⟩
abbrev cX6_add : ByteArray := prog_8_method_4_code
abbrev yX6_add : MethodName := ⟨RX6, "add", "(I)V"⟩
abbrev cX6_flip : ByteArray := prog_8_method_5_code
abbrev yX6_flip : MethodName := ⟨RX6, "flip", "(II)V"⟩
abbrev cX7_init : ByteArray := prog_9_method_1_code
abbrev yX7_init : MethodName := ⟨RX7, "<init>", "()V"⟩
abbrev cX7_allows : ByteArray := prog_9_method_2_code
abbrev yX7_allows : MethodName := ⟨RX7, "allows", "(II)Z"⟩
abbrev cX7_has : ByteArray := prog_9_method_3_code
abbrev yX7_has : MethodName := ⟨RX7, "has", "(I)Z"⟩
abbrev cX7_add : ByteArray := prog_9_method_4_code
abbrev yX7_add : MethodName := ⟨RX7, "add", "(II)I"⟩
abbrev cX7_turnOff : ByteArray := prog_9_method_5_code
abbrev yX7_turnOff : MethodName := ⟨RX7, "turnOff", "(I)Z"⟩
abbrev cX8_init : ByteArray := prog_10_method_1_code
abbrev yX8_init : MethodName := ⟨RX8, "<init>", "(ILContextMix$Predictors;LContextMix$Numbers;)V"⟩
abbrev cX8_reset : ByteArray := prog_10_method_2_code
abbrev yX8_reset : MethodName := ⟨RX8, "reset", "()V"⟩
abbrev cX8_beginByte : ByteArray := prog_10_method_3_code
abbrev yX8_beginByte : MethodName := ⟨RX8, "beginByte", "()V"⟩
abbrev cX8_inputOf : ByteArray := prog_10_method_4_code
abbrev yX8_inputOf : MethodName := ⟨RX8, "inputOf", "(I)I"⟩
abbrev cX8_foretell : ByteArray := prog_10_method_5_code
abbrev yX8_foretell : MethodName := ⟨RX8, "foretell", "()I"⟩
abbrev cX8_learn : ByteArray := prog_10_method_6_code
abbrev yX8_learn : MethodName := ⟨RX8, "learn", "(Z)V"⟩
abbrev cX8_firstMatchLength : ByteArray := prog_10_method_7_code
abbrev yX8_firstMatchLength : MethodName := ⟨RX8, "firstMatchLength", "()I"⟩
abbrev cX8_sameAs : ByteArray := prog_10_method_8_code
abbrev yX8_sameAs : MethodName := ⟨RX8, "sameAs", "(LContextMix$Side;)Z"⟩
abbrev cX9_init : ByteArray := prog_11_method_1_code
abbrev yX9_init : MethodName := ⟨RX9, "<init>", "(I)V"⟩
abbrev cX9_reset : ByteArray := prog_11_method_2_code
abbrev yX9_reset : MethodName := ⟨RX9, "reset", "()V"⟩
abbrev cX9_has : ByteArray := prog_11_method_3_code
abbrev yX9_has : MethodName := ⟨RX9, "has", "(I)Z"⟩
abbrev cX9_placeOf : ByteArray := prog_11_method_4_code
abbrev yX9_placeOf : MethodName := ⟨RX9, "placeOf", "(II)I"⟩
abbrev cX9_learn : ByteArray := prog_11_method_5_code
abbrev yX9_learn : MethodName := ⟨RX9, "learn", "(IZ)V"⟩
abbrev cX9_sameAs : ByteArray := prog_11_method_6_code
abbrev yX9_sameAs : MethodName := ⟨RX9, "sameAs", "(LContextMix$Slots;)Z"⟩
abbrev cX10_init : ByteArray := prog_1_method_1_code
abbrev yX10_init : MethodName := ⟨RX10, "<init>", "(I)V"⟩
abbrev cX10_predictor : ByteArray := prog_1_method_2_code
abbrev yX10_predictor : MethodName := ⟨RX10, "predictor", "(II)I"⟩
abbrev cX10_off : ByteArray := prog_1_method_3_code
abbrev yX10_off : MethodName := ⟨RX10, "off", "(I)I"⟩
abbrev cX10_bit : ByteArray := prog_1_method_4_code
abbrev yX10_bit : MethodName := ⟨RX10, "bit", "(Z)I"⟩
abbrev cX10_octet : ByteArray := prog_1_method_5_code
abbrev yX10_octet : MethodName := ⟨RX10, "octet", "(I)I"⟩
abbrev cX10_end : ByteArray := prog_1_method_6_code
abbrev yX10_end : MethodName := ⟨RX10, "end", "()I"⟩
abbrev cX10_get : ByteArray := prog_1_method_7_code
abbrev yX10_get : MethodName := ⟨RX10, "get", "()I"⟩
abbrev cX10_again : ByteArray := prog_1_method_8_code
abbrev yX10_again : MethodName := ⟨RX10, "again", "()I"⟩
abbrev cX10_clear : ByteArray := prog_1_method_9_code
abbrev yX10_clear : MethodName := ⟨RX10, "clear", "()I"⟩
abbrev cX10_out : ByteArray := prog_1_method_10_code
abbrev yX10_out : MethodName := ⟨RX10, "out", "(I)I"⟩
abbrev cX10_spoil : ByteArray := prog_1_method_11_code
abbrev yX10_spoil : MethodName := ⟨RX10, "spoil", "(II)I"⟩
abbrev cX10_chance : ByteArray := prog_1_method_12_code
abbrev yX10_chance : MethodName := ⟨RX10, "chance", "(I)I"⟩
abbrev cX10_input : ByteArray := prog_1_method_13_code
abbrev yX10_input : MethodName := ⟨RX10, "input", "(II)I"⟩
abbrev cX10_weight : ByteArray := prog_1_method_14_code
abbrev yX10_weight : MethodName := ⟨RX10, "weight", "(IIII)I"⟩
abbrev cX10_slot : ByteArray := prog_1_method_15_code
abbrev yX10_slot : MethodName := ⟨RX10, "slot", "(II)I"⟩
abbrev cX10_seen : ByteArray := prog_1_method_16_code
abbrev yX10_seen : MethodName := ⟨RX10, "seen", "(II)I"⟩
abbrev cX10_cell : ByteArray := prog_1_method_17_code
abbrev yX10_cell : MethodName := ⟨RX10, "cell", "(III)I"⟩
abbrev cX10_squash : ByteArray := prog_1_method_18_code
abbrev yX10_squash : MethodName := ⟨RX10, "squash", "(I)I"⟩
abbrev cX10_stretch : ByteArray := prog_1_method_19_code
abbrev yX10_stretch : MethodName := ⟨RX10, "stretch", "(I)I"⟩
abbrev cX10_equal : ByteArray := prog_1_method_20_code
abbrev yX10_equal : MethodName := ⟨RX10, "equal", "()I"⟩
abbrev cX10_count : ByteArray := prog_1_method_21_code
abbrev yX10_count : MethodName := ⟨RX10, "count", "(I)I"⟩
abbrev cX10_sideOf : ByteArray := prog_1_method_22_code
abbrev yX10_sideOf : MethodName := ⟨RX10, "sideOf", "(I)LContextMix$Side;"⟩
abbrev cX10_isFull : ByteArray := prog_1_method_23_code
abbrev yX10_isFull : MethodName := ⟨RX10, "isFull", "()Z"⟩
abbrev cX10_writeBit : ByteArray := prog_1_method_24_code
abbrev yX10_writeBit : MethodName := ⟨RX10, "writeBit", "(Z)V"⟩
abbrev cX10_readBit : ByteArray := prog_1_method_25_code
abbrev yX10_readBit : MethodName := ⟨RX10, "readBit", "()Z"⟩
abbrev cX10_beginReading : ByteArray := prog_1_method_26_code
abbrev yX10_beginReading : MethodName := ⟨RX10, "beginReading", "()V"⟩
abbrev cX10_takeByte : ByteArray := prog_1_method_27_code
abbrev yX10_takeByte : MethodName := ⟨RX10, "takeByte", "()V"⟩
abbrev cX11_init : ByteArray := prog_13_method_1_code
abbrev yX11_init : MethodName := ⟨RX11, "<init>", "(I)V"⟩
abbrev cX11_thrown : ByteArray := prog_13_method_2_code
abbrev yX11_thrown : MethodName := ⟨RX11, "thrown", "()I"⟩
abbrev cX11_squashed : ByteArray := prog_13_method_3_code
abbrev yX11_squashed : MethodName := ⟨RX11, "squashed", "(I)I"⟩
abbrev cX11_hash : ByteArray := prog_13_method_4_code
abbrev yX11_hash : MethodName := ⟨RX11, "hash", "(II)I"⟩
abbrev cX11_bound : ByteArray := prog_13_method_5_code
abbrev yX11_bound : MethodName := ⟨RX11, "bound", "(III)I"⟩
abbrev cX11_squash : ByteArray := prog_13_method_6_code
abbrev yX11_squash : MethodName := ⟨RX11, "squash", "(I)I"⟩
abbrev cX11_stretch : ByteArray := prog_13_method_7_code
abbrev yX11_stretch : MethodName := ⟨RX11, "stretch", "(I)I"⟩
abbrev cX11_fresh : ByteArray := prog_13_method_8_code
abbrev yX11_fresh : MethodName := ⟨RX11, "fresh", "(I)V"⟩
abbrev cX11_freshAll : ByteArray := prog_13_method_9_code
abbrev yX11_freshAll : MethodName := ⟨RX11, "freshAll", "()V"⟩
abbrev cX11_weightAt : ByteArray := prog_13_method_10_code
abbrev yX11_weightAt : MethodName := ⟨RX11, "weightAt", "(IIII)I"⟩
abbrev cX11_latest : ByteArray := prog_13_method_11_code
abbrev yX11_latest : MethodName := ⟨RX11, "latest", "(II)I"⟩
abbrev cX11_isLetter : ByteArray := prog_13_method_12_code
abbrev yX11_isLetter : MethodName := ⟨RX11, "isLetter", "(I)Z"⟩
abbrev cX11_contextOf : ByteArray := prog_13_method_13_code
abbrev yX11_contextOf : MethodName := ⟨RX11, "contextOf", "(II)I"⟩
abbrev cX11_byteBegins : ByteArray := prog_13_method_14_code
abbrev yX11_byteBegins : MethodName := ⟨RX11, "byteBegins", "(IZ)V"⟩
abbrev cX11_match : ByteArray := prog_13_method_15_code
abbrev yX11_match : MethodName := ⟨RX11, "match", "(IIZ)V"⟩
abbrev cX11_bitsDone : ByteArray := prog_13_method_16_code
abbrev yX11_bitsDone : MethodName := ⟨RX11, "bitsDone", "(I)I"⟩
abbrev cX11_slotOf : ByteArray := prog_13_method_17_code
abbrev yX11_slotOf : MethodName := ⟨RX11, "slotOf", "(II)I"⟩
abbrev cX11_inputOf : ByteArray := prog_13_method_18_code
abbrev yX11_inputOf : MethodName := ⟨RX11, "inputOf", "(II)I"⟩
abbrev cX11_told : ByteArray := prog_13_method_19_code
abbrev yX11_told : MethodName := ⟨RX11, "told", "(III)I"⟩
abbrev cX11_work : ByteArray := prog_13_method_20_code
abbrev yX11_work : MethodName := ⟨RX11, "work", "(I)V"⟩
abbrev cX11_learn : ByteArray := prog_13_method_21_code
abbrev yX11_learn : MethodName := ⟨RX11, "learn", "(II)V"⟩
abbrev cX11_predictor : ByteArray := prog_13_method_22_code
abbrev yX11_predictor : MethodName := ⟨RX11, "predictor", "(II)I"⟩
abbrev cX11_hasWritten : ByteArray := prog_13_method_23_code
abbrev yX11_hasWritten : MethodName := ⟨RX11, "hasWritten", "()Z"⟩
abbrev cX11_off : ByteArray := prog_13_method_24_code
abbrev yX11_off : MethodName := ⟨RX11, "off", "(I)I"⟩
abbrev cX11_writeBit : ByteArray := prog_13_method_25_code
abbrev yX11_writeBit : MethodName := ⟨RX11, "writeBit", "(I)V"⟩
abbrev cX11_isFull : ByteArray := prog_13_method_26_code
abbrev yX11_isFull : MethodName := ⟨RX11, "isFull", "()Z"⟩
abbrev cX11_bit : ByteArray := prog_13_method_27_code
abbrev yX11_bit : MethodName := ⟨RX11, "bit", "(Z)I"⟩
abbrev cX11_octet : ByteArray := prog_13_method_28_code
abbrev yX11_octet : MethodName := ⟨RX11, "octet", "(I)I"⟩
abbrev cX11_end : ByteArray := prog_13_method_29_code
abbrev yX11_end : MethodName := ⟨RX11, "end", "()I"⟩
abbrev cX11_nextOut : ByteArray := prog_13_method_30_code
abbrev yX11_nextOut : MethodName := ⟨RX11, "nextOut", "()I"⟩
abbrev cX11_loadX : ByteArray := prog_13_method_31_code
abbrev yX11_loadX : MethodName := ⟨RX11, "loadX", "()V"⟩
abbrev cX11_get : ByteArray := prog_13_method_32_code
abbrev yX11_get : MethodName := ⟨RX11, "get", "()I"⟩
abbrev cX11_again : ByteArray := prog_13_method_33_code
abbrev yX11_again : MethodName := ⟨RX11, "again", "()I"⟩
abbrev cX11_clear : ByteArray := prog_13_method_34_code
abbrev yX11_clear : MethodName := ⟨RX11, "clear", "()I"⟩
abbrev cX11_out : ByteArray := prog_13_method_35_code
abbrev yX11_out : MethodName := ⟨RX11, "out", "(I)I"⟩
abbrev cX11_spoil : ByteArray := prog_13_method_36_code
abbrev yX11_spoil : MethodName := ⟨RX11, "spoil", "(II)I"⟩
abbrev cX11_isSide : ByteArray := prog_13_method_37_code
abbrev yX11_isSide : MethodName := ⟨RX11, "isSide", "(I)Z"⟩
abbrev cX11_chance : ByteArray := prog_13_method_38_code
abbrev yX11_chance : MethodName := ⟨RX11, "chance", "(I)I"⟩
abbrev cX11_input : ByteArray := prog_13_method_39_code
abbrev yX11_input : MethodName := ⟨RX11, "input", "(II)I"⟩
abbrev cX11_weight : ByteArray := prog_13_method_40_code
abbrev yX11_weight : MethodName := ⟨RX11, "weight", "(IIII)I"⟩
abbrev cX11_slot : ByteArray := prog_13_method_41_code
abbrev yX11_slot : MethodName := ⟨RX11, "slot", "(II)I"⟩
abbrev cX11_seen : ByteArray := prog_13_method_42_code
abbrev yX11_seen : MethodName := ⟨RX11, "seen", "(II)I"⟩
abbrev cX11_cell : ByteArray := prog_13_method_43_code
abbrev yX11_cell : MethodName := ⟨RX11, "cell", "(III)I"⟩
abbrev cX11_equal : ByteArray := prog_13_method_44_code
abbrev yX11_equal : MethodName := ⟨RX11, "equal", "()I"⟩
abbrev cX11_count : ByteArray := prog_13_method_45_code
abbrev yX11_count : MethodName := ⟨RX11, "count", "(I)I"⟩
abbrev cX11_firstLength : ByteArray := prog_13_method_46_code
abbrev yX11_firstLength : MethodName := ⟨RX11, "firstLength", "()I"⟩
abbrev cJx00060_init_a7421 : ByteArray := prog_14_method_2_code
abbrev yJx00060_init_a7421 : MethodName := ⟨RJx00060, "<init>", "(Ljava/lang/String;)V"⟩
abbrev cJ9_max_7cf53 : ByteArray := prog_17_method_65_code
abbrev yJ9_max_7cf53 : MethodName := ⟨RJ9, "max", "(II)I"⟩
abbrev cJ9_max_f86c9 : ByteArray := prog_17_method_66_code
abbrev yJ9_max_f86c9 : MethodName := ⟨RJ9, "max", "(JJ)J"⟩
abbrev cJ9_min_7cf53 : ByteArray := prog_17_method_69_code
abbrev yJ9_min_7cf53 : MethodName := ⟨RJ9, "min", "(II)I"⟩
abbrev cJ9_min_f86c9 : ByteArray := prog_17_method_70_code
abbrev yJ9_min_f86c9 : MethodName := ⟨RJ9, "min", "(JJ)J"⟩
abbrev cJ7_fill_53178 : ByteArray := prog_22_method_103_code
abbrev yJ7_fill_53178 : MethodName := ⟨RJ7, "fill", "([II)V"⟩
abbrev cL_cell : ByteArray := method_2_code
abbrev yL_cell : MethodName := ⟨RL, "cell", "([II)I"⟩
abbrev cL_slot : ByteArray := method_3_code
abbrev yL_slot : MethodName := ⟨RL, "slot", "(LContextMix;II[J)I"⟩
abbrev cL_law : ByteArray := code
abbrev yL_law : MethodName := ⟨RL, "law", "([I)Z"⟩
abbrev vwCl : List vw_C := [(RX0, TX0, 2), (RX1, TX1, 2), (RX2, TX2, 4), (RX3, TX3, 2), (RX4, TX4, 3), (RX5, TX5, 1), (RX6, TX6, 2), (RX7, TX7, 4), (RX8, TX8, 10), (RX9, TX9, 2), (RX10, TX10, 10), (RX11, TX11, 32)]
