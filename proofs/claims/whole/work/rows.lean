section
-- ===== PART A: goes FIRST, ahead of the names: the tables' words, and 'selects' of the private methods out of them =====
/-- a private method of a class that the tables say can be made, by its rows of tables_1 -/
def lw_okq (q : MethodName × Nat) : Prop := (q.1.cls ≠ "java/lang/invoke/MethodHandle" ∧ q.1.cls ≠ "java/lang/invoke/VarHandle") ∧ Cond.instantiable q.1.cls q.2 ∈ tables_1 ∧ Cond.privateMethod q.1 ∈ tables_1 ∧ Cond.instanceMethod q.1 ∈ tables_1
theorem lw_p0 : lw_okq (⟨"ContextMix$History", "latestContext", "(I)I"⟩, 4) := ⟨⟨by decide +kernel, by decide +kernel⟩, List.mem_of_getElem? (i := 87) (by decide +kernel), List.mem_of_getElem? (i := 332) (by decide +kernel), List.mem_of_getElem? (i := 333) (by decide +kernel)⟩
theorem lw_p1 : lw_okq (⟨"ContextMix$History", "wordContext", "()I"⟩, 4) := ⟨⟨by decide +kernel, by decide +kernel⟩, List.mem_of_getElem? (i := 87) (by decide +kernel), List.mem_of_getElem? (i := 342) (by decide +kernel), List.mem_of_getElem? (i := 343) (by decide +kernel)⟩
theorem lw_p2 : lw_okq (⟨"ContextMix$History", "columnContext", "(I)I"⟩, 4) := ⟨⟨by decide +kernel, by decide +kernel⟩, List.mem_of_getElem? (i := 87) (by decide +kernel), List.mem_of_getElem? (i := 349) (by decide +kernel), List.mem_of_getElem? (i := 350) (by decide +kernel)⟩
theorem lw_p3 : lw_okq (⟨"ContextMix$History", "apartContext", "(I)I"⟩, 4) := ⟨⟨by decide +kernel, by decide +kernel⟩, List.mem_of_getElem? (i := 87) (by decide +kernel), List.mem_of_getElem? (i := 353) (by decide +kernel), List.mem_of_getElem? (i := 354) (by decide +kernel)⟩
theorem lw_p4 : lw_okq (⟨"ContextMix", "isFull", "()Z"⟩, 10) := ⟨⟨by decide +kernel, by decide +kernel⟩, List.mem_of_getElem? (i := 23) (by decide +kernel), List.mem_of_getElem? (i := 374) (by decide +kernel), List.mem_of_getElem? (i := 375) (by decide +kernel)⟩
theorem lw_p5 : lw_okq (⟨"ContextMix", "writeBit", "(Z)V"⟩, 10) := ⟨⟨by decide +kernel, by decide +kernel⟩, List.mem_of_getElem? (i := 23) (by decide +kernel), List.mem_of_getElem? (i := 378) (by decide +kernel), List.mem_of_getElem? (i := 379) (by decide +kernel)⟩
theorem lw_p6 : lw_okq (⟨"ContextMix", "beginReading", "()V"⟩, 10) := ⟨⟨by decide +kernel, by decide +kernel⟩, List.mem_of_getElem? (i := 23) (by decide +kernel), List.mem_of_getElem? (i := 499) (by decide +kernel), List.mem_of_getElem? (i := 500) (by decide +kernel)⟩
theorem lw_p7 : lw_okq (⟨"ContextMix", "takeByte", "()V"⟩, 10) := ⟨⟨by decide +kernel, by decide +kernel⟩, List.mem_of_getElem? (i := 23) (by decide +kernel), List.mem_of_getElem? (i := 507) (by decide +kernel), List.mem_of_getElem? (i := 508) (by decide +kernel)⟩
theorem lw_p8 : lw_okq (⟨"ContextMix", "readBit", "()Z"⟩, 10) := ⟨⟨by decide +kernel, by decide +kernel⟩, List.mem_of_getElem? (i := 23) (by decide +kernel), List.mem_of_getElem? (i := 525) (by decide +kernel), List.mem_of_getElem? (i := 526) (by decide +kernel)⟩
theorem lw_p9 : lw_okq (⟨"ContextMix", "sideOf", "(I)LContextMix$Side;"⟩, 10) := ⟨⟨by decide +kernel, by decide +kernel⟩, List.mem_of_getElem? (i := 23) (by decide +kernel), List.mem_of_getElem? (i := 573) (by decide +kernel), List.mem_of_getElem? (i := 574) (by decide +kernel)⟩
theorem lw_p10 : lw_okq (⟨"java/lang/Throwable", "fillInStackTrace", "(I)Ljava/lang/Throwable;"⟩, 6) := ⟨⟨by decide +kernel, by decide +kernel⟩, List.mem_of_getElem? (i := 676) (by decide +kernel), List.mem_of_getElem? (i := 674) (by decide +kernel), List.mem_of_getElem? (i := 675) (by decide +kernel)⟩
theorem lw_p11 : lw_okq (⟨"ContextMixModel", "freshAll", "()V"⟩, 32) := ⟨⟨by decide +kernel, by decide +kernel⟩, List.mem_of_getElem? (i := 729) (by decide +kernel), List.mem_of_getElem? (i := 740) (by decide +kernel), List.mem_of_getElem? (i := 741) (by decide +kernel)⟩
theorem lw_p12 : lw_okq (⟨"ContextMixModel", "fresh", "(I)V"⟩, 32) := ⟨⟨by decide +kernel, by decide +kernel⟩, List.mem_of_getElem? (i := 729) (by decide +kernel), List.mem_of_getElem? (i := 744) (by decide +kernel), List.mem_of_getElem? (i := 745) (by decide +kernel)⟩
theorem lw_p13 : lw_okq (⟨"ContextMixModel", "byteBegins", "(IZ)V"⟩, 32) := ⟨⟨by decide +kernel, by decide +kernel⟩, List.mem_of_getElem? (i := 729) (by decide +kernel), List.mem_of_getElem? (i := 753) (by decide +kernel), List.mem_of_getElem? (i := 754) (by decide +kernel)⟩
theorem lw_p14 : lw_okq (⟨"ContextMixModel", "contextOf", "(II)I"⟩, 32) := ⟨⟨by decide +kernel, by decide +kernel⟩, List.mem_of_getElem? (i := 729) (by decide +kernel), List.mem_of_getElem? (i := 757) (by decide +kernel), List.mem_of_getElem? (i := 758) (by decide +kernel)⟩
theorem lw_p15 : lw_okq (⟨"ContextMixModel", "latest", "(II)I"⟩, 32) := ⟨⟨by decide +kernel, by decide +kernel⟩, List.mem_of_getElem? (i := 729) (by decide +kernel), List.mem_of_getElem? (i := 767) (by decide +kernel), List.mem_of_getElem? (i := 768) (by decide +kernel)⟩
def lw_privs_1 : List (MethodName × Nat) := [(⟨"ContextMix$History", "latestContext", "(I)I"⟩, 4), (⟨"ContextMix$History", "wordContext", "()I"⟩, 4), (⟨"ContextMix$History", "columnContext", "(I)I"⟩, 4), (⟨"ContextMix$History", "apartContext", "(I)I"⟩, 4), (⟨"ContextMix", "isFull", "()Z"⟩, 10), (⟨"ContextMix", "writeBit", "(Z)V"⟩, 10), (⟨"ContextMix", "beginReading", "()V"⟩, 10), (⟨"ContextMix", "takeByte", "()V"⟩, 10), (⟨"ContextMix", "readBit", "()Z"⟩, 10), (⟨"ContextMix", "sideOf", "(I)LContextMix$Side;"⟩, 10), (⟨"java/lang/Throwable", "fillInStackTrace", "(I)Ljava/lang/Throwable;"⟩, 6), (⟨"ContextMixModel", "freshAll", "()V"⟩, 32), (⟨"ContextMixModel", "fresh", "(I)V"⟩, 32), (⟨"ContextMixModel", "byteBegins", "(IZ)V"⟩, 32), (⟨"ContextMixModel", "contextOf", "(II)I"⟩, 32), (⟨"ContextMixModel", "latest", "(II)I"⟩, 32)]
theorem lw_r1 : ∀ q ∈ lw_privs_1, lw_okq q := List.forall_mem_cons.mpr ⟨lw_p0, List.forall_mem_cons.mpr ⟨lw_p1, List.forall_mem_cons.mpr ⟨lw_p2, List.forall_mem_cons.mpr ⟨lw_p3, List.forall_mem_cons.mpr ⟨lw_p4, List.forall_mem_cons.mpr ⟨lw_p5, List.forall_mem_cons.mpr ⟨lw_p6, List.forall_mem_cons.mpr ⟨lw_p7, List.forall_mem_cons.mpr ⟨lw_p8, List.forall_mem_cons.mpr ⟨lw_p9, List.forall_mem_cons.mpr ⟨lw_p10, List.forall_mem_cons.mpr ⟨lw_p11, List.forall_mem_cons.mpr ⟨lw_p12, List.forall_mem_cons.mpr ⟨lw_p13, List.forall_mem_cons.mpr ⟨lw_p14, List.forall_mem_cons.mpr ⟨lw_p15, fun _ h => absurd h List.not_mem_nil⟩⟩⟩⟩⟩⟩⟩⟩⟩⟩⟩⟩⟩⟩⟩⟩
theorem lw_p16 : lw_okq (⟨"ContextMixModel", "match", "(IIZ)V"⟩, 32) := ⟨⟨by decide +kernel, by decide +kernel⟩, List.mem_of_getElem? (i := 729) (by decide +kernel), List.mem_of_getElem? (i := 774) (by decide +kernel), List.mem_of_getElem? (i := 775) (by decide +kernel)⟩
theorem lw_p17 : lw_okq (⟨"ContextMixModel", "hasWritten", "()Z"⟩, 32) := ⟨⟨by decide +kernel, by decide +kernel⟩, List.mem_of_getElem? (i := 729) (by decide +kernel), List.mem_of_getElem? (i := 892) (by decide +kernel), List.mem_of_getElem? (i := 893) (by decide +kernel)⟩
theorem lw_p18 : lw_okq (⟨"ContextMixModel", "isFull", "()Z"⟩, 32) := ⟨⟨by decide +kernel, by decide +kernel⟩, List.mem_of_getElem? (i := 729) (by decide +kernel), List.mem_of_getElem? (i := 904) (by decide +kernel), List.mem_of_getElem? (i := 905) (by decide +kernel)⟩
theorem lw_p19 : lw_okq (⟨"ContextMixModel", "writeBit", "(I)V"⟩, 32) := ⟨⟨by decide +kernel, by decide +kernel⟩, List.mem_of_getElem? (i := 729) (by decide +kernel), List.mem_of_getElem? (i := 908) (by decide +kernel), List.mem_of_getElem? (i := 909) (by decide +kernel)⟩
theorem lw_p20 : lw_okq (⟨"ContextMixModel", "work", "(I)V"⟩, 32) := ⟨⟨by decide +kernel, by decide +kernel⟩, List.mem_of_getElem? (i := 729) (by decide +kernel), List.mem_of_getElem? (i := 912) (by decide +kernel), List.mem_of_getElem? (i := 913) (by decide +kernel)⟩
theorem lw_p21 : lw_okq (⟨"ContextMixModel", "inputOf", "(II)I"⟩, 32) := ⟨⟨by decide +kernel, by decide +kernel⟩, List.mem_of_getElem? (i := 729) (by decide +kernel), List.mem_of_getElem? (i := 916) (by decide +kernel), List.mem_of_getElem? (i := 917) (by decide +kernel)⟩
theorem lw_p22 : lw_okq (⟨"ContextMixModel", "slotOf", "(II)I"⟩, 32) := ⟨⟨by decide +kernel, by decide +kernel⟩, List.mem_of_getElem? (i := 729) (by decide +kernel), List.mem_of_getElem? (i := 920) (by decide +kernel), List.mem_of_getElem? (i := 921) (by decide +kernel)⟩
theorem lw_p23 : lw_okq (⟨"ContextMixModel", "bitsDone", "(I)I"⟩, 32) := ⟨⟨by decide +kernel, by decide +kernel⟩, List.mem_of_getElem? (i := 729) (by decide +kernel), List.mem_of_getElem? (i := 924) (by decide +kernel), List.mem_of_getElem? (i := 925) (by decide +kernel)⟩
theorem lw_p24 : lw_okq (⟨"ContextMixModel", "told", "(III)I"⟩, 32) := ⟨⟨by decide +kernel, by decide +kernel⟩, List.mem_of_getElem? (i := 729) (by decide +kernel), List.mem_of_getElem? (i := 928) (by decide +kernel), List.mem_of_getElem? (i := 929) (by decide +kernel)⟩
theorem lw_p25 : lw_okq (⟨"ContextMixModel", "learn", "(II)V"⟩, 32) := ⟨⟨by decide +kernel, by decide +kernel⟩, List.mem_of_getElem? (i := 729) (by decide +kernel), List.mem_of_getElem? (i := 939) (by decide +kernel), List.mem_of_getElem? (i := 940) (by decide +kernel)⟩
theorem lw_p26 : lw_okq (⟨"ContextMixModel", "loadX", "()V"⟩, 32) := ⟨⟨by decide +kernel, by decide +kernel⟩, List.mem_of_getElem? (i := 729) (by decide +kernel), List.mem_of_getElem? (i := 955) (by decide +kernel), List.mem_of_getElem? (i := 956) (by decide +kernel)⟩
theorem lw_p27 : lw_okq (⟨"ContextMixModel", "nextOut", "()I"⟩, 32) := ⟨⟨by decide +kernel, by decide +kernel⟩, List.mem_of_getElem? (i := 729) (by decide +kernel), List.mem_of_getElem? (i := 959) (by decide +kernel), List.mem_of_getElem? (i := 960) (by decide +kernel)⟩
theorem lw_p28 : lw_okq (⟨"ContextMixModel", "firstLength", "()I"⟩, 32) := ⟨⟨by decide +kernel, by decide +kernel⟩, List.mem_of_getElem? (i := 729) (by decide +kernel), List.mem_of_getElem? (i := 1020) (by decide +kernel), List.mem_of_getElem? (i := 1021) (by decide +kernel)⟩
def lw_privs_2 : List (MethodName × Nat) := [(⟨"ContextMixModel", "match", "(IIZ)V"⟩, 32), (⟨"ContextMixModel", "hasWritten", "()Z"⟩, 32), (⟨"ContextMixModel", "isFull", "()Z"⟩, 32), (⟨"ContextMixModel", "writeBit", "(I)V"⟩, 32), (⟨"ContextMixModel", "work", "(I)V"⟩, 32), (⟨"ContextMixModel", "inputOf", "(II)I"⟩, 32), (⟨"ContextMixModel", "slotOf", "(II)I"⟩, 32), (⟨"ContextMixModel", "bitsDone", "(I)I"⟩, 32), (⟨"ContextMixModel", "told", "(III)I"⟩, 32), (⟨"ContextMixModel", "learn", "(II)V"⟩, 32), (⟨"ContextMixModel", "loadX", "()V"⟩, 32), (⟨"ContextMixModel", "nextOut", "()I"⟩, 32), (⟨"ContextMixModel", "firstLength", "()I"⟩, 32)]
theorem lw_r2 : ∀ q ∈ lw_privs_2, lw_okq q := List.forall_mem_cons.mpr ⟨lw_p16, List.forall_mem_cons.mpr ⟨lw_p17, List.forall_mem_cons.mpr ⟨lw_p18, List.forall_mem_cons.mpr ⟨lw_p19, List.forall_mem_cons.mpr ⟨lw_p20, List.forall_mem_cons.mpr ⟨lw_p21, List.forall_mem_cons.mpr ⟨lw_p22, List.forall_mem_cons.mpr ⟨lw_p23, List.forall_mem_cons.mpr ⟨lw_p24, List.forall_mem_cons.mpr ⟨lw_p25, List.forall_mem_cons.mpr ⟨lw_p26, List.forall_mem_cons.mpr ⟨lw_p27, List.forall_mem_cons.mpr ⟨lw_p28, fun _ h => absurd h List.not_mem_nil⟩⟩⟩⟩⟩⟩⟩⟩⟩⟩⟩⟩⟩
def lw_privs : List (MethodName × Nat) := lw_privs_1 ++ (lw_privs_2)
def lw_tbl : List Cond := k2_sels lw_privs ++ tables_1
theorem lw_privs_ok : ∀ q ∈ lw_privs, lw_okq q := by
  show ∀ q ∈ lw_privs_1 ++ (lw_privs_2), lw_okq q
  exact List.forall_mem_append.mpr ⟨lw_r1, lw_r2⟩
abbrev RX0 : String := "ContextMix$Coder"
def TX0 : u_T := fun k => match k with
  | 0 => ("ContextMix$Coder", "low", "J", false)
  | _ => ("ContextMix$Coder", "high", "J", false)
def tyX0 : Nat → FieldType := fun k => match k with
  | 0 => .long
  | _ => .long
theorem nmX0 : ∀ a, a < 2 → ∀ b, b < 2 → a ≠ b → (TX0 a).2.1 ≠ (TX0 b).2.1 := by decide +kernel
theorem tyX0_ok : ∀ k, k < 2 → parseFieldDescriptor (TX0 k).2.2.1 = some (tyX0 k) := by decide +kernel
abbrev RX1 : String := "ContextMix$Corrections"
def TX1 : u_T := fun k => match k with
  | 0 => ("ContextMix$Corrections", "cells", "[I", true)
  | _ => ("ContextMix$Corrections", "nearest", "I", false)
def tyX1 : Nat → FieldType := fun k => match k with
  | 0 => .array .int
  | _ => .int
theorem nmX1 : ∀ a, a < 2 → ∀ b, b < 2 → a ≠ b → (TX1 a).2.1 ≠ (TX1 b).2.1 := by decide +kernel
theorem tyX1_ok : ∀ k, k < 2 → parseFieldDescriptor (TX1 k).2.2.1 = some (tyX1 k) := by decide +kernel
abbrev RX2 : String := "ContextMix$History"
def TX2 : u_T := fun k => match k with
  | 0 => ("ContextMix$History", "bytes", "[I", true)
  | 1 => ("ContextMix$History", "size", "I", false)
  | 2 => ("ContextMix$History", "node", "I", false)
  | _ => ("ContextMix$History", "bitsGoing", "I", false)
def tyX2 : Nat → FieldType := fun k => match k with
  | 0 => .array .int
  | 1 => .int
  | 2 => .int
  | _ => .int
theorem nmX2 : ∀ a, a < 4 → ∀ b, b < 4 → a ≠ b → (TX2 a).2.1 ≠ (TX2 b).2.1 := by decide +kernel
theorem tyX2_ok : ∀ k, k < 4 → parseFieldDescriptor (TX2 k).2.2.1 = some (tyX2 k) := by decide +kernel
abbrev RX3 : String := "ContextMix$Match"
def TX3 : u_T := fun k => match k with
  | 0 => ("ContextMix$Match", "place", "I", false)
  | _ => ("ContextMix$Match", "length", "I", false)
def tyX3 : Nat → FieldType := fun k => match k with
  | 0 => .int
  | _ => .int
theorem nmX3 : ∀ a, a < 2 → ∀ b, b < 2 → a ≠ b → (TX3 a).2.1 ≠ (TX3 b).2.1 := by decide +kernel
theorem tyX3_ok : ∀ k, k < 2 → parseFieldDescriptor (TX3 k).2.2.1 = some (tyX3 k) := by decide +kernel
abbrev RX4 : String := "ContextMix$Mixer"
def TX4 : u_T := fun k => match k with
  | 0 => ("ContextMix$Mixer", "weights", "[I", true)
  | 1 => ("ContextMix$Mixer", "row", "I", false)
  | _ => ("ContextMix$Mixer", "told", "I", false)
def tyX4 : Nat → FieldType := fun k => match k with
  | 0 => .array .int
  | 1 => .int
  | _ => .int
theorem nmX4 : ∀ a, a < 3 → ∀ b, b < 3 → a ≠ b → (TX4 a).2.1 ≠ (TX4 b).2.1 := by decide +kernel
theorem tyX4_ok : ∀ k, k < 3 → parseFieldDescriptor (TX4 k).2.2.1 = some (tyX4 k) := by decide +kernel
abbrev RX5 : String := "ContextMix$Numbers"
def TX5 : u_T := fun k => match k with
  | _ => ("ContextMix$Numbers", "stretches", "[I", true)
def tyX5 : Nat → FieldType := fun k => match k with
  | _ => .array .int
theorem nmX5 : ∀ a, a < 1 → ∀ b, b < 1 → a ≠ b → (TX5 a).2.1 ≠ (TX5 b).2.1 := by decide +kernel
theorem tyX5_ok : ∀ k, k < 1 → parseFieldDescriptor (TX5 k).2.2.1 = some (tyX5 k) := by decide +kernel
abbrev RX6 : String := "ContextMix$Output"
def TX6 : u_T := fun k => match k with
  | 0 => ("ContextMix$Output", "bytes", "[I", true)
  | _ => ("ContextMix$Output", "size", "I", false)
def tyX6 : Nat → FieldType := fun k => match k with
  | 0 => .array .int
  | _ => .int
theorem nmX6 : ∀ a, a < 2 → ∀ b, b < 2 → a ≠ b → (TX6 a).2.1 ≠ (TX6 b).2.1 := by decide +kernel
theorem tyX6_ok : ∀ k, k < 2 → parseFieldDescriptor (TX6 k).2.2.1 = some (tyX6 k) := by decide +kernel
abbrev RX7 : String := "ContextMix$Predictors"
def TX7 : u_T := fun k => match k with
  | 0 => ("ContextMix$Predictors", "kinds", "[I", true)
  | 1 => ("ContextMix$Predictors", "ns", "[I", true)
  | 2 => ("ContextMix$Predictors", "offs", "[Z", true)
  | _ => ("ContextMix$Predictors", "size", "I", false)
def tyX7 : Nat → FieldType := fun k => match k with
  | 0 => .array .int
  | 1 => .array .int
  | 2 => .array .boolean
  | _ => .int
theorem nmX7 : ∀ a, a < 4 → ∀ b, b < 4 → a ≠ b → (TX7 a).2.1 ≠ (TX7 b).2.1 := by decide +kernel
theorem tyX7_ok : ∀ k, k < 4 → parseFieldDescriptor (TX7 k).2.2.1 = some (tyX7 k) := by decide +kernel
abbrev RX8 : String := "ContextMix$Side"
def TX8 : u_T := fun k => match k with
  | 0 => ("ContextMix$Side", "predictors", "LContextMix$Predictors;", true)
  | 1 => ("ContextMix$Side", "numbers", "LContextMix$Numbers;", true)
  | 2 => ("ContextMix$Side", "history", "LContextMix$History;", true)
  | 3 => ("ContextMix$Side", "slots", "LContextMix$Slots;", true)
  | 4 => ("ContextMix$Side", "byNode", "LContextMix$Mixer;", true)
  | 5 => ("ContextMix$Side", "byLatest", "LContextMix$Mixer;", true)
  | 6 => ("ContextMix$Side", "corrections", "LContextMix$Corrections;", true)
  | 7 => ("ContextMix$Side", "matches", "[LContextMix$Match;", true)
  | 8 => ("ContextMix$Side", "contexts", "[I", true)
  | _ => ("ContextMix$Side", "inputs", "[I", true)
def tyX8 : Nat → FieldType := fun k => match k with
  | 0 => .object "ContextMix$Predictors"
  | 1 => .object "ContextMix$Numbers"
  | 2 => .object "ContextMix$History"
  | 3 => .object "ContextMix$Slots"
  | 4 => .object "ContextMix$Mixer"
  | 5 => .object "ContextMix$Mixer"
  | 6 => .object "ContextMix$Corrections"
  | 7 => .array (.object "ContextMix$Match")
  | 8 => .array .int
  | _ => .array .int
theorem nmX8 : ∀ a, a < 10 → ∀ b, b < 10 → a ≠ b → (TX8 a).2.1 ≠ (TX8 b).2.1 := by decide +kernel
theorem tyX8_ok : ∀ k, k < 10 → parseFieldDescriptor (TX8 k).2.2.1 = some (tyX8 k) := by decide +kernel
abbrev RX9 : String := "ContextMix$Slots"
def TX9 : u_T := fun k => match k with
  | 0 => ("ContextMix$Slots", "chances", "[I", true)
  | _ => ("ContextMix$Slots", "counts", "[I", true)
def tyX9 : Nat → FieldType := fun k => match k with
  | 0 => .array .int
  | _ => .array .int
theorem nmX9 : ∀ a, a < 2 → ∀ b, b < 2 → a ≠ b → (TX9 a).2.1 ≠ (TX9 b).2.1 := by decide +kernel
theorem tyX9_ok : ∀ k, k < 2 → parseFieldDescriptor (TX9 k).2.2.1 = some (tyX9 k) := by decide +kernel
abbrev RX10 : String := "ContextMix"
def TX10 : u_T := fun k => match k with
  | 0 => ("ContextMix", "numbers", "LContextMix$Numbers;", true)
  | 1 => ("ContextMix", "predictors", "LContextMix$Predictors;", true)
  | 2 => ("ContextMix", "writer", "LContextMix$Side;", true)
  | 3 => ("ContextMix", "reader", "LContextMix$Side;", true)
  | 4 => ("ContextMix", "output", "LContextMix$Output;", true)
  | 5 => ("ContextMix", "writing", "LContextMix$Coder;", true)
  | 6 => ("ContextMix", "reading", "LContextMix$Coder;", true)
  | 7 => ("ContextMix", "code", "J", false)
  | 8 => ("ContextMix", "codePlace", "I", false)
  | _ => ("ContextMix", "ended", "Z", false)
def tyX10 : Nat → FieldType := fun k => match k with
  | 0 => .object "ContextMix$Numbers"
  | 1 => .object "ContextMix$Predictors"
  | 2 => .object "ContextMix$Side"
  | 3 => .object "ContextMix$Side"
  | 4 => .object "ContextMix$Output"
  | 5 => .object "ContextMix$Coder"
  | 6 => .object "ContextMix$Coder"
  | 7 => .long
  | 8 => .int
  | _ => .boolean
theorem nmX10 : ∀ a, a < 10 → ∀ b, b < 10 → a ≠ b → (TX10 a).2.1 ≠ (TX10 b).2.1 := by decide +kernel
theorem tyX10_ok : ∀ k, k < 10 → parseFieldDescriptor (TX10 k).2.2.1 = some (tyX10 k) := by decide +kernel
abbrev RX11 : String := "ContextMixModel"
def TX11 : u_T := fun k => match k with
  | 0 => ("ContextMixModel", "room", "I", true)
  | 1 => ("ContextMixModel", "stretched", "[I", true)
  | 2 => ("ContextMixModel", "thrown", "I", false)
  | 3 => ("ContextMixModel", "many", "I", false)
  | 4 => ("ContextMixModel", "kind", "[I", true)
  | 5 => ("ContextMixModel", "size", "[I", true)
  | 6 => ("ContextMixModel", "isOff", "[Z", true)
  | 7 => ("ContextMixModel", "bytes", "[I", true)
  | 8 => ("ContextMixModel", "went", "[I", true)
  | 9 => ("ContextMixModel", "node", "[I", true)
  | 10 => ("ContextMixModel", "context", "[I", true)
  | 11 => ("ContextMixModel", "points", "[I", true)
  | 12 => ("ContextMixModel", "length", "[I", true)
  | 13 => ("ContextMixModel", "slotChance", "[I", true)
  | 14 => ("ContextMixModel", "slotSeen", "[I", true)
  | 15 => ("ContextMixModel", "weights", "[I", true)
  | 16 => ("ContextMixModel", "cells", "[I", true)
  | 17 => ("ContextMixModel", "low", "[J", true)
  | 18 => ("ContextMixModel", "high", "[J", true)
  | 19 => ("ContextMixModel", "out", "[I", true)
  | 20 => ("ContextMixModel", "outSize", "I", false)
  | 21 => ("ContextMixModel", "bitsOf", "I", false)
  | 22 => ("ContextMixModel", "isEnded", "Z", false)
  | 23 => ("ContextMixModel", "x", "J", false)
  | 24 => ("ContextMixModel", "readAt", "I", false)
  | 25 => ("ContextMixModel", "inputs", "[I", true)
  | 26 => ("ContextMixModel", "told0", "I", false)
  | 27 => ("ContextMixModel", "told1", "I", false)
  | 28 => ("ContextMixModel", "set1", "I", false)
  | 29 => ("ContextMixModel", "cellAt", "I", false)
  | 30 => ("ContextMixModel", "cellPart", "I", false)
  | _ => ("ContextMixModel", "chanceNow", "I", false)
def tyX11 : Nat → FieldType := fun k => match k with
  | 0 => .int
  | 1 => .array .int
  | 2 => .int
  | 3 => .int
  | 4 => .array .int
  | 5 => .array .int
  | 6 => .array .boolean
  | 7 => .array .int
  | 8 => .array .int
  | 9 => .array .int
  | 10 => .array .int
  | 11 => .array .int
  | 12 => .array .int
  | 13 => .array .int
  | 14 => .array .int
  | 15 => .array .int
  | 16 => .array .int
  | 17 => .array .long
  | 18 => .array .long
  | 19 => .array .int
  | 20 => .int
  | 21 => .int
  | 22 => .boolean
  | 23 => .long
  | 24 => .int
  | 25 => .array .int
  | 26 => .int
  | 27 => .int
  | 28 => .int
  | 29 => .int
  | 30 => .int
  | _ => .int
theorem nmX11 : ∀ a, a < 32 → ∀ b, b < 32 → a ≠ b → (TX11 a).2.1 ≠ (TX11 b).2.1 := by decide +kernel
theorem tyX11_ok : ∀ k, k < 32 → parseFieldDescriptor (TX11 k).2.2.1 = some (tyX11 k) := by decide +kernel
abbrev RJ7 : String := "java/util/Arrays"
abbrev RJ9 : String := "java/lang/Math"
abbrev RJx00060 : String := "java/lang/ArrayIndexOutOfBoundsException"
abbrev RL : String := "ContextMixLaw"
abbrev cX0_init : ByteArray := prog_2_method_1_code
abbrev yX0_init : MethodName := ⟨RX0, "<init>", "()V"⟩
abbrev cX0_reset : ByteArray := prog_2_method_2_code
abbrev yX0_reset : MethodName := ⟨RX0, "reset", "()V"⟩
abbrev cX0_middle : ByteArray := prog_2_method_3_code
abbrev yX0_middle : MethodName := ⟨RX0, "middle", "(I)J"⟩
abbrev cX0_narrow : ByteArray := prog_2_method_4_code
abbrev yX0_narrow : MethodName := ⟨RX0, "narrow", "(ZJ)V"⟩
abbrev cX0_settled : ByteArray := prog_2_method_5_code
abbrev yX0_settled : MethodName := ⟨RX0, "settled", "()Z"⟩
abbrev cX0_highestOfLow : ByteArray := prog_2_method_6_code
abbrev yX0_highestOfLow : MethodName := ⟨RX0, "highestOfLow", "()I"⟩
abbrev cX0_shift : ByteArray := prog_2_method_7_code
abbrev yX0_shift : MethodName := ⟨RX0, "shift", "()V"⟩
abbrev cX1_init : ByteArray := prog_3_method_1_code
abbrev yX1_init : MethodName := ⟨RX1, "<init>", "()V"⟩
abbrev cX1_reset : ByteArray := prog_3_method_2_code
abbrev yX1_reset : MethodName := ⟨RX1, "reset", "()V"⟩
abbrev cX1_fill : ByteArray := prog_3_method_3_code
abbrev yX1_fill : MethodName := ⟨RX1, "fill", "([I)V"⟩
abbrev cX1_has : ByteArray := prog_3_method_4_code
abbrev yX1_has : MethodName := ⟨RX1, "has", "(II)Z"⟩
abbrev cX1_cellAt : ByteArray := prog_3_method_5_code
abbrev yX1_cellAt : MethodName := ⟨RX1, "cellAt", "(II)I"⟩
abbrev cX1_correct : ByteArray := prog_3_method_6_code
abbrev yX1_correct : MethodName := ⟨RX1, "correct", "(II)I"⟩
abbrev cX1_learn : ByteArray := prog_3_method_7_code
abbrev yX1_learn : MethodName := ⟨RX1, "learn", "(Z)V"⟩
abbrev cX2_init : ByteArray := prog_4_method_1_code
abbrev yX2_init : MethodName := ⟨RX2, "<init>", "()V"⟩
abbrev cX2_reset : ByteArray := prog_4_method_2_code
abbrev yX2_reset : MethodName := ⟨RX2, "reset", "()V"⟩
abbrev cX2_begun : ByteArray := prog_4_method_3_code
abbrev yX2_begun : MethodName := ⟨RX2, "begun", "()Z"⟩
abbrev cX2_byteAt : ByteArray := prog_4_method_4_code
abbrev yX2_byteAt : MethodName := ⟨RX2, "byteAt", "(I)I"⟩
abbrev cX2_back : ByteArray := prog_4_method_5_code
abbrev yX2_back : MethodName := ⟨RX2, "back", "(I)I"⟩
abbrev cX2_add : ByteArray := prog_4_method_6_code
abbrev yX2_add : MethodName := ⟨RX2, "add", "(Z)Z"⟩
abbrev cX2_contextOf : ByteArray := prog_4_method_7_code
abbrev yX2_contextOf : MethodName := ⟨RX2, "contextOf", "(II)I"⟩
abbrev cX2_latestContext : ByteArray := prog_4_method_8_code
abbrev yX2_latestContext : MethodName := ⟨RX2, "latestContext", "(I)I"⟩
abbrev cX2_wordContext : ByteArray := prog_4_method_9_code
abbrev yX2_wordContext : MethodName := ⟨RX2, "wordContext", "()I"⟩
abbrev cX2_columnContext : ByteArray := prog_4_method_10_code
abbrev yX2_columnContext : MethodName := ⟨RX2, "columnContext", "(I)I"⟩
abbrev cX2_apartContext : ByteArray := prog_4_method_11_code
abbrev yX2_apartContext : MethodName := ⟨RX2, "apartContext", "(I)I"⟩
abbrev cX2_sameBefore : ByteArray := prog_4_method_12_code
abbrev yX2_sameBefore : MethodName := ⟨RX2, "sameBefore", "(II)Z"⟩
abbrev cX2_sameAs : ByteArray := prog_4_method_13_code
abbrev yX2_sameAs : MethodName := ⟨RX2, "sameAs", "(LContextMix$History;)Z"⟩
abbrev cX2_isLetter : ByteArray := prog_4_method_14_code
abbrev yX2_isLetter : MethodName := ⟨RX2, "isLetter", "(I)Z"⟩
abbrev cX3_init : ByteArray := prog_5_method_1_code
abbrev yX3_init : MethodName := ⟨RX3, "<init>", "()V"⟩
abbrev cX3_follow : ByteArray := prog_5_method_2_code
abbrev yX3_follow : MethodName := ⟨RX3, "follow", "(LContextMix$History;)V"⟩
abbrev cX3_find : ByteArray := prog_5_method_3_code
abbrev yX3_find : MethodName := ⟨RX3, "find", "(LContextMix$History;I)V"⟩
abbrev cX3_told : ByteArray := prog_5_method_4_code
abbrev yX3_told : MethodName := ⟨RX3, "told", "(LContextMix$History;)I"⟩
abbrev cX4_init : ByteArray := prog_6_method_1_code
abbrev yX4_init : MethodName := ⟨RX4, "<init>", "()V"⟩
abbrev cX4_reset : ByteArray := prog_6_method_2_code
abbrev yX4_reset : MethodName := ⟨RX4, "reset", "()V"⟩
abbrev cX4_fill : ByteArray := prog_6_method_3_code
abbrev yX4_fill : MethodName := ⟨RX4, "fill", "([I)V"⟩
abbrev cX4_weightAt : ByteArray := prog_6_method_4_code
abbrev yX4_weightAt : MethodName := ⟨RX4, "weightAt", "(II)I"⟩
abbrev cX4_tell : ByteArray := prog_6_method_5_code
abbrev yX4_tell : MethodName := ⟨RX4, "tell", "(I[I)I"⟩
abbrev cX4_learn : ByteArray := prog_6_method_6_code
abbrev yX4_learn : MethodName := ⟨RX4, "learn", "(Z[I)V"⟩
abbrev cX5_init : ByteArray := prog_7_method_1_code
abbrev yX5_init : MethodName := ⟨RX5, "<init>", "()V"⟩
abbrev cX5_stretched : ByteArray := prog_7_method_2_code
abbrev yX5_stretched : MethodName := ⟨RX5, "stretched", "(I)I"⟩
abbrev cX5_squashed : ByteArray := prog_7_method_3_code
abbrev yX5_squashed : MethodName := ⟨RX5, "squashed", "(I)I"⟩
abbrev cX5_hash : ByteArray := prog_7_method_4_code
abbrev yX5_hash : MethodName := ⟨RX5, "hash", "(II)I"⟩
abbrev cX5_bound : ByteArray := prog_7_method_5_code
abbrev yX5_bound : MethodName := ⟨RX5, "bound", "(III)I"⟩
abbrev cX5_same : ByteArray := prog_7_method_6_code
abbrev yX5_same : MethodName := ⟨RX5, "same", "([I[I)Z"⟩
abbrev cX6_init : ByteArray := prog_8_method_1_code
abbrev yX6_init : MethodName := ⟨RX6, "<init>", "()V"⟩
abbrev cX6_has : ByteArray := prog_8_method_2_code
abbrev yX6_has : MethodName := ⟨RX6, "has", "(I)Z"⟩
abbrev cX6_byteAt : ByteArray := prog_8_method_3_code
abbrev yX6_byteAt : MethodName := ⟨RX6, "byteAt", "(I)I"⟩
abbrev cX6_add : ByteArray := prog_8_method_4_code
abbrev yX6_add : MethodName := ⟨RX6, "add", "(I)V"⟩
abbrev cX6_flip : ByteArray := prog_8_method_5_code
abbrev yX6_flip : MethodName := ⟨RX6, "flip", "(II)V"⟩
abbrev cX7_init : ByteArray := prog_9_method_1_code
abbrev yX7_init : MethodName := ⟨RX7, "<init>", "()V"⟩
abbrev cX7_allows : ByteArray := prog_9_method_2_code
abbrev yX7_allows : MethodName := ⟨RX7, "allows", "(II)Z"⟩
abbrev cX7_has : ByteArray := prog_9_method_3_code
abbrev yX7_has : MethodName := ⟨RX7, "has", "(I)Z"⟩
abbrev cX7_add : ByteArray := prog_9_method_4_code
abbrev yX7_add : MethodName := ⟨RX7, "add", "(II)I"⟩
abbrev cX7_turnOff : ByteArray := prog_9_method_5_code
abbrev yX7_turnOff : MethodName := ⟨RX7, "turnOff", "(I)Z"⟩
abbrev cX8_init : ByteArray := prog_10_method_1_code
abbrev yX8_init : MethodName := ⟨RX8, "<init>", "(ILContextMix$Predictors;LContextMix$Numbers;)V"⟩
abbrev cX8_reset : ByteArray := prog_10_method_2_code
abbrev yX8_reset : MethodName := ⟨RX8, "reset", "()V"⟩
abbrev cX8_beginByte : ByteArray := prog_10_method_3_code
abbrev yX8_beginByte : MethodName := ⟨RX8, "beginByte", "()V"⟩
abbrev cX8_inputOf : ByteArray := prog_10_method_4_code
abbrev yX8_inputOf : MethodName := ⟨RX8, "inputOf", "(I)I"⟩
abbrev cX8_foretell : ByteArray := prog_10_method_5_code
abbrev yX8_foretell : MethodName := ⟨RX8, "foretell", "()I"⟩
abbrev cX8_learn : ByteArray := prog_10_method_6_code
abbrev yX8_learn : MethodName := ⟨RX8, "learn", "(Z)V"⟩
abbrev cX8_firstMatchLength : ByteArray := prog_10_method_7_code
abbrev yX8_firstMatchLength : MethodName := ⟨RX8, "firstMatchLength", "()I"⟩
abbrev cX8_sameAs : ByteArray := prog_10_method_8_code
abbrev yX8_sameAs : MethodName := ⟨RX8, "sameAs", "(LContextMix$Side;)Z"⟩
abbrev cX9_init : ByteArray := prog_11_method_1_code
abbrev yX9_init : MethodName := ⟨RX9, "<init>", "(I)V"⟩
abbrev cX9_reset : ByteArray := prog_11_method_2_code
abbrev yX9_reset : MethodName := ⟨RX9, "reset", "()V"⟩
abbrev cX9_has : ByteArray := prog_11_method_3_code
abbrev yX9_has : MethodName := ⟨RX9, "has", "(I)Z"⟩
abbrev cX9_placeOf : ByteArray := prog_11_method_4_code
abbrev yX9_placeOf : MethodName := ⟨RX9, "placeOf", "(II)I"⟩
abbrev cX9_learn : ByteArray := prog_11_method_5_code
abbrev yX9_learn : MethodName := ⟨RX9, "learn", "(IZ)V"⟩
abbrev cX9_sameAs : ByteArray := prog_11_method_6_code
abbrev yX9_sameAs : MethodName := ⟨RX9, "sameAs", "(LContextMix$Slots;)Z"⟩
abbrev cX10_init : ByteArray := prog_1_method_1_code
abbrev yX10_init : MethodName := ⟨RX10, "<init>", "(I)V"⟩
abbrev cX10_predictor : ByteArray := prog_1_method_2_code
abbrev yX10_predictor : MethodName := ⟨RX10, "predictor", "(II)I"⟩
abbrev cX10_off : ByteArray := prog_1_method_3_code
abbrev yX10_off : MethodName := ⟨RX10, "off", "(I)I"⟩
abbrev cX10_bit : ByteArray := prog_1_method_4_code
abbrev yX10_bit : MethodName := ⟨RX10, "bit", "(Z)I"⟩
abbrev cX10_octet : ByteArray := prog_1_method_5_code
abbrev yX10_octet : MethodName := ⟨RX10, "octet", "(I)I"⟩
abbrev cX10_end : ByteArray := prog_1_method_6_code
abbrev yX10_end : MethodName := ⟨RX10, "end", "()I"⟩
abbrev cX10_get : ByteArray := prog_1_method_7_code
abbrev yX10_get : MethodName := ⟨RX10, "get", "()I"⟩
abbrev cX10_again : ByteArray := prog_1_method_8_code
abbrev yX10_again : MethodName := ⟨RX10, "again", "()I"⟩
abbrev cX10_clear : ByteArray := prog_1_method_9_code
abbrev yX10_clear : MethodName := ⟨RX10, "clear", "()I"⟩
abbrev cX10_out : ByteArray := prog_1_method_10_code
abbrev yX10_out : MethodName := ⟨RX10, "out", "(I)I"⟩
abbrev cX10_spoil : ByteArray := prog_1_method_11_code
abbrev yX10_spoil : MethodName := ⟨RX10, "spoil", "(II)I"⟩
abbrev cX10_chance : ByteArray := prog_1_method_12_code
abbrev yX10_chance : MethodName := ⟨RX10, "chance", "(I)I"⟩
abbrev cX10_input : ByteArray := prog_1_method_13_code
abbrev yX10_input : MethodName := ⟨RX10, "input", "(II)I"⟩
abbrev cX10_weight : ByteArray := prog_1_method_14_code
abbrev yX10_weight : MethodName := ⟨RX10, "weight", "(IIII)I"⟩
abbrev cX10_slot : ByteArray := prog_1_method_15_code
abbrev yX10_slot : MethodName := ⟨RX10, "slot", "(II)I"⟩
abbrev cX10_seen : ByteArray := prog_1_method_16_code
abbrev yX10_seen : MethodName := ⟨RX10, "seen", "(II)I"⟩
abbrev cX10_cell : ByteArray := prog_1_method_17_code
abbrev yX10_cell : MethodName := ⟨RX10, "cell", "(III)I"⟩
abbrev cX10_squash : ByteArray := prog_1_method_18_code
abbrev yX10_squash : MethodName := ⟨RX10, "squash", "(I)I"⟩
abbrev cX10_stretch : ByteArray := prog_1_method_19_code
abbrev yX10_stretch : MethodName := ⟨RX10, "stretch", "(I)I"⟩
abbrev cX10_equal : ByteArray := prog_1_method_20_code
abbrev yX10_equal : MethodName := ⟨RX10, "equal", "()I"⟩
abbrev cX10_count : ByteArray := prog_1_method_21_code
abbrev yX10_count : MethodName := ⟨RX10, "count", "(I)I"⟩
abbrev cX10_sideOf : ByteArray := prog_1_method_22_code
abbrev yX10_sideOf : MethodName := ⟨RX10, "sideOf", "(I)LContextMix$Side;"⟩
abbrev cX10_isFull : ByteArray := prog_1_method_23_code
abbrev yX10_isFull : MethodName := ⟨RX10, "isFull", "()Z"⟩
abbrev cX10_writeBit : ByteArray := prog_1_method_24_code
abbrev yX10_writeBit : MethodName := ⟨RX10, "writeBit", "(Z)V"⟩
abbrev cX10_readBit : ByteArray := prog_1_method_25_code
abbrev yX10_readBit : MethodName := ⟨RX10, "readBit", "()Z"⟩
abbrev cX10_beginReading : ByteArray := prog_1_method_26_code
abbrev yX10_beginReading : MethodName := ⟨RX10, "beginReading", "()V"⟩
abbrev cX10_takeByte : ByteArray := prog_1_method_27_code
abbrev yX10_takeByte : MethodName := ⟨RX10, "takeByte", "()V"⟩
abbrev cX11_init : ByteArray := prog_13_method_1_code
abbrev yX11_init : MethodName := ⟨RX11, "<init>", "(I)V"⟩
abbrev cX11_thrown : ByteArray := prog_13_method_2_code
abbrev yX11_thrown : MethodName := ⟨RX11, "thrown", "()I"⟩
abbrev cX11_squashed : ByteArray := prog_13_method_3_code
abbrev yX11_squashed : MethodName := ⟨RX11, "squashed", "(I)I"⟩
abbrev cX11_hash : ByteArray := prog_13_method_4_code
abbrev yX11_hash : MethodName := ⟨RX11, "hash", "(II)I"⟩
abbrev cX11_bound : ByteArray := prog_13_method_5_code
abbrev yX11_bound : MethodName := ⟨RX11, "bound", "(III)I"⟩
abbrev cX11_squash : ByteArray := prog_13_method_6_code
abbrev yX11_squash : MethodName := ⟨RX11, "squash", "(I)I"⟩
abbrev cX11_stretch : ByteArray := prog_13_method_7_code
abbrev yX11_stretch : MethodName := ⟨RX11, "stretch", "(I)I"⟩
abbrev cX11_fresh : ByteArray := prog_13_method_8_code
abbrev yX11_fresh : MethodName := ⟨RX11, "fresh", "(I)V"⟩
abbrev cX11_freshAll : ByteArray := prog_13_method_9_code
abbrev yX11_freshAll : MethodName := ⟨RX11, "freshAll", "()V"⟩
abbrev cX11_weightAt : ByteArray := prog_13_method_10_code
abbrev yX11_weightAt : MethodName := ⟨RX11, "weightAt", "(IIII)I"⟩
abbrev cX11_latest : ByteArray := prog_13_method_11_code
abbrev yX11_latest : MethodName := ⟨RX11, "latest", "(II)I"⟩
abbrev cX11_isLetter : ByteArray := prog_13_method_12_code
abbrev yX11_isLetter : MethodName := ⟨RX11, "isLetter", "(I)Z"⟩
abbrev cX11_contextOf : ByteArray := prog_13_method_13_code
abbrev yX11_contextOf : MethodName := ⟨RX11, "contextOf", "(II)I"⟩
abbrev cX11_byteBegins : ByteArray := prog_13_method_14_code
abbrev yX11_byteBegins : MethodName := ⟨RX11, "byteBegins", "(IZ)V"⟩
abbrev cX11_match : ByteArray := prog_13_method_15_code
abbrev yX11_match : MethodName := ⟨RX11, "match", "(IIZ)V"⟩
abbrev cX11_bitsDone : ByteArray := prog_13_method_16_code
abbrev yX11_bitsDone : MethodName := ⟨RX11, "bitsDone", "(I)I"⟩
abbrev cX11_slotOf : ByteArray := prog_13_method_17_code
abbrev yX11_slotOf : MethodName := ⟨RX11, "slotOf", "(II)I"⟩
abbrev cX11_inputOf : ByteArray := prog_13_method_18_code
abbrev yX11_inputOf : MethodName := ⟨RX11, "inputOf", "(II)I"⟩
abbrev cX11_told : ByteArray := prog_13_method_19_code
abbrev yX11_told : MethodName := ⟨RX11, "told", "(III)I"⟩
abbrev cX11_work : ByteArray := prog_13_method_20_code
abbrev yX11_work : MethodName := ⟨RX11, "work", "(I)V"⟩
abbrev cX11_learn : ByteArray := prog_13_method_21_code
abbrev yX11_learn : MethodName := ⟨RX11, "learn", "(II)V"⟩
abbrev cX11_predictor : ByteArray := prog_13_method_22_code
abbrev yX11_predictor : MethodName := ⟨RX11, "predictor", "(II)I"⟩
abbrev cX11_hasWritten : ByteArray := prog_13_method_23_code
abbrev yX11_hasWritten : MethodName := ⟨RX11, "hasWritten", "()Z"⟩
abbrev cX11_off : ByteArray := prog_13_method_24_code
abbrev yX11_off : MethodName := ⟨RX11, "off", "(I)I"⟩
abbrev cX11_writeBit : ByteArray := prog_13_method_25_code
abbrev yX11_writeBit : MethodName := ⟨RX11, "writeBit", "(I)V"⟩
abbrev cX11_isFull : ByteArray := prog_13_method_26_code
abbrev yX11_isFull : MethodName := ⟨RX11, "isFull", "()Z"⟩
abbrev cX11_bit : ByteArray := prog_13_method_27_code
abbrev yX11_bit : MethodName := ⟨RX11, "bit", "(Z)I"⟩
abbrev cX11_octet : ByteArray := prog_13_method_28_code
abbrev yX11_octet : MethodName := ⟨RX11, "octet", "(I)I"⟩
abbrev cX11_end : ByteArray := prog_13_method_29_code
abbrev yX11_end : MethodName := ⟨RX11, "end", "()I"⟩
abbrev cX11_nextOut : ByteArray := prog_13_method_30_code
abbrev yX11_nextOut : MethodName := ⟨RX11, "nextOut", "()I"⟩
abbrev cX11_loadX : ByteArray := prog_13_method_31_code
abbrev yX11_loadX : MethodName := ⟨RX11, "loadX", "()V"⟩
abbrev cX11_get : ByteArray := prog_13_method_32_code
abbrev yX11_get : MethodName := ⟨RX11, "get", "()I"⟩
abbrev cX11_again : ByteArray := prog_13_method_33_code
abbrev yX11_again : MethodName := ⟨RX11, "again", "()I"⟩
abbrev cX11_clear : ByteArray := prog_13_method_34_code
abbrev yX11_clear : MethodName := ⟨RX11, "clear", "()I"⟩
abbrev cX11_out : ByteArray := prog_13_method_35_code
abbrev yX11_out : MethodName := ⟨RX11, "out", "(I)I"⟩
abbrev cX11_spoil : ByteArray := prog_13_method_36_code
abbrev yX11_spoil : MethodName := ⟨RX11, "spoil", "(II)I"⟩
abbrev cX11_isSide : ByteArray := prog_13_method_37_code
abbrev yX11_isSide : MethodName := ⟨RX11, "isSide", "(I)Z"⟩
abbrev cX11_chance : ByteArray := prog_13_method_38_code
abbrev yX11_chance : MethodName := ⟨RX11, "chance", "(I)I"⟩
abbrev cX11_input : ByteArray := prog_13_method_39_code
abbrev yX11_input : MethodName := ⟨RX11, "input", "(II)I"⟩
abbrev cX11_weight : ByteArray := prog_13_method_40_code
abbrev yX11_weight : MethodName := ⟨RX11, "weight", "(IIII)I"⟩
abbrev cX11_slot : ByteArray := prog_13_method_41_code
abbrev yX11_slot : MethodName := ⟨RX11, "slot", "(II)I"⟩
abbrev cX11_seen : ByteArray := prog_13_method_42_code
abbrev yX11_seen : MethodName := ⟨RX11, "seen", "(II)I"⟩
abbrev cX11_cell : ByteArray := prog_13_method_43_code
abbrev yX11_cell : MethodName := ⟨RX11, "cell", "(III)I"⟩
abbrev cX11_equal : ByteArray := prog_13_method_44_code
abbrev yX11_equal : MethodName := ⟨RX11, "equal", "()I"⟩
abbrev cX11_count : ByteArray := prog_13_method_45_code
abbrev yX11_count : MethodName := ⟨RX11, "count", "(I)I"⟩
abbrev cX11_firstLength : ByteArray := prog_13_method_46_code
abbrev yX11_firstLength : MethodName := ⟨RX11, "firstLength", "()I"⟩
abbrev cJx00060_init_a7421 : ByteArray := prog_14_method_2_code
abbrev yJx00060_init_a7421 : MethodName := ⟨RJx00060, "<init>", "(Ljava/lang/String;)V"⟩
abbrev cJ9_max_7cf53 : ByteArray := prog_17_method_65_code
abbrev yJ9_max_7cf53 : MethodName := ⟨RJ9, "max", "(II)I"⟩
abbrev cJ9_max_f86c9 : ByteArray := prog_17_method_66_code
abbrev yJ9_max_f86c9 : MethodName := ⟨RJ9, "max", "(JJ)J"⟩
abbrev cJ9_min_7cf53 : ByteArray := prog_17_method_69_code
abbrev yJ9_min_7cf53 : MethodName := ⟨RJ9, "min", "(II)I"⟩
abbrev cJ9_min_f86c9 : ByteArray := prog_17_method_70_code
abbrev yJ9_min_f86c9 : MethodName := ⟨RJ9, "min", "(JJ)J"⟩
abbrev cJ7_fill_53178 : ByteArray := prog_22_method_103_code
abbrev yJ7_fill_53178 : MethodName := ⟨RJ7, "fill", "([II)V"⟩
abbrev cL_cell : ByteArray := method_2_code
abbrev yL_cell : MethodName := ⟨RL, "cell", "([II)I"⟩
abbrev cL_slot : ByteArray := method_3_code
abbrev yL_slot : MethodName := ⟨RL, "slot", "(LContextMix;II[J)I"⟩
abbrev cL_law : ByteArray := code
abbrev yL_law : MethodName := ⟨RL, "law", "([I)Z"⟩
abbrev vwCl : List vw_C := [(RX0, TX0, 2), (RX1, TX1, 2), (RX2, TX2, 4), (RX3, TX3, 2), (RX4, TX4, 3), (RX5, TX5, 1), (RX6, TX6, 2), (RX7, TX7, 4), (RX8, TX8, 10), (RX9, TX9, 2), (RX10, TX10, 10), (RX11, TX11, 32)]
end
section
/-- the words of the tables that stay good in every callee -/
def GW : List Cond := lw_tbl.filter goodWord
theorem mem_gw {w : Cond} {i : Nat} (h : tables_1[i]? = some w) (hg : goodWord w = true) : w ∈ GW := List.mem_filter.mpr ⟨List.mem_append_right _ (List.mem_of_getElem? h), hg⟩
theorem mem_gw1 {w : Cond} {i : Nat} (h : tables_1_1[i]? = some w) (hg : goodWord w = true) : w ∈ GW := List.mem_filter.mpr ⟨List.mem_append_right _ (List.mem_append_left _ (List.mem_of_getElem? h)), hg⟩
theorem mem_gw2 {w : Cond} {i : Nat} (h : tables_1_2[i]? = some w) (hg : goodWord w = true) : w ∈ GW := List.mem_filter.mpr ⟨List.mem_append_right _ (List.mem_append_right _ (List.mem_append_left _ (List.mem_of_getElem? h))), hg⟩
theorem mem_gw3 {w : Cond} {i : Nat} (h : tables_1_3[i]? = some w) (hg : goodWord w = true) : w ∈ GW := List.mem_filter.mpr ⟨List.mem_append_right _ (List.mem_append_right _ (List.mem_append_right _ (List.mem_append_left _ (List.mem_of_getElem? h)))), hg⟩
theorem mem_gw4 {w : Cond} {i : Nat} (h : tables_1_4[i]? = some w) (hg : goodWord w = true) : w ∈ GW := List.mem_filter.mpr ⟨List.mem_append_right _ (List.mem_append_right _ (List.mem_append_right _ (List.mem_append_right _ (List.mem_append_left _ (List.mem_of_getElem? h))))), hg⟩
theorem mem_gw5 {w : Cond} {i : Nat} (h : tables_1_5[i]? = some w) (hg : goodWord w = true) : w ∈ GW := List.mem_filter.mpr ⟨List.mem_append_right _ (List.mem_append_right _ (List.mem_append_right _ (List.mem_append_right _ (List.mem_append_right _ (List.mem_of_getElem? h))))), hg⟩
theorem gw_tbl {w : Cond} (h : w ∈ GW) : w ∈ lw_tbl := (List.mem_filter.mp h).1
theorem gw_good {w : Cond} (h : w ∈ GW) : (w.onTables && w.keeps) = true ∨ ∃ ty, w = .arrayClass ty := good_of_word (List.mem_filter.mp h).2
theorem k0 : Cond.initialized "ContextMixLaw" ∈ GW := mem_gw1 (i := 0) rfl rfl
theorem k1 : Cond.initialized "ContextMix" ∈ GW := mem_gw1 (i := 1) rfl rfl
theorem k2 : Cond.initialized "ContextMix$Numbers" ∈ GW := mem_gw1 (i := 2) rfl rfl
theorem k3 : Cond.initialized "java/lang/Math" ∈ GW := mem_gw1 (i := 3) rfl rfl
theorem k4 : Cond.initialized "ContextMix$Predictors" ∈ GW := mem_gw1 (i := 4) rfl rfl
theorem k5 : Cond.initialized "ContextMix$Side" ∈ GW := mem_gw1 (i := 5) rfl rfl
theorem k6 : Cond.initialized "ContextMix$History" ∈ GW := mem_gw1 (i := 6) rfl rfl
theorem k7 : Cond.initialized "ContextMix$Mixer" ∈ GW := mem_gw1 (i := 7) rfl rfl
theorem k8 : Cond.initialized "java/util/Arrays" ∈ GW := mem_gw1 (i := 8) rfl rfl
theorem k9 : Cond.initialized "ContextMix$Corrections" ∈ GW := mem_gw1 (i := 9) rfl rfl
theorem k10 : Cond.initialized "java/lang/System" ∈ GW := mem_gw1 (i := 10) rfl rfl
theorem k11 : Cond.initialized "ContextMix$Slots" ∈ GW := mem_gw1 (i := 11) rfl rfl
theorem k12 : Cond.initialized "ContextMix$Match" ∈ GW := mem_gw1 (i := 12) rfl rfl
theorem k13 : Cond.initialized "ContextMix$Output" ∈ GW := mem_gw1 (i := 13) rfl rfl
theorem k14 : Cond.initialized "ContextMix$Coder" ∈ GW := mem_gw1 (i := 14) rfl rfl
theorem k15 : Cond.initialized "ContextMixModel" ∈ GW := mem_gw1 (i := 15) rfl rfl
theorem k16 : Cond.initialized "java/lang/Throwable" ∈ GW := mem_gw1 (i := 16) rfl rfl
theorem k17 : Cond.initialized "java/lang/Exception" ∈ GW := mem_gw1 (i := 17) rfl rfl
theorem k18 : Cond.initialized "java/lang/RuntimeException" ∈ GW := mem_gw1 (i := 18) rfl rfl
theorem k19 : Cond.initialized "java/lang/IndexOutOfBoundsException" ∈ GW := mem_gw1 (i := 19) rfl rfl
theorem k20 : Cond.initialized "java/lang/ArrayIndexOutOfBoundsException" ∈ GW := mem_gw1 (i := 20) rfl rfl
theorem k21 : Cond.initialized "java/lang/String" ∈ GW := mem_gw1 (i := 21) rfl rfl
theorem k22 : Cond.classLink "ContextMixLaw" (8) "ContextMix" ∈ GW := mem_gw1 (i := 22) rfl rfl
theorem k23 : Cond.instantiable "ContextMix" (10) ∈ GW := mem_gw1 (i := 23) rfl rfl
theorem k24 : Cond.methodLink "ContextMixLaw" (21) ⟨"ContextMix", "<init>", "(I)V"⟩ ∈ GW := mem_gw1 (i := 24) rfl rfl
theorem k25 : Cond.instanceMethod ⟨"ContextMix", "<init>", "(I)V"⟩ ∈ GW := mem_gw1 (i := 25) rfl rfl
theorem k26 : Cond.code ⟨"ContextMix", "<init>", "(I)V"⟩ prog_1_method_1_code (3) (Option.none : Option FieldType) ∈ GW := mem_gw1 (i := 26) rfl rfl
theorem k27 : Cond.methodLink "ContextMix" (1) ⟨"java/lang/Object", "<init>", "()V"⟩ ∈ GW := mem_gw1 (i := 27) rfl rfl
theorem k28 : Cond.instanceMethod ⟨"java/lang/Object", "<init>", "()V"⟩ ∈ GW := mem_gw1 (i := 28) rfl rfl
theorem k29 : Cond.code ⟨"java/lang/Object", "<init>", "()V"⟩ object_method_1_code (1) (Option.none : Option FieldType) ∈ GW := mem_gw1 (i := 29) rfl rfl
theorem k30 : Cond.methodLink "ContextMix" (9) ⟨"ContextMix$Numbers", "bound", "(III)I"⟩ ∈ GW := mem_gw1 (i := 30) rfl rfl
theorem k31 : Cond.static ⟨"ContextMix$Numbers", "bound", "(III)I"⟩ ∈ GW := mem_gw1 (i := 31) rfl rfl
theorem k32 : Cond.code ⟨"ContextMix$Numbers", "bound", "(III)I"⟩ prog_7_method_5_code (3) (Option.some FieldType.int) ∈ GW := mem_gw1 (i := 32) rfl rfl
theorem k33 : Cond.methodLink "ContextMix$Numbers" (27) ⟨"java/lang/Math", "min", "(II)I"⟩ ∈ GW := mem_gw1 (i := 33) rfl rfl
theorem k34 : Cond.static ⟨"java/lang/Math", "min", "(II)I"⟩ ∈ GW := mem_gw1 (i := 34) rfl rfl
theorem k35 : Cond.code ⟨"java/lang/Math", "min", "(II)I"⟩ prog_17_method_69_code (2) (Option.some FieldType.int) ∈ GW := mem_gw1 (i := 35) rfl rfl
theorem k36 : Cond.methodLink "ContextMix$Numbers" (33) ⟨"java/lang/Math", "max", "(II)I"⟩ ∈ GW := mem_gw1 (i := 36) rfl rfl
theorem k37 : Cond.static ⟨"java/lang/Math", "max", "(II)I"⟩ ∈ GW := mem_gw1 (i := 37) rfl rfl
theorem k38 : Cond.code ⟨"java/lang/Math", "max", "(II)I"⟩ prog_17_method_65_code (2) (Option.some FieldType.int) ∈ GW := mem_gw1 (i := 38) rfl rfl
theorem k39 : Cond.classLink "ContextMix" (10) "ContextMix$Numbers" ∈ GW := mem_gw1 (i := 39) rfl rfl
theorem k40 : Cond.instantiable "ContextMix$Numbers" (1) ∈ GW := mem_gw1 (i := 40) rfl rfl
theorem k41 : Cond.methodLink "ContextMix" (15) ⟨"ContextMix$Numbers", "<init>", "()V"⟩ ∈ GW := mem_gw1 (i := 41) rfl rfl
theorem k42 : Cond.instanceMethod ⟨"ContextMix$Numbers", "<init>", "()V"⟩ ∈ GW := mem_gw1 (i := 42) rfl rfl
theorem k43 : Cond.code ⟨"ContextMix$Numbers", "<init>", "()V"⟩ prog_7_method_1_code (3) (Option.none : Option FieldType) ∈ GW := mem_gw1 (i := 43) rfl rfl
theorem k44 : Cond.methodLink "ContextMix$Numbers" (1) ⟨"java/lang/Object", "<init>", "()V"⟩ ∈ GW := mem_gw1 (i := 44) rfl rfl
theorem k45 : Cond.methodLink "ContextMix$Numbers" (13) ⟨"ContextMix$Numbers", "squashed", "(I)I"⟩ ∈ GW := mem_gw1 (i := 45) rfl rfl
theorem k46 : Cond.static ⟨"ContextMix$Numbers", "squashed", "(I)I"⟩ ∈ GW := mem_gw1 (i := 46) rfl rfl
theorem k47 : Cond.code ⟨"ContextMix$Numbers", "squashed", "(I)I"⟩ prog_7_method_3_code (3) (Option.some FieldType.int) ∈ GW := mem_gw1 (i := 47) rfl rfl
theorem k48 : Cond.fieldLink "ContextMix$Numbers" (21) "ContextMix$Numbers" "CURVE" "[I" ∈ GW := mem_gw1 (i := 48) rfl rfl
theorem k50 : Cond.fieldLink "ContextMix$Numbers" (7) "ContextMix$Numbers" "stretches" "[I" ∈ GW := mem_gw1 (i := 50) rfl rfl
theorem k51 : Cond.laysFinal "ContextMix$Numbers" "ContextMix$Numbers" "stretches" "[I" ∈ GW := mem_gw1 (i := 51) rfl rfl
theorem k54 : Cond.arrayClass FieldType.int ∈ GW := mem_gw1 (i := 54) rfl rfl
theorem k55 : Cond.classLink "ContextMix" (20) "ContextMix$Predictors" ∈ GW := mem_gw1 (i := 55) rfl rfl
theorem k56 : Cond.instantiable "ContextMix$Predictors" (4) ∈ GW := mem_gw1 (i := 56) rfl rfl
theorem k58 : Cond.instanceMethod ⟨"ContextMix$Predictors", "<init>", "()V"⟩ ∈ GW := mem_gw1 (i := 58) rfl rfl
theorem k59 : Cond.code ⟨"ContextMix$Predictors", "<init>", "()V"⟩ prog_9_method_1_code (1) (Option.none : Option FieldType) ∈ GW := mem_gw1 (i := 59) rfl rfl
theorem k60 : Cond.methodLink "ContextMix$Predictors" (3) ⟨"java/lang/Object", "<init>", "()V"⟩ ∈ GW := mem_gw1 (i := 60) rfl rfl
theorem k61 : Cond.fieldLink "ContextMix$Predictors" (9) "ContextMix$Predictors" "kinds" "[I" ∈ GW := mem_gw1 (i := 61) rfl rfl
theorem k63 : Cond.fieldLink "ContextMix$Predictors" (15) "ContextMix$Predictors" "ns" "[I" ∈ GW := mem_gw1 (i := 63) rfl rfl
theorem k65 : Cond.fieldLink "ContextMix$Predictors" (18) "ContextMix$Predictors" "offs" "[Z" ∈ GW := mem_gw1 (i := 65) rfl rfl
theorem k67 : Cond.fieldLink "ContextMix$Predictors" (22) "ContextMix$Predictors" "size" "I" ∈ GW := mem_gw1 (i := 67) rfl rfl
theorem k70 : Cond.laysFinal "ContextMix$Predictors" "ContextMix$Predictors" "kinds" "[I" ∈ GW := mem_gw1 (i := 70) rfl rfl
theorem k72 : Cond.laysFinal "ContextMix$Predictors" "ContextMix$Predictors" "ns" "[I" ∈ GW := mem_gw1 (i := 72) rfl rfl
theorem k74 : Cond.laysFinal "ContextMix$Predictors" "ContextMix$Predictors" "offs" "[Z" ∈ GW := mem_gw1 (i := 74) rfl rfl
theorem k76 : Cond.lays "ContextMix$Predictors" "ContextMix$Predictors" "size" "I" ∈ GW := mem_gw1 (i := 76) rfl rfl
theorem k79 : Cond.arrayClass FieldType.boolean ∈ GW := mem_gw1 (i := 79) rfl rfl
theorem k80 : Cond.classLink "ContextMix" (27) "ContextMix$Side" ∈ GW := mem_gw1 (i := 80) rfl rfl
theorem k81 : Cond.instantiable "ContextMix$Side" (10) ∈ GW := mem_gw1 (i := 81) rfl rfl
theorem k82 : Cond.methodLink "ContextMix" (29) ⟨"ContextMix$Side", "<init>", "(ILContextMix$Predictors;LContextMix$Numbers;)V"⟩ ∈ GW := mem_gw1 (i := 82) rfl rfl
theorem k83 : Cond.instanceMethod ⟨"ContextMix$Side", "<init>", "(ILContextMix$Predictors;LContextMix$Numbers;)V"⟩ ∈ GW := mem_gw1 (i := 83) rfl rfl
theorem k84 : Cond.code ⟨"ContextMix$Side", "<init>", "(ILContextMix$Predictors;LContextMix$Numbers;)V"⟩ prog_10_method_1_code (5) (Option.none : Option FieldType) ∈ GW := mem_gw1 (i := 84) rfl rfl
theorem k85 : Cond.methodLink "ContextMix$Side" (3) ⟨"java/lang/Object", "<init>", "()V"⟩ ∈ GW := mem_gw1 (i := 85) rfl rfl
theorem k86 : Cond.classLink "ContextMix$Side" (9) "ContextMix$History" ∈ GW := mem_gw1 (i := 86) rfl rfl
theorem k87 : Cond.instantiable "ContextMix$History" (4) ∈ GW := mem_gw1 (i := 87) rfl rfl
theorem k89 : Cond.instanceMethod ⟨"ContextMix$History", "<init>", "()V"⟩ ∈ GW := mem_gw1 (i := 89) rfl rfl
theorem k90 : Cond.code ⟨"ContextMix$History", "<init>", "()V"⟩ prog_4_method_1_code (1) (Option.none : Option FieldType) ∈ GW := mem_gw1 (i := 90) rfl rfl
theorem k91 : Cond.methodLink "ContextMix$History" (3) ⟨"java/lang/Object", "<init>", "()V"⟩ ∈ GW := mem_gw1 (i := 91) rfl rfl
theorem k92 : Cond.fieldLink "ContextMix$History" (9) "ContextMix$History" "bytes" "[I" ∈ GW := mem_gw1 (i := 92) rfl rfl
theorem k93 : Cond.fieldLink "ContextMix$History" (19) "ContextMix$History" "size" "I" ∈ GW := mem_gw1 (i := 93) rfl rfl
theorem k96 : Cond.fieldLink "ContextMix$History" (15) "ContextMix$History" "node" "I" ∈ GW := mem_gw1 (i := 96) rfl rfl
theorem k99 : Cond.fieldLink "ContextMix$History" (22) "ContextMix$History" "bitsGoing" "I" ∈ GW := mem_gw1 (i := 99) rfl rfl
theorem k102 : Cond.laysFinal "ContextMix$History" "ContextMix$History" "bytes" "[I" ∈ GW := mem_gw1 (i := 102) rfl rfl
theorem k104 : Cond.lays "ContextMix$History" "ContextMix$History" "size" "I" ∈ GW := mem_gw1 (i := 104) rfl rfl
theorem k106 : Cond.lays "ContextMix$History" "ContextMix$History" "node" "I" ∈ GW := mem_gw1 (i := 106) rfl rfl
theorem k108 : Cond.lays "ContextMix$History" "ContextMix$History" "bitsGoing" "I" ∈ GW := mem_gw1 (i := 108) rfl rfl
theorem k111 : Cond.classLink "ContextMix$Side" (18) "ContextMix$Mixer" ∈ GW := mem_gw1 (i := 111) rfl rfl
theorem k112 : Cond.instantiable "ContextMix$Mixer" (3) ∈ GW := mem_gw1 (i := 112) rfl rfl
theorem k113 : Cond.methodLink "ContextMix$Side" (20) ⟨"ContextMix$Mixer", "<init>", "()V"⟩ ∈ GW := mem_gw1 (i := 113) rfl rfl
theorem k114 : Cond.instanceMethod ⟨"ContextMix$Mixer", "<init>", "()V"⟩ ∈ GW := mem_gw1 (i := 114) rfl rfl
theorem k115 : Cond.code ⟨"ContextMix$Mixer", "<init>", "()V"⟩ prog_6_method_1_code (1) (Option.none : Option FieldType) ∈ GW := mem_gw1 (i := 115) rfl rfl
theorem k116 : Cond.methodLink "ContextMix$Mixer" (3) ⟨"java/lang/Object", "<init>", "()V"⟩ ∈ GW := mem_gw1 (i := 116) rfl rfl
theorem k117 : Cond.methodLink "ContextMix$Mixer" (15) ⟨"ContextMix$Mixer", "fill", "([I)V"⟩ ∈ GW := mem_gw1 (i := 117) rfl rfl
theorem k118 : Cond.static ⟨"ContextMix$Mixer", "fill", "([I)V"⟩ ∈ GW := mem_gw1 (i := 118) rfl rfl
theorem k119 : Cond.code ⟨"ContextMix$Mixer", "fill", "([I)V"⟩ prog_6_method_3_code (2) (Option.none : Option FieldType) ∈ GW := mem_gw1 (i := 119) rfl rfl
theorem k120 : Cond.methodLink "ContextMix$Mixer" (19) ⟨"java/util/Arrays", "fill", "([II)V"⟩ ∈ GW := mem_gw1 (i := 120) rfl rfl
theorem k121 : Cond.static ⟨"java/util/Arrays", "fill", "([II)V"⟩ ∈ GW := mem_gw1 (i := 121) rfl rfl
theorem k122 : Cond.code ⟨"java/util/Arrays", "fill", "([II)V"⟩ prog_22_method_103_code (4) (Option.none : Option FieldType) ∈ GW := mem_gw1 (i := 122) rfl rfl
theorem k123 : Cond.fieldLink "ContextMix$Mixer" (11) "ContextMix$Mixer" "weights" "[I" ∈ GW := mem_gw1 (i := 123) rfl rfl
theorem k125 : Cond.fieldLink "ContextMix$Mixer" (30) "ContextMix$Mixer" "row" "I" ∈ GW := mem_gw1 (i := 125) rfl rfl
theorem k126 : Cond.fieldLink "ContextMix$Mixer" (51) "ContextMix$Mixer" "told" "I" ∈ GW := mem_gw1 (i := 126) rfl rfl
theorem k127 : Cond.laysFinal "ContextMix$Mixer" "ContextMix$Mixer" "weights" "[I" ∈ GW := mem_gw1 (i := 127) rfl rfl
theorem k129 : Cond.lays "ContextMix$Mixer" "ContextMix$Mixer" "row" "I" ∈ GW := mem_gw1 (i := 129) rfl rfl
theorem k131 : Cond.lays "ContextMix$Mixer" "ContextMix$Mixer" "told" "I" ∈ GW := mem_gw1 (i := 131) rfl rfl
theorem k134 : Cond.classLink "ContextMix$Side" (28) "ContextMix$Corrections" ∈ GW := mem_gw1 (i := 134) rfl rfl
theorem k135 : Cond.instantiable "ContextMix$Corrections" (2) ∈ GW := mem_gw1 (i := 135) rfl rfl
theorem k136 : Cond.methodLink "ContextMix$Side" (30) ⟨"ContextMix$Corrections", "<init>", "()V"⟩ ∈ GW := mem_gw1 (i := 136) rfl rfl
theorem k137 : Cond.instanceMethod ⟨"ContextMix$Corrections", "<init>", "()V"⟩ ∈ GW := mem_gw1 (i := 137) rfl rfl
theorem k138 : Cond.code ⟨"ContextMix$Corrections", "<init>", "()V"⟩ prog_3_method_1_code (1) (Option.none : Option FieldType) ∈ GW := mem_gw1 (i := 138) rfl rfl
theorem k139 : Cond.methodLink "ContextMix$Corrections" (1) ⟨"java/lang/Object", "<init>", "()V"⟩ ∈ GW := mem_gw1 (i := 139) rfl rfl
theorem k140 : Cond.methodLink "ContextMix$Corrections" (13) ⟨"ContextMix$Corrections", "fill", "([I)V"⟩ ∈ GW := mem_gw1 (i := 140) rfl rfl
theorem k141 : Cond.static ⟨"ContextMix$Corrections", "fill", "([I)V"⟩ ∈ GW := mem_gw1 (i := 141) rfl rfl
theorem k142 : Cond.code ⟨"ContextMix$Corrections", "fill", "([I)V"⟩ prog_3_method_3_code (2) (Option.none : Option FieldType) ∈ GW := mem_gw1 (i := 142) rfl rfl
theorem k143 : Cond.methodLink "ContextMix$Corrections" (17) ⟨"ContextMix$Numbers", "squashed", "(I)I"⟩ ∈ GW := mem_gw1 (i := 143) rfl rfl
theorem k144 : Cond.methodLink "ContextMix$Corrections" (23) ⟨"java/lang/System", "arraycopy", "(Ljava/lang/Object;ILjava/lang/Object;II)V"⟩ ∈ GW := mem_gw1 (i := 144) rfl rfl
theorem k145 : Cond.static ⟨"java/lang/System", "arraycopy", "(Ljava/lang/Object;ILjava/lang/Object;II)V"⟩ ∈ GW := mem_gw1 (i := 145) rfl rfl
theorem k146 : Cond.native ⟨"java/lang/System", "arraycopy", "(Ljava/lang/Object;ILjava/lang/Object;II)V"⟩ ∈ GW := mem_gw1 (i := 146) rfl rfl
theorem k147 : Cond.fieldLink "ContextMix$Corrections" (9) "ContextMix$Corrections" "cells" "[I" ∈ GW := mem_gw1 (i := 147) rfl rfl
theorem k149 : Cond.fieldLink "ContextMix$Corrections" (37) "ContextMix$Corrections" "nearest" "I" ∈ GW := mem_gw1 (i := 149) rfl rfl
theorem k150 : Cond.laysFinal "ContextMix$Corrections" "ContextMix$Corrections" "cells" "[I" ∈ GW := mem_gw1 (i := 150) rfl rfl
theorem k152 : Cond.lays "ContextMix$Corrections" "ContextMix$Corrections" "nearest" "I" ∈ GW := mem_gw1 (i := 152) rfl rfl
theorem k155 : Cond.classLink "ContextMix$Side" (35) "ContextMix$Match" ∈ GW := mem_gw1 (i := 155) rfl rfl
theorem k157 : Cond.classLink "ContextMix$Side" (56) "ContextMix$Slots" ∈ GW := mem_gw1 (i := 157) rfl rfl
theorem k158 : Cond.instantiable "ContextMix$Slots" (2) ∈ GW := mem_gw1 (i := 158) rfl rfl
theorem k159 : Cond.methodLink "ContextMix$Side" (58) ⟨"ContextMix$Slots", "<init>", "(I)V"⟩ ∈ GW := mem_gw1 (i := 159) rfl rfl
theorem k160 : Cond.instanceMethod ⟨"ContextMix$Slots", "<init>", "(I)V"⟩ ∈ GW := mem_gw1 (i := 160) rfl rfl
theorem k161 : Cond.code ⟨"ContextMix$Slots", "<init>", "(I)V"⟩ prog_11_method_1_code (3) (Option.none : Option FieldType) ∈ GW := mem_gw1 (i := 161) rfl rfl
theorem k162 : Cond.methodLink "ContextMix$Slots" (3) ⟨"java/lang/Object", "<init>", "()V"⟩ ∈ GW := mem_gw1 (i := 162) rfl rfl
theorem k163 : Cond.methodLink "ContextMix$Slots" (9) ⟨"ContextMix$Numbers", "bound", "(III)I"⟩ ∈ GW := mem_gw1 (i := 163) rfl rfl
theorem k164 : Cond.constant "ContextMix$Slots" (24) (32768) ∈ GW := mem_gw1 (i := 164) rfl rfl
theorem k165 : Cond.methodLink "ContextMix$Slots" (25) ⟨"java/util/Arrays", "fill", "([II)V"⟩ ∈ GW := mem_gw1 (i := 165) rfl rfl
theorem k166 : Cond.fieldLink "ContextMix$Slots" (15) "ContextMix$Slots" "chances" "[I" ∈ GW := mem_gw1 (i := 166) rfl rfl
theorem k169 : Cond.fieldLink "ContextMix$Slots" (21) "ContextMix$Slots" "counts" "[I" ∈ GW := mem_gw1 (i := 169) rfl rfl
theorem k171 : Cond.laysFinal "ContextMix$Slots" "ContextMix$Slots" "chances" "[I" ∈ GW := mem_gw1 (i := 171) rfl rfl
theorem k173 : Cond.laysFinal "ContextMix$Slots" "ContextMix$Slots" "counts" "[I" ∈ GW := mem_gw1 (i := 173) rfl rfl
theorem k176 : Cond.instantiable "ContextMix$Match" (2) ∈ GW := mem_gw1 (i := 176) rfl rfl
theorem k178 : Cond.instanceMethod ⟨"ContextMix$Match", "<init>", "()V"⟩ ∈ GW := mem_gw1 (i := 178) rfl rfl
theorem k179 : Cond.code ⟨"ContextMix$Match", "<init>", "()V"⟩ prog_5_method_1_code (1) (Option.none : Option FieldType) ∈ GW := mem_gw1 (i := 179) rfl rfl
theorem k180 : Cond.methodLink "ContextMix$Match" (3) ⟨"java/lang/Object", "<init>", "()V"⟩ ∈ GW := mem_gw1 (i := 180) rfl rfl
theorem k181 : Cond.fieldLink "ContextMix$Match" (15) "ContextMix$Match" "place" "I" ∈ GW := mem_gw1 (i := 181) rfl rfl
theorem k182 : Cond.fieldLink "ContextMix$Match" (9) "ContextMix$Match" "length" "I" ∈ GW := mem_gw1 (i := 182) rfl rfl
theorem k184 : Cond.lays "ContextMix$Match" "ContextMix$Match" "place" "I" ∈ GW := mem_gw1 (i := 184) rfl rfl
theorem k186 : Cond.lays "ContextMix$Match" "ContextMix$Match" "length" "I" ∈ GW := mem_gw1 (i := 186) rfl rfl
theorem k189 : Cond.fieldLink "ContextMix$Side" (48) "ContextMix$Side" "predictors" "LContextMix$Predictors;" ∈ GW := mem_gw1 (i := 189) rfl rfl
theorem k190 : Cond.fieldLink "ContextMix$Side" (52) "ContextMix$Side" "numbers" "LContextMix$Numbers;" ∈ GW := mem_gw1 (i := 190) rfl rfl
theorem k191 : Cond.fieldLink "ContextMix$Side" (12) "ContextMix$Side" "history" "LContextMix$History;" ∈ GW := mem_gw1 (i := 191) rfl rfl
theorem k193 : Cond.fieldLink "ContextMix$Side" (61) "ContextMix$Side" "slots" "LContextMix$Slots;" ∈ GW := mem_gw1 (i := 193) rfl rfl
theorem k195 : Cond.fieldLink "ContextMix$Side" (21) "ContextMix$Side" "byNode" "LContextMix$Mixer;" ∈ GW := mem_gw1 (i := 195) rfl rfl
theorem k197 : Cond.fieldLink "ContextMix$Side" (25) "ContextMix$Side" "byLatest" "LContextMix$Mixer;" ∈ GW := mem_gw1 (i := 197) rfl rfl
theorem k199 : Cond.fieldLink "ContextMix$Side" (31) "ContextMix$Side" "corrections" "LContextMix$Corrections;" ∈ GW := mem_gw1 (i := 199) rfl rfl
theorem k201 : Cond.fieldLink "ContextMix$Side" (37) "ContextMix$Side" "matches" "[LContextMix$Match;" ∈ GW := mem_gw1 (i := 201) rfl rfl
theorem k202 : Cond.fieldLink "ContextMix$Side" (41) "ContextMix$Side" "contexts" "[I" ∈ GW := mem_gw1 (i := 202) rfl rfl
theorem k203 : Cond.fieldLink "ContextMix$Side" (45) "ContextMix$Side" "inputs" "[I" ∈ GW := mem_gw1 (i := 203) rfl rfl
theorem k204 : Cond.laysFinal "ContextMix$Side" "ContextMix$Side" "predictors" "LContextMix$Predictors;" ∈ GW := mem_gw1 (i := 204) rfl rfl
theorem k206 : Cond.laysFinal "ContextMix$Side" "ContextMix$Side" "numbers" "LContextMix$Numbers;" ∈ GW := mem_gw1 (i := 206) rfl rfl
theorem k208 : Cond.laysFinal "ContextMix$Side" "ContextMix$Side" "history" "LContextMix$History;" ∈ GW := mem_gw1 (i := 208) rfl rfl
theorem k210 : Cond.laysFinal "ContextMix$Side" "ContextMix$Side" "slots" "LContextMix$Slots;" ∈ GW := mem_gw1 (i := 210) rfl rfl
theorem k212 : Cond.laysFinal "ContextMix$Side" "ContextMix$Side" "byNode" "LContextMix$Mixer;" ∈ GW := mem_gw1 (i := 212) rfl rfl
theorem k214 : Cond.laysFinal "ContextMix$Side" "ContextMix$Side" "byLatest" "LContextMix$Mixer;" ∈ GW := mem_gw1 (i := 214) rfl rfl
theorem k216 : Cond.laysFinal "ContextMix$Side" "ContextMix$Side" "corrections" "LContextMix$Corrections;" ∈ GW := mem_gw1 (i := 216) rfl rfl
theorem k218 : Cond.laysFinal "ContextMix$Side" "ContextMix$Side" "matches" "[LContextMix$Match;" ∈ GW := mem_gw1 (i := 218) rfl rfl
theorem k220 : Cond.laysFinal "ContextMix$Side" "ContextMix$Side" "contexts" "[I" ∈ GW := mem_gw1 (i := 220) rfl rfl
theorem k222 : Cond.laysFinal "ContextMix$Side" "ContextMix$Side" "inputs" "[I" ∈ GW := mem_gw1 (i := 222) rfl rfl
theorem k225 : Cond.classLink "ContextMix" (39) "ContextMix$Output" ∈ GW := mem_gw1 (i := 225) rfl rfl
theorem k226 : Cond.instantiable "ContextMix$Output" (2) ∈ GW := mem_gw1 (i := 226) rfl rfl
theorem k228 : Cond.instanceMethod ⟨"ContextMix$Output", "<init>", "()V"⟩ ∈ GW := mem_gw1 (i := 228) rfl rfl
theorem k229 : Cond.code ⟨"ContextMix$Output", "<init>", "()V"⟩ prog_8_method_1_code (1) (Option.none : Option FieldType) ∈ GW := mem_gw1 (i := 229) rfl rfl
theorem k230 : Cond.methodLink "ContextMix$Output" (5) ⟨"java/lang/Object", "<init>", "()V"⟩ ∈ GW := mem_gw1 (i := 230) rfl rfl
theorem k231 : Cond.fieldLink "ContextMix$Output" (13) "ContextMix$Output" "bytes" "[I" ∈ GW := mem_gw1 (i := 231) rfl rfl
theorem k232 : Cond.fieldLink "ContextMix$Output" (17) "ContextMix$Output" "size" "I" ∈ GW := mem_gw1 (i := 232) rfl rfl
theorem k234 : Cond.laysFinal "ContextMix$Output" "ContextMix$Output" "bytes" "[I" ∈ GW := mem_gw1 (i := 234) rfl rfl
theorem k236 : Cond.lays "ContextMix$Output" "ContextMix$Output" "size" "I" ∈ GW := mem_gw1 (i := 236) rfl rfl
theorem k239 : Cond.classLink "ContextMix" (46) "ContextMix$Coder" ∈ GW := mem_gw1 (i := 239) rfl rfl
theorem k240 : Cond.instantiable "ContextMix$Coder" (2) ∈ GW := mem_gw2 (i := 0) rfl rfl
theorem k242 : Cond.instanceMethod ⟨"ContextMix$Coder", "<init>", "()V"⟩ ∈ GW := mem_gw2 (i := 2) rfl rfl
theorem k243 : Cond.code ⟨"ContextMix$Coder", "<init>", "()V"⟩ prog_2_method_1_code (1) (Option.none : Option FieldType) ∈ GW := mem_gw2 (i := 3) rfl rfl
theorem k244 : Cond.methodLink "ContextMix$Coder" (1) ⟨"java/lang/Object", "<init>", "()V"⟩ ∈ GW := mem_gw2 (i := 4) rfl rfl
theorem k245 : Cond.constantLong "ContextMix$Coder" (9) (4294967295) ∈ GW := mem_gw2 (i := 5) rfl rfl
theorem k246 : Cond.fieldLink "ContextMix$Coder" (15) "ContextMix$Coder" "low" "J" ∈ GW := mem_gw2 (i := 6) rfl rfl
theorem k247 : Cond.fieldLink "ContextMix$Coder" (11) "ContextMix$Coder" "high" "J" ∈ GW := mem_gw2 (i := 7) rfl rfl
theorem k248 : Cond.lays "ContextMix$Coder" "ContextMix$Coder" "low" "J" ∈ GW := mem_gw2 (i := 8) rfl rfl
theorem k250 : Cond.lays "ContextMix$Coder" "ContextMix$Coder" "high" "J" ∈ GW := mem_gw2 (i := 10) rfl rfl
theorem k253 : Cond.fieldLink "ContextMix" (16) "ContextMix" "numbers" "LContextMix$Numbers;" ∈ GW := mem_gw2 (i := 13) rfl rfl
theorem k254 : Cond.fieldLink "ContextMix" (23) "ContextMix" "predictors" "LContextMix$Predictors;" ∈ GW := mem_gw2 (i := 14) rfl rfl
theorem k255 : Cond.fieldLink "ContextMix" (32) "ContextMix" "writer" "LContextMix$Side;" ∈ GW := mem_gw2 (i := 15) rfl rfl
theorem k256 : Cond.fieldLink "ContextMix" (36) "ContextMix" "reader" "LContextMix$Side;" ∈ GW := mem_gw2 (i := 16) rfl rfl
theorem k257 : Cond.fieldLink "ContextMix" (42) "ContextMix" "output" "LContextMix$Output;" ∈ GW := mem_gw2 (i := 17) rfl rfl
theorem k258 : Cond.fieldLink "ContextMix" (49) "ContextMix" "writing" "LContextMix$Coder;" ∈ GW := mem_gw2 (i := 18) rfl rfl
theorem k259 : Cond.fieldLink "ContextMix" (53) "ContextMix" "reading" "LContextMix$Coder;" ∈ GW := mem_gw2 (i := 19) rfl rfl
theorem k260 : Cond.fieldLink "ContextMix" (217) "ContextMix" "code" "J" ∈ GW := mem_gw2 (i := 20) rfl rfl
theorem k261 : Cond.fieldLink "ContextMix" (224) "ContextMix" "codePlace" "I" ∈ GW := mem_gw2 (i := 21) rfl rfl
theorem k262 : Cond.fieldLink "ContextMix" (60) "ContextMix" "ended" "Z" ∈ GW := mem_gw2 (i := 22) rfl rfl
theorem k263 : Cond.laysFinal "ContextMix" "ContextMix" "numbers" "LContextMix$Numbers;" ∈ GW := mem_gw2 (i := 23) rfl rfl
theorem k265 : Cond.laysFinal "ContextMix" "ContextMix" "predictors" "LContextMix$Predictors;" ∈ GW := mem_gw2 (i := 25) rfl rfl
theorem k267 : Cond.laysFinal "ContextMix" "ContextMix" "writer" "LContextMix$Side;" ∈ GW := mem_gw2 (i := 27) rfl rfl
theorem k269 : Cond.laysFinal "ContextMix" "ContextMix" "reader" "LContextMix$Side;" ∈ GW := mem_gw2 (i := 29) rfl rfl
theorem k271 : Cond.laysFinal "ContextMix" "ContextMix" "output" "LContextMix$Output;" ∈ GW := mem_gw2 (i := 31) rfl rfl
theorem k273 : Cond.laysFinal "ContextMix" "ContextMix" "writing" "LContextMix$Coder;" ∈ GW := mem_gw2 (i := 33) rfl rfl
theorem k275 : Cond.laysFinal "ContextMix" "ContextMix" "reading" "LContextMix$Coder;" ∈ GW := mem_gw2 (i := 35) rfl rfl
theorem k277 : Cond.lays "ContextMix" "ContextMix" "code" "J" ∈ GW := mem_gw2 (i := 37) rfl rfl
theorem k279 : Cond.lays "ContextMix" "ContextMix" "codePlace" "I" ∈ GW := mem_gw2 (i := 39) rfl rfl
theorem k281 : Cond.lays "ContextMix" "ContextMix" "ended" "Z" ∈ GW := mem_gw2 (i := 41) rfl rfl
theorem k284 : Cond.methodLink "ContextMixLaw" (27) ⟨"ContextMix", "predictor", "(II)I"⟩ ∈ GW := mem_gw2 (i := 44) rfl rfl
theorem k285 : Cond.instanceMethod ⟨"ContextMix", "predictor", "(II)I"⟩ ∈ GW := mem_gw2 (i := 45) rfl rfl
theorem k286 : Cond.selects "ContextMix" ⟨"ContextMix", "predictor", "(II)I"⟩ ⟨"ContextMix", "predictor", "(II)I"⟩ ∈ GW := mem_gw2 (i := 46) rfl rfl
theorem k287 : Cond.code ⟨"ContextMix", "predictor", "(II)I"⟩ prog_1_method_2_code (4) (Option.some FieldType.int) ∈ GW := mem_gw2 (i := 47) rfl rfl
theorem k288 : Cond.methodLink "ContextMix" (56) ⟨"ContextMix$Predictors", "allows", "(II)Z"⟩ ∈ GW := mem_gw2 (i := 48) rfl rfl
theorem k289 : Cond.static ⟨"ContextMix$Predictors", "allows", "(II)Z"⟩ ∈ GW := mem_gw2 (i := 49) rfl rfl
theorem k290 : Cond.code ⟨"ContextMix$Predictors", "allows", "(II)Z"⟩ prog_9_method_2_code (2) (Option.some FieldType.boolean) ∈ GW := mem_gw2 (i := 50) rfl rfl
theorem k291 : Cond.methodLink "ContextMix" (68) ⟨"ContextMix$History", "begun", "()Z"⟩ ∈ GW := mem_gw2 (i := 51) rfl rfl
theorem k292 : Cond.instanceMethod ⟨"ContextMix$History", "begun", "()Z"⟩ ∈ GW := mem_gw2 (i := 52) rfl rfl
theorem k293 : Cond.selects "ContextMix$History" ⟨"ContextMix$History", "begun", "()Z"⟩ ⟨"ContextMix$History", "begun", "()Z"⟩ ∈ GW := mem_gw2 (i := 53) rfl rfl
theorem k294 : Cond.code ⟨"ContextMix$History", "begun", "()Z"⟩ prog_4_method_3_code (1) (Option.some FieldType.boolean) ∈ GW := mem_gw2 (i := 54) rfl rfl
theorem k295 : Cond.methodLink "ContextMix" (74) ⟨"ContextMix$Predictors", "add", "(II)I"⟩ ∈ GW := mem_gw2 (i := 55) rfl rfl
theorem k296 : Cond.instanceMethod ⟨"ContextMix$Predictors", "add", "(II)I"⟩ ∈ GW := mem_gw2 (i := 56) rfl rfl
theorem k297 : Cond.selects "ContextMix$Predictors" ⟨"ContextMix$Predictors", "add", "(II)I"⟩ ⟨"ContextMix$Predictors", "add", "(II)I"⟩ ∈ GW := mem_gw2 (i := 57) rfl rfl
theorem k298 : Cond.code ⟨"ContextMix$Predictors", "add", "(II)I"⟩ prog_9_method_4_code (3) (Option.some FieldType.int) ∈ GW := mem_gw2 (i := 58) rfl rfl
theorem k299 : Cond.methodLink "ContextMix" (78) ⟨"ContextMix$Side", "beginByte", "()V"⟩ ∈ GW := mem_gw2 (i := 59) rfl rfl
theorem k300 : Cond.instanceMethod ⟨"ContextMix$Side", "beginByte", "()V"⟩ ∈ GW := mem_gw2 (i := 60) rfl rfl
theorem k301 : Cond.selects "ContextMix$Side" ⟨"ContextMix$Side", "beginByte", "()V"⟩ ⟨"ContextMix$Side", "beginByte", "()V"⟩ ∈ GW := mem_gw2 (i := 61) rfl rfl
theorem k302 : Cond.code ⟨"ContextMix$Side", "beginByte", "()V"⟩ prog_10_method_3_code (4) (Option.none : Option FieldType) ∈ GW := mem_gw2 (i := 62) rfl rfl
theorem k303 : Cond.methodLink "ContextMix$Side" (90) ⟨"ContextMix$Match", "follow", "(LContextMix$History;)V"⟩ ∈ GW := mem_gw2 (i := 63) rfl rfl
theorem k304 : Cond.instanceMethod ⟨"ContextMix$Match", "follow", "(LContextMix$History;)V"⟩ ∈ GW := mem_gw2 (i := 64) rfl rfl
theorem k305 : Cond.selects "ContextMix$Match" ⟨"ContextMix$Match", "follow", "(LContextMix$History;)V"⟩ ⟨"ContextMix$Match", "follow", "(LContextMix$History;)V"⟩ ∈ GW := mem_gw2 (i := 65) rfl rfl
theorem k306 : Cond.code ⟨"ContextMix$Match", "follow", "(LContextMix$History;)V"⟩ prog_5_method_2_code (2) (Option.none : Option FieldType) ∈ GW := mem_gw2 (i := 66) rfl rfl
theorem k307 : Cond.methodLink "ContextMix$Match" (18) ⟨"ContextMix$History", "byteAt", "(I)I"⟩ ∈ GW := mem_gw2 (i := 67) rfl rfl
theorem k308 : Cond.instanceMethod ⟨"ContextMix$History", "byteAt", "(I)I"⟩ ∈ GW := mem_gw2 (i := 68) rfl rfl
theorem k309 : Cond.selects "ContextMix$History" ⟨"ContextMix$History", "byteAt", "(I)I"⟩ ⟨"ContextMix$History", "byteAt", "(I)I"⟩ ∈ GW := mem_gw2 (i := 69) rfl rfl
theorem k310 : Cond.code ⟨"ContextMix$History", "byteAt", "(I)I"⟩ prog_4_method_4_code (2) (Option.some FieldType.int) ∈ GW := mem_gw2 (i := 70) rfl rfl
theorem k311 : Cond.methodLink "ContextMix$Match" (24) ⟨"ContextMix$History", "back", "(I)I"⟩ ∈ GW := mem_gw2 (i := 71) rfl rfl
theorem k312 : Cond.instanceMethod ⟨"ContextMix$History", "back", "(I)I"⟩ ∈ GW := mem_gw2 (i := 72) rfl rfl
theorem k313 : Cond.selects "ContextMix$History" ⟨"ContextMix$History", "back", "(I)I"⟩ ⟨"ContextMix$History", "back", "(I)I"⟩ ∈ GW := mem_gw2 (i := 73) rfl rfl
theorem k314 : Cond.code ⟨"ContextMix$History", "back", "(I)I"⟩ prog_4_method_5_code (3) (Option.some FieldType.int) ∈ GW := mem_gw2 (i := 74) rfl rfl
theorem k315 : Cond.methodLink "ContextMix$Match" (27) ⟨"java/lang/Math", "min", "(II)I"⟩ ∈ GW := mem_gw2 (i := 75) rfl rfl
theorem k316 : Cond.methodLink "ContextMix$Side" (94) ⟨"ContextMix$Match", "find", "(LContextMix$History;I)V"⟩ ∈ GW := mem_gw2 (i := 76) rfl rfl
theorem k317 : Cond.instanceMethod ⟨"ContextMix$Match", "find", "(LContextMix$History;I)V"⟩ ∈ GW := mem_gw2 (i := 77) rfl rfl
theorem k318 : Cond.selects "ContextMix$Match" ⟨"ContextMix$Match", "find", "(LContextMix$History;I)V"⟩ ⟨"ContextMix$Match", "find", "(LContextMix$History;I)V"⟩ ∈ GW := mem_gw2 (i := 78) rfl rfl
theorem k319 : Cond.code ⟨"ContextMix$Match", "find", "(LContextMix$History;I)V"⟩ prog_5_method_3_code (5) (Option.none : Option FieldType) ∈ GW := mem_gw2 (i := 79) rfl rfl
theorem k320 : Cond.methodLink "ContextMix$Match" (36) ⟨"java/lang/Math", "max", "(II)I"⟩ ∈ GW := mem_gw2 (i := 80) rfl rfl
theorem k321 : Cond.methodLink "ContextMix$Match" (39) ⟨"ContextMix$History", "sameBefore", "(II)Z"⟩ ∈ GW := mem_gw2 (i := 81) rfl rfl
theorem k322 : Cond.instanceMethod ⟨"ContextMix$History", "sameBefore", "(II)Z"⟩ ∈ GW := mem_gw2 (i := 82) rfl rfl
theorem k323 : Cond.selects "ContextMix$History" ⟨"ContextMix$History", "sameBefore", "(II)Z"⟩ ⟨"ContextMix$History", "sameBefore", "(II)Z"⟩ ∈ GW := mem_gw2 (i := 83) rfl rfl
theorem k324 : Cond.code ⟨"ContextMix$History", "sameBefore", "(II)Z"⟩ prog_4_method_12_code (4) (Option.some FieldType.boolean) ∈ GW := mem_gw2 (i := 84) rfl rfl
theorem k325 : Cond.methodLink "ContextMix$History" (52) ⟨"ContextMix$History", "byteAt", "(I)I"⟩ ∈ GW := mem_gw2 (i := 85) rfl rfl
theorem k326 : Cond.methodLink "ContextMix$History" (45) ⟨"ContextMix$History", "back", "(I)I"⟩ ∈ GW := mem_gw2 (i := 86) rfl rfl
theorem k327 : Cond.methodLink "ContextMix$Side" (98) ⟨"ContextMix$History", "contextOf", "(II)I"⟩ ∈ GW := mem_gw2 (i := 87) rfl rfl
theorem k328 : Cond.instanceMethod ⟨"ContextMix$History", "contextOf", "(II)I"⟩ ∈ GW := mem_gw2 (i := 88) rfl rfl
theorem k329 : Cond.selects "ContextMix$History" ⟨"ContextMix$History", "contextOf", "(II)I"⟩ ⟨"ContextMix$History", "contextOf", "(II)I"⟩ ∈ GW := mem_gw2 (i := 89) rfl rfl
theorem k330 : Cond.code ⟨"ContextMix$History", "contextOf", "(II)I"⟩ prog_4_method_7_code (3) (Option.some FieldType.int) ∈ GW := mem_gw2 (i := 90) rfl rfl
theorem k331 : Cond.methodLink "ContextMix$History" (25) ⟨"ContextMix$History", "latestContext", "(I)I"⟩ ∈ GW := mem_gw2 (i := 91) rfl rfl
theorem k333 : Cond.instanceMethod ⟨"ContextMix$History", "latestContext", "(I)I"⟩ ∈ GW := mem_gw2 (i := 93) rfl rfl
theorem k334 : Cond.code ⟨"ContextMix$History", "latestContext", "(I)I"⟩ prog_4_method_8_code (4) (Option.some FieldType.int) ∈ GW := mem_gw2 (i := 94) rfl rfl
theorem k335 : Cond.methodLink "ContextMix$History" (39) ⟨"ContextMix$Numbers", "hash", "(II)I"⟩ ∈ GW := mem_gw2 (i := 95) rfl rfl
theorem k336 : Cond.static ⟨"ContextMix$Numbers", "hash", "(II)I"⟩ ∈ GW := mem_gw2 (i := 96) rfl rfl
theorem k337 : Cond.code ⟨"ContextMix$Numbers", "hash", "(II)I"⟩ prog_7_method_4_code (3) (Option.some FieldType.int) ∈ GW := mem_gw2 (i := 97) rfl rfl
theorem k338 : Cond.constant "ContextMix$Numbers" (24) (625341585) ∈ GW := mem_gw2 (i := 98) rfl rfl
theorem k339 : Cond.constant "ContextMix$Numbers" (25) (-1640531535) ∈ GW := mem_gw2 (i := 99) rfl rfl
theorem k340 : Cond.constant "ContextMix$Numbers" (26) (-2048144789) ∈ GW := mem_gw2 (i := 100) rfl rfl
theorem k341 : Cond.methodLink "ContextMix$History" (29) ⟨"ContextMix$History", "wordContext", "()I"⟩ ∈ GW := mem_gw2 (i := 101) rfl rfl
theorem k343 : Cond.instanceMethod ⟨"ContextMix$History", "wordContext", "()I"⟩ ∈ GW := mem_gw2 (i := 103) rfl rfl
theorem k344 : Cond.code ⟨"ContextMix$History", "wordContext", "()I"⟩ prog_4_method_9_code (4) (Option.some FieldType.int) ∈ GW := mem_gw2 (i := 104) rfl rfl
theorem k345 : Cond.methodLink "ContextMix$History" (48) ⟨"ContextMix$History", "isLetter", "(I)Z"⟩ ∈ GW := mem_gw2 (i := 105) rfl rfl
theorem k346 : Cond.static ⟨"ContextMix$History", "isLetter", "(I)Z"⟩ ∈ GW := mem_gw2 (i := 106) rfl rfl
theorem k347 : Cond.code ⟨"ContextMix$History", "isLetter", "(I)Z"⟩ prog_4_method_14_code (1) (Option.some FieldType.boolean) ∈ GW := mem_gw2 (i := 107) rfl rfl
theorem k348 : Cond.methodLink "ContextMix$History" (33) ⟨"ContextMix$History", "columnContext", "(I)I"⟩ ∈ GW := mem_gw2 (i := 108) rfl rfl
theorem k350 : Cond.instanceMethod ⟨"ContextMix$History", "columnContext", "(I)I"⟩ ∈ GW := mem_gw2 (i := 110) rfl rfl
theorem k351 : Cond.code ⟨"ContextMix$History", "columnContext", "(I)I"⟩ prog_4_method_10_code (4) (Option.some FieldType.int) ∈ GW := mem_gw2 (i := 111) rfl rfl
theorem k352 : Cond.methodLink "ContextMix$History" (36) ⟨"ContextMix$History", "apartContext", "(I)I"⟩ ∈ GW := mem_gw2 (i := 112) rfl rfl
theorem k354 : Cond.instanceMethod ⟨"ContextMix$History", "apartContext", "(I)I"⟩ ∈ GW := mem_gw2 (i := 114) rfl rfl
theorem k355 : Cond.code ⟨"ContextMix$History", "apartContext", "(I)I"⟩ prog_4_method_11_code (4) (Option.some FieldType.int) ∈ GW := mem_gw2 (i := 115) rfl rfl
theorem k356 : Cond.methodLink "ContextMixLaw" (31) ⟨"ContextMix", "off", "(I)I"⟩ ∈ GW := mem_gw2 (i := 116) rfl rfl
theorem k357 : Cond.instanceMethod ⟨"ContextMix", "off", "(I)I"⟩ ∈ GW := mem_gw2 (i := 117) rfl rfl
theorem k358 : Cond.selects "ContextMix" ⟨"ContextMix", "off", "(I)I"⟩ ⟨"ContextMix", "off", "(I)I"⟩ ∈ GW := mem_gw2 (i := 118) rfl rfl
theorem k359 : Cond.code ⟨"ContextMix", "off", "(I)I"⟩ prog_1_method_3_code (2) (Option.some FieldType.int) ∈ GW := mem_gw2 (i := 119) rfl rfl
theorem k360 : Cond.methodLink "ContextMix" (81) ⟨"ContextMix$Predictors", "has", "(I)Z"⟩ ∈ GW := mem_gw2 (i := 120) rfl rfl
theorem k361 : Cond.instanceMethod ⟨"ContextMix$Predictors", "has", "(I)Z"⟩ ∈ GW := mem_gw2 (i := 121) rfl rfl
theorem k362 : Cond.selects "ContextMix$Predictors" ⟨"ContextMix$Predictors", "has", "(I)Z"⟩ ⟨"ContextMix$Predictors", "has", "(I)Z"⟩ ∈ GW := mem_gw2 (i := 122) rfl rfl
theorem k363 : Cond.code ⟨"ContextMix$Predictors", "has", "(I)Z"⟩ prog_9_method_3_code (2) (Option.some FieldType.boolean) ∈ GW := mem_gw2 (i := 123) rfl rfl
theorem k364 : Cond.methodLink "ContextMix" (85) ⟨"ContextMix$Predictors", "turnOff", "(I)Z"⟩ ∈ GW := mem_gw2 (i := 124) rfl rfl
theorem k365 : Cond.instanceMethod ⟨"ContextMix$Predictors", "turnOff", "(I)Z"⟩ ∈ GW := mem_gw2 (i := 125) rfl rfl
theorem k366 : Cond.selects "ContextMix$Predictors" ⟨"ContextMix$Predictors", "turnOff", "(I)Z"⟩ ⟨"ContextMix$Predictors", "turnOff", "(I)Z"⟩ ∈ GW := mem_gw2 (i := 126) rfl rfl
theorem k367 : Cond.code ⟨"ContextMix$Predictors", "turnOff", "(I)Z"⟩ prog_9_method_5_code (2) (Option.some FieldType.boolean) ∈ GW := mem_gw2 (i := 127) rfl rfl
theorem k368 : Cond.methodLink "ContextMix$Predictors" (26) ⟨"ContextMix$Predictors", "has", "(I)Z"⟩ ∈ GW := mem_gw2 (i := 128) rfl rfl
theorem k369 : Cond.methodLink "ContextMixLaw" (36) ⟨"ContextMix", "bit", "(Z)I"⟩ ∈ GW := mem_gw2 (i := 129) rfl rfl
theorem k370 : Cond.instanceMethod ⟨"ContextMix", "bit", "(Z)I"⟩ ∈ GW := mem_gw2 (i := 130) rfl rfl
theorem k371 : Cond.selects "ContextMix" ⟨"ContextMix", "bit", "(Z)I"⟩ ⟨"ContextMix", "bit", "(Z)I"⟩ ∈ GW := mem_gw2 (i := 131) rfl rfl
theorem k372 : Cond.code ⟨"ContextMix", "bit", "(Z)I"⟩ prog_1_method_4_code (2) (Option.some FieldType.int) ∈ GW := mem_gw2 (i := 132) rfl rfl
theorem k373 : Cond.methodLink "ContextMix" (88) ⟨"ContextMix", "isFull", "()Z"⟩ ∈ GW := mem_gw2 (i := 133) rfl rfl
theorem k375 : Cond.instanceMethod ⟨"ContextMix", "isFull", "()Z"⟩ ∈ GW := mem_gw2 (i := 135) rfl rfl
theorem k376 : Cond.code ⟨"ContextMix", "isFull", "()Z"⟩ prog_1_method_23_code (1) (Option.some FieldType.boolean) ∈ GW := mem_gw2 (i := 136) rfl rfl
theorem k377 : Cond.methodLink "ContextMix" (91) ⟨"ContextMix", "writeBit", "(Z)V"⟩ ∈ GW := mem_gw2 (i := 137) rfl rfl
theorem k379 : Cond.instanceMethod ⟨"ContextMix", "writeBit", "(Z)V"⟩ ∈ GW := mem_gw2 (i := 139) rfl rfl
theorem k380 : Cond.code ⟨"ContextMix", "writeBit", "(Z)V"⟩ prog_1_method_24_code (3) (Option.none : Option FieldType) ∈ GW := mem_gw2 (i := 140) rfl rfl
theorem k381 : Cond.methodLink "ContextMix" (136) ⟨"ContextMix$Side", "foretell", "()I"⟩ ∈ GW := mem_gw2 (i := 141) rfl rfl
theorem k382 : Cond.instanceMethod ⟨"ContextMix$Side", "foretell", "()I"⟩ ∈ GW := mem_gw2 (i := 142) rfl rfl
theorem k383 : Cond.selects "ContextMix$Side" ⟨"ContextMix$Side", "foretell", "()I"⟩ ⟨"ContextMix$Side", "foretell", "()I"⟩ ∈ GW := mem_gw2 (i := 143) rfl rfl
theorem k384 : Cond.code ⟨"ContextMix$Side", "foretell", "()I"⟩ prog_10_method_5_code (4) (Option.some FieldType.int) ∈ GW := mem_gw2 (i := 144) rfl rfl
theorem k385 : Cond.methodLink "ContextMix$Side" (129) ⟨"ContextMix$Side", "inputOf", "(I)I"⟩ ∈ GW := mem_gw2 (i := 145) rfl rfl
theorem k386 : Cond.instanceMethod ⟨"ContextMix$Side", "inputOf", "(I)I"⟩ ∈ GW := mem_gw2 (i := 146) rfl rfl
theorem k387 : Cond.selects "ContextMix$Side" ⟨"ContextMix$Side", "inputOf", "(I)I"⟩ ⟨"ContextMix$Side", "inputOf", "(I)I"⟩ ∈ GW := mem_gw2 (i := 147) rfl rfl
theorem k388 : Cond.code ⟨"ContextMix$Side", "inputOf", "(I)I"⟩ prog_10_method_4_code (2) (Option.some FieldType.int) ∈ GW := mem_gw2 (i := 148) rfl rfl
theorem k389 : Cond.methodLink "ContextMix$Side" (102) ⟨"ContextMix$Predictors", "has", "(I)Z"⟩ ∈ GW := mem_gw2 (i := 149) rfl rfl
theorem k390 : Cond.methodLink "ContextMix$Side" (110) ⟨"ContextMix$Match", "told", "(LContextMix$History;)I"⟩ ∈ GW := mem_gw2 (i := 150) rfl rfl
theorem k391 : Cond.instanceMethod ⟨"ContextMix$Match", "told", "(LContextMix$History;)I"⟩ ∈ GW := mem_gw2 (i := 151) rfl rfl
theorem k392 : Cond.selects "ContextMix$Match" ⟨"ContextMix$Match", "told", "(LContextMix$History;)I"⟩ ⟨"ContextMix$Match", "told", "(LContextMix$History;)I"⟩ ∈ GW := mem_gw2 (i := 152) rfl rfl
theorem k393 : Cond.code ⟨"ContextMix$Match", "told", "(LContextMix$History;)I"⟩ prog_5_method_4_code (5) (Option.some FieldType.int) ∈ GW := mem_gw2 (i := 153) rfl rfl
theorem k394 : Cond.methodLink "ContextMix$Side" (120) ⟨"ContextMix$Slots", "placeOf", "(II)I"⟩ ∈ GW := mem_gw2 (i := 154) rfl rfl
theorem k395 : Cond.instanceMethod ⟨"ContextMix$Slots", "placeOf", "(II)I"⟩ ∈ GW := mem_gw2 (i := 155) rfl rfl
theorem k396 : Cond.selects "ContextMix$Slots" ⟨"ContextMix$Slots", "placeOf", "(II)I"⟩ ⟨"ContextMix$Slots", "placeOf", "(II)I"⟩ ∈ GW := mem_gw2 (i := 156) rfl rfl
theorem k397 : Cond.code ⟨"ContextMix$Slots", "placeOf", "(II)I"⟩ prog_11_method_4_code (3) (Option.some FieldType.int) ∈ GW := mem_gw2 (i := 157) rfl rfl
theorem k398 : Cond.methodLink "ContextMix$Slots" (31) ⟨"ContextMix$Numbers", "hash", "(II)I"⟩ ∈ GW := mem_gw2 (i := 158) rfl rfl
theorem k399 : Cond.methodLink "ContextMix$Side" (123) ⟨"ContextMix$Numbers", "stretched", "(I)I"⟩ ∈ GW := mem_gw2 (i := 159) rfl rfl
theorem k400 : Cond.instanceMethod ⟨"ContextMix$Numbers", "stretched", "(I)I"⟩ ∈ GW := mem_gw2 (i := 160) rfl rfl
theorem k401 : Cond.selects "ContextMix$Numbers" ⟨"ContextMix$Numbers", "stretched", "(I)I"⟩ ⟨"ContextMix$Numbers", "stretched", "(I)I"⟩ ∈ GW := mem_gw2 (i := 161) rfl rfl
theorem k402 : Cond.code ⟨"ContextMix$Numbers", "stretched", "(I)I"⟩ prog_7_method_2_code (2) (Option.some FieldType.int) ∈ GW := mem_gw2 (i := 162) rfl rfl
theorem k403 : Cond.methodLink "ContextMix$Numbers" (17) ⟨"ContextMix$Numbers", "bound", "(III)I"⟩ ∈ GW := mem_gw2 (i := 163) rfl rfl
theorem k404 : Cond.methodLink "ContextMix$Side" (132) ⟨"ContextMix$Mixer", "tell", "(I[I)I"⟩ ∈ GW := mem_gw2 (i := 164) rfl rfl
theorem k405 : Cond.instanceMethod ⟨"ContextMix$Mixer", "tell", "(I[I)I"⟩ ∈ GW := mem_gw2 (i := 165) rfl rfl
theorem k406 : Cond.selects "ContextMix$Mixer" ⟨"ContextMix$Mixer", "tell", "(I[I)I"⟩ ⟨"ContextMix$Mixer", "tell", "(I[I)I"⟩ ∈ GW := mem_gw2 (i := 166) rfl rfl
theorem k407 : Cond.code ⟨"ContextMix$Mixer", "tell", "(I[I)I"⟩ prog_6_method_5_code (7) (Option.some FieldType.int) ∈ GW := mem_gw2 (i := 167) rfl rfl
theorem k408 : Cond.methodLink "ContextMix$Mixer" (24) ⟨"ContextMix$Numbers", "bound", "(III)I"⟩ ∈ GW := mem_gw2 (i := 168) rfl rfl
theorem k409 : Cond.constantLong "ContextMix$Mixer" (34) (-2047) ∈ GW := mem_gw2 (i := 169) rfl rfl
theorem k410 : Cond.constantLong "ContextMix$Mixer" (36) (2047) ∈ GW := mem_gw2 (i := 170) rfl rfl
theorem k411 : Cond.methodLink "ContextMix$Mixer" (38) ⟨"java/lang/Math", "min", "(JJ)J"⟩ ∈ GW := mem_gw2 (i := 171) rfl rfl
theorem k412 : Cond.static ⟨"java/lang/Math", "min", "(JJ)J"⟩ ∈ GW := mem_gw2 (i := 172) rfl rfl
theorem k413 : Cond.code ⟨"java/lang/Math", "min", "(JJ)J"⟩ prog_17_method_70_code (4) (Option.some FieldType.long) ∈ GW := mem_gw2 (i := 173) rfl rfl
theorem k414 : Cond.methodLink "ContextMix$Mixer" (44) ⟨"java/lang/Math", "max", "(JJ)J"⟩ ∈ GW := mem_gw2 (i := 174) rfl rfl
theorem k415 : Cond.static ⟨"java/lang/Math", "max", "(JJ)J"⟩ ∈ GW := mem_gw2 (i := 175) rfl rfl
theorem k416 : Cond.code ⟨"java/lang/Math", "max", "(JJ)J"⟩ prog_17_method_66_code (4) (Option.some FieldType.long) ∈ GW := mem_gw2 (i := 176) rfl rfl
theorem k417 : Cond.methodLink "ContextMix$Mixer" (47) ⟨"ContextMix$Numbers", "squashed", "(I)I"⟩ ∈ GW := mem_gw2 (i := 177) rfl rfl
theorem k418 : Cond.methodLink "ContextMix$Side" (136) ⟨"ContextMix$History", "back", "(I)I"⟩ ∈ GW := mem_gw2 (i := 178) rfl rfl
theorem k419 : Cond.methodLink "ContextMix$Side" (139) ⟨"ContextMix$Corrections", "correct", "(II)I"⟩ ∈ GW := mem_gw2 (i := 179) rfl rfl
theorem k420 : Cond.instanceMethod ⟨"ContextMix$Corrections", "correct", "(II)I"⟩ ∈ GW := mem_gw2 (i := 180) rfl rfl
theorem k421 : Cond.selects "ContextMix$Corrections" ⟨"ContextMix$Corrections", "correct", "(II)I"⟩ ⟨"ContextMix$Corrections", "correct", "(II)I"⟩ ∈ GW := mem_gw2 (i := 181) rfl rfl
theorem k422 : Cond.code ⟨"ContextMix$Corrections", "correct", "(II)I"⟩ prog_3_method_6_code (6) (Option.some FieldType.int) ∈ GW := mem_gw2 (i := 182) rfl rfl
theorem k423 : Cond.methodLink "ContextMix$Corrections" (33) ⟨"ContextMix$Numbers", "bound", "(III)I"⟩ ∈ GW := mem_gw2 (i := 183) rfl rfl
theorem k424 : Cond.methodLink "ContextMix$Corrections" (41) ⟨"ContextMix$Corrections", "cellAt", "(II)I"⟩ ∈ GW := mem_gw2 (i := 184) rfl rfl
theorem k425 : Cond.instanceMethod ⟨"ContextMix$Corrections", "cellAt", "(II)I"⟩ ∈ GW := mem_gw2 (i := 185) rfl rfl
theorem k426 : Cond.selects "ContextMix$Corrections" ⟨"ContextMix$Corrections", "cellAt", "(II)I"⟩ ⟨"ContextMix$Corrections", "cellAt", "(II)I"⟩ ∈ GW := mem_gw2 (i := 186) rfl rfl
theorem k427 : Cond.code ⟨"ContextMix$Corrections", "cellAt", "(II)I"⟩ prog_3_method_5_code (3) (Option.some FieldType.int) ∈ GW := mem_gw2 (i := 187) rfl rfl
theorem k428 : Cond.methodLink "ContextMix$Corrections" (29) ⟨"ContextMix$Corrections", "has", "(II)Z"⟩ ∈ GW := mem_gw2 (i := 188) rfl rfl
theorem k429 : Cond.static ⟨"ContextMix$Corrections", "has", "(II)Z"⟩ ∈ GW := mem_gw2 (i := 189) rfl rfl
theorem k430 : Cond.code ⟨"ContextMix$Corrections", "has", "(II)Z"⟩ prog_3_method_4_code (2) (Option.some FieldType.boolean) ∈ GW := mem_gw2 (i := 190) rfl rfl
theorem k431 : Cond.methodLink "ContextMix$Side" (142) ⟨"ContextMix$Numbers", "bound", "(III)I"⟩ ∈ GW := mem_gw2 (i := 191) rfl rfl
theorem k432 : Cond.methodLink "ContextMix" (203) ⟨"ContextMix$Coder", "middle", "(I)J"⟩ ∈ GW := mem_gw2 (i := 192) rfl rfl
theorem k433 : Cond.instanceMethod ⟨"ContextMix$Coder", "middle", "(I)J"⟩ ∈ GW := mem_gw2 (i := 193) rfl rfl
theorem k434 : Cond.selects "ContextMix$Coder" ⟨"ContextMix$Coder", "middle", "(I)J"⟩ ⟨"ContextMix$Coder", "middle", "(I)J"⟩ ∈ GW := mem_gw2 (i := 194) rfl rfl
theorem k435 : Cond.code ⟨"ContextMix$Coder", "middle", "(I)J"⟩ prog_2_method_3_code (2) (Option.some FieldType.long) ∈ GW := mem_gw2 (i := 195) rfl rfl
theorem k436 : Cond.methodLink "ContextMix" (207) ⟨"ContextMix$Coder", "narrow", "(ZJ)V"⟩ ∈ GW := mem_gw2 (i := 196) rfl rfl
theorem k437 : Cond.instanceMethod ⟨"ContextMix$Coder", "narrow", "(ZJ)V"⟩ ∈ GW := mem_gw2 (i := 197) rfl rfl
theorem k438 : Cond.selects "ContextMix$Coder" ⟨"ContextMix$Coder", "narrow", "(ZJ)V"⟩ ⟨"ContextMix$Coder", "narrow", "(ZJ)V"⟩ ∈ GW := mem_gw2 (i := 198) rfl rfl
theorem k439 : Cond.code ⟨"ContextMix$Coder", "narrow", "(ZJ)V"⟩ prog_2_method_4_code (4) (Option.none : Option FieldType) ∈ GW := mem_gw2 (i := 199) rfl rfl
theorem k440 : Cond.methodLink "ContextMix" (211) ⟨"ContextMix$Coder", "settled", "()Z"⟩ ∈ GW := mem_gw2 (i := 200) rfl rfl
theorem k441 : Cond.instanceMethod ⟨"ContextMix$Coder", "settled", "()Z"⟩ ∈ GW := mem_gw2 (i := 201) rfl rfl
theorem k442 : Cond.selects "ContextMix$Coder" ⟨"ContextMix$Coder", "settled", "()Z"⟩ ⟨"ContextMix$Coder", "settled", "()Z"⟩ ∈ GW := mem_gw2 (i := 202) rfl rfl
theorem k443 : Cond.code ⟨"ContextMix$Coder", "settled", "()Z"⟩ prog_2_method_5_code (1) (Option.some FieldType.boolean) ∈ GW := mem_gw2 (i := 203) rfl rfl
theorem k444 : Cond.methodLink "ContextMix" (102) ⟨"ContextMix$Coder", "highestOfLow", "()I"⟩ ∈ GW := mem_gw2 (i := 204) rfl rfl
theorem k445 : Cond.instanceMethod ⟨"ContextMix$Coder", "highestOfLow", "()I"⟩ ∈ GW := mem_gw2 (i := 205) rfl rfl
theorem k446 : Cond.selects "ContextMix$Coder" ⟨"ContextMix$Coder", "highestOfLow", "()I"⟩ ⟨"ContextMix$Coder", "highestOfLow", "()I"⟩ ∈ GW := mem_gw2 (i := 206) rfl rfl
theorem k447 : Cond.code ⟨"ContextMix$Coder", "highestOfLow", "()I"⟩ prog_2_method_6_code (1) (Option.some FieldType.int) ∈ GW := mem_gw2 (i := 207) rfl rfl
theorem k448 : Cond.methodLink "ContextMix" (106) ⟨"ContextMix$Output", "add", "(I)V"⟩ ∈ GW := mem_gw2 (i := 208) rfl rfl
theorem k449 : Cond.instanceMethod ⟨"ContextMix$Output", "add", "(I)V"⟩ ∈ GW := mem_gw2 (i := 209) rfl rfl
theorem k450 : Cond.selects "ContextMix$Output" ⟨"ContextMix$Output", "add", "(I)V"⟩ ⟨"ContextMix$Output", "add", "(I)V"⟩ ∈ GW := mem_gw2 (i := 210) rfl rfl
theorem k451 : Cond.code ⟨"ContextMix$Output", "add", "(I)V"⟩ prog_8_method_4_code (2) (Option.none : Option FieldType) ∈ GW := mem_gw2 (i := 211) rfl rfl
theorem k452 : Cond.methodLink "ContextMix" (109) ⟨"ContextMix$Coder", "shift", "()V"⟩ ∈ GW := mem_gw2 (i := 212) rfl rfl
theorem k453 : Cond.instanceMethod ⟨"ContextMix$Coder", "shift", "()V"⟩ ∈ GW := mem_gw2 (i := 213) rfl rfl
theorem k454 : Cond.selects "ContextMix$Coder" ⟨"ContextMix$Coder", "shift", "()V"⟩ ⟨"ContextMix$Coder", "shift", "()V"⟩ ∈ GW := mem_gw2 (i := 214) rfl rfl
theorem k455 : Cond.code ⟨"ContextMix$Coder", "shift", "()V"⟩ prog_2_method_7_code (1) (Option.none : Option FieldType) ∈ GW := mem_gw2 (i := 215) rfl rfl
theorem k456 : Cond.constantLong "ContextMix$Coder" (18) (255) ∈ GW := mem_gw2 (i := 216) rfl rfl
theorem k457 : Cond.methodLink "ContextMix" (214) ⟨"ContextMix$Side", "learn", "(Z)V"⟩ ∈ GW := mem_gw2 (i := 217) rfl rfl
theorem k458 : Cond.instanceMethod ⟨"ContextMix$Side", "learn", "(Z)V"⟩ ∈ GW := mem_gw2 (i := 218) rfl rfl
theorem k459 : Cond.selects "ContextMix$Side" ⟨"ContextMix$Side", "learn", "(Z)V"⟩ ⟨"ContextMix$Side", "learn", "(Z)V"⟩ ∈ GW := mem_gw2 (i := 219) rfl rfl
theorem k460 : Cond.code ⟨"ContextMix$Side", "learn", "(Z)V"⟩ prog_10_method_6_code (3) (Option.none : Option FieldType) ∈ GW := mem_gw2 (i := 220) rfl rfl
theorem k461 : Cond.methodLink "ContextMix$Side" (146) ⟨"ContextMix$Mixer", "learn", "(Z[I)V"⟩ ∈ GW := mem_gw2 (i := 221) rfl rfl
theorem k462 : Cond.instanceMethod ⟨"ContextMix$Mixer", "learn", "(Z[I)V"⟩ ∈ GW := mem_gw2 (i := 222) rfl rfl
theorem k463 : Cond.selects "ContextMix$Mixer" ⟨"ContextMix$Mixer", "learn", "(Z[I)V"⟩ ⟨"ContextMix$Mixer", "learn", "(Z[I)V"⟩ ∈ GW := mem_gw2 (i := 223) rfl rfl
theorem k464 : Cond.code ⟨"ContextMix$Mixer", "learn", "(Z[I)V"⟩ prog_6_method_6_code (6) (Option.none : Option FieldType) ∈ GW := mem_gw2 (i := 224) rfl rfl
theorem k465 : Cond.constant "ContextMix$Mixer" (54) (32768) ∈ GW := mem_gw2 (i := 225) rfl rfl
theorem k466 : Cond.constant "ContextMix$Mixer" (55) (-1000000) ∈ GW := mem_gw2 (i := 226) rfl rfl
theorem k467 : Cond.constant "ContextMix$Mixer" (56) (1000000) ∈ GW := mem_gw2 (i := 227) rfl rfl
theorem k468 : Cond.methodLink "ContextMix$Side" (150) ⟨"ContextMix$Corrections", "learn", "(Z)V"⟩ ∈ GW := mem_gw2 (i := 228) rfl rfl
theorem k469 : Cond.instanceMethod ⟨"ContextMix$Corrections", "learn", "(Z)V"⟩ ∈ GW := mem_gw2 (i := 229) rfl rfl
theorem k470 : Cond.selects "ContextMix$Corrections" ⟨"ContextMix$Corrections", "learn", "(Z)V"⟩ ⟨"ContextMix$Corrections", "learn", "(Z)V"⟩ ∈ GW := mem_gw2 (i := 230) rfl rfl
theorem k471 : Cond.code ⟨"ContextMix$Corrections", "learn", "(Z)V"⟩ prog_3_method_7_code (2) (Option.none : Option FieldType) ∈ GW := mem_gw2 (i := 231) rfl rfl
theorem k472 : Cond.constant "ContextMix$Corrections" (45) (65535) ∈ GW := mem_gw2 (i := 232) rfl rfl
theorem k473 : Cond.methodLink "ContextMix$Side" (153) ⟨"ContextMix$Slots", "learn", "(IZ)V"⟩ ∈ GW := mem_gw2 (i := 233) rfl rfl
theorem k474 : Cond.instanceMethod ⟨"ContextMix$Slots", "learn", "(IZ)V"⟩ ∈ GW := mem_gw2 (i := 234) rfl rfl
theorem k475 : Cond.selects "ContextMix$Slots" ⟨"ContextMix$Slots", "learn", "(IZ)V"⟩ ⟨"ContextMix$Slots", "learn", "(IZ)V"⟩ ∈ GW := mem_gw2 (i := 235) rfl rfl
theorem k476 : Cond.code ⟨"ContextMix$Slots", "learn", "(IZ)V"⟩ prog_11_method_5_code (4) (Option.none : Option FieldType) ∈ GW := mem_gw2 (i := 236) rfl rfl
theorem k477 : Cond.methodLink "ContextMix$Slots" (35) ⟨"ContextMix$Slots", "has", "(I)Z"⟩ ∈ GW := mem_gw2 (i := 237) rfl rfl
theorem k478 : Cond.instanceMethod ⟨"ContextMix$Slots", "has", "(I)Z"⟩ ∈ GW := mem_gw2 (i := 238) rfl rfl
theorem k479 : Cond.selects "ContextMix$Slots" ⟨"ContextMix$Slots", "has", "(I)Z"⟩ ⟨"ContextMix$Slots", "has", "(I)Z"⟩ ∈ GW := mem_gw2 (i := 239) rfl rfl
theorem k480 : Cond.code ⟨"ContextMix$Slots", "has", "(I)Z"⟩ prog_11_method_3_code (2) (Option.some FieldType.boolean) ∈ GW := mem_gw3 (i := 0) rfl rfl
theorem k481 : Cond.constant "ContextMix$Slots" (39) (65536) ∈ GW := mem_gw3 (i := 1) rfl rfl
theorem k482 : Cond.methodLink "ContextMix$Slots" (40) ⟨"java/lang/Math", "max", "(II)I"⟩ ∈ GW := mem_gw3 (i := 2) rfl rfl
theorem k483 : Cond.constant "ContextMix$Slots" (45) (65535) ∈ GW := mem_gw3 (i := 3) rfl rfl
theorem k484 : Cond.methodLink "ContextMix$Slots" (46) ⟨"java/lang/Math", "min", "(II)I"⟩ ∈ GW := mem_gw3 (i := 4) rfl rfl
theorem k485 : Cond.methodLink "ContextMix$Side" (156) ⟨"ContextMix$History", "add", "(Z)Z"⟩ ∈ GW := mem_gw3 (i := 5) rfl rfl
theorem k486 : Cond.instanceMethod ⟨"ContextMix$History", "add", "(Z)Z"⟩ ∈ GW := mem_gw3 (i := 6) rfl rfl
theorem k487 : Cond.selects "ContextMix$History" ⟨"ContextMix$History", "add", "(Z)Z"⟩ ⟨"ContextMix$History", "add", "(Z)Z"⟩ ∈ GW := mem_gw3 (i := 7) rfl rfl
theorem k488 : Cond.code ⟨"ContextMix$History", "add", "(Z)Z"⟩ prog_4_method_6_code (2) (Option.some FieldType.boolean) ∈ GW := mem_gw3 (i := 8) rfl rfl
theorem k489 : Cond.methodLink "ContextMix$Side" (76) ⟨"ContextMix$Side", "beginByte", "()V"⟩ ∈ GW := mem_gw3 (i := 9) rfl rfl
theorem k490 : Cond.methodLink "ContextMixLaw" (41) ⟨"ContextMix", "octet", "(I)I"⟩ ∈ GW := mem_gw3 (i := 10) rfl rfl
theorem k491 : Cond.instanceMethod ⟨"ContextMix", "octet", "(I)I"⟩ ∈ GW := mem_gw3 (i := 11) rfl rfl
theorem k492 : Cond.selects "ContextMix" ⟨"ContextMix", "octet", "(I)I"⟩ ⟨"ContextMix", "octet", "(I)I"⟩ ∈ GW := mem_gw3 (i := 12) rfl rfl
theorem k493 : Cond.code ⟨"ContextMix", "octet", "(I)I"⟩ prog_1_method_5_code (3) (Option.some FieldType.int) ∈ GW := mem_gw3 (i := 13) rfl rfl
theorem k494 : Cond.methodLink "ContextMixLaw" (45) ⟨"ContextMix", "end", "()I"⟩ ∈ GW := mem_gw3 (i := 14) rfl rfl
theorem k495 : Cond.instanceMethod ⟨"ContextMix", "end", "()I"⟩ ∈ GW := mem_gw3 (i := 15) rfl rfl
theorem k496 : Cond.selects "ContextMix" ⟨"ContextMix", "end", "()I"⟩ ⟨"ContextMix", "end", "()I"⟩ ∈ GW := mem_gw3 (i := 16) rfl rfl
theorem k497 : Cond.code ⟨"ContextMix", "end", "()I"⟩ prog_1_method_6_code (2) (Option.some FieldType.int) ∈ GW := mem_gw3 (i := 17) rfl rfl
theorem k498 : Cond.methodLink "ContextMix" (112) ⟨"ContextMix", "beginReading", "()V"⟩ ∈ GW := mem_gw3 (i := 18) rfl rfl
theorem k500 : Cond.instanceMethod ⟨"ContextMix", "beginReading", "()V"⟩ ∈ GW := mem_gw3 (i := 20) rfl rfl
theorem k501 : Cond.code ⟨"ContextMix", "beginReading", "()V"⟩ prog_1_method_26_code (2) (Option.none : Option FieldType) ∈ GW := mem_gw3 (i := 21) rfl rfl
theorem k502 : Cond.methodLink "ContextMix" (122) ⟨"ContextMix$Coder", "reset", "()V"⟩ ∈ GW := mem_gw3 (i := 22) rfl rfl
theorem k503 : Cond.instanceMethod ⟨"ContextMix$Coder", "reset", "()V"⟩ ∈ GW := mem_gw3 (i := 23) rfl rfl
theorem k504 : Cond.selects "ContextMix$Coder" ⟨"ContextMix$Coder", "reset", "()V"⟩ ⟨"ContextMix$Coder", "reset", "()V"⟩ ∈ GW := mem_gw3 (i := 24) rfl rfl
theorem k505 : Cond.code ⟨"ContextMix$Coder", "reset", "()V"⟩ prog_2_method_2_code (1) (Option.none : Option FieldType) ∈ GW := mem_gw3 (i := 25) rfl rfl
theorem k506 : Cond.methodLink "ContextMix" (221) ⟨"ContextMix", "takeByte", "()V"⟩ ∈ GW := mem_gw3 (i := 26) rfl rfl
theorem k508 : Cond.instanceMethod ⟨"ContextMix", "takeByte", "()V"⟩ ∈ GW := mem_gw3 (i := 28) rfl rfl
theorem k509 : Cond.code ⟨"ContextMix", "takeByte", "()V"⟩ prog_1_method_27_code (2) (Option.none : Option FieldType) ∈ GW := mem_gw3 (i := 29) rfl rfl
theorem k510 : Cond.methodLink "ContextMix" (123) ⟨"ContextMix$Output", "has", "(I)Z"⟩ ∈ GW := mem_gw3 (i := 30) rfl rfl
theorem k511 : Cond.instanceMethod ⟨"ContextMix$Output", "has", "(I)Z"⟩ ∈ GW := mem_gw3 (i := 31) rfl rfl
theorem k512 : Cond.selects "ContextMix$Output" ⟨"ContextMix$Output", "has", "(I)Z"⟩ ⟨"ContextMix$Output", "has", "(I)Z"⟩ ∈ GW := mem_gw3 (i := 32) rfl rfl
theorem k513 : Cond.code ⟨"ContextMix$Output", "has", "(I)Z"⟩ prog_8_method_2_code (2) (Option.some FieldType.boolean) ∈ GW := mem_gw3 (i := 33) rfl rfl
theorem k514 : Cond.methodLink "ContextMix" (124) ⟨"ContextMix$Output", "byteAt", "(I)I"⟩ ∈ GW := mem_gw3 (i := 34) rfl rfl
theorem k515 : Cond.instanceMethod ⟨"ContextMix$Output", "byteAt", "(I)I"⟩ ∈ GW := mem_gw3 (i := 35) rfl rfl
theorem k516 : Cond.selects "ContextMix$Output" ⟨"ContextMix$Output", "byteAt", "(I)I"⟩ ⟨"ContextMix$Output", "byteAt", "(I)I"⟩ ∈ GW := mem_gw3 (i := 36) rfl rfl
theorem k517 : Cond.code ⟨"ContextMix$Output", "byteAt", "(I)I"⟩ prog_8_method_3_code (2) (Option.some FieldType.int) ∈ GW := mem_gw3 (i := 37) rfl rfl
theorem k518 : Cond.methodLink "ContextMix$Output" (21) ⟨"ContextMix$Output", "has", "(I)Z"⟩ ∈ GW := mem_gw3 (i := 38) rfl rfl
theorem k519 : Cond.constantLong "ContextMix" (227) (4294967295) ∈ GW := mem_gw3 (i := 39) rfl rfl
theorem k520 : Cond.methodLink "ContextMixLaw" (50) ⟨"ContextMix", "get", "()I"⟩ ∈ GW := mem_gw3 (i := 40) rfl rfl
theorem k521 : Cond.instanceMethod ⟨"ContextMix", "get", "()I"⟩ ∈ GW := mem_gw3 (i := 41) rfl rfl
theorem k522 : Cond.selects "ContextMix" ⟨"ContextMix", "get", "()I"⟩ ⟨"ContextMix", "get", "()I"⟩ ∈ GW := mem_gw3 (i := 42) rfl rfl
theorem k523 : Cond.code ⟨"ContextMix", "get", "()I"⟩ prog_1_method_7_code (3) (Option.some FieldType.int) ∈ GW := mem_gw3 (i := 43) rfl rfl
theorem k524 : Cond.methodLink "ContextMix" (116) ⟨"ContextMix", "readBit", "()Z"⟩ ∈ GW := mem_gw3 (i := 44) rfl rfl
theorem k526 : Cond.instanceMethod ⟨"ContextMix", "readBit", "()Z"⟩ ∈ GW := mem_gw3 (i := 46) rfl rfl
theorem k527 : Cond.code ⟨"ContextMix", "readBit", "()Z"⟩ prog_1_method_25_code (5) (Option.some FieldType.boolean) ∈ GW := mem_gw3 (i := 47) rfl rfl
theorem k528 : Cond.methodLink "ContextMixLaw" (54) ⟨"ContextMix", "again", "()I"⟩ ∈ GW := mem_gw3 (i := 48) rfl rfl
theorem k529 : Cond.instanceMethod ⟨"ContextMix", "again", "()I"⟩ ∈ GW := mem_gw3 (i := 49) rfl rfl
theorem k530 : Cond.selects "ContextMix" ⟨"ContextMix", "again", "()I"⟩ ⟨"ContextMix", "again", "()I"⟩ ∈ GW := mem_gw3 (i := 50) rfl rfl
theorem k531 : Cond.code ⟨"ContextMix", "again", "()I"⟩ prog_1_method_8_code (2) (Option.some FieldType.int) ∈ GW := mem_gw3 (i := 51) rfl rfl
theorem k532 : Cond.methodLink "ContextMix" (119) ⟨"ContextMix$Side", "reset", "()V"⟩ ∈ GW := mem_gw3 (i := 52) rfl rfl
theorem k533 : Cond.instanceMethod ⟨"ContextMix$Side", "reset", "()V"⟩ ∈ GW := mem_gw3 (i := 53) rfl rfl
theorem k534 : Cond.selects "ContextMix$Side" ⟨"ContextMix$Side", "reset", "()V"⟩ ⟨"ContextMix$Side", "reset", "()V"⟩ ∈ GW := mem_gw3 (i := 54) rfl rfl
theorem k535 : Cond.code ⟨"ContextMix$Side", "reset", "()V"⟩ prog_10_method_2_code (2) (Option.none : Option FieldType) ∈ GW := mem_gw3 (i := 55) rfl rfl
theorem k536 : Cond.methodLink "ContextMix$Side" (66) ⟨"ContextMix$History", "reset", "()V"⟩ ∈ GW := mem_gw3 (i := 56) rfl rfl
theorem k537 : Cond.instanceMethod ⟨"ContextMix$History", "reset", "()V"⟩ ∈ GW := mem_gw3 (i := 57) rfl rfl
theorem k538 : Cond.selects "ContextMix$History" ⟨"ContextMix$History", "reset", "()V"⟩ ⟨"ContextMix$History", "reset", "()V"⟩ ∈ GW := mem_gw3 (i := 58) rfl rfl
theorem k539 : Cond.code ⟨"ContextMix$History", "reset", "()V"⟩ prog_4_method_2_code (1) (Option.none : Option FieldType) ∈ GW := mem_gw3 (i := 59) rfl rfl
theorem k540 : Cond.methodLink "ContextMix$Side" (69) ⟨"ContextMix$Slots", "reset", "()V"⟩ ∈ GW := mem_gw3 (i := 60) rfl rfl
theorem k541 : Cond.instanceMethod ⟨"ContextMix$Slots", "reset", "()V"⟩ ∈ GW := mem_gw3 (i := 61) rfl rfl
theorem k542 : Cond.selects "ContextMix$Slots" ⟨"ContextMix$Slots", "reset", "()V"⟩ ⟨"ContextMix$Slots", "reset", "()V"⟩ ∈ GW := mem_gw3 (i := 62) rfl rfl
theorem k543 : Cond.code ⟨"ContextMix$Slots", "reset", "()V"⟩ prog_11_method_2_code (1) (Option.none : Option FieldType) ∈ GW := mem_gw3 (i := 63) rfl rfl
theorem k544 : Cond.methodLink "ContextMix$Side" (70) ⟨"ContextMix$Mixer", "reset", "()V"⟩ ∈ GW := mem_gw3 (i := 64) rfl rfl
theorem k545 : Cond.instanceMethod ⟨"ContextMix$Mixer", "reset", "()V"⟩ ∈ GW := mem_gw3 (i := 65) rfl rfl
theorem k546 : Cond.selects "ContextMix$Mixer" ⟨"ContextMix$Mixer", "reset", "()V"⟩ ⟨"ContextMix$Mixer", "reset", "()V"⟩ ∈ GW := mem_gw3 (i := 66) rfl rfl
theorem k547 : Cond.code ⟨"ContextMix$Mixer", "reset", "()V"⟩ prog_6_method_2_code (1) (Option.none : Option FieldType) ∈ GW := mem_gw3 (i := 67) rfl rfl
theorem k548 : Cond.methodLink "ContextMix$Side" (71) ⟨"ContextMix$Corrections", "reset", "()V"⟩ ∈ GW := mem_gw3 (i := 68) rfl rfl
theorem k549 : Cond.instanceMethod ⟨"ContextMix$Corrections", "reset", "()V"⟩ ∈ GW := mem_gw3 (i := 69) rfl rfl
theorem k550 : Cond.selects "ContextMix$Corrections" ⟨"ContextMix$Corrections", "reset", "()V"⟩ ⟨"ContextMix$Corrections", "reset", "()V"⟩ ∈ GW := mem_gw3 (i := 70) rfl rfl
theorem k551 : Cond.code ⟨"ContextMix$Corrections", "reset", "()V"⟩ prog_3_method_2_code (1) (Option.none : Option FieldType) ∈ GW := mem_gw3 (i := 71) rfl rfl
theorem k552 : Cond.methodLink "ContextMixLaw" (58) ⟨"ContextMix", "clear", "()I"⟩ ∈ GW := mem_gw3 (i := 72) rfl rfl
theorem k553 : Cond.instanceMethod ⟨"ContextMix", "clear", "()I"⟩ ∈ GW := mem_gw3 (i := 73) rfl rfl
theorem k554 : Cond.selects "ContextMix" ⟨"ContextMix", "clear", "()I"⟩ ⟨"ContextMix", "clear", "()I"⟩ ∈ GW := mem_gw3 (i := 74) rfl rfl
theorem k555 : Cond.code ⟨"ContextMix", "clear", "()I"⟩ prog_1_method_9_code (1) (Option.some FieldType.int) ∈ GW := mem_gw3 (i := 75) rfl rfl
theorem k556 : Cond.methodLink "ContextMixLaw" (62) ⟨"ContextMix", "out", "(I)I"⟩ ∈ GW := mem_gw3 (i := 76) rfl rfl
theorem k557 : Cond.instanceMethod ⟨"ContextMix", "out", "(I)I"⟩ ∈ GW := mem_gw3 (i := 77) rfl rfl
theorem k558 : Cond.selects "ContextMix" ⟨"ContextMix", "out", "(I)I"⟩ ⟨"ContextMix", "out", "(I)I"⟩ ∈ GW := mem_gw3 (i := 78) rfl rfl
theorem k559 : Cond.code ⟨"ContextMix", "out", "(I)I"⟩ prog_1_method_10_code (2) (Option.some FieldType.int) ∈ GW := mem_gw3 (i := 79) rfl rfl
theorem k560 : Cond.methodLink "ContextMixLaw" (66) ⟨"ContextMix", "spoil", "(II)I"⟩ ∈ GW := mem_gw3 (i := 80) rfl rfl
theorem k561 : Cond.instanceMethod ⟨"ContextMix", "spoil", "(II)I"⟩ ∈ GW := mem_gw3 (i := 81) rfl rfl
theorem k562 : Cond.selects "ContextMix" ⟨"ContextMix", "spoil", "(II)I"⟩ ⟨"ContextMix", "spoil", "(II)I"⟩ ∈ GW := mem_gw3 (i := 82) rfl rfl
theorem k563 : Cond.code ⟨"ContextMix", "spoil", "(II)I"⟩ prog_1_method_11_code (3) (Option.some FieldType.int) ∈ GW := mem_gw3 (i := 83) rfl rfl
theorem k564 : Cond.methodLink "ContextMix" (128) ⟨"ContextMix$Output", "flip", "(II)V"⟩ ∈ GW := mem_gw3 (i := 84) rfl rfl
theorem k565 : Cond.instanceMethod ⟨"ContextMix$Output", "flip", "(II)V"⟩ ∈ GW := mem_gw3 (i := 85) rfl rfl
theorem k566 : Cond.selects "ContextMix$Output" ⟨"ContextMix$Output", "flip", "(II)V"⟩ ⟨"ContextMix$Output", "flip", "(II)V"⟩ ∈ GW := mem_gw3 (i := 86) rfl rfl
theorem k567 : Cond.code ⟨"ContextMix$Output", "flip", "(II)V"⟩ prog_8_method_5_code (3) (Option.none : Option FieldType) ∈ GW := mem_gw3 (i := 87) rfl rfl
theorem k568 : Cond.methodLink "ContextMixLaw" (70) ⟨"ContextMix", "chance", "(I)I"⟩ ∈ GW := mem_gw3 (i := 88) rfl rfl
theorem k569 : Cond.instanceMethod ⟨"ContextMix", "chance", "(I)I"⟩ ∈ GW := mem_gw3 (i := 89) rfl rfl
theorem k570 : Cond.selects "ContextMix" ⟨"ContextMix", "chance", "(I)I"⟩ ⟨"ContextMix", "chance", "(I)I"⟩ ∈ GW := mem_gw3 (i := 90) rfl rfl
theorem k571 : Cond.code ⟨"ContextMix", "chance", "(I)I"⟩ prog_1_method_12_code (3) (Option.some FieldType.int) ∈ GW := mem_gw3 (i := 91) rfl rfl
theorem k572 : Cond.methodLink "ContextMix" (132) ⟨"ContextMix", "sideOf", "(I)LContextMix$Side;"⟩ ∈ GW := mem_gw3 (i := 92) rfl rfl
theorem k574 : Cond.instanceMethod ⟨"ContextMix", "sideOf", "(I)LContextMix$Side;"⟩ ∈ GW := mem_gw3 (i := 94) rfl rfl
theorem k575 : Cond.code ⟨"ContextMix", "sideOf", "(I)LContextMix$Side;"⟩ prog_1_method_22_code (2) (Option.some (FieldType.object "ContextMix$Side")) ∈ GW := mem_gw3 (i := 95) rfl rfl
theorem k576 : Cond.methodLink "ContextMixLaw" (74) ⟨"ContextMix", "input", "(II)I"⟩ ∈ GW := mem_gw3 (i := 96) rfl rfl
theorem k577 : Cond.instanceMethod ⟨"ContextMix", "input", "(II)I"⟩ ∈ GW := mem_gw3 (i := 97) rfl rfl
theorem k578 : Cond.selects "ContextMix" ⟨"ContextMix", "input", "(II)I"⟩ ⟨"ContextMix", "input", "(II)I"⟩ ∈ GW := mem_gw3 (i := 98) rfl rfl
theorem k579 : Cond.code ⟨"ContextMix", "input", "(II)I"⟩ prog_1_method_13_code (4) (Option.some FieldType.int) ∈ GW := mem_gw3 (i := 99) rfl rfl
theorem k580 : Cond.methodLink "ContextMix" (139) ⟨"ContextMix$Side", "inputOf", "(I)I"⟩ ∈ GW := mem_gw3 (i := 100) rfl rfl
theorem k581 : Cond.methodLink "ContextMixLaw" (78) ⟨"ContextMix", "weight", "(IIII)I"⟩ ∈ GW := mem_gw3 (i := 101) rfl rfl
theorem k582 : Cond.instanceMethod ⟨"ContextMix", "weight", "(IIII)I"⟩ ∈ GW := mem_gw3 (i := 102) rfl rfl
theorem k583 : Cond.selects "ContextMix" ⟨"ContextMix", "weight", "(IIII)I"⟩ ⟨"ContextMix", "weight", "(IIII)I"⟩ ∈ GW := mem_gw3 (i := 103) rfl rfl
theorem k584 : Cond.code ⟨"ContextMix", "weight", "(IIII)I"⟩ prog_1_method_14_code (7) (Option.some FieldType.int) ∈ GW := mem_gw3 (i := 104) rfl rfl
theorem k585 : Cond.constant "ContextMix" (144) (-2000000) ∈ GW := mem_gw3 (i := 105) rfl rfl
theorem k586 : Cond.methodLink "ContextMix" (153) ⟨"ContextMix$Mixer", "weightAt", "(II)I"⟩ ∈ GW := mem_gw3 (i := 106) rfl rfl
theorem k587 : Cond.instanceMethod ⟨"ContextMix$Mixer", "weightAt", "(II)I"⟩ ∈ GW := mem_gw3 (i := 107) rfl rfl
theorem k588 : Cond.selects "ContextMix$Mixer" ⟨"ContextMix$Mixer", "weightAt", "(II)I"⟩ ⟨"ContextMix$Mixer", "weightAt", "(II)I"⟩ ∈ GW := mem_gw3 (i := 108) rfl rfl
theorem k589 : Cond.code ⟨"ContextMix$Mixer", "weightAt", "(II)I"⟩ prog_6_method_4_code (3) (Option.some FieldType.int) ∈ GW := mem_gw3 (i := 109) rfl rfl
theorem k590 : Cond.methodLink "ContextMixLaw" (90) ⟨"ContextMix", "seen", "(II)I"⟩ ∈ GW := mem_gw3 (i := 110) rfl rfl
theorem k591 : Cond.instanceMethod ⟨"ContextMix", "seen", "(II)I"⟩ ∈ GW := mem_gw3 (i := 111) rfl rfl
theorem k592 : Cond.selects "ContextMix" ⟨"ContextMix", "seen", "(II)I"⟩ ⟨"ContextMix", "seen", "(II)I"⟩ ∈ GW := mem_gw3 (i := 112) rfl rfl
theorem k593 : Cond.code ⟨"ContextMix", "seen", "(II)I"⟩ prog_1_method_16_code (4) (Option.some FieldType.int) ∈ GW := mem_gw3 (i := 113) rfl rfl
theorem k594 : Cond.methodLink "ContextMix" (160) ⟨"ContextMix$Slots", "has", "(I)Z"⟩ ∈ GW := mem_gw3 (i := 114) rfl rfl
theorem k595 : Cond.methodLink "ContextMixLaw" (94) ⟨"ContextMix", "cell", "(III)I"⟩ ∈ GW := mem_gw3 (i := 115) rfl rfl
theorem k596 : Cond.instanceMethod ⟨"ContextMix", "cell", "(III)I"⟩ ∈ GW := mem_gw3 (i := 116) rfl rfl
theorem k597 : Cond.selects "ContextMix" ⟨"ContextMix", "cell", "(III)I"⟩ ⟨"ContextMix", "cell", "(III)I"⟩ ∈ GW := mem_gw3 (i := 117) rfl rfl
theorem k598 : Cond.code ⟨"ContextMix", "cell", "(III)I"⟩ prog_1_method_17_code (6) (Option.some FieldType.int) ∈ GW := mem_gw3 (i := 118) rfl rfl
theorem k599 : Cond.methodLink "ContextMix" (177) ⟨"ContextMix$Corrections", "has", "(II)Z"⟩ ∈ GW := mem_gw3 (i := 119) rfl rfl
theorem k600 : Cond.constant "ContextMix" (181) (40000) ∈ GW := mem_gw3 (i := 120) rfl rfl
theorem k601 : Cond.methodLink "ContextMix" (186) ⟨"ContextMix$Corrections", "cellAt", "(II)I"⟩ ∈ GW := mem_gw3 (i := 121) rfl rfl
theorem k602 : Cond.constant "ContextMix" (189) (65536) ∈ GW := mem_gw3 (i := 122) rfl rfl
theorem k603 : Cond.methodLink "ContextMixLaw" (98) ⟨"ContextMix", "squash", "(I)I"⟩ ∈ GW := mem_gw3 (i := 123) rfl rfl
theorem k604 : Cond.instanceMethod ⟨"ContextMix", "squash", "(I)I"⟩ ∈ GW := mem_gw3 (i := 124) rfl rfl
theorem k605 : Cond.selects "ContextMix" ⟨"ContextMix", "squash", "(I)I"⟩ ⟨"ContextMix", "squash", "(I)I"⟩ ∈ GW := mem_gw3 (i := 125) rfl rfl
theorem k606 : Cond.code ⟨"ContextMix", "squash", "(I)I"⟩ prog_1_method_18_code (2) (Option.some FieldType.int) ∈ GW := mem_gw3 (i := 126) rfl rfl
theorem k607 : Cond.methodLink "ContextMix" (190) ⟨"ContextMix$Numbers", "squashed", "(I)I"⟩ ∈ GW := mem_gw3 (i := 127) rfl rfl
theorem k608 : Cond.methodLink "ContextMixLaw" (102) ⟨"ContextMix", "stretch", "(I)I"⟩ ∈ GW := mem_gw3 (i := 128) rfl rfl
theorem k609 : Cond.instanceMethod ⟨"ContextMix", "stretch", "(I)I"⟩ ∈ GW := mem_gw3 (i := 129) rfl rfl
theorem k610 : Cond.selects "ContextMix" ⟨"ContextMix", "stretch", "(I)I"⟩ ⟨"ContextMix", "stretch", "(I)I"⟩ ∈ GW := mem_gw3 (i := 130) rfl rfl
theorem k611 : Cond.code ⟨"ContextMix", "stretch", "(I)I"⟩ prog_1_method_19_code (2) (Option.some FieldType.int) ∈ GW := mem_gw3 (i := 131) rfl rfl
theorem k612 : Cond.methodLink "ContextMix" (193) ⟨"ContextMix$Numbers", "stretched", "(I)I"⟩ ∈ GW := mem_gw3 (i := 132) rfl rfl
theorem k613 : Cond.methodLink "ContextMixLaw" (106) ⟨"ContextMix", "equal", "()I"⟩ ∈ GW := mem_gw3 (i := 133) rfl rfl
theorem k614 : Cond.instanceMethod ⟨"ContextMix", "equal", "()I"⟩ ∈ GW := mem_gw3 (i := 134) rfl rfl
theorem k615 : Cond.selects "ContextMix" ⟨"ContextMix", "equal", "()I"⟩ ⟨"ContextMix", "equal", "()I"⟩ ∈ GW := mem_gw3 (i := 135) rfl rfl
theorem k616 : Cond.code ⟨"ContextMix", "equal", "()I"⟩ prog_1_method_20_code (1) (Option.some FieldType.int) ∈ GW := mem_gw3 (i := 136) rfl rfl
theorem k617 : Cond.methodLink "ContextMix" (196) ⟨"ContextMix$Side", "sameAs", "(LContextMix$Side;)Z"⟩ ∈ GW := mem_gw3 (i := 137) rfl rfl
theorem k618 : Cond.instanceMethod ⟨"ContextMix$Side", "sameAs", "(LContextMix$Side;)Z"⟩ ∈ GW := mem_gw3 (i := 138) rfl rfl
theorem k619 : Cond.selects "ContextMix$Side" ⟨"ContextMix$Side", "sameAs", "(LContextMix$Side;)Z"⟩ ⟨"ContextMix$Side", "sameAs", "(LContextMix$Side;)Z"⟩ ∈ GW := mem_gw3 (i := 139) rfl rfl
theorem k620 : Cond.code ⟨"ContextMix$Side", "sameAs", "(LContextMix$Side;)Z"⟩ prog_10_method_8_code (2) (Option.some FieldType.boolean) ∈ GW := mem_gw3 (i := 140) rfl rfl
theorem k621 : Cond.methodLink "ContextMix$Side" (160) ⟨"ContextMix$History", "sameAs", "(LContextMix$History;)Z"⟩ ∈ GW := mem_gw3 (i := 141) rfl rfl
theorem k622 : Cond.instanceMethod ⟨"ContextMix$History", "sameAs", "(LContextMix$History;)Z"⟩ ∈ GW := mem_gw3 (i := 142) rfl rfl
theorem k623 : Cond.selects "ContextMix$History" ⟨"ContextMix$History", "sameAs", "(LContextMix$History;)Z"⟩ ⟨"ContextMix$History", "sameAs", "(LContextMix$History;)Z"⟩ ∈ GW := mem_gw3 (i := 143) rfl rfl
theorem k624 : Cond.code ⟨"ContextMix$History", "sameAs", "(LContextMix$History;)Z"⟩ prog_4_method_13_code (3) (Option.some FieldType.boolean) ∈ GW := mem_gw3 (i := 144) rfl rfl
theorem k625 : Cond.methodLink "ContextMix$Side" (164) ⟨"ContextMix$Slots", "sameAs", "(LContextMix$Slots;)Z"⟩ ∈ GW := mem_gw3 (i := 145) rfl rfl
theorem k626 : Cond.instanceMethod ⟨"ContextMix$Slots", "sameAs", "(LContextMix$Slots;)Z"⟩ ∈ GW := mem_gw3 (i := 146) rfl rfl
theorem k627 : Cond.selects "ContextMix$Slots" ⟨"ContextMix$Slots", "sameAs", "(LContextMix$Slots;)Z"⟩ ⟨"ContextMix$Slots", "sameAs", "(LContextMix$Slots;)Z"⟩ ∈ GW := mem_gw3 (i := 147) rfl rfl
theorem k628 : Cond.code ⟨"ContextMix$Slots", "sameAs", "(LContextMix$Slots;)Z"⟩ prog_11_method_6_code (2) (Option.some FieldType.boolean) ∈ GW := mem_gw3 (i := 148) rfl rfl
theorem k629 : Cond.methodLink "ContextMix$Slots" (49) ⟨"ContextMix$Numbers", "same", "([I[I)Z"⟩ ∈ GW := mem_gw3 (i := 149) rfl rfl
theorem k630 : Cond.static ⟨"ContextMix$Numbers", "same", "([I[I)Z"⟩ ∈ GW := mem_gw3 (i := 150) rfl rfl
theorem k631 : Cond.code ⟨"ContextMix$Numbers", "same", "([I[I)Z"⟩ prog_7_method_6_code (3) (Option.some FieldType.boolean) ∈ GW := mem_gw3 (i := 151) rfl rfl
theorem k632 : Cond.methodLink "ContextMix$Side" (170) ⟨"ContextMix$Numbers", "same", "([I[I)Z"⟩ ∈ GW := mem_gw3 (i := 152) rfl rfl
theorem k633 : Cond.methodLink "ContextMixLaw" (110) ⟨"ContextMix", "count", "(I)I"⟩ ∈ GW := mem_gw3 (i := 153) rfl rfl
theorem k634 : Cond.instanceMethod ⟨"ContextMix", "count", "(I)I"⟩ ∈ GW := mem_gw3 (i := 154) rfl rfl
theorem k635 : Cond.selects "ContextMix" ⟨"ContextMix", "count", "(I)I"⟩ ⟨"ContextMix", "count", "(I)I"⟩ ∈ GW := mem_gw3 (i := 155) rfl rfl
theorem k636 : Cond.code ⟨"ContextMix", "count", "(I)I"⟩ prog_1_method_21_code (2) (Option.some FieldType.int) ∈ GW := mem_gw3 (i := 156) rfl rfl
theorem k637 : Cond.methodLink "ContextMix" (200) ⟨"ContextMix$Side", "firstMatchLength", "()I"⟩ ∈ GW := mem_gw3 (i := 157) rfl rfl
theorem k638 : Cond.instanceMethod ⟨"ContextMix$Side", "firstMatchLength", "()I"⟩ ∈ GW := mem_gw3 (i := 158) rfl rfl
theorem k639 : Cond.selects "ContextMix$Side" ⟨"ContextMix$Side", "firstMatchLength", "()I"⟩ ⟨"ContextMix$Side", "firstMatchLength", "()I"⟩ ∈ GW := mem_gw3 (i := 159) rfl rfl
theorem k640 : Cond.code ⟨"ContextMix$Side", "firstMatchLength", "()I"⟩ prog_10_method_7_code (2) (Option.some FieldType.int) ∈ GW := mem_gw3 (i := 160) rfl rfl
theorem k641 : Cond.methodLink "ContextMixLaw" (15) ⟨"ContextMixLaw", "cell", "([II)I"⟩ ∈ GW := mem_gw3 (i := 161) rfl rfl
theorem k642 : Cond.static ⟨"ContextMixLaw", "cell", "([II)I"⟩ ∈ GW := mem_gw3 (i := 162) rfl rfl
theorem k643 : Cond.code ⟨"ContextMixLaw", "cell", "([II)I"⟩ method_2_code (2) (Option.some FieldType.int) ∈ GW := mem_gw3 (i := 163) rfl rfl
theorem k644 : Cond.methodLink "ContextMixLaw" (83) ⟨"ContextMixLaw", "slot", "(LContextMix;II[J)I"⟩ ∈ GW := mem_gw3 (i := 164) rfl rfl
theorem k645 : Cond.static ⟨"ContextMixLaw", "slot", "(LContextMix;II[J)I"⟩ ∈ GW := mem_gw3 (i := 165) rfl rfl
theorem k647 : Cond.classLink "ContextMixLaw" (13) "java/lang/ArrayIndexOutOfBoundsException" ∈ GW := mem_gw3 (i := 167) rfl rfl
theorem k648 : Cond.instantiable "java/lang/ArrayIndexOutOfBoundsException" (6) ∈ GW := mem_gw3 (i := 168) rfl rfl
theorem k649 : Cond.instanceMethod ⟨"java/lang/ArrayIndexOutOfBoundsException", "<init>", "(Ljava/lang/String;)V"⟩ ∈ GW := mem_gw3 (i := 169) rfl rfl
theorem k650 : Cond.code ⟨"java/lang/ArrayIndexOutOfBoundsException", "<init>", "(Ljava/lang/String;)V"⟩ prog_14_method_2_code (2) (Option.none : Option FieldType) ∈ GW := mem_gw3 (i := 170) rfl rfl
theorem k651 : Cond.methodLink "java/lang/ArrayIndexOutOfBoundsException" (7) ⟨"java/lang/IndexOutOfBoundsException", "<init>", "(Ljava/lang/String;)V"⟩ ∈ GW := mem_gw3 (i := 171) rfl rfl
theorem k652 : Cond.instanceMethod ⟨"java/lang/IndexOutOfBoundsException", "<init>", "(Ljava/lang/String;)V"⟩ ∈ GW := mem_gw3 (i := 172) rfl rfl
theorem k653 : Cond.code ⟨"java/lang/IndexOutOfBoundsException", "<init>", "(Ljava/lang/String;)V"⟩ prog_16_method_2_code (2) (Option.none : Option FieldType) ∈ GW := mem_gw3 (i := 173) rfl rfl
theorem k654 : Cond.methodLink "java/lang/IndexOutOfBoundsException" (7) ⟨"java/lang/RuntimeException", "<init>", "(Ljava/lang/String;)V"⟩ ∈ GW := mem_gw3 (i := 174) rfl rfl
theorem k655 : Cond.instanceMethod ⟨"java/lang/RuntimeException", "<init>", "(Ljava/lang/String;)V"⟩ ∈ GW := mem_gw3 (i := 175) rfl rfl
theorem k656 : Cond.code ⟨"java/lang/RuntimeException", "<init>", "(Ljava/lang/String;)V"⟩ prog_18_method_2_code (2) (Option.none : Option FieldType) ∈ GW := mem_gw3 (i := 176) rfl rfl
theorem k657 : Cond.methodLink "java/lang/RuntimeException" (7) ⟨"java/lang/Exception", "<init>", "(Ljava/lang/String;)V"⟩ ∈ GW := mem_gw3 (i := 177) rfl rfl
theorem k658 : Cond.instanceMethod ⟨"java/lang/Exception", "<init>", "(Ljava/lang/String;)V"⟩ ∈ GW := mem_gw3 (i := 178) rfl rfl
theorem k659 : Cond.code ⟨"java/lang/Exception", "<init>", "(Ljava/lang/String;)V"⟩ prog_15_method_2_code (2) (Option.none : Option FieldType) ∈ GW := mem_gw3 (i := 179) rfl rfl
theorem k660 : Cond.methodLink "java/lang/Exception" (7) ⟨"java/lang/Throwable", "<init>", "(Ljava/lang/String;)V"⟩ ∈ GW := mem_gw3 (i := 180) rfl rfl
theorem k661 : Cond.instanceMethod ⟨"java/lang/Throwable", "<init>", "(Ljava/lang/String;)V"⟩ ∈ GW := mem_gw3 (i := 181) rfl rfl
theorem k662 : Cond.code ⟨"java/lang/Throwable", "<init>", "(Ljava/lang/String;)V"⟩ prog_21_method_2_code (2) (Option.none : Option FieldType) ∈ GW := mem_gw3 (i := 182) rfl rfl
theorem k663 : Cond.methodLink "java/lang/Throwable" (1) ⟨"java/lang/Object", "<init>", "()V"⟩ ∈ GW := mem_gw3 (i := 183) rfl rfl
theorem k664 : Cond.fieldLink "java/lang/Throwable" (13) "java/lang/Throwable" "UNASSIGNED_STACK" "[Ljava/lang/StackTraceElement;" ∈ GW := mem_gw3 (i := 184) rfl rfl
theorem k666 : Cond.fieldLink "java/lang/Throwable" (20) "java/lang/Throwable" "SUPPRESSED_SENTINEL" "Ljava/util/List;" ∈ GW := mem_gw3 (i := 186) rfl rfl
theorem k668 : Cond.methodLink "java/lang/Throwable" (27) ⟨"java/lang/Throwable", "fillInStackTrace", "()Ljava/lang/Throwable;"⟩ ∈ GW := mem_gw3 (i := 188) rfl rfl
theorem k669 : Cond.instanceMethod ⟨"java/lang/Throwable", "fillInStackTrace", "()Ljava/lang/Throwable;"⟩ ∈ GW := mem_gw3 (i := 189) rfl rfl
theorem k671 : Cond.selects "java/lang/ArrayIndexOutOfBoundsException" ⟨"java/lang/Throwable", "fillInStackTrace", "()Ljava/lang/Throwable;"⟩ ⟨"java/lang/Throwable", "fillInStackTrace", "()Ljava/lang/Throwable;"⟩ ∈ GW := mem_gw3 (i := 191) rfl rfl
theorem k673 : Cond.methodLink "java/lang/Throwable" (202) ⟨"java/lang/Throwable", "fillInStackTrace", "(I)Ljava/lang/Throwable;"⟩ ∈ GW := mem_gw3 (i := 193) rfl rfl
theorem k675 : Cond.instanceMethod ⟨"java/lang/Throwable", "fillInStackTrace", "(I)Ljava/lang/Throwable;"⟩ ∈ GW := mem_gw3 (i := 195) rfl rfl
theorem k676 : Cond.instantiable "java/lang/Throwable" (6) ∈ GW := mem_gw3 (i := 196) rfl rfl
theorem k677 : Cond.native ⟨"java/lang/Throwable", "fillInStackTrace", "(I)Ljava/lang/Throwable;"⟩ ∈ GW := mem_gw3 (i := 197) rfl rfl
theorem k678 : Cond.fieldLink "java/lang/Throwable" (198) "java/lang/Throwable" "backtrace" "Ljava/lang/Object;" ∈ GW := mem_gw3 (i := 198) rfl rfl
theorem k679 : Cond.fieldLink "java/lang/Throwable" (31) "java/lang/Throwable" "detailMessage" "Ljava/lang/String;" ∈ GW := mem_gw3 (i := 199) rfl rfl
theorem k680 : Cond.fieldLink "java/lang/Throwable" (7) "java/lang/Throwable" "cause" "Ljava/lang/Throwable;" ∈ GW := mem_gw3 (i := 200) rfl rfl
theorem k681 : Cond.fieldLink "java/lang/Throwable" (17) "java/lang/Throwable" "stackTrace" "[Ljava/lang/StackTraceElement;" ∈ GW := mem_gw3 (i := 201) rfl rfl
theorem k682 : Cond.fieldLink "java/lang/Throwable" (24) "java/lang/Throwable" "suppressedExceptions" "Ljava/util/List;" ∈ GW := mem_gw3 (i := 202) rfl rfl
theorem k683 : Cond.lays "java/lang/ArrayIndexOutOfBoundsException" "java/lang/Throwable" "backtrace" "Ljava/lang/Object;" ∈ GW := mem_gw3 (i := 203) rfl rfl
theorem k685 : Cond.lays "java/lang/ArrayIndexOutOfBoundsException" "java/lang/Throwable" "detailMessage" "Ljava/lang/String;" ∈ GW := mem_gw3 (i := 205) rfl rfl
theorem k687 : Cond.lays "java/lang/ArrayIndexOutOfBoundsException" "java/lang/Throwable" "cause" "Ljava/lang/Throwable;" ∈ GW := mem_gw3 (i := 207) rfl rfl
theorem k689 : Cond.lays "java/lang/ArrayIndexOutOfBoundsException" "java/lang/Throwable" "stackTrace" "[Ljava/lang/StackTraceElement;" ∈ GW := mem_gw3 (i := 209) rfl rfl
theorem k691 : Cond.lays "java/lang/ArrayIndexOutOfBoundsException" "java/lang/Throwable" "depth" "I" ∈ GW := mem_gw3 (i := 211) rfl rfl
theorem k693 : Cond.lays "java/lang/ArrayIndexOutOfBoundsException" "java/lang/Throwable" "suppressedExceptions" "Ljava/util/List;" ∈ GW := mem_gw3 (i := 213) rfl rfl
theorem k705 : Cond.selects "java/lang/ArrayIndexOutOfBoundsException" ⟨"java/lang/Throwable", "fillInStackTrace", "(I)Ljava/lang/Throwable;"⟩ ⟨"java/lang/Throwable", "fillInStackTrace", "(I)Ljava/lang/Throwable;"⟩ ∈ GW := mem_gw3 (i := 225) rfl rfl
theorem k706 : Cond.lays "java/lang/Throwable" "java/lang/Throwable" "cause" "Ljava/lang/Throwable;" ∈ GW := mem_gw3 (i := 226) rfl rfl
theorem k707 : Cond.lays "java/lang/Throwable" "java/lang/Throwable" "stackTrace" "[Ljava/lang/StackTraceElement;" ∈ GW := mem_gw3 (i := 227) rfl rfl
theorem k708 : Cond.lays "java/lang/Throwable" "java/lang/Throwable" "suppressedExceptions" "Ljava/util/List;" ∈ GW := mem_gw3 (i := 228) rfl rfl
theorem k709 : Cond.lays "java/lang/Throwable" "java/lang/Throwable" "detailMessage" "Ljava/lang/String;" ∈ GW := mem_gw3 (i := 229) rfl rfl
theorem k710 : Cond.lays "java/lang/Throwable" "java/lang/Throwable" "backtrace" "Ljava/lang/Object;" ∈ GW := mem_gw3 (i := 230) rfl rfl
theorem k711 : Cond.fieldLink "java/lang/Throwable" (198) "java/lang/Throwable" "backtrace" "Ljava/lang/Object;" ∈ GW := mem_gw3 (i := 231) rfl rfl
theorem k713 : Cond.instanceMethod ⟨"java/lang/Throwable", "<init>", "()V"⟩ ∈ GW := mem_gw3 (i := 233) rfl rfl
theorem k714 : Cond.code ⟨"java/lang/Throwable", "<init>", "()V"⟩ prog_21_method_1_code (1) (Option.none : Option FieldType) ∈ GW := mem_gw3 (i := 234) rfl rfl
theorem k715 : Cond.instantiable "java/lang/String" (4) ∈ GW := mem_gw3 (i := 235) rfl rfl
theorem k716 : Cond.arrayClass FieldType.byte ∈ GW := mem_gw3 (i := 236) rfl rfl
theorem k717 : Cond.laysFinal "java/lang/String" "java/lang/String" "value" "[B" ∈ GW := mem_gw3 (i := 237) rfl rfl
theorem k719 : Cond.laysFinal "java/lang/String" "java/lang/String" "coder" "B" ∈ GW := mem_gw3 (i := 239) rfl rfl
theorem k721 : Cond.methodLink "ContextMixLaw" (7) ⟨"ContextMix", "slot", "(II)I"⟩ ∈ GW := mem_gw4 (i := 1) rfl rfl
theorem k722 : Cond.instanceMethod ⟨"ContextMix", "slot", "(II)I"⟩ ∈ GW := mem_gw4 (i := 2) rfl rfl
theorem k723 : Cond.selects "ContextMix" ⟨"ContextMix", "slot", "(II)I"⟩ ⟨"ContextMix", "slot", "(II)I"⟩ ∈ GW := mem_gw4 (i := 3) rfl rfl
theorem k724 : Cond.code ⟨"ContextMix", "slot", "(II)I"⟩ prog_1_method_15_code (4) (Option.some FieldType.int) ∈ GW := mem_gw4 (i := 4) rfl rfl
theorem k725 : Cond.classLink "ContextMix" (163) "java/lang/ArrayIndexOutOfBoundsException" ∈ GW := mem_gw4 (i := 5) rfl rfl
theorem k727 : Cond.methodLink "ContextMix" (167) ⟨"java/lang/ArrayIndexOutOfBoundsException", "<init>", "(Ljava/lang/String;)V"⟩ ∈ GW := mem_gw4 (i := 7) rfl rfl
theorem k728 : Cond.classLink "ContextMixLaw" (24) "ContextMixModel" ∈ GW := mem_gw4 (i := 8) rfl rfl
theorem k729 : Cond.instantiable "ContextMixModel" (32) ∈ GW := mem_gw4 (i := 9) rfl rfl
theorem k730 : Cond.methodLink "ContextMixLaw" (26) ⟨"ContextMixModel", "<init>", "(I)V"⟩ ∈ GW := mem_gw4 (i := 10) rfl rfl
theorem k731 : Cond.instanceMethod ⟨"ContextMixModel", "<init>", "(I)V"⟩ ∈ GW := mem_gw4 (i := 11) rfl rfl
theorem k732 : Cond.code ⟨"ContextMixModel", "<init>", "(I)V"⟩ prog_13_method_1_code (4) (Option.none : Option FieldType) ∈ GW := mem_gw4 (i := 12) rfl rfl
theorem k733 : Cond.methodLink "ContextMixModel" (1) ⟨"java/lang/Object", "<init>", "()V"⟩ ∈ GW := mem_gw4 (i := 13) rfl rfl
theorem k734 : Cond.methodLink "ContextMixModel" (70) ⟨"ContextMixModel", "squashed", "(I)I"⟩ ∈ GW := mem_gw4 (i := 14) rfl rfl
theorem k735 : Cond.static ⟨"ContextMixModel", "squashed", "(I)I"⟩ ∈ GW := mem_gw4 (i := 15) rfl rfl
theorem k736 : Cond.code ⟨"ContextMixModel", "squashed", "(I)I"⟩ prog_13_method_3_code (3) (Option.some FieldType.int) ∈ GW := mem_gw4 (i := 16) rfl rfl
theorem k737 : Cond.fieldLink "ContextMixModel" (80) "ContextMixModel" "T" "[I" ∈ GW := mem_gw4 (i := 17) rfl rfl
theorem k739 : Cond.methodLink "ContextMixModel" (74) ⟨"ContextMixModel", "freshAll", "()V"⟩ ∈ GW := mem_gw4 (i := 19) rfl rfl
theorem k741 : Cond.instanceMethod ⟨"ContextMixModel", "freshAll", "()V"⟩ ∈ GW := mem_gw4 (i := 21) rfl rfl
theorem k742 : Cond.code ⟨"ContextMixModel", "freshAll", "()V"⟩ prog_13_method_9_code (1) (Option.none : Option FieldType) ∈ GW := mem_gw4 (i := 22) rfl rfl
theorem k743 : Cond.methodLink "ContextMixModel" (100) ⟨"ContextMixModel", "fresh", "(I)V"⟩ ∈ GW := mem_gw4 (i := 23) rfl rfl
theorem k745 : Cond.instanceMethod ⟨"ContextMixModel", "fresh", "(I)V"⟩ ∈ GW := mem_gw4 (i := 25) rfl rfl
theorem k746 : Cond.code ⟨"ContextMixModel", "fresh", "(I)V"⟩ prog_13_method_8_code (5) (Option.none : Option FieldType) ∈ GW := mem_gw4 (i := 26) rfl rfl
theorem k747 : Cond.constant "ContextMixModel" (86) (32768) ∈ GW := mem_gw4 (i := 27) rfl rfl
theorem k748 : Cond.methodLink "ContextMixModel" (87) ⟨"ContextMixModel", "weightAt", "(IIII)I"⟩ ∈ GW := mem_gw4 (i := 28) rfl rfl
theorem k749 : Cond.static ⟨"ContextMixModel", "weightAt", "(IIII)I"⟩ ∈ GW := mem_gw4 (i := 29) rfl rfl
theorem k750 : Cond.code ⟨"ContextMixModel", "weightAt", "(IIII)I"⟩ prog_13_method_10_code (4) (Option.some FieldType.int) ∈ GW := mem_gw4 (i := 30) rfl rfl
theorem k751 : Cond.constantLong "ContextMixModel" (94) (4294967295) ∈ GW := mem_gw4 (i := 31) rfl rfl
theorem k752 : Cond.methodLink "ContextMixModel" (96) ⟨"ContextMixModel", "byteBegins", "(IZ)V"⟩ ∈ GW := mem_gw4 (i := 32) rfl rfl
theorem k754 : Cond.instanceMethod ⟨"ContextMixModel", "byteBegins", "(IZ)V"⟩ ∈ GW := mem_gw4 (i := 34) rfl rfl
theorem k755 : Cond.code ⟨"ContextMixModel", "byteBegins", "(IZ)V"⟩ prog_13_method_14_code (4) (Option.none : Option FieldType) ∈ GW := mem_gw4 (i := 35) rfl rfl
theorem k756 : Cond.methodLink "ContextMixModel" (128) ⟨"ContextMixModel", "contextOf", "(II)I"⟩ ∈ GW := mem_gw4 (i := 36) rfl rfl
theorem k758 : Cond.instanceMethod ⟨"ContextMixModel", "contextOf", "(II)I"⟩ ∈ GW := mem_gw4 (i := 38) rfl rfl
theorem k759 : Cond.code ⟨"ContextMixModel", "contextOf", "(II)I"⟩ prog_13_method_13_code (7) (Option.some FieldType.int) ∈ GW := mem_gw4 (i := 39) rfl rfl
theorem k760 : Cond.methodLink "ContextMixModel" (117) ⟨"ContextMixModel", "hash", "(II)I"⟩ ∈ GW := mem_gw4 (i := 40) rfl rfl
theorem k761 : Cond.static ⟨"ContextMixModel", "hash", "(II)I"⟩ ∈ GW := mem_gw4 (i := 41) rfl rfl
theorem k762 : Cond.code ⟨"ContextMixModel", "hash", "(II)I"⟩ prog_13_method_4_code (3) (Option.some FieldType.int) ∈ GW := mem_gw4 (i := 42) rfl rfl
theorem k763 : Cond.constant "ContextMixModel" (83) (625341585) ∈ GW := mem_gw4 (i := 43) rfl rfl
theorem k764 : Cond.constant "ContextMixModel" (84) (-1640531535) ∈ GW := mem_gw4 (i := 44) rfl rfl
theorem k765 : Cond.constant "ContextMixModel" (85) (-2048144789) ∈ GW := mem_gw4 (i := 45) rfl rfl
theorem k766 : Cond.methodLink "ContextMixModel" (121) ⟨"ContextMixModel", "latest", "(II)I"⟩ ∈ GW := mem_gw4 (i := 46) rfl rfl
theorem k768 : Cond.instanceMethod ⟨"ContextMixModel", "latest", "(II)I"⟩ ∈ GW := mem_gw4 (i := 48) rfl rfl
theorem k769 : Cond.code ⟨"ContextMixModel", "latest", "(II)I"⟩ prog_13_method_11_code (3) (Option.some FieldType.int) ∈ GW := mem_gw4 (i := 49) rfl rfl
theorem k770 : Cond.methodLink "ContextMixModel" (124) ⟨"ContextMixModel", "isLetter", "(I)Z"⟩ ∈ GW := mem_gw4 (i := 50) rfl rfl
theorem k771 : Cond.static ⟨"ContextMixModel", "isLetter", "(I)Z"⟩ ∈ GW := mem_gw4 (i := 51) rfl rfl
theorem k772 : Cond.code ⟨"ContextMixModel", "isLetter", "(I)Z"⟩ prog_13_method_12_code (1) (Option.some FieldType.boolean) ∈ GW := mem_gw4 (i := 52) rfl rfl
theorem k773 : Cond.methodLink "ContextMixModel" (131) ⟨"ContextMixModel", "match", "(IIZ)V"⟩ ∈ GW := mem_gw4 (i := 53) rfl rfl
theorem k775 : Cond.instanceMethod ⟨"ContextMixModel", "match", "(IIZ)V"⟩ ∈ GW := mem_gw4 (i := 55) rfl rfl
theorem k776 : Cond.code ⟨"ContextMixModel", "match", "(IIZ)V"⟩ prog_13_method_15_code (9) (Option.none : Option FieldType) ∈ GW := mem_gw4 (i := 56) rfl rfl
theorem k777 : Cond.fieldLink "ContextMixModel" (66) "ContextMixModel" "room" "I" ∈ GW := mem_gw4 (i := 57) rfl rfl
theorem k778 : Cond.fieldLink "ContextMixModel" (7) "ContextMixModel" "stretched" "[I" ∈ GW := mem_gw4 (i := 58) rfl rfl
theorem k779 : Cond.fieldLink "ContextMixModel" (77) "ContextMixModel" "thrown" "I" ∈ GW := mem_gw4 (i := 59) rfl rfl
theorem k780 : Cond.fieldLink "ContextMixModel" (91) "ContextMixModel" "many" "I" ∈ GW := mem_gw4 (i := 60) rfl rfl
theorem k781 : Cond.fieldLink "ContextMixModel" (13) "ContextMixModel" "kind" "[I" ∈ GW := mem_gw4 (i := 61) rfl rfl
theorem k782 : Cond.fieldLink "ContextMixModel" (16) "ContextMixModel" "size" "[I" ∈ GW := mem_gw4 (i := 62) rfl rfl
theorem k783 : Cond.fieldLink "ContextMixModel" (19) "ContextMixModel" "isOff" "[Z" ∈ GW := mem_gw4 (i := 63) rfl rfl
theorem k784 : Cond.fieldLink "ContextMixModel" (23) "ContextMixModel" "bytes" "[I" ∈ GW := mem_gw4 (i := 64) rfl rfl
theorem k785 : Cond.fieldLink "ContextMixModel" (26) "ContextMixModel" "went" "[I" ∈ GW := mem_gw4 (i := 65) rfl rfl
theorem k786 : Cond.fieldLink "ContextMixModel" (29) "ContextMixModel" "node" "[I" ∈ GW := mem_gw4 (i := 66) rfl rfl
theorem k787 : Cond.fieldLink "ContextMixModel" (32) "ContextMixModel" "context" "[I" ∈ GW := mem_gw4 (i := 67) rfl rfl
theorem k788 : Cond.fieldLink "ContextMixModel" (35) "ContextMixModel" "points" "[I" ∈ GW := mem_gw4 (i := 68) rfl rfl
theorem k789 : Cond.fieldLink "ContextMixModel" (38) "ContextMixModel" "length" "[I" ∈ GW := mem_gw4 (i := 69) rfl rfl
theorem k790 : Cond.fieldLink "ContextMixModel" (41) "ContextMixModel" "slotChance" "[I" ∈ GW := mem_gw4 (i := 70) rfl rfl
theorem k791 : Cond.fieldLink "ContextMixModel" (44) "ContextMixModel" "slotSeen" "[I" ∈ GW := mem_gw4 (i := 71) rfl rfl
theorem k792 : Cond.fieldLink "ContextMixModel" (47) "ContextMixModel" "weights" "[I" ∈ GW := mem_gw4 (i := 72) rfl rfl
theorem k793 : Cond.fieldLink "ContextMixModel" (50) "ContextMixModel" "cells" "[I" ∈ GW := mem_gw4 (i := 73) rfl rfl
theorem k794 : Cond.fieldLink "ContextMixModel" (53) "ContextMixModel" "low" "[J" ∈ GW := mem_gw4 (i := 74) rfl rfl
theorem k795 : Cond.fieldLink "ContextMixModel" (57) "ContextMixModel" "high" "[J" ∈ GW := mem_gw4 (i := 75) rfl rfl
theorem k796 : Cond.fieldLink "ContextMixModel" (60) "ContextMixModel" "out" "[I" ∈ GW := mem_gw4 (i := 76) rfl rfl
theorem k797 : Cond.fieldLink "ContextMixModel" (104) "ContextMixModel" "outSize" "I" ∈ GW := mem_gw4 (i := 77) rfl rfl
theorem k798 : Cond.fieldLink "ContextMixModel" (107) "ContextMixModel" "bitsOf" "I" ∈ GW := mem_gw4 (i := 78) rfl rfl
theorem k799 : Cond.fieldLink "ContextMixModel" (110) "ContextMixModel" "isEnded" "Z" ∈ GW := mem_gw4 (i := 79) rfl rfl
theorem k800 : Cond.fieldLink "ContextMixModel" (201) "ContextMixModel" "x" "J" ∈ GW := mem_gw4 (i := 80) rfl rfl
theorem k801 : Cond.fieldLink "ContextMixModel" (114) "ContextMixModel" "readAt" "I" ∈ GW := mem_gw4 (i := 81) rfl rfl
theorem k802 : Cond.fieldLink "ContextMixModel" (63) "ContextMixModel" "inputs" "[I" ∈ GW := mem_gw4 (i := 82) rfl rfl
theorem k803 : Cond.fieldLink "ContextMixModel" (155) "ContextMixModel" "told0" "I" ∈ GW := mem_gw4 (i := 83) rfl rfl
theorem k804 : Cond.fieldLink "ContextMixModel" (158) "ContextMixModel" "told1" "I" ∈ GW := mem_gw4 (i := 84) rfl rfl
theorem k805 : Cond.fieldLink "ContextMixModel" (148) "ContextMixModel" "set1" "I" ∈ GW := mem_gw4 (i := 85) rfl rfl
theorem k806 : Cond.fieldLink "ContextMixModel" (164) "ContextMixModel" "cellAt" "I" ∈ GW := mem_gw4 (i := 86) rfl rfl
theorem k807 : Cond.fieldLink "ContextMixModel" (161) "ContextMixModel" "cellPart" "I" ∈ GW := mem_gw4 (i := 87) rfl rfl
theorem k808 : Cond.fieldLink "ContextMixModel" (170) "ContextMixModel" "chanceNow" "I" ∈ GW := mem_gw4 (i := 88) rfl rfl
theorem k809 : Cond.laysFinal "ContextMixModel" "ContextMixModel" "room" "I" ∈ GW := mem_gw4 (i := 89) rfl rfl
theorem k811 : Cond.laysFinal "ContextMixModel" "ContextMixModel" "stretched" "[I" ∈ GW := mem_gw4 (i := 91) rfl rfl
theorem k813 : Cond.lays "ContextMixModel" "ContextMixModel" "thrown" "I" ∈ GW := mem_gw4 (i := 93) rfl rfl
theorem k815 : Cond.lays "ContextMixModel" "ContextMixModel" "many" "I" ∈ GW := mem_gw4 (i := 95) rfl rfl
theorem k817 : Cond.laysFinal "ContextMixModel" "ContextMixModel" "kind" "[I" ∈ GW := mem_gw4 (i := 97) rfl rfl
theorem k819 : Cond.laysFinal "ContextMixModel" "ContextMixModel" "size" "[I" ∈ GW := mem_gw4 (i := 99) rfl rfl
theorem k821 : Cond.laysFinal "ContextMixModel" "ContextMixModel" "isOff" "[Z" ∈ GW := mem_gw4 (i := 101) rfl rfl
theorem k823 : Cond.laysFinal "ContextMixModel" "ContextMixModel" "bytes" "[I" ∈ GW := mem_gw4 (i := 103) rfl rfl
theorem k825 : Cond.laysFinal "ContextMixModel" "ContextMixModel" "went" "[I" ∈ GW := mem_gw4 (i := 105) rfl rfl
theorem k827 : Cond.laysFinal "ContextMixModel" "ContextMixModel" "node" "[I" ∈ GW := mem_gw4 (i := 107) rfl rfl
theorem k829 : Cond.laysFinal "ContextMixModel" "ContextMixModel" "context" "[I" ∈ GW := mem_gw4 (i := 109) rfl rfl
theorem k831 : Cond.laysFinal "ContextMixModel" "ContextMixModel" "points" "[I" ∈ GW := mem_gw4 (i := 111) rfl rfl
theorem k833 : Cond.laysFinal "ContextMixModel" "ContextMixModel" "length" "[I" ∈ GW := mem_gw4 (i := 113) rfl rfl
theorem k835 : Cond.laysFinal "ContextMixModel" "ContextMixModel" "slotChance" "[I" ∈ GW := mem_gw4 (i := 115) rfl rfl
theorem k837 : Cond.laysFinal "ContextMixModel" "ContextMixModel" "slotSeen" "[I" ∈ GW := mem_gw4 (i := 117) rfl rfl
theorem k839 : Cond.laysFinal "ContextMixModel" "ContextMixModel" "weights" "[I" ∈ GW := mem_gw4 (i := 119) rfl rfl
theorem k841 : Cond.laysFinal "ContextMixModel" "ContextMixModel" "cells" "[I" ∈ GW := mem_gw4 (i := 121) rfl rfl
theorem k843 : Cond.laysFinal "ContextMixModel" "ContextMixModel" "low" "[J" ∈ GW := mem_gw4 (i := 123) rfl rfl
theorem k845 : Cond.laysFinal "ContextMixModel" "ContextMixModel" "high" "[J" ∈ GW := mem_gw4 (i := 125) rfl rfl
theorem k847 : Cond.laysFinal "ContextMixModel" "ContextMixModel" "out" "[I" ∈ GW := mem_gw4 (i := 127) rfl rfl
theorem k849 : Cond.lays "ContextMixModel" "ContextMixModel" "outSize" "I" ∈ GW := mem_gw4 (i := 129) rfl rfl
theorem k851 : Cond.lays "ContextMixModel" "ContextMixModel" "bitsOf" "I" ∈ GW := mem_gw4 (i := 131) rfl rfl
theorem k853 : Cond.lays "ContextMixModel" "ContextMixModel" "isEnded" "Z" ∈ GW := mem_gw4 (i := 133) rfl rfl
theorem k855 : Cond.lays "ContextMixModel" "ContextMixModel" "x" "J" ∈ GW := mem_gw4 (i := 135) rfl rfl
theorem k857 : Cond.lays "ContextMixModel" "ContextMixModel" "readAt" "I" ∈ GW := mem_gw4 (i := 137) rfl rfl
theorem k859 : Cond.laysFinal "ContextMixModel" "ContextMixModel" "inputs" "[I" ∈ GW := mem_gw4 (i := 139) rfl rfl
theorem k861 : Cond.lays "ContextMixModel" "ContextMixModel" "told0" "I" ∈ GW := mem_gw4 (i := 141) rfl rfl
theorem k863 : Cond.lays "ContextMixModel" "ContextMixModel" "told1" "I" ∈ GW := mem_gw4 (i := 143) rfl rfl
theorem k865 : Cond.lays "ContextMixModel" "ContextMixModel" "set1" "I" ∈ GW := mem_gw4 (i := 145) rfl rfl
theorem k867 : Cond.lays "ContextMixModel" "ContextMixModel" "cellAt" "I" ∈ GW := mem_gw4 (i := 147) rfl rfl
theorem k869 : Cond.lays "ContextMixModel" "ContextMixModel" "cellPart" "I" ∈ GW := mem_gw4 (i := 149) rfl rfl
theorem k871 : Cond.lays "ContextMixModel" "ContextMixModel" "chanceNow" "I" ∈ GW := mem_gw4 (i := 151) rfl rfl
theorem k874 : Cond.arrayClass FieldType.long ∈ GW := mem_gw4 (i := 154) rfl rfl
theorem k875 : Cond.methodLink "ContextMixLaw" (87) ⟨"ContextMixModel", "thrown", "()I"⟩ ∈ GW := mem_gw4 (i := 155) rfl rfl
theorem k876 : Cond.instanceMethod ⟨"ContextMixModel", "thrown", "()I"⟩ ∈ GW := mem_gw4 (i := 156) rfl rfl
theorem k877 : Cond.selects "ContextMixModel" ⟨"ContextMixModel", "thrown", "()I"⟩ ⟨"ContextMixModel", "thrown", "()I"⟩ ∈ GW := mem_gw4 (i := 157) rfl rfl
theorem k878 : Cond.code ⟨"ContextMixModel", "thrown", "()I"⟩ prog_13_method_2_code (1) (Option.some FieldType.int) ∈ GW := mem_gw4 (i := 158) rfl rfl
theorem k879 : Cond.methodLink "ContextMixLaw" (101) ⟨"ContextMixModel", "squash", "(I)I"⟩ ∈ GW := mem_gw4 (i := 159) rfl rfl
theorem k880 : Cond.instanceMethod ⟨"ContextMixModel", "squash", "(I)I"⟩ ∈ GW := mem_gw4 (i := 160) rfl rfl
theorem k881 : Cond.selects "ContextMixModel" ⟨"ContextMixModel", "squash", "(I)I"⟩ ⟨"ContextMixModel", "squash", "(I)I"⟩ ∈ GW := mem_gw4 (i := 161) rfl rfl
theorem k882 : Cond.code ⟨"ContextMixModel", "squash", "(I)I"⟩ prog_13_method_6_code (2) (Option.some FieldType.int) ∈ GW := mem_gw4 (i := 162) rfl rfl
theorem k883 : Cond.methodLink "ContextMixLaw" (105) ⟨"ContextMixModel", "stretch", "(I)I"⟩ ∈ GW := mem_gw4 (i := 163) rfl rfl
theorem k884 : Cond.instanceMethod ⟨"ContextMixModel", "stretch", "(I)I"⟩ ∈ GW := mem_gw4 (i := 164) rfl rfl
theorem k885 : Cond.selects "ContextMixModel" ⟨"ContextMixModel", "stretch", "(I)I"⟩ ⟨"ContextMixModel", "stretch", "(I)I"⟩ ∈ GW := mem_gw4 (i := 165) rfl rfl
theorem k886 : Cond.code ⟨"ContextMixModel", "stretch", "(I)I"⟩ prog_13_method_7_code (2) (Option.some FieldType.int) ∈ GW := mem_gw4 (i := 166) rfl rfl
theorem k887 : Cond.methodLink "ContextMixLaw" (30) ⟨"ContextMixModel", "predictor", "(II)I"⟩ ∈ GW := mem_gw4 (i := 167) rfl rfl
theorem k888 : Cond.instanceMethod ⟨"ContextMixModel", "predictor", "(II)I"⟩ ∈ GW := mem_gw4 (i := 168) rfl rfl
theorem k889 : Cond.selects "ContextMixModel" ⟨"ContextMixModel", "predictor", "(II)I"⟩ ⟨"ContextMixModel", "predictor", "(II)I"⟩ ∈ GW := mem_gw4 (i := 169) rfl rfl
theorem k890 : Cond.code ⟨"ContextMixModel", "predictor", "(II)I"⟩ prog_13_method_22_code (4) (Option.some FieldType.int) ∈ GW := mem_gw4 (i := 170) rfl rfl
theorem k891 : Cond.methodLink "ContextMixModel" (177) ⟨"ContextMixModel", "hasWritten", "()Z"⟩ ∈ GW := mem_gw4 (i := 171) rfl rfl
theorem k893 : Cond.instanceMethod ⟨"ContextMixModel", "hasWritten", "()Z"⟩ ∈ GW := mem_gw4 (i := 173) rfl rfl
theorem k894 : Cond.code ⟨"ContextMixModel", "hasWritten", "()Z"⟩ prog_13_method_23_code (1) (Option.some FieldType.boolean) ∈ GW := mem_gw4 (i := 174) rfl rfl
theorem k895 : Cond.methodLink "ContextMixLaw" (35) ⟨"ContextMixModel", "off", "(I)I"⟩ ∈ GW := mem_gw4 (i := 175) rfl rfl
theorem k896 : Cond.instanceMethod ⟨"ContextMixModel", "off", "(I)I"⟩ ∈ GW := mem_gw4 (i := 176) rfl rfl
theorem k897 : Cond.selects "ContextMixModel" ⟨"ContextMixModel", "off", "(I)I"⟩ ⟨"ContextMixModel", "off", "(I)I"⟩ ∈ GW := mem_gw4 (i := 177) rfl rfl
theorem k898 : Cond.code ⟨"ContextMixModel", "off", "(I)I"⟩ prog_13_method_24_code (3) (Option.some FieldType.int) ∈ GW := mem_gw4 (i := 178) rfl rfl
theorem k899 : Cond.methodLink "ContextMixLaw" (40) ⟨"ContextMixModel", "bit", "(Z)I"⟩ ∈ GW := mem_gw4 (i := 179) rfl rfl
theorem k900 : Cond.instanceMethod ⟨"ContextMixModel", "bit", "(Z)I"⟩ ∈ GW := mem_gw4 (i := 180) rfl rfl
theorem k901 : Cond.selects "ContextMixModel" ⟨"ContextMixModel", "bit", "(Z)I"⟩ ⟨"ContextMixModel", "bit", "(Z)I"⟩ ∈ GW := mem_gw4 (i := 181) rfl rfl
theorem k902 : Cond.code ⟨"ContextMixModel", "bit", "(Z)I"⟩ prog_13_method_27_code (2) (Option.some FieldType.int) ∈ GW := mem_gw4 (i := 182) rfl rfl
theorem k903 : Cond.methodLink "ContextMixModel" (192) ⟨"ContextMixModel", "isFull", "()Z"⟩ ∈ GW := mem_gw4 (i := 183) rfl rfl
theorem k905 : Cond.instanceMethod ⟨"ContextMixModel", "isFull", "()Z"⟩ ∈ GW := mem_gw4 (i := 185) rfl rfl
theorem k906 : Cond.code ⟨"ContextMixModel", "isFull", "()Z"⟩ prog_13_method_26_code (1) (Option.some FieldType.boolean) ∈ GW := mem_gw4 (i := 186) rfl rfl
theorem k907 : Cond.methodLink "ContextMixModel" (195) ⟨"ContextMixModel", "writeBit", "(I)V"⟩ ∈ GW := mem_gw4 (i := 187) rfl rfl
theorem k909 : Cond.instanceMethod ⟨"ContextMixModel", "writeBit", "(I)V"⟩ ∈ GW := mem_gw4 (i := 189) rfl rfl
theorem k910 : Cond.code ⟨"ContextMixModel", "writeBit", "(I)V"⟩ prog_13_method_25_code (4) (Option.none : Option FieldType) ∈ GW := mem_gw4 (i := 190) rfl rfl
theorem k911 : Cond.methodLink "ContextMixModel" (181) ⟨"ContextMixModel", "work", "(I)V"⟩ ∈ GW := mem_gw4 (i := 191) rfl rfl
theorem k913 : Cond.instanceMethod ⟨"ContextMixModel", "work", "(I)V"⟩ ∈ GW := mem_gw4 (i := 193) rfl rfl
theorem k914 : Cond.code ⟨"ContextMixModel", "work", "(I)V"⟩ prog_13_method_20_code (6) (Option.none : Option FieldType) ∈ GW := mem_gw4 (i := 194) rfl rfl
theorem k915 : Cond.methodLink "ContextMixModel" (145) ⟨"ContextMixModel", "inputOf", "(II)I"⟩ ∈ GW := mem_gw4 (i := 195) rfl rfl
theorem k917 : Cond.instanceMethod ⟨"ContextMixModel", "inputOf", "(II)I"⟩ ∈ GW := mem_gw4 (i := 197) rfl rfl
theorem k918 : Cond.code ⟨"ContextMixModel", "inputOf", "(II)I"⟩ prog_13_method_18_code (7) (Option.some FieldType.int) ∈ GW := mem_gw4 (i := 198) rfl rfl
theorem k919 : Cond.methodLink "ContextMixModel" (135) ⟨"ContextMixModel", "slotOf", "(II)I"⟩ ∈ GW := mem_gw4 (i := 199) rfl rfl
theorem k921 : Cond.instanceMethod ⟨"ContextMixModel", "slotOf", "(II)I"⟩ ∈ GW := mem_gw4 (i := 201) rfl rfl
theorem k922 : Cond.code ⟨"ContextMixModel", "slotOf", "(II)I"⟩ prog_13_method_17_code (3) (Option.some FieldType.int) ∈ GW := mem_gw4 (i := 202) rfl rfl
theorem k923 : Cond.methodLink "ContextMixModel" (138) ⟨"ContextMixModel", "bitsDone", "(I)I"⟩ ∈ GW := mem_gw4 (i := 203) rfl rfl
theorem k925 : Cond.instanceMethod ⟨"ContextMixModel", "bitsDone", "(I)I"⟩ ∈ GW := mem_gw4 (i := 205) rfl rfl
theorem k926 : Cond.code ⟨"ContextMixModel", "bitsDone", "(I)I"⟩ prog_13_method_16_code (3) (Option.some FieldType.int) ∈ GW := mem_gw4 (i := 206) rfl rfl
theorem k927 : Cond.methodLink "ContextMixModel" (151) ⟨"ContextMixModel", "told", "(III)I"⟩ ∈ GW := mem_gw4 (i := 207) rfl rfl
theorem k929 : Cond.instanceMethod ⟨"ContextMixModel", "told", "(III)I"⟩ ∈ GW := mem_gw4 (i := 209) rfl rfl
theorem k930 : Cond.code ⟨"ContextMixModel", "told", "(III)I"⟩ prog_13_method_19_code (8) (Option.some FieldType.int) ∈ GW := mem_gw4 (i := 210) rfl rfl
theorem k931 : Cond.constantLong "ContextMixModel" (141) (-2047) ∈ GW := mem_gw4 (i := 211) rfl rfl
theorem k932 : Cond.constantLong "ContextMixModel" (143) (2047) ∈ GW := mem_gw4 (i := 212) rfl rfl
theorem k933 : Cond.methodLink "ContextMixModel" (167) ⟨"ContextMixModel", "bound", "(III)I"⟩ ∈ GW := mem_gw4 (i := 213) rfl rfl
theorem k934 : Cond.static ⟨"ContextMixModel", "bound", "(III)I"⟩ ∈ GW := mem_gw4 (i := 214) rfl rfl
theorem k935 : Cond.code ⟨"ContextMixModel", "bound", "(III)I"⟩ prog_13_method_5_code (3) (Option.some FieldType.int) ∈ GW := mem_gw4 (i := 215) rfl rfl
theorem k936 : Cond.constantLong "ContextMixModel" (184) (4096) ∈ GW := mem_gw4 (i := 216) rfl rfl
theorem k937 : Cond.constantLong "ContextMixModel" (186) (255) ∈ GW := mem_gw4 (i := 217) rfl rfl
theorem k938 : Cond.methodLink "ContextMixModel" (188) ⟨"ContextMixModel", "learn", "(II)V"⟩ ∈ GW := mem_gw4 (i := 218) rfl rfl
theorem k940 : Cond.instanceMethod ⟨"ContextMixModel", "learn", "(II)V"⟩ ∈ GW := mem_gw4 (i := 220) rfl rfl
theorem k941 : Cond.code ⟨"ContextMixModel", "learn", "(II)V"⟩ prog_13_method_21_code (9) (Option.none : Option FieldType) ∈ GW := mem_gw4 (i := 221) rfl rfl
theorem k942 : Cond.constant "ContextMixModel" (173) (-1000000) ∈ GW := mem_gw4 (i := 222) rfl rfl
theorem k943 : Cond.constant "ContextMixModel" (174) (1000000) ∈ GW := mem_gw4 (i := 223) rfl rfl
theorem k944 : Cond.constant "ContextMixModel" (175) (65535) ∈ GW := mem_gw4 (i := 224) rfl rfl
theorem k945 : Cond.constant "ContextMixModel" (176) (65536) ∈ GW := mem_gw4 (i := 225) rfl rfl
theorem k946 : Cond.methodLink "ContextMixLaw" (44) ⟨"ContextMixModel", "octet", "(I)I"⟩ ∈ GW := mem_gw4 (i := 226) rfl rfl
theorem k947 : Cond.instanceMethod ⟨"ContextMixModel", "octet", "(I)I"⟩ ∈ GW := mem_gw4 (i := 227) rfl rfl
theorem k948 : Cond.selects "ContextMixModel" ⟨"ContextMixModel", "octet", "(I)I"⟩ ⟨"ContextMixModel", "octet", "(I)I"⟩ ∈ GW := mem_gw4 (i := 228) rfl rfl
theorem k949 : Cond.code ⟨"ContextMixModel", "octet", "(I)I"⟩ prog_13_method_28_code (3) (Option.some FieldType.int) ∈ GW := mem_gw4 (i := 229) rfl rfl
theorem k950 : Cond.methodLink "ContextMixLaw" (49) ⟨"ContextMixModel", "end", "()I"⟩ ∈ GW := mem_gw4 (i := 230) rfl rfl
theorem k951 : Cond.instanceMethod ⟨"ContextMixModel", "end", "()I"⟩ ∈ GW := mem_gw4 (i := 231) rfl rfl
theorem k952 : Cond.selects "ContextMixModel" ⟨"ContextMixModel", "end", "()I"⟩ ⟨"ContextMixModel", "end", "()I"⟩ ∈ GW := mem_gw4 (i := 232) rfl rfl
theorem k953 : Cond.code ⟨"ContextMixModel", "end", "()I"⟩ prog_13_method_29_code (2) (Option.some FieldType.int) ∈ GW := mem_gw4 (i := 233) rfl rfl
theorem k954 : Cond.methodLink "ContextMixModel" (198) ⟨"ContextMixModel", "loadX", "()V"⟩ ∈ GW := mem_gw4 (i := 234) rfl rfl
theorem k956 : Cond.instanceMethod ⟨"ContextMixModel", "loadX", "()V"⟩ ∈ GW := mem_gw4 (i := 236) rfl rfl
theorem k957 : Cond.code ⟨"ContextMixModel", "loadX", "()V"⟩ prog_13_method_31_code (2) (Option.none : Option FieldType) ∈ GW := mem_gw4 (i := 237) rfl rfl
theorem k958 : Cond.methodLink "ContextMixModel" (205) ⟨"ContextMixModel", "nextOut", "()I"⟩ ∈ GW := mem_gw4 (i := 238) rfl rfl
theorem k960 : Cond.instanceMethod ⟨"ContextMixModel", "nextOut", "()I"⟩ ∈ GW := mem_gw5 (i := 0) rfl rfl
theorem k961 : Cond.code ⟨"ContextMixModel", "nextOut", "()I"⟩ prog_13_method_30_code (2) (Option.some FieldType.int) ∈ GW := mem_gw5 (i := 1) rfl rfl
theorem k962 : Cond.methodLink "ContextMixLaw" (53) ⟨"ContextMixModel", "get", "()I"⟩ ∈ GW := mem_gw5 (i := 2) rfl rfl
theorem k963 : Cond.instanceMethod ⟨"ContextMixModel", "get", "()I"⟩ ∈ GW := mem_gw5 (i := 3) rfl rfl
theorem k964 : Cond.selects "ContextMixModel" ⟨"ContextMixModel", "get", "()I"⟩ ⟨"ContextMixModel", "get", "()I"⟩ ∈ GW := mem_gw5 (i := 4) rfl rfl
theorem k965 : Cond.code ⟨"ContextMixModel", "get", "()I"⟩ prog_13_method_32_code (5) (Option.some FieldType.int) ∈ GW := mem_gw5 (i := 5) rfl rfl
theorem k966 : Cond.methodLink "ContextMixLaw" (57) ⟨"ContextMixModel", "again", "()I"⟩ ∈ GW := mem_gw5 (i := 6) rfl rfl
theorem k967 : Cond.instanceMethod ⟨"ContextMixModel", "again", "()I"⟩ ∈ GW := mem_gw5 (i := 7) rfl rfl
theorem k968 : Cond.selects "ContextMixModel" ⟨"ContextMixModel", "again", "()I"⟩ ⟨"ContextMixModel", "again", "()I"⟩ ∈ GW := mem_gw5 (i := 8) rfl rfl
theorem k969 : Cond.code ⟨"ContextMixModel", "again", "()I"⟩ prog_13_method_33_code (2) (Option.some FieldType.int) ∈ GW := mem_gw5 (i := 9) rfl rfl
theorem k970 : Cond.methodLink "ContextMixLaw" (61) ⟨"ContextMixModel", "clear", "()I"⟩ ∈ GW := mem_gw5 (i := 10) rfl rfl
theorem k971 : Cond.instanceMethod ⟨"ContextMixModel", "clear", "()I"⟩ ∈ GW := mem_gw5 (i := 11) rfl rfl
theorem k972 : Cond.selects "ContextMixModel" ⟨"ContextMixModel", "clear", "()I"⟩ ⟨"ContextMixModel", "clear", "()I"⟩ ∈ GW := mem_gw5 (i := 12) rfl rfl
theorem k973 : Cond.code ⟨"ContextMixModel", "clear", "()I"⟩ prog_13_method_34_code (1) (Option.some FieldType.int) ∈ GW := mem_gw5 (i := 13) rfl rfl
theorem k974 : Cond.methodLink "ContextMixLaw" (65) ⟨"ContextMixModel", "out", "(I)I"⟩ ∈ GW := mem_gw5 (i := 14) rfl rfl
theorem k975 : Cond.instanceMethod ⟨"ContextMixModel", "out", "(I)I"⟩ ∈ GW := mem_gw5 (i := 15) rfl rfl
theorem k976 : Cond.selects "ContextMixModel" ⟨"ContextMixModel", "out", "(I)I"⟩ ⟨"ContextMixModel", "out", "(I)I"⟩ ∈ GW := mem_gw5 (i := 16) rfl rfl
theorem k977 : Cond.code ⟨"ContextMixModel", "out", "(I)I"⟩ prog_13_method_35_code (2) (Option.some FieldType.int) ∈ GW := mem_gw5 (i := 17) rfl rfl
theorem k978 : Cond.methodLink "ContextMixLaw" (69) ⟨"ContextMixModel", "spoil", "(II)I"⟩ ∈ GW := mem_gw5 (i := 18) rfl rfl
theorem k979 : Cond.instanceMethod ⟨"ContextMixModel", "spoil", "(II)I"⟩ ∈ GW := mem_gw5 (i := 19) rfl rfl
theorem k980 : Cond.selects "ContextMixModel" ⟨"ContextMixModel", "spoil", "(II)I"⟩ ⟨"ContextMixModel", "spoil", "(II)I"⟩ ∈ GW := mem_gw5 (i := 20) rfl rfl
theorem k981 : Cond.code ⟨"ContextMixModel", "spoil", "(II)I"⟩ prog_13_method_36_code (3) (Option.some FieldType.int) ∈ GW := mem_gw5 (i := 21) rfl rfl
theorem k982 : Cond.methodLink "ContextMixLaw" (73) ⟨"ContextMixModel", "chance", "(I)I"⟩ ∈ GW := mem_gw5 (i := 22) rfl rfl
theorem k983 : Cond.instanceMethod ⟨"ContextMixModel", "chance", "(I)I"⟩ ∈ GW := mem_gw5 (i := 23) rfl rfl
theorem k984 : Cond.selects "ContextMixModel" ⟨"ContextMixModel", "chance", "(I)I"⟩ ⟨"ContextMixModel", "chance", "(I)I"⟩ ∈ GW := mem_gw5 (i := 24) rfl rfl
theorem k985 : Cond.code ⟨"ContextMixModel", "chance", "(I)I"⟩ prog_13_method_38_code (2) (Option.some FieldType.int) ∈ GW := mem_gw5 (i := 25) rfl rfl
theorem k986 : Cond.methodLink "ContextMixModel" (209) ⟨"ContextMixModel", "isSide", "(I)Z"⟩ ∈ GW := mem_gw5 (i := 26) rfl rfl
theorem k987 : Cond.static ⟨"ContextMixModel", "isSide", "(I)Z"⟩ ∈ GW := mem_gw5 (i := 27) rfl rfl
theorem k988 : Cond.code ⟨"ContextMixModel", "isSide", "(I)Z"⟩ prog_13_method_37_code (1) (Option.some FieldType.boolean) ∈ GW := mem_gw5 (i := 28) rfl rfl
theorem k989 : Cond.methodLink "ContextMixLaw" (77) ⟨"ContextMixModel", "input", "(II)I"⟩ ∈ GW := mem_gw5 (i := 29) rfl rfl
theorem k990 : Cond.instanceMethod ⟨"ContextMixModel", "input", "(II)I"⟩ ∈ GW := mem_gw5 (i := 30) rfl rfl
theorem k991 : Cond.selects "ContextMixModel" ⟨"ContextMixModel", "input", "(II)I"⟩ ⟨"ContextMixModel", "input", "(II)I"⟩ ∈ GW := mem_gw5 (i := 31) rfl rfl
theorem k992 : Cond.code ⟨"ContextMixModel", "input", "(II)I"⟩ prog_13_method_39_code (3) (Option.some FieldType.int) ∈ GW := mem_gw5 (i := 32) rfl rfl
theorem k993 : Cond.methodLink "ContextMixLaw" (82) ⟨"ContextMixModel", "weight", "(IIII)I"⟩ ∈ GW := mem_gw5 (i := 33) rfl rfl
theorem k994 : Cond.instanceMethod ⟨"ContextMixModel", "weight", "(IIII)I"⟩ ∈ GW := mem_gw5 (i := 34) rfl rfl
theorem k995 : Cond.selects "ContextMixModel" ⟨"ContextMixModel", "weight", "(IIII)I"⟩ ⟨"ContextMixModel", "weight", "(IIII)I"⟩ ∈ GW := mem_gw5 (i := 35) rfl rfl
theorem k996 : Cond.code ⟨"ContextMixModel", "weight", "(IIII)I"⟩ prog_13_method_40_code (6) (Option.some FieldType.int) ∈ GW := mem_gw5 (i := 36) rfl rfl
theorem k997 : Cond.constant "ContextMixModel" (212) (-2000000) ∈ GW := mem_gw5 (i := 37) rfl rfl
theorem k998 : Cond.methodLink "ContextMixLaw" (86) ⟨"ContextMixModel", "slot", "(II)I"⟩ ∈ GW := mem_gw5 (i := 38) rfl rfl
theorem k999 : Cond.instanceMethod ⟨"ContextMixModel", "slot", "(II)I"⟩ ∈ GW := mem_gw5 (i := 39) rfl rfl
theorem k1000 : Cond.selects "ContextMixModel" ⟨"ContextMixModel", "slot", "(II)I"⟩ ⟨"ContextMixModel", "slot", "(II)I"⟩ ∈ GW := mem_gw5 (i := 40) rfl rfl
theorem k1001 : Cond.code ⟨"ContextMixModel", "slot", "(II)I"⟩ prog_13_method_41_code (3) (Option.some FieldType.int) ∈ GW := mem_gw5 (i := 41) rfl rfl
theorem k1002 : Cond.methodLink "ContextMixLaw" (93) ⟨"ContextMixModel", "seen", "(II)I"⟩ ∈ GW := mem_gw5 (i := 42) rfl rfl
theorem k1003 : Cond.instanceMethod ⟨"ContextMixModel", "seen", "(II)I"⟩ ∈ GW := mem_gw5 (i := 43) rfl rfl
theorem k1004 : Cond.selects "ContextMixModel" ⟨"ContextMixModel", "seen", "(II)I"⟩ ⟨"ContextMixModel", "seen", "(II)I"⟩ ∈ GW := mem_gw5 (i := 44) rfl rfl
theorem k1005 : Cond.code ⟨"ContextMixModel", "seen", "(II)I"⟩ prog_13_method_42_code (3) (Option.some FieldType.int) ∈ GW := mem_gw5 (i := 45) rfl rfl
theorem k1006 : Cond.methodLink "ContextMixLaw" (97) ⟨"ContextMixModel", "cell", "(III)I"⟩ ∈ GW := mem_gw5 (i := 46) rfl rfl
theorem k1007 : Cond.instanceMethod ⟨"ContextMixModel", "cell", "(III)I"⟩ ∈ GW := mem_gw5 (i := 47) rfl rfl
theorem k1008 : Cond.selects "ContextMixModel" ⟨"ContextMixModel", "cell", "(III)I"⟩ ⟨"ContextMixModel", "cell", "(III)I"⟩ ∈ GW := mem_gw5 (i := 48) rfl rfl
theorem k1009 : Cond.code ⟨"ContextMixModel", "cell", "(III)I"⟩ prog_13_method_43_code (5) (Option.some FieldType.int) ∈ GW := mem_gw5 (i := 49) rfl rfl
theorem k1010 : Cond.constant "ContextMixModel" (213) (40000) ∈ GW := mem_gw5 (i := 50) rfl rfl
theorem k1011 : Cond.methodLink "ContextMixLaw" (109) ⟨"ContextMixModel", "equal", "()I"⟩ ∈ GW := mem_gw5 (i := 51) rfl rfl
theorem k1012 : Cond.instanceMethod ⟨"ContextMixModel", "equal", "()I"⟩ ∈ GW := mem_gw5 (i := 52) rfl rfl
theorem k1013 : Cond.selects "ContextMixModel" ⟨"ContextMixModel", "equal", "()I"⟩ ⟨"ContextMixModel", "equal", "()I"⟩ ∈ GW := mem_gw5 (i := 53) rfl rfl
theorem k1014 : Cond.code ⟨"ContextMixModel", "equal", "()I"⟩ prog_13_method_44_code (3) (Option.some FieldType.int) ∈ GW := mem_gw5 (i := 54) rfl rfl
theorem k1015 : Cond.methodLink "ContextMixLaw" (113) ⟨"ContextMixModel", "count", "(I)I"⟩ ∈ GW := mem_gw5 (i := 55) rfl rfl
theorem k1016 : Cond.instanceMethod ⟨"ContextMixModel", "count", "(I)I"⟩ ∈ GW := mem_gw5 (i := 56) rfl rfl
theorem k1017 : Cond.selects "ContextMixModel" ⟨"ContextMixModel", "count", "(I)I"⟩ ⟨"ContextMixModel", "count", "(I)I"⟩ ∈ GW := mem_gw5 (i := 57) rfl rfl
theorem k1018 : Cond.code ⟨"ContextMixModel", "count", "(I)I"⟩ prog_13_method_45_code (2) (Option.some FieldType.int) ∈ GW := mem_gw5 (i := 58) rfl rfl
theorem k1019 : Cond.methodLink "ContextMixModel" (214) ⟨"ContextMixModel", "firstLength", "()I"⟩ ∈ GW := mem_gw5 (i := 59) rfl rfl
theorem k1021 : Cond.instanceMethod ⟨"ContextMixModel", "firstLength", "()I"⟩ ∈ GW := mem_gw5 (i := 61) rfl rfl
theorem k1022 : Cond.code ⟨"ContextMixModel", "firstLength", "()I"⟩ prog_13_method_46_code (2) (Option.some FieldType.int) ∈ GW := mem_gw5 (i := 62) rfl rfl
theorem s0 : Cond.selects "ContextMix$History" ⟨"ContextMix$History", "latestContext", "(I)I"⟩ ⟨"ContextMix$History", "latestContext", "(I)I"⟩ ∈ GW := List.mem_filter.mpr ⟨List.mem_append_left _ (List.mem_of_getElem? (i := 0) rfl), rfl⟩
theorem s1 : Cond.selects "ContextMix$History" ⟨"ContextMix$History", "wordContext", "()I"⟩ ⟨"ContextMix$History", "wordContext", "()I"⟩ ∈ GW := List.mem_filter.mpr ⟨List.mem_append_left _ (List.mem_of_getElem? (i := 1) rfl), rfl⟩
theorem s2 : Cond.selects "ContextMix$History" ⟨"ContextMix$History", "columnContext", "(I)I"⟩ ⟨"ContextMix$History", "columnContext", "(I)I"⟩ ∈ GW := List.mem_filter.mpr ⟨List.mem_append_left _ (List.mem_of_getElem? (i := 2) rfl), rfl⟩
theorem s3 : Cond.selects "ContextMix$History" ⟨"ContextMix$History", "apartContext", "(I)I"⟩ ⟨"ContextMix$History", "apartContext", "(I)I"⟩ ∈ GW := List.mem_filter.mpr ⟨List.mem_append_left _ (List.mem_of_getElem? (i := 3) rfl), rfl⟩
theorem s4 : Cond.selects "ContextMix" ⟨"ContextMix", "isFull", "()Z"⟩ ⟨"ContextMix", "isFull", "()Z"⟩ ∈ GW := List.mem_filter.mpr ⟨List.mem_append_left _ (List.mem_of_getElem? (i := 4) rfl), rfl⟩
theorem s5 : Cond.selects "ContextMix" ⟨"ContextMix", "writeBit", "(Z)V"⟩ ⟨"ContextMix", "writeBit", "(Z)V"⟩ ∈ GW := List.mem_filter.mpr ⟨List.mem_append_left _ (List.mem_of_getElem? (i := 5) rfl), rfl⟩
theorem s6 : Cond.selects "ContextMix" ⟨"ContextMix", "beginReading", "()V"⟩ ⟨"ContextMix", "beginReading", "()V"⟩ ∈ GW := List.mem_filter.mpr ⟨List.mem_append_left _ (List.mem_of_getElem? (i := 6) rfl), rfl⟩
theorem s7 : Cond.selects "ContextMix" ⟨"ContextMix", "takeByte", "()V"⟩ ⟨"ContextMix", "takeByte", "()V"⟩ ∈ GW := List.mem_filter.mpr ⟨List.mem_append_left _ (List.mem_of_getElem? (i := 7) rfl), rfl⟩
theorem s8 : Cond.selects "ContextMix" ⟨"ContextMix", "readBit", "()Z"⟩ ⟨"ContextMix", "readBit", "()Z"⟩ ∈ GW := List.mem_filter.mpr ⟨List.mem_append_left _ (List.mem_of_getElem? (i := 8) rfl), rfl⟩
theorem s9 : Cond.selects "ContextMix" ⟨"ContextMix", "sideOf", "(I)LContextMix$Side;"⟩ ⟨"ContextMix", "sideOf", "(I)LContextMix$Side;"⟩ ∈ GW := List.mem_filter.mpr ⟨List.mem_append_left _ (List.mem_of_getElem? (i := 9) rfl), rfl⟩
theorem s10 : Cond.selects "java/lang/Throwable" ⟨"java/lang/Throwable", "fillInStackTrace", "(I)Ljava/lang/Throwable;"⟩ ⟨"java/lang/Throwable", "fillInStackTrace", "(I)Ljava/lang/Throwable;"⟩ ∈ GW := List.mem_filter.mpr ⟨List.mem_append_left _ (List.mem_of_getElem? (i := 10) rfl), rfl⟩
theorem s11 : Cond.selects "ContextMixModel" ⟨"ContextMixModel", "freshAll", "()V"⟩ ⟨"ContextMixModel", "freshAll", "()V"⟩ ∈ GW := List.mem_filter.mpr ⟨List.mem_append_left _ (List.mem_of_getElem? (i := 11) rfl), rfl⟩
theorem s12 : Cond.selects "ContextMixModel" ⟨"ContextMixModel", "fresh", "(I)V"⟩ ⟨"ContextMixModel", "fresh", "(I)V"⟩ ∈ GW := List.mem_filter.mpr ⟨List.mem_append_left _ (List.mem_of_getElem? (i := 12) rfl), rfl⟩
theorem s13 : Cond.selects "ContextMixModel" ⟨"ContextMixModel", "byteBegins", "(IZ)V"⟩ ⟨"ContextMixModel", "byteBegins", "(IZ)V"⟩ ∈ GW := List.mem_filter.mpr ⟨List.mem_append_left _ (List.mem_of_getElem? (i := 13) rfl), rfl⟩
theorem s14 : Cond.selects "ContextMixModel" ⟨"ContextMixModel", "contextOf", "(II)I"⟩ ⟨"ContextMixModel", "contextOf", "(II)I"⟩ ∈ GW := List.mem_filter.mpr ⟨List.mem_append_left _ (List.mem_of_getElem? (i := 14) rfl), rfl⟩
theorem s15 : Cond.selects "ContextMixModel" ⟨"ContextMixModel", "latest", "(II)I"⟩ ⟨"ContextMixModel", "latest", "(II)I"⟩ ∈ GW := List.mem_filter.mpr ⟨List.mem_append_left _ (List.mem_of_getElem? (i := 15) rfl), rfl⟩
theorem s16 : Cond.selects "ContextMixModel" ⟨"ContextMixModel", "match", "(IIZ)V"⟩ ⟨"ContextMixModel", "match", "(IIZ)V"⟩ ∈ GW := List.mem_filter.mpr ⟨List.mem_append_left _ (List.mem_of_getElem? (i := 16) rfl), rfl⟩
theorem s17 : Cond.selects "ContextMixModel" ⟨"ContextMixModel", "hasWritten", "()Z"⟩ ⟨"ContextMixModel", "hasWritten", "()Z"⟩ ∈ GW := List.mem_filter.mpr ⟨List.mem_append_left _ (List.mem_of_getElem? (i := 17) rfl), rfl⟩
theorem s18 : Cond.selects "ContextMixModel" ⟨"ContextMixModel", "isFull", "()Z"⟩ ⟨"ContextMixModel", "isFull", "()Z"⟩ ∈ GW := List.mem_filter.mpr ⟨List.mem_append_left _ (List.mem_of_getElem? (i := 18) rfl), rfl⟩
theorem s19 : Cond.selects "ContextMixModel" ⟨"ContextMixModel", "writeBit", "(I)V"⟩ ⟨"ContextMixModel", "writeBit", "(I)V"⟩ ∈ GW := List.mem_filter.mpr ⟨List.mem_append_left _ (List.mem_of_getElem? (i := 19) rfl), rfl⟩
theorem s20 : Cond.selects "ContextMixModel" ⟨"ContextMixModel", "work", "(I)V"⟩ ⟨"ContextMixModel", "work", "(I)V"⟩ ∈ GW := List.mem_filter.mpr ⟨List.mem_append_left _ (List.mem_of_getElem? (i := 20) rfl), rfl⟩
theorem s21 : Cond.selects "ContextMixModel" ⟨"ContextMixModel", "inputOf", "(II)I"⟩ ⟨"ContextMixModel", "inputOf", "(II)I"⟩ ∈ GW := List.mem_filter.mpr ⟨List.mem_append_left _ (List.mem_of_getElem? (i := 21) rfl), rfl⟩
theorem s22 : Cond.selects "ContextMixModel" ⟨"ContextMixModel", "slotOf", "(II)I"⟩ ⟨"ContextMixModel", "slotOf", "(II)I"⟩ ∈ GW := List.mem_filter.mpr ⟨List.mem_append_left _ (List.mem_of_getElem? (i := 22) rfl), rfl⟩
theorem s23 : Cond.selects "ContextMixModel" ⟨"ContextMixModel", "bitsDone", "(I)I"⟩ ⟨"ContextMixModel", "bitsDone", "(I)I"⟩ ∈ GW := List.mem_filter.mpr ⟨List.mem_append_left _ (List.mem_of_getElem? (i := 23) rfl), rfl⟩
theorem s24 : Cond.selects "ContextMixModel" ⟨"ContextMixModel", "told", "(III)I"⟩ ⟨"ContextMixModel", "told", "(III)I"⟩ ∈ GW := List.mem_filter.mpr ⟨List.mem_append_left _ (List.mem_of_getElem? (i := 24) rfl), rfl⟩
theorem s25 : Cond.selects "ContextMixModel" ⟨"ContextMixModel", "learn", "(II)V"⟩ ⟨"ContextMixModel", "learn", "(II)V"⟩ ∈ GW := List.mem_filter.mpr ⟨List.mem_append_left _ (List.mem_of_getElem? (i := 25) rfl), rfl⟩
theorem s26 : Cond.selects "ContextMixModel" ⟨"ContextMixModel", "loadX", "()V"⟩ ⟨"ContextMixModel", "loadX", "()V"⟩ ∈ GW := List.mem_filter.mpr ⟨List.mem_append_left _ (List.mem_of_getElem? (i := 26) rfl), rfl⟩
theorem s27 : Cond.selects "ContextMixModel" ⟨"ContextMixModel", "nextOut", "()I"⟩ ⟨"ContextMixModel", "nextOut", "()I"⟩ ∈ GW := List.mem_filter.mpr ⟨List.mem_append_left _ (List.mem_of_getElem? (i := 27) rfl), rfl⟩
theorem s28 : Cond.selects "ContextMixModel" ⟨"ContextMixModel", "firstLength", "()I"⟩ ⟨"ContextMixModel", "firstLength", "()I"⟩ ∈ GW := List.mem_filter.mpr ⟨List.mem_append_left _ (List.mem_of_getElem? (i := 28) rfl), rfl⟩
theorem inX0 : ∀ w ∈ u_ws RX0 TX0 2, w ∈ GW := by
  intro w hw
  obtain ⟨k, hk, rfl⟩ := List.mem_map.mp hw
  have hk := List.mem_range.mp hk
  match k, hk with
  | 0, _ => exact k248
  | 1, _ => exact k250
  | k + 2, h => exact absurd h (by omega)
theorem inX1 : ∀ w ∈ u_ws RX1 TX1 2, w ∈ GW := by
  intro w hw
  obtain ⟨k, hk, rfl⟩ := List.mem_map.mp hw
  have hk := List.mem_range.mp hk
  match k, hk with
  | 0, _ => exact k150
  | 1, _ => exact k152
  | k + 2, h => exact absurd h (by omega)
theorem inX2 : ∀ w ∈ u_ws RX2 TX2 4, w ∈ GW := by
  intro w hw
  obtain ⟨k, hk, rfl⟩ := List.mem_map.mp hw
  have hk := List.mem_range.mp hk
  match k, hk with
  | 0, _ => exact k102
  | 1, _ => exact k104
  | 2, _ => exact k106
  | 3, _ => exact k108
  | k + 4, h => exact absurd h (by omega)
theorem inX3 : ∀ w ∈ u_ws RX3 TX3 2, w ∈ GW := by
  intro w hw
  obtain ⟨k, hk, rfl⟩ := List.mem_map.mp hw
  have hk := List.mem_range.mp hk
  match k, hk with
  | 0, _ => exact k184
  | 1, _ => exact k186
  | k + 2, h => exact absurd h (by omega)
theorem inX4 : ∀ w ∈ u_ws RX4 TX4 3, w ∈ GW := by
  intro w hw
  obtain ⟨k, hk, rfl⟩ := List.mem_map.mp hw
  have hk := List.mem_range.mp hk
  match k, hk with
  | 0, _ => exact k127
  | 1, _ => exact k129
  | 2, _ => exact k131
  | k + 3, h => exact absurd h (by omega)
theorem inX5 : ∀ w ∈ u_ws RX5 TX5 1, w ∈ GW := by
  intro w hw
  obtain ⟨k, hk, rfl⟩ := List.mem_map.mp hw
  have hk := List.mem_range.mp hk
  match k, hk with
  | 0, _ => exact k51
  | k + 1, h => exact absurd h (by omega)
theorem inX6 : ∀ w ∈ u_ws RX6 TX6 2, w ∈ GW := by
  intro w hw
  obtain ⟨k, hk, rfl⟩ := List.mem_map.mp hw
  have hk := List.mem_range.mp hk
  match k, hk with
  | 0, _ => exact k234
  | 1, _ => exact k236
  | k + 2, h => exact absurd h (by omega)
theorem inX7 : ∀ w ∈ u_ws RX7 TX7 4, w ∈ GW := by
  intro w hw
  obtain ⟨k, hk, rfl⟩ := List.mem_map.mp hw
  have hk := List.mem_range.mp hk
  match k, hk with
  | 0, _ => exact k70
  | 1, _ => exact k72
  | 2, _ => exact k74
  | 3, _ => exact k76
  | k + 4, h => exact absurd h (by omega)
theorem inX8 : ∀ w ∈ u_ws RX8 TX8 10, w ∈ GW := by
  intro w hw
  obtain ⟨k, hk, rfl⟩ := List.mem_map.mp hw
  have hk := List.mem_range.mp hk
  match k, hk with
  | 0, _ => exact k204
  | 1, _ => exact k206
  | 2, _ => exact k208
  | 3, _ => exact k210
  | 4, _ => exact k212
  | 5, _ => exact k214
  | 6, _ => exact k216
  | 7, _ => exact k218
  | 8, _ => exact k220
  | 9, _ => exact k222
  | k + 10, h => exact absurd h (by omega)
theorem inX9 : ∀ w ∈ u_ws RX9 TX9 2, w ∈ GW := by
  intro w hw
  obtain ⟨k, hk, rfl⟩ := List.mem_map.mp hw
  have hk := List.mem_range.mp hk
  match k, hk with
  | 0, _ => exact k171
  | 1, _ => exact k173
  | k + 2, h => exact absurd h (by omega)
theorem inX10 : ∀ w ∈ u_ws RX10 TX10 10, w ∈ GW := by
  intro w hw
  obtain ⟨k, hk, rfl⟩ := List.mem_map.mp hw
  have hk := List.mem_range.mp hk
  match k, hk with
  | 0, _ => exact k263
  | 1, _ => exact k265
  | 2, _ => exact k267
  | 3, _ => exact k269
  | 4, _ => exact k271
  | 5, _ => exact k273
  | 6, _ => exact k275
  | 7, _ => exact k277
  | 8, _ => exact k279
  | 9, _ => exact k281
  | k + 10, h => exact absurd h (by omega)
theorem inX11 : ∀ w ∈ u_ws RX11 TX11 32, w ∈ GW := by
  intro w hw
  obtain ⟨k, hk, rfl⟩ := List.mem_map.mp hw
  have hk := List.mem_range.mp hk
  match k, hk with
  | 0, _ => exact k809
  | 1, _ => exact k811
  | 2, _ => exact k813
  | 3, _ => exact k815
  | 4, _ => exact k817
  | 5, _ => exact k819
  | 6, _ => exact k821
  | 7, _ => exact k823
  | 8, _ => exact k825
  | 9, _ => exact k827
  | 10, _ => exact k829
  | 11, _ => exact k831
  | 12, _ => exact k833
  | 13, _ => exact k835
  | 14, _ => exact k837
  | 15, _ => exact k839
  | 16, _ => exact k841
  | 17, _ => exact k843
  | 18, _ => exact k845
  | 19, _ => exact k847
  | 20, _ => exact k849
  | 21, _ => exact k851
  | 22, _ => exact k853
  | 23, _ => exact k855
  | 24, _ => exact k857
  | 25, _ => exact k859
  | 26, _ => exact k861
  | 27, _ => exact k863
  | 28, _ => exact k865
  | 29, _ => exact k867
  | 30, _ => exact k869
  | 31, _ => exact k871
  | k + 32, h => exact absurd h (by omega)
end
section
theorem dX0_init_0 : decode cX0_init 0 = .ok (.aload_n 0, 1) := by decide +kernel
theorem dX0_init_1 : decode cX0_init 1 = .ok (.invokespecial 1, 3) := by decide +kernel
theorem dX0_init_4 : decode cX0_init 4 = .ok (.aload_n 0, 1) := by decide +kernel
theorem dX0_init_5 : decode cX0_init 5 = .ok (.ldc2_w 9, 3) := by decide +kernel
theorem dX0_init_8 : decode cX0_init 8 = .ok (.putfield 11, 3) := by decide +kernel
theorem dX0_init_11 : decode cX0_init 11 = .ok (.return_, 1) := by decide +kernel
theorem dX0_reset_0 : decode cX0_reset 0 = .ok (.aload_n 0, 1) := by decide +kernel
theorem dX0_reset_1 : decode cX0_reset 1 = .ok (.lconst 0, 1) := by decide +kernel
theorem dX0_reset_2 : decode cX0_reset 2 = .ok (.putfield 15, 3) := by decide +kernel
theorem dX0_reset_5 : decode cX0_reset 5 = .ok (.aload_n 0, 1) := by decide +kernel
theorem dX0_reset_6 : decode cX0_reset 6 = .ok (.ldc2_w 9, 3) := by decide +kernel
theorem dX0_reset_9 : decode cX0_reset 9 = .ok (.putfield 11, 3) := by decide +kernel
theorem dX0_reset_12 : decode cX0_reset 12 = .ok (.return_, 1) := by decide +kernel
theorem dX0_middle_0 : decode cX0_middle 0 = .ok (.aload_n 0, 1) := by decide +kernel
theorem dX0_middle_1 : decode cX0_middle 1 = .ok (.getfield 15, 3) := by decide +kernel
theorem dX0_middle_4 : decode cX0_middle 4 = .ok (.aload_n 0, 1) := by decide +kernel
theorem dX0_middle_5 : decode cX0_middle 5 = .ok (.getfield 11, 3) := by decide +kernel
theorem dX0_middle_8 : decode cX0_middle 8 = .ok (.aload_n 0, 1) := by decide +kernel
theorem dX0_middle_9 : decode cX0_middle 9 = .ok (.getfield 15, 3) := by decide +kernel
theorem dX0_middle_12 : decode cX0_middle 12 = .ok (.lsub, 1) := by decide +kernel
theorem dX0_middle_13 : decode cX0_middle 13 = .ok (.bipush 12, 2) := by decide +kernel
theorem dX0_middle_15 : decode cX0_middle 15 = .ok (.lshr, 1) := by decide +kernel
theorem dX0_middle_16 : decode cX0_middle 16 = .ok (.iload_n 1, 1) := by decide +kernel
theorem dX0_middle_17 : decode cX0_middle 17 = .ok (.i2l, 1) := by decide +kernel
theorem dX0_middle_18 : decode cX0_middle 18 = .ok (.lmul, 1) := by decide +kernel
theorem dX0_middle_19 : decode cX0_middle 19 = .ok (.ladd, 1) := by decide +kernel
theorem dX0_middle_20 : decode cX0_middle 20 = .ok (.lreturn, 1) := by decide +kernel
theorem dX0_narrow_0 : decode cX0_narrow 0 = .ok (.iload_n 1, 1) := by decide +kernel
theorem dX0_narrow_1 : decode cX0_narrow 1 = .ok (.ifCond .eq 11, 3) := by decide +kernel
theorem dX0_narrow_4 : decode cX0_narrow 4 = .ok (.aload_n 0, 1) := by decide +kernel
theorem dX0_narrow_5 : decode cX0_narrow 5 = .ok (.lload_n 2, 1) := by decide +kernel
theorem dX0_narrow_6 : decode cX0_narrow 6 = .ok (.putfield 11, 3) := by decide +kernel
theorem dX0_narrow_9 : decode cX0_narrow 9 = .ok (.goto 10, 3) := by decide +kernel
theorem dX0_narrow_12 : decode cX0_narrow 12 = .ok (.aload_n 0, 1) := by decide +kernel
theorem dX0_narrow_13 : decode cX0_narrow 13 = .ok (.lload_n 2, 1) := by decide +kernel
theorem dX0_narrow_14 : decode cX0_narrow 14 = .ok (.lconst 1, 1) := by decide +kernel
theorem dX0_narrow_15 : decode cX0_narrow 15 = .ok (.ladd, 1) := by decide +kernel
theorem dX0_narrow_16 : decode cX0_narrow 16 = .ok (.putfield 15, 3) := by decide +kernel
theorem dX0_narrow_19 : decode cX0_narrow 19 = .ok (.return_, 1) := by decide +kernel
theorem dX0_settled_0 : decode cX0_settled 0 = .ok (.aload_n 0, 1) := by decide +kernel
theorem dX0_settled_1 : decode cX0_settled 1 = .ok (.getfield 15, 3) := by decide +kernel
theorem dX0_settled_4 : decode cX0_settled 4 = .ok (.bipush 24, 2) := by decide +kernel
theorem dX0_settled_6 : decode cX0_settled 6 = .ok (.lshr, 1) := by decide +kernel
theorem dX0_settled_7 : decode cX0_settled 7 = .ok (.aload_n 0, 1) := by decide +kernel
theorem dX0_settled_8 : decode cX0_settled 8 = .ok (.getfield 11, 3) := by decide +kernel
theorem dX0_settled_11 : decode cX0_settled 11 = .ok (.bipush 24, 2) := by decide +kernel
theorem dX0_settled_13 : decode cX0_settled 13 = .ok (.lshr, 1) := by decide +kernel
theorem dX0_settled_14 : decode cX0_settled 14 = .ok (.lcmp, 1) := by decide +kernel
theorem dX0_settled_15 : decode cX0_settled 15 = .ok (.ifCond .ne 7, 3) := by decide +kernel
theorem dX0_settled_18 : decode cX0_settled 18 = .ok (.iconst 1, 1) := by decide +kernel
theorem dX0_settled_19 : decode cX0_settled 19 = .ok (.goto 4, 3) := by decide +kernel
theorem dX0_settled_22 : decode cX0_settled 22 = .ok (.iconst 0, 1) := by decide +kernel
theorem dX0_settled_23 : decode cX0_settled 23 = .ok (.ireturn, 1) := by decide +kernel
theorem dX0_highestOfLow_0 : decode cX0_highestOfLow 0 = .ok (.aload_n 0, 1) := by decide +kernel
theorem dX0_highestOfLow_1 : decode cX0_highestOfLow 1 = .ok (.getfield 15, 3) := by decide +kernel
theorem dX0_highestOfLow_4 : decode cX0_highestOfLow 4 = .ok (.bipush 24, 2) := by decide +kernel
theorem dX0_highestOfLow_6 : decode cX0_highestOfLow 6 = .ok (.lshr, 1) := by decide +kernel
theorem dX0_highestOfLow_7 : decode cX0_highestOfLow 7 = .ok (.l2i, 1) := by decide +kernel
theorem dX0_highestOfLow_8 : decode cX0_highestOfLow 8 = .ok (.sipush 255, 3) := by decide +kernel
theorem dX0_highestOfLow_11 : decode cX0_highestOfLow 11 = .ok (.iand, 1) := by decide +kernel
theorem dX0_highestOfLow_12 : decode cX0_highestOfLow 12 = .ok (.ireturn, 1) := by decide +kernel
theorem dX0_shift_0 : decode cX0_shift 0 = .ok (.aload_n 0, 1) := by decide +kernel
theorem dX0_shift_1 : decode cX0_shift 1 = .ok (.aload_n 0, 1) := by decide +kernel
theorem dX0_shift_2 : decode cX0_shift 2 = .ok (.getfield 15, 3) := by decide +kernel
theorem dX0_shift_5 : decode cX0_shift 5 = .ok (.bipush 8, 2) := by decide +kernel
theorem dX0_shift_7 : decode cX0_shift 7 = .ok (.lshl, 1) := by decide +kernel
theorem dX0_shift_8 : decode cX0_shift 8 = .ok (.ldc2_w 9, 3) := by decide +kernel
theorem dX0_shift_11 : decode cX0_shift 11 = .ok (.land, 1) := by decide +kernel
theorem dX0_shift_12 : decode cX0_shift 12 = .ok (.putfield 15, 3) := by decide +kernel
theorem dX0_shift_15 : decode cX0_shift 15 = .ok (.aload_n 0, 1) := by decide +kernel
theorem dX0_shift_16 : decode cX0_shift 16 = .ok (.aload_n 0, 1) := by decide +kernel
theorem dX0_shift_17 : decode cX0_shift 17 = .ok (.getfield 11, 3) := by decide +kernel
theorem dX0_shift_20 : decode cX0_shift 20 = .ok (.bipush 8, 2) := by decide +kernel
theorem dX0_shift_22 : decode cX0_shift 22 = .ok (.lshl, 1) := by decide +kernel
theorem dX0_shift_23 : decode cX0_shift 23 = .ok (.ldc2_w 9, 3) := by decide +kernel
theorem dX0_shift_26 : decode cX0_shift 26 = .ok (.land, 1) := by decide +kernel
theorem dX0_shift_27 : decode cX0_shift 27 = .ok (.ldc2_w 18, 3) := by decide +kernel
theorem dX0_shift_30 : decode cX0_shift 30 = .ok (.lor, 1) := by decide +kernel
theorem dX0_shift_31 : decode cX0_shift 31 = .ok (.putfield 11, 3) := by decide +kernel
theorem dX0_shift_34 : decode cX0_shift 34 = .ok (.return_, 1) := by decide +kernel
theorem dX1_init_0 : decode cX1_init 0 = .ok (.aload_n 0, 1) := by decide +kernel
theorem dX1_init_1 : decode cX1_init 1 = .ok (.invokespecial 1, 3) := by decide +kernel
theorem dX1_init_4 : decode cX1_init 4 = .ok (.aload_n 0, 1) := by decide +kernel
theorem dX1_init_5 : decode cX1_init 5 = .ok (.sipush 8448, 3) := by decide +kernel
theorem dX1_init_8 : decode cX1_init 8 = .ok (.newarray .int, 2) := by decide +kernel
theorem dX1_init_10 : decode cX1_init 10 = .ok (.putfield 9, 3) := by decide +kernel
theorem dX1_init_13 : decode cX1_init 13 = .ok (.aload_n 0, 1) := by decide +kernel
theorem dX1_init_14 : decode cX1_init 14 = .ok (.getfield 9, 3) := by decide +kernel
theorem dX1_init_17 : decode cX1_init 17 = .ok (.invokestatic 13, 3) := by decide +kernel
theorem dX1_init_20 : decode cX1_init 20 = .ok (.return_, 1) := by decide +kernel
theorem dX1_reset_0 : decode cX1_reset 0 = .ok (.aload_n 0, 1) := by decide +kernel
theorem dX1_reset_1 : decode cX1_reset 1 = .ok (.getfield 9, 3) := by decide +kernel
theorem dX1_reset_4 : decode cX1_reset 4 = .ok (.invokestatic 13, 3) := by decide +kernel
theorem dX1_reset_7 : decode cX1_reset 7 = .ok (.return_, 1) := by decide +kernel
theorem dX1_fill_0 : decode cX1_fill 0 = .ok (.iconst 0, 1) := by decide +kernel
theorem dX1_fill_1 : decode cX1_fill 1 = .ok (.istore_n 1, 1) := by decide +kernel
theorem dX1_fill_2 : decode cX1_fill 2 = .ok (.iload_n 1, 1) := by decide +kernel
theorem dX1_fill_3 : decode cX1_fill 3 = .ok (.bipush 33, 2) := by decide +kernel
theorem dX1_fill_5 : decode cX1_fill 5 = .ok (.if_icmp .ge 32, 3) := by decide +kernel
theorem dX1_fill_8 : decode cX1_fill 8 = .ok (.iload_n 1, 1) := by decide +kernel
theorem dX1_fill_9 : decode cX1_fill 9 = .ok (.aload_n 0, 1) := by decide +kernel
theorem dX1_fill_10 : decode cX1_fill 10 = .ok (.arraylength, 1) := by decide +kernel
theorem dX1_fill_11 : decode cX1_fill 11 = .ok (.if_icmp .ge 26, 3) := by decide +kernel
theorem dX1_fill_14 : decode cX1_fill 14 = .ok (.aload_n 0, 1) := by decide +kernel
theorem dX1_fill_15 : decode cX1_fill 15 = .ok (.iload_n 1, 1) := by decide +kernel
theorem dX1_fill_16 : decode cX1_fill 16 = .ok (.iload_n 1, 1) := by decide +kernel
theorem dX1_fill_17 : decode cX1_fill 17 = .ok (.bipush 16, 2) := by decide +kernel
theorem dX1_fill_19 : decode cX1_fill 19 = .ok (.isub, 1) := by decide +kernel
theorem dX1_fill_20 : decode cX1_fill 20 = .ok (.sipush 128, 3) := by decide +kernel
theorem dX1_fill_23 : decode cX1_fill 23 = .ok (.imul, 1) := by decide +kernel
theorem dX1_fill_24 : decode cX1_fill 24 = .ok (.invokestatic 17, 3) := by decide +kernel
theorem dX1_fill_27 : decode cX1_fill 27 = .ok (.bipush 16, 2) := by decide +kernel
theorem dX1_fill_29 : decode cX1_fill 29 = .ok (.imul, 1) := by decide +kernel
theorem dX1_fill_30 : decode cX1_fill 30 = .ok (.iastore, 1) := by decide +kernel
theorem dX1_fill_31 : decode cX1_fill 31 = .ok (.iinc 1 1, 3) := by decide +kernel
theorem dX1_fill_34 : decode cX1_fill 34 = .ok (.goto (-32), 3) := by decide +kernel
theorem dX1_fill_37 : decode cX1_fill 37 = .ok (.bipush 33, 2) := by decide +kernel
theorem dX1_fill_39 : decode cX1_fill 39 = .ok (.istore_n 1, 1) := by decide +kernel
theorem dX1_fill_40 : decode cX1_fill 40 = .ok (.iload_n 1, 1) := by decide +kernel
theorem dX1_fill_41 : decode cX1_fill 41 = .ok (.bipush 33, 2) := by decide +kernel
theorem dX1_fill_43 : decode cX1_fill 43 = .ok (.iadd, 1) := by decide +kernel
theorem dX1_fill_44 : decode cX1_fill 44 = .ok (.aload_n 0, 1) := by decide +kernel
theorem dX1_fill_45 : decode cX1_fill 45 = .ok (.arraylength, 1) := by decide +kernel
theorem dX1_fill_46 : decode cX1_fill 46 = .ok (.if_icmp .gt 18, 3) := by decide +kernel
theorem dX1_fill_49 : decode cX1_fill 49 = .ok (.aload_n 0, 1) := by decide +kernel
theorem dX1_fill_50 : decode cX1_fill 50 = .ok (.iconst 0, 1) := by decide +kernel
theorem dX1_fill_51 : decode cX1_fill 51 = .ok (.aload_n 0, 1) := by decide +kernel
theorem dX1_fill_52 : decode cX1_fill 52 = .ok (.iload_n 1, 1) := by decide +kernel
theorem dX1_fill_53 : decode cX1_fill 53 = .ok (.bipush 33, 2) := by decide +kernel
theorem dX1_fill_55 : decode cX1_fill 55 = .ok (.invokestatic 23, 3) := by decide +kernel
theorem dX1_fill_58 : decode cX1_fill 58 = .ok (.iinc 1 33, 3) := by decide +kernel
theorem dX1_fill_61 : decode cX1_fill 61 = .ok (.goto (-21), 3) := by decide +kernel
theorem dX1_fill_64 : decode cX1_fill 64 = .ok (.return_, 1) := by decide +kernel
theorem dX1_has_0 : decode cX1_has 0 = .ok (.iload_n 0, 1) := by decide +kernel
theorem dX1_has_1 : decode cX1_has 1 = .ok (.ifCond .lt 24, 3) := by decide +kernel
theorem dX1_has_4 : decode cX1_has 4 = .ok (.iload_n 0, 1) := by decide +kernel
theorem dX1_has_5 : decode cX1_has 5 = .ok (.sipush 256, 3) := by decide +kernel
theorem dX1_has_8 : decode cX1_has 8 = .ok (.if_icmp .ge 17, 3) := by decide +kernel
theorem dX1_has_11 : decode cX1_has 11 = .ok (.iload_n 1, 1) := by decide +kernel
theorem dX1_has_12 : decode cX1_has 12 = .ok (.ifCond .lt 13, 3) := by decide +kernel
theorem dX1_has_15 : decode cX1_has 15 = .ok (.iload_n 1, 1) := by decide +kernel
theorem dX1_has_16 : decode cX1_has 16 = .ok (.bipush 33, 2) := by decide +kernel
theorem dX1_has_18 : decode cX1_has 18 = .ok (.if_icmp .ge 7, 3) := by decide +kernel
theorem dX1_has_21 : decode cX1_has 21 = .ok (.iconst 1, 1) := by decide +kernel
theorem dX1_has_22 : decode cX1_has 22 = .ok (.goto 4, 3) := by decide +kernel
theorem dX1_has_25 : decode cX1_has 25 = .ok (.iconst 0, 1) := by decide +kernel
theorem dX1_has_26 : decode cX1_has 26 = .ok (.ireturn, 1) := by decide +kernel
theorem dX1_cellAt_0 : decode cX1_cellAt 0 = .ok (.iload_n 1, 1) := by decide +kernel
theorem dX1_cellAt_1 : decode cX1_cellAt 1 = .ok (.iload_n 2, 1) := by decide +kernel
theorem dX1_cellAt_2 : decode cX1_cellAt 2 = .ok (.invokestatic 29, 3) := by decide +kernel
theorem dX1_cellAt_5 : decode cX1_cellAt 5 = .ok (.ifCond .eq 17, 3) := by decide +kernel
theorem dX1_cellAt_8 : decode cX1_cellAt 8 = .ok (.aload_n 0, 1) := by decide +kernel
theorem dX1_cellAt_9 : decode cX1_cellAt 9 = .ok (.getfield 9, 3) := by decide +kernel
theorem dX1_cellAt_12 : decode cX1_cellAt 12 = .ok (.iload_n 1, 1) := by decide +kernel
theorem dX1_cellAt_13 : decode cX1_cellAt 13 = .ok (.bipush 33, 2) := by decide +kernel
theorem dX1_cellAt_15 : decode cX1_cellAt 15 = .ok (.imul, 1) := by decide +kernel
theorem dX1_cellAt_16 : decode cX1_cellAt 16 = .ok (.iload_n 2, 1) := by decide +kernel
theorem dX1_cellAt_17 : decode cX1_cellAt 17 = .ok (.iadd, 1) := by decide +kernel
theorem dX1_cellAt_18 : decode cX1_cellAt 18 = .ok (.iaload, 1) := by decide +kernel
theorem dX1_cellAt_19 : decode cX1_cellAt 19 = .ok (.goto 4, 3) := by decide +kernel
theorem dX1_cellAt_22 : decode cX1_cellAt 22 = .ok (.iconst 0, 1) := by decide +kernel
theorem dX1_cellAt_23 : decode cX1_cellAt 23 = .ok (.ireturn, 1) := by decide +kernel
theorem dX1_correct_0 : decode cX1_correct 0 = .ok (.iload_n 2, 1) := by decide +kernel
theorem dX1_correct_1 : decode cX1_correct 1 = .ok (.sipush 2048, 3) := by decide +kernel
theorem dX1_correct_4 : decode cX1_correct 4 = .ok (.iadd, 1) := by decide +kernel
theorem dX1_correct_5 : decode cX1_correct 5 = .ok (.istore_n 3, 1) := by decide +kernel
theorem dX1_correct_6 : decode cX1_correct 6 = .ok (.iload_n 3, 1) := by decide +kernel
theorem dX1_correct_7 : decode cX1_correct 7 = .ok (.bipush 7, 2) := by decide +kernel
theorem dX1_correct_9 : decode cX1_correct 9 = .ok (.ishr, 1) := by decide +kernel
theorem dX1_correct_10 : decode cX1_correct 10 = .ok (.istore 4, 2) := by decide +kernel
theorem dX1_correct_12 : decode cX1_correct 12 = .ok (.iload_n 3, 1) := by decide +kernel
theorem dX1_correct_13 : decode cX1_correct 13 = .ok (.bipush 127, 2) := by decide +kernel
theorem dX1_correct_15 : decode cX1_correct 15 = .ok (.iand, 1) := by decide +kernel
theorem dX1_correct_16 : decode cX1_correct 16 = .ok (.istore 5, 2) := by decide +kernel
theorem dX1_correct_18 : decode cX1_correct 18 = .ok (.aload_n 0, 1) := by decide +kernel
theorem dX1_correct_19 : decode cX1_correct 19 = .ok (.iload_n 1, 1) := by decide +kernel
theorem dX1_correct_20 : decode cX1_correct 20 = .ok (.bipush 33, 2) := by decide +kernel
theorem dX1_correct_22 : decode cX1_correct 22 = .ok (.imul, 1) := by decide +kernel
theorem dX1_correct_23 : decode cX1_correct 23 = .ok (.iload 5, 2) := by decide +kernel
theorem dX1_correct_25 : decode cX1_correct 25 = .ok (.bipush 64, 2) := by decide +kernel
theorem dX1_correct_27 : decode cX1_correct 27 = .ok (.if_icmp .lt 10, 3) := by decide +kernel
theorem dX1_correct_30 : decode cX1_correct 30 = .ok (.iload 4, 2) := by decide +kernel
theorem dX1_correct_32 : decode cX1_correct 32 = .ok (.iconst 1, 1) := by decide +kernel
theorem dX1_correct_33 : decode cX1_correct 33 = .ok (.iadd, 1) := by decide +kernel
theorem dX1_correct_34 : decode cX1_correct 34 = .ok (.goto 5, 3) := by decide +kernel
theorem dX1_correct_37 : decode cX1_correct 37 = .ok (.iload 4, 2) := by decide +kernel
theorem dX1_correct_39 : decode cX1_correct 39 = .ok (.iadd, 1) := by decide +kernel
theorem dX1_correct_40 : decode cX1_correct 40 = .ok (.iconst 0, 1) := by decide +kernel
theorem dX1_correct_41 : decode cX1_correct 41 = .ok (.aload_n 0, 1) := by decide +kernel
theorem dX1_correct_42 : decode cX1_correct 42 = .ok (.getfield 9, 3) := by decide +kernel
theorem dX1_correct_45 : decode cX1_correct 45 = .ok (.arraylength, 1) := by decide +kernel
theorem dX1_correct_46 : decode cX1_correct 46 = .ok (.iconst 1, 1) := by decide +kernel
theorem dX1_correct_47 : decode cX1_correct 47 = .ok (.isub, 1) := by decide +kernel
theorem dX1_correct_48 : decode cX1_correct 48 = .ok (.invokestatic 33, 3) := by decide +kernel
theorem dX1_correct_51 : decode cX1_correct 51 = .ok (.putfield 37, 3) := by decide +kernel
theorem dX1_correct_54 : decode cX1_correct 54 = .ok (.aload_n 0, 1) := by decide +kernel
theorem dX1_correct_55 : decode cX1_correct 55 = .ok (.iload_n 1, 1) := by decide +kernel
theorem dX1_correct_56 : decode cX1_correct 56 = .ok (.iload 4, 2) := by decide +kernel
theorem dX1_correct_58 : decode cX1_correct 58 = .ok (.invokevirtual 41, 3) := by decide +kernel
theorem dX1_correct_61 : decode cX1_correct 61 = .ok (.sipush 128, 3) := by decide +kernel
theorem dX1_correct_64 : decode cX1_correct 64 = .ok (.iload 5, 2) := by decide +kernel
theorem dX1_correct_66 : decode cX1_correct 66 = .ok (.isub, 1) := by decide +kernel
theorem dX1_correct_67 : decode cX1_correct 67 = .ok (.imul, 1) := by decide +kernel
theorem dX1_correct_68 : decode cX1_correct 68 = .ok (.aload_n 0, 1) := by decide +kernel
theorem dX1_correct_69 : decode cX1_correct 69 = .ok (.iload_n 1, 1) := by decide +kernel
theorem dX1_correct_70 : decode cX1_correct 70 = .ok (.iload 4, 2) := by decide +kernel
theorem dX1_correct_72 : decode cX1_correct 72 = .ok (.iconst 1, 1) := by decide +kernel
theorem dX1_correct_73 : decode cX1_correct 73 = .ok (.iadd, 1) := by decide +kernel
theorem dX1_correct_74 : decode cX1_correct 74 = .ok (.invokevirtual 41, 3) := by decide +kernel
theorem dX1_correct_77 : decode cX1_correct 77 = .ok (.iload 5, 2) := by decide +kernel
theorem dX1_correct_79 : decode cX1_correct 79 = .ok (.imul, 1) := by decide +kernel
theorem dX1_correct_80 : decode cX1_correct 80 = .ok (.iadd, 1) := by decide +kernel
theorem dX1_correct_81 : decode cX1_correct 81 = .ok (.bipush 11, 2) := by decide +kernel
theorem dX1_correct_83 : decode cX1_correct 83 = .ok (.ishr, 1) := by decide +kernel
theorem dX1_correct_84 : decode cX1_correct 84 = .ok (.ireturn, 1) := by decide +kernel
theorem dX1_learn_0 : decode cX1_learn 0 = .ok (.aload_n 0, 1) := by decide +kernel
theorem dX1_learn_1 : decode cX1_learn 1 = .ok (.getfield 9, 3) := by decide +kernel
theorem dX1_learn_4 : decode cX1_learn 4 = .ok (.aload_n 0, 1) := by decide +kernel
theorem dX1_learn_5 : decode cX1_learn 5 = .ok (.getfield 37, 3) := by decide +kernel
theorem dX1_learn_8 : decode cX1_learn 8 = .ok (.dup2, 1) := by decide +kernel
theorem dX1_learn_9 : decode cX1_learn 9 = .ok (.iaload, 1) := by decide +kernel
theorem dX1_learn_10 : decode cX1_learn 10 = .ok (.iload_n 1, 1) := by decide +kernel
theorem dX1_learn_11 : decode cX1_learn 11 = .ok (.ifCond .eq 8, 3) := by decide +kernel
theorem dX1_learn_14 : decode cX1_learn 14 = .ok (.ldc 45, 2) := by decide +kernel
theorem dX1_learn_16 : decode cX1_learn 16 = .ok (.goto 4, 3) := by decide +kernel
theorem dX1_learn_19 : decode cX1_learn 19 = .ok (.iconst 0, 1) := by decide +kernel
theorem dX1_learn_20 : decode cX1_learn 20 = .ok (.aload_n 0, 1) := by decide +kernel
theorem dX1_learn_21 : decode cX1_learn 21 = .ok (.getfield 9, 3) := by decide +kernel
theorem dX1_learn_24 : decode cX1_learn 24 = .ok (.aload_n 0, 1) := by decide +kernel
theorem dX1_learn_25 : decode cX1_learn 25 = .ok (.getfield 37, 3) := by decide +kernel
theorem dX1_learn_28 : decode cX1_learn 28 = .ok (.iaload, 1) := by decide +kernel
theorem dX1_learn_29 : decode cX1_learn 29 = .ok (.isub, 1) := by decide +kernel
theorem dX1_learn_30 : decode cX1_learn 30 = .ok (.bipush 7, 2) := by decide +kernel
theorem dX1_learn_32 : decode cX1_learn 32 = .ok (.ishr, 1) := by decide +kernel
theorem dX1_learn_33 : decode cX1_learn 33 = .ok (.iadd, 1) := by decide +kernel
theorem dX1_learn_34 : decode cX1_learn 34 = .ok (.iastore, 1) := by decide +kernel
theorem dX1_learn_35 : decode cX1_learn 35 = .ok (.return_, 1) := by decide +kernel
theorem dX2_init_0 : decode cX2_init 0 = .ok (.aload_n 0, 1) := by decide +kernel
theorem dX2_init_1 : decode cX2_init 1 = .ok (.invokespecial 3, 3) := by decide +kernel
theorem dX2_init_4 : decode cX2_init 4 = .ok (.aload_n 0, 1) := by decide +kernel
theorem dX2_init_5 : decode cX2_init 5 = .ok (.sipush 2000, 3) := by decide +kernel
theorem dX2_init_8 : decode cX2_init 8 = .ok (.newarray .int, 2) := by decide +kernel
theorem dX2_init_10 : decode cX2_init 10 = .ok (.putfield 9, 3) := by decide +kernel
theorem dX2_init_13 : decode cX2_init 13 = .ok (.aload_n 0, 1) := by decide +kernel
theorem dX2_init_14 : decode cX2_init 14 = .ok (.iconst 1, 1) := by decide +kernel
theorem dX2_init_15 : decode cX2_init 15 = .ok (.putfield 15, 3) := by decide +kernel
theorem dX2_init_18 : decode cX2_init 18 = .ok (.return_, 1) := by decide +kernel
theorem dX2_reset_0 : decode cX2_reset 0 = .ok (.aload_n 0, 1) := by decide +kernel
theorem dX2_reset_1 : decode cX2_reset 1 = .ok (.iconst 0, 1) := by decide +kernel
theorem dX2_reset_2 : decode cX2_reset 2 = .ok (.putfield 19, 3) := by decide +kernel
theorem dX2_reset_5 : decode cX2_reset 5 = .ok (.aload_n 0, 1) := by decide +kernel
theorem dX2_reset_6 : decode cX2_reset 6 = .ok (.iconst 1, 1) := by decide +kernel
theorem dX2_reset_7 : decode cX2_reset 7 = .ok (.putfield 15, 3) := by decide +kernel
theorem dX2_reset_10 : decode cX2_reset 10 = .ok (.aload_n 0, 1) := by decide +kernel
theorem dX2_reset_11 : decode cX2_reset 11 = .ok (.iconst 0, 1) := by decide +kernel
theorem dX2_reset_12 : decode cX2_reset 12 = .ok (.putfield 22, 3) := by decide +kernel
theorem dX2_reset_15 : decode cX2_reset 15 = .ok (.return_, 1) := by decide +kernel
theorem dX2_begun_0 : decode cX2_begun 0 = .ok (.aload_n 0, 1) := by decide +kernel
theorem dX2_begun_1 : decode cX2_begun 1 = .ok (.getfield 19, 3) := by decide +kernel
theorem dX2_begun_4 : decode cX2_begun 4 = .ok (.ifCond .gt 10, 3) := by decide +kernel
theorem dX2_begun_7 : decode cX2_begun 7 = .ok (.aload_n 0, 1) := by decide +kernel
theorem dX2_begun_8 : decode cX2_begun 8 = .ok (.getfield 22, 3) := by decide +kernel
theorem dX2_begun_11 : decode cX2_begun 11 = .ok (.ifCond .le 7, 3) := by decide +kernel
theorem dX2_begun_14 : decode cX2_begun 14 = .ok (.iconst 1, 1) := by decide +kernel
theorem dX2_begun_15 : decode cX2_begun 15 = .ok (.goto 4, 3) := by decide +kernel
theorem dX2_begun_18 : decode cX2_begun 18 = .ok (.iconst 0, 1) := by decide +kernel
theorem dX2_begun_19 : decode cX2_begun 19 = .ok (.ireturn, 1) := by decide +kernel
theorem dX2_byteAt_0 : decode cX2_byteAt 0 = .ok (.iload_n 1, 1) := by decide +kernel
theorem dX2_byteAt_1 : decode cX2_byteAt 1 = .ok (.ifCond .lt 20, 3) := by decide +kernel
theorem dX2_byteAt_4 : decode cX2_byteAt 4 = .ok (.iload_n 1, 1) := by decide +kernel
theorem dX2_byteAt_5 : decode cX2_byteAt 5 = .ok (.aload_n 0, 1) := by decide +kernel
theorem dX2_byteAt_6 : decode cX2_byteAt 6 = .ok (.getfield 19, 3) := by decide +kernel
theorem dX2_byteAt_9 : decode cX2_byteAt 9 = .ok (.if_icmp .ge 12, 3) := by decide +kernel
theorem dX2_byteAt_12 : decode cX2_byteAt 12 = .ok (.aload_n 0, 1) := by decide +kernel
theorem dX2_byteAt_13 : decode cX2_byteAt 13 = .ok (.getfield 9, 3) := by decide +kernel
theorem dX2_byteAt_16 : decode cX2_byteAt 16 = .ok (.iload_n 1, 1) := by decide +kernel
theorem dX2_byteAt_17 : decode cX2_byteAt 17 = .ok (.iaload, 1) := by decide +kernel
theorem dX2_byteAt_18 : decode cX2_byteAt 18 = .ok (.goto 4, 3) := by decide +kernel
theorem dX2_byteAt_21 : decode cX2_byteAt 21 = .ok (.iconst 0, 1) := by decide +kernel
theorem dX2_byteAt_22 : decode cX2_byteAt 22 = .ok (.ireturn, 1) := by decide +kernel
theorem dX2_back_0 : decode cX2_back 0 = .ok (.aload_n 0, 1) := by decide +kernel
theorem dX2_back_1 : decode cX2_back 1 = .ok (.getfield 19, 3) := by decide +kernel
theorem dX2_back_4 : decode cX2_back 4 = .ok (.iload_n 1, 1) := by decide +kernel
theorem dX2_back_5 : decode cX2_back 5 = .ok (.isub, 1) := by decide +kernel
theorem dX2_back_6 : decode cX2_back 6 = .ok (.istore_n 2, 1) := by decide +kernel
theorem dX2_back_7 : decode cX2_back 7 = .ok (.iload_n 2, 1) := by decide +kernel
theorem dX2_back_8 : decode cX2_back 8 = .ok (.ifCond .lt 20, 3) := by decide +kernel
theorem dX2_back_11 : decode cX2_back 11 = .ok (.iload_n 2, 1) := by decide +kernel
theorem dX2_back_12 : decode cX2_back 12 = .ok (.aload_n 0, 1) := by decide +kernel
theorem dX2_back_13 : decode cX2_back 13 = .ok (.getfield 19, 3) := by decide +kernel
theorem dX2_back_16 : decode cX2_back 16 = .ok (.if_icmp .ge 12, 3) := by decide +kernel
theorem dX2_back_19 : decode cX2_back 19 = .ok (.aload_n 0, 1) := by decide +kernel
theorem dX2_back_20 : decode cX2_back 20 = .ok (.getfield 9, 3) := by decide +kernel
theorem dX2_back_23 : decode cX2_back 23 = .ok (.iload_n 2, 1) := by decide +kernel
theorem dX2_back_24 : decode cX2_back 24 = .ok (.iaload, 1) := by decide +kernel
theorem dX2_back_25 : decode cX2_back 25 = .ok (.goto 4, 3) := by decide +kernel
theorem dX2_back_28 : decode cX2_back 28 = .ok (.iconst 0, 1) := by decide +kernel
theorem dX2_back_29 : decode cX2_back 29 = .ok (.ireturn, 1) := by decide +kernel
theorem dX2_add_0 : decode cX2_add 0 = .ok (.aload_n 0, 1) := by decide +kernel
theorem dX2_add_1 : decode cX2_add 1 = .ok (.aload_n 0, 1) := by decide +kernel
theorem dX2_add_2 : decode cX2_add 2 = .ok (.getfield 15, 3) := by decide +kernel
theorem dX2_add_5 : decode cX2_add 5 = .ok (.iconst 1, 1) := by decide +kernel
theorem dX2_add_6 : decode cX2_add 6 = .ok (.ishl, 1) := by decide +kernel
theorem dX2_add_7 : decode cX2_add 7 = .ok (.iload_n 1, 1) := by decide +kernel
theorem dX2_add_8 : decode cX2_add 8 = .ok (.ifCond .eq 7, 3) := by decide +kernel
theorem dX2_add_11 : decode cX2_add 11 = .ok (.iconst 1, 1) := by decide +kernel
theorem dX2_add_12 : decode cX2_add 12 = .ok (.goto 4, 3) := by decide +kernel
theorem dX2_add_15 : decode cX2_add 15 = .ok (.iconst 0, 1) := by decide +kernel
theorem dX2_add_16 : decode cX2_add 16 = .ok (.ior, 1) := by decide +kernel
theorem dX2_add_17 : decode cX2_add 17 = .ok (.putfield 15, 3) := by decide +kernel
theorem dX2_add_20 : decode cX2_add 20 = .ok (.aload_n 0, 1) := by decide +kernel
theorem dX2_add_21 : decode cX2_add 21 = .ok (.dup, 1) := by decide +kernel
theorem dX2_add_22 : decode cX2_add 22 = .ok (.getfield 22, 3) := by decide +kernel
theorem dX2_add_25 : decode cX2_add 25 = .ok (.iconst 1, 1) := by decide +kernel
theorem dX2_add_26 : decode cX2_add 26 = .ok (.iadd, 1) := by decide +kernel
theorem dX2_add_27 : decode cX2_add 27 = .ok (.putfield 22, 3) := by decide +kernel
theorem dX2_add_30 : decode cX2_add 30 = .ok (.aload_n 0, 1) := by decide +kernel
theorem dX2_add_31 : decode cX2_add 31 = .ok (.getfield 22, 3) := by decide +kernel
theorem dX2_add_34 : decode cX2_add 34 = .ok (.bipush 8, 2) := by decide +kernel
theorem dX2_add_36 : decode cX2_add 36 = .ok (.if_icmp .ge 5, 3) := by decide +kernel
theorem dX2_add_39 : decode cX2_add 39 = .ok (.iconst 0, 1) := by decide +kernel
theorem dX2_add_40 : decode cX2_add 40 = .ok (.ireturn, 1) := by decide +kernel
theorem dX2_add_41 : decode cX2_add 41 = .ok (.aload_n 0, 1) := by decide +kernel
theorem dX2_add_42 : decode cX2_add 42 = .ok (.getfield 19, 3) := by decide +kernel
theorem dX2_add_45 : decode cX2_add 45 = .ok (.aload_n 0, 1) := by decide +kernel
theorem dX2_add_46 : decode cX2_add 46 = .ok (.getfield 9, 3) := by decide +kernel
theorem dX2_add_49 : decode cX2_add 49 = .ok (.arraylength, 1) := by decide +kernel
theorem dX2_add_50 : decode cX2_add 50 = .ok (.if_icmp .ge 30, 3) := by decide +kernel
theorem dX2_add_53 : decode cX2_add 53 = .ok (.aload_n 0, 1) := by decide +kernel
theorem dX2_add_54 : decode cX2_add 54 = .ok (.getfield 9, 3) := by decide +kernel
theorem dX2_add_57 : decode cX2_add 57 = .ok (.aload_n 0, 1) := by decide +kernel
theorem dX2_add_58 : decode cX2_add 58 = .ok (.getfield 19, 3) := by decide +kernel
theorem dX2_add_61 : decode cX2_add 61 = .ok (.aload_n 0, 1) := by decide +kernel
theorem dX2_add_62 : decode cX2_add 62 = .ok (.getfield 15, 3) := by decide +kernel
theorem dX2_add_65 : decode cX2_add 65 = .ok (.sipush 255, 3) := by decide +kernel
theorem dX2_add_68 : decode cX2_add 68 = .ok (.iand, 1) := by decide +kernel
theorem dX2_add_69 : decode cX2_add 69 = .ok (.iastore, 1) := by decide +kernel
theorem dX2_add_70 : decode cX2_add 70 = .ok (.aload_n 0, 1) := by decide +kernel
theorem dX2_add_71 : decode cX2_add 71 = .ok (.dup, 1) := by decide +kernel
theorem dX2_add_72 : decode cX2_add 72 = .ok (.getfield 19, 3) := by decide +kernel
theorem dX2_add_75 : decode cX2_add 75 = .ok (.iconst 1, 1) := by decide +kernel
theorem dX2_add_76 : decode cX2_add 76 = .ok (.iadd, 1) := by decide +kernel
theorem dX2_add_77 : decode cX2_add 77 = .ok (.putfield 19, 3) := by decide +kernel
theorem dX2_add_80 : decode cX2_add 80 = .ok (.aload_n 0, 1) := by decide +kernel
theorem dX2_add_81 : decode cX2_add 81 = .ok (.iconst 1, 1) := by decide +kernel
theorem dX2_add_82 : decode cX2_add 82 = .ok (.putfield 15, 3) := by decide +kernel
theorem dX2_add_85 : decode cX2_add 85 = .ok (.aload_n 0, 1) := by decide +kernel
theorem dX2_add_86 : decode cX2_add 86 = .ok (.iconst 0, 1) := by decide +kernel
theorem dX2_add_87 : decode cX2_add 87 = .ok (.putfield 22, 3) := by decide +kernel
theorem dX2_add_90 : decode cX2_add 90 = .ok (.iconst 1, 1) := by decide +kernel
theorem dX2_add_91 : decode cX2_add 91 = .ok (.ireturn, 1) := by decide +kernel
theorem dX2_contextOf_0 : decode cX2_contextOf 0 = .ok (.iload_n 1, 1) := by decide +kernel
theorem dX2_contextOf_1 : decode cX2_contextOf 1 = .ok (.tableswitch 54 0 3 #[31, 37, 42, 48], 31) := by decide +kernel
theorem dX2_contextOf_32 : decode cX2_contextOf 32 = .ok (.aload_n 0, 1) := by decide +kernel
theorem dX2_contextOf_33 : decode cX2_contextOf 33 = .ok (.iload_n 2, 1) := by decide +kernel
theorem dX2_contextOf_34 : decode cX2_contextOf 34 = .ok (.invokevirtual 25, 3) := by decide +kernel
theorem dX2_contextOf_37 : decode cX2_contextOf 37 = .ok (.ireturn, 1) := by decide +kernel
theorem dX2_contextOf_38 : decode cX2_contextOf 38 = .ok (.aload_n 0, 1) := by decide +kernel
theorem dX2_contextOf_39 : decode cX2_contextOf 39 = .ok (.invokevirtual 29, 3) := by decide +kernel
theorem dX2_contextOf_42 : decode cX2_contextOf 42 = .ok (.ireturn, 1) := by decide +kernel
theorem dX2_contextOf_43 : decode cX2_contextOf 43 = .ok (.aload_n 0, 1) := by decide +kernel
theorem dX2_contextOf_44 : decode cX2_contextOf 44 = .ok (.iload_n 2, 1) := by decide +kernel
theorem dX2_contextOf_45 : decode cX2_contextOf 45 = .ok (.invokevirtual 33, 3) := by decide +kernel
theorem dX2_contextOf_48 : decode cX2_contextOf 48 = .ok (.ireturn, 1) := by decide +kernel
theorem dX2_contextOf_49 : decode cX2_contextOf 49 = .ok (.aload_n 0, 1) := by decide +kernel
theorem dX2_contextOf_50 : decode cX2_contextOf 50 = .ok (.iload_n 2, 1) := by decide +kernel
theorem dX2_contextOf_51 : decode cX2_contextOf 51 = .ok (.invokevirtual 36, 3) := by decide +kernel
theorem dX2_contextOf_54 : decode cX2_contextOf 54 = .ok (.ireturn, 1) := by decide +kernel
theorem dX2_contextOf_55 : decode cX2_contextOf 55 = .ok (.iconst 0, 1) := by decide +kernel
theorem dX2_contextOf_56 : decode cX2_contextOf 56 = .ok (.ireturn, 1) := by decide +kernel
theorem dX2_latestContext_0 : decode cX2_latestContext 0 = .ok (.iload_n 1, 1) := by decide +kernel
theorem dX2_latestContext_1 : decode cX2_latestContext 1 = .ok (.iconst 1, 1) := by decide +kernel
theorem dX2_latestContext_2 : decode cX2_latestContext 2 = .ok (.iadd, 1) := by decide +kernel
theorem dX2_latestContext_3 : decode cX2_latestContext 3 = .ok (.iconst 0, 1) := by decide +kernel
theorem dX2_latestContext_4 : decode cX2_latestContext 4 = .ok (.invokestatic 39, 3) := by decide +kernel
theorem dX2_latestContext_7 : decode cX2_latestContext 7 = .ok (.istore_n 2, 1) := by decide +kernel
theorem dX2_latestContext_8 : decode cX2_latestContext 8 = .ok (.iconst 1, 1) := by decide +kernel
theorem dX2_latestContext_9 : decode cX2_latestContext 9 = .ok (.istore_n 3, 1) := by decide +kernel
theorem dX2_latestContext_10 : decode cX2_latestContext 10 = .ok (.iload_n 3, 1) := by decide +kernel
theorem dX2_latestContext_11 : decode cX2_latestContext 11 = .ok (.iload_n 1, 1) := by decide +kernel
theorem dX2_latestContext_12 : decode cX2_latestContext 12 = .ok (.if_icmp .gt 19, 3) := by decide +kernel
theorem dX2_latestContext_15 : decode cX2_latestContext 15 = .ok (.iload_n 2, 1) := by decide +kernel
theorem dX2_latestContext_16 : decode cX2_latestContext 16 = .ok (.aload_n 0, 1) := by decide +kernel
theorem dX2_latestContext_17 : decode cX2_latestContext 17 = .ok (.iload_n 3, 1) := by decide +kernel
theorem dX2_latestContext_18 : decode cX2_latestContext 18 = .ok (.invokevirtual 45, 3) := by decide +kernel
theorem dX2_latestContext_21 : decode cX2_latestContext 21 = .ok (.invokestatic 39, 3) := by decide +kernel
theorem dX2_latestContext_24 : decode cX2_latestContext 24 = .ok (.istore_n 2, 1) := by decide +kernel
theorem dX2_latestContext_25 : decode cX2_latestContext 25 = .ok (.iinc 3 1, 3) := by decide +kernel
theorem dX2_latestContext_28 : decode cX2_latestContext 28 = .ok (.goto (-18), 3) := by decide +kernel
theorem dX2_latestContext_31 : decode cX2_latestContext 31 = .ok (.iload_n 2, 1) := by decide +kernel
theorem dX2_latestContext_32 : decode cX2_latestContext 32 = .ok (.ireturn, 1) := by decide +kernel
theorem dX2_wordContext_0 : decode cX2_wordContext 0 = .ok (.iconst 0, 1) := by decide +kernel
theorem dX2_wordContext_1 : decode cX2_wordContext 1 = .ok (.istore_n 1, 1) := by decide +kernel
theorem dX2_wordContext_2 : decode cX2_wordContext 2 = .ok (.iload_n 1, 1) := by decide +kernel
theorem dX2_wordContext_3 : decode cX2_wordContext 3 = .ok (.bipush 16, 2) := by decide +kernel
theorem dX2_wordContext_5 : decode cX2_wordContext 5 = .ok (.if_icmp .ge 22, 3) := by decide +kernel
theorem dX2_wordContext_8 : decode cX2_wordContext 8 = .ok (.aload_n 0, 1) := by decide +kernel
theorem dX2_wordContext_9 : decode cX2_wordContext 9 = .ok (.iload_n 1, 1) := by decide +kernel
theorem dX2_wordContext_10 : decode cX2_wordContext 10 = .ok (.iconst 1, 1) := by decide +kernel
theorem dX2_wordContext_11 : decode cX2_wordContext 11 = .ok (.iadd, 1) := by decide +kernel
theorem dX2_wordContext_12 : decode cX2_wordContext 12 = .ok (.invokevirtual 45, 3) := by decide +kernel
theorem dX2_wordContext_15 : decode cX2_wordContext 15 = .ok (.invokestatic 48, 3) := by decide +kernel
theorem dX2_wordContext_18 : decode cX2_wordContext 18 = .ok (.ifCond .eq 9, 3) := by decide +kernel
theorem dX2_wordContext_21 : decode cX2_wordContext 21 = .ok (.iinc 1 1, 3) := by decide +kernel
theorem dX2_wordContext_24 : decode cX2_wordContext 24 = .ok (.goto (-22), 3) := by decide +kernel
theorem dX2_wordContext_27 : decode cX2_wordContext 27 = .ok (.bipush 32, 2) := by decide +kernel
theorem dX2_wordContext_29 : decode cX2_wordContext 29 = .ok (.iconst 0, 1) := by decide +kernel
theorem dX2_wordContext_30 : decode cX2_wordContext 30 = .ok (.invokestatic 39, 3) := by decide +kernel
theorem dX2_wordContext_33 : decode cX2_wordContext 33 = .ok (.istore_n 2, 1) := by decide +kernel
theorem dX2_wordContext_34 : decode cX2_wordContext 34 = .ok (.iload_n 1, 1) := by decide +kernel
theorem dX2_wordContext_35 : decode cX2_wordContext 35 = .ok (.istore_n 3, 1) := by decide +kernel
theorem dX2_wordContext_36 : decode cX2_wordContext 36 = .ok (.iload_n 3, 1) := by decide +kernel
theorem dX2_wordContext_37 : decode cX2_wordContext 37 = .ok (.iconst 1, 1) := by decide +kernel
theorem dX2_wordContext_38 : decode cX2_wordContext 38 = .ok (.if_icmp .lt 19, 3) := by decide +kernel
theorem dX2_wordContext_41 : decode cX2_wordContext 41 = .ok (.iload_n 2, 1) := by decide +kernel
theorem dX2_wordContext_42 : decode cX2_wordContext 42 = .ok (.aload_n 0, 1) := by decide +kernel
theorem dX2_wordContext_43 : decode cX2_wordContext 43 = .ok (.iload_n 3, 1) := by decide +kernel
theorem dX2_wordContext_44 : decode cX2_wordContext 44 = .ok (.invokevirtual 45, 3) := by decide +kernel
theorem dX2_wordContext_47 : decode cX2_wordContext 47 = .ok (.invokestatic 39, 3) := by decide +kernel
theorem dX2_wordContext_50 : decode cX2_wordContext 50 = .ok (.istore_n 2, 1) := by decide +kernel
theorem dX2_wordContext_51 : decode cX2_wordContext 51 = .ok (.iinc 3 (-1), 3) := by decide +kernel
theorem dX2_wordContext_54 : decode cX2_wordContext 54 = .ok (.goto (-18), 3) := by decide +kernel
theorem dX2_wordContext_57 : decode cX2_wordContext 57 = .ok (.iload_n 2, 1) := by decide +kernel
theorem dX2_wordContext_58 : decode cX2_wordContext 58 = .ok (.ireturn, 1) := by decide +kernel
theorem dX2_columnContext_0 : decode cX2_columnContext 0 = .ok (.iload_n 1, 1) := by decide +kernel
theorem dX2_columnContext_1 : decode cX2_columnContext 1 = .ok (.ifCond .le 12, 3) := by decide +kernel
theorem dX2_columnContext_4 : decode cX2_columnContext 4 = .ok (.aload_n 0, 1) := by decide +kernel
theorem dX2_columnContext_5 : decode cX2_columnContext 5 = .ok (.getfield 19, 3) := by decide +kernel
theorem dX2_columnContext_8 : decode cX2_columnContext 8 = .ok (.iload_n 1, 1) := by decide +kernel
theorem dX2_columnContext_9 : decode cX2_columnContext 9 = .ok (.irem, 1) := by decide +kernel
theorem dX2_columnContext_10 : decode cX2_columnContext 10 = .ok (.goto 4, 3) := by decide +kernel
theorem dX2_columnContext_13 : decode cX2_columnContext 13 = .ok (.iconst 0, 1) := by decide +kernel
theorem dX2_columnContext_14 : decode cX2_columnContext 14 = .ok (.istore_n 2, 1) := by decide +kernel
theorem dX2_columnContext_15 : decode cX2_columnContext 15 = .ok (.bipush 64, 2) := by decide +kernel
theorem dX2_columnContext_17 : decode cX2_columnContext 17 = .ok (.iload_n 1, 1) := by decide +kernel
theorem dX2_columnContext_18 : decode cX2_columnContext 18 = .ok (.iadd, 1) := by decide +kernel
theorem dX2_columnContext_19 : decode cX2_columnContext 19 = .ok (.iconst 0, 1) := by decide +kernel
theorem dX2_columnContext_20 : decode cX2_columnContext 20 = .ok (.invokestatic 39, 3) := by decide +kernel
theorem dX2_columnContext_23 : decode cX2_columnContext 23 = .ok (.iload_n 2, 1) := by decide +kernel
theorem dX2_columnContext_24 : decode cX2_columnContext 24 = .ok (.invokestatic 39, 3) := by decide +kernel
theorem dX2_columnContext_27 : decode cX2_columnContext 27 = .ok (.istore_n 3, 1) := by decide +kernel
theorem dX2_columnContext_28 : decode cX2_columnContext 28 = .ok (.iload_n 3, 1) := by decide +kernel
theorem dX2_columnContext_29 : decode cX2_columnContext 29 = .ok (.aload_n 0, 1) := by decide +kernel
theorem dX2_columnContext_30 : decode cX2_columnContext 30 = .ok (.iload_n 1, 1) := by decide +kernel
theorem dX2_columnContext_31 : decode cX2_columnContext 31 = .ok (.invokevirtual 45, 3) := by decide +kernel
theorem dX2_columnContext_34 : decode cX2_columnContext 34 = .ok (.invokestatic 39, 3) := by decide +kernel
theorem dX2_columnContext_37 : decode cX2_columnContext 37 = .ok (.ireturn, 1) := by decide +kernel
theorem dX2_apartContext_0 : decode cX2_apartContext 0 = .ok (.sipush 128, 3) := by decide +kernel
theorem dX2_apartContext_3 : decode cX2_apartContext 3 = .ok (.iload_n 1, 1) := by decide +kernel
theorem dX2_apartContext_4 : decode cX2_apartContext 4 = .ok (.iadd, 1) := by decide +kernel
theorem dX2_apartContext_5 : decode cX2_apartContext 5 = .ok (.iconst 0, 1) := by decide +kernel
theorem dX2_apartContext_6 : decode cX2_apartContext 6 = .ok (.invokestatic 39, 3) := by decide +kernel
theorem dX2_apartContext_9 : decode cX2_apartContext 9 = .ok (.istore_n 2, 1) := by decide +kernel
theorem dX2_apartContext_10 : decode cX2_apartContext 10 = .ok (.iconst 0, 1) := by decide +kernel
theorem dX2_apartContext_11 : decode cX2_apartContext 11 = .ok (.istore_n 3, 1) := by decide +kernel
theorem dX2_apartContext_12 : decode cX2_apartContext 12 = .ok (.iload_n 3, 1) := by decide +kernel
theorem dX2_apartContext_13 : decode cX2_apartContext 13 = .ok (.iconst 4, 1) := by decide +kernel
theorem dX2_apartContext_14 : decode cX2_apartContext 14 = .ok (.if_icmp .ge 30, 3) := by decide +kernel
theorem dX2_apartContext_17 : decode cX2_apartContext 17 = .ok (.iload_n 1, 1) := by decide +kernel
theorem dX2_apartContext_18 : decode cX2_apartContext 18 = .ok (.iload_n 3, 1) := by decide +kernel
theorem dX2_apartContext_19 : decode cX2_apartContext 19 = .ok (.ishr, 1) := by decide +kernel
theorem dX2_apartContext_20 : decode cX2_apartContext 20 = .ok (.iconst 1, 1) := by decide +kernel
theorem dX2_apartContext_21 : decode cX2_apartContext 21 = .ok (.iand, 1) := by decide +kernel
theorem dX2_apartContext_22 : decode cX2_apartContext 22 = .ok (.iconst 1, 1) := by decide +kernel
theorem dX2_apartContext_23 : decode cX2_apartContext 23 = .ok (.if_icmp .ne 15, 3) := by decide +kernel
theorem dX2_apartContext_26 : decode cX2_apartContext 26 = .ok (.iload_n 2, 1) := by decide +kernel
theorem dX2_apartContext_27 : decode cX2_apartContext 27 = .ok (.aload_n 0, 1) := by decide +kernel
theorem dX2_apartContext_28 : decode cX2_apartContext 28 = .ok (.iload_n 3, 1) := by decide +kernel
theorem dX2_apartContext_29 : decode cX2_apartContext 29 = .ok (.iconst 1, 1) := by decide +kernel
theorem dX2_apartContext_30 : decode cX2_apartContext 30 = .ok (.iadd, 1) := by decide +kernel
theorem dX2_apartContext_31 : decode cX2_apartContext 31 = .ok (.invokevirtual 45, 3) := by decide +kernel
theorem dX2_apartContext_34 : decode cX2_apartContext 34 = .ok (.invokestatic 39, 3) := by decide +kernel
theorem dX2_apartContext_37 : decode cX2_apartContext 37 = .ok (.istore_n 2, 1) := by decide +kernel
theorem dX2_apartContext_38 : decode cX2_apartContext 38 = .ok (.iinc 3 1, 3) := by decide +kernel
theorem dX2_apartContext_41 : decode cX2_apartContext 41 = .ok (.goto (-29), 3) := by decide +kernel
theorem dX2_apartContext_44 : decode cX2_apartContext 44 = .ok (.iload_n 2, 1) := by decide +kernel
theorem dX2_apartContext_45 : decode cX2_apartContext 45 = .ok (.ireturn, 1) := by decide +kernel
theorem dX2_sameBefore_0 : decode cX2_sameBefore 0 = .ok (.iconst 1, 1) := by decide +kernel
theorem dX2_sameBefore_1 : decode cX2_sameBefore 1 = .ok (.istore_n 3, 1) := by decide +kernel
theorem dX2_sameBefore_2 : decode cX2_sameBefore 2 = .ok (.iload_n 3, 1) := by decide +kernel
theorem dX2_sameBefore_3 : decode cX2_sameBefore 3 = .ok (.iload_n 2, 1) := by decide +kernel
theorem dX2_sameBefore_4 : decode cX2_sameBefore 4 = .ok (.if_icmp .gt 26, 3) := by decide +kernel
theorem dX2_sameBefore_7 : decode cX2_sameBefore 7 = .ok (.aload_n 0, 1) := by decide +kernel
theorem dX2_sameBefore_8 : decode cX2_sameBefore 8 = .ok (.iload_n 1, 1) := by decide +kernel
theorem dX2_sameBefore_9 : decode cX2_sameBefore 9 = .ok (.iload_n 3, 1) := by decide +kernel
theorem dX2_sameBefore_10 : decode cX2_sameBefore 10 = .ok (.isub, 1) := by decide +kernel
theorem dX2_sameBefore_11 : decode cX2_sameBefore 11 = .ok (.invokevirtual 52, 3) := by decide +kernel
theorem dX2_sameBefore_14 : decode cX2_sameBefore 14 = .ok (.aload_n 0, 1) := by decide +kernel
theorem dX2_sameBefore_15 : decode cX2_sameBefore 15 = .ok (.iload_n 3, 1) := by decide +kernel
theorem dX2_sameBefore_16 : decode cX2_sameBefore 16 = .ok (.invokevirtual 45, 3) := by decide +kernel
theorem dX2_sameBefore_19 : decode cX2_sameBefore 19 = .ok (.if_icmp .eq 5, 3) := by decide +kernel
theorem dX2_sameBefore_22 : decode cX2_sameBefore 22 = .ok (.iconst 0, 1) := by decide +kernel
theorem dX2_sameBefore_23 : decode cX2_sameBefore 23 = .ok (.ireturn, 1) := by decide +kernel
theorem dX2_sameBefore_24 : decode cX2_sameBefore 24 = .ok (.iinc 3 1, 3) := by decide +kernel
theorem dX2_sameBefore_27 : decode cX2_sameBefore 27 = .ok (.goto (-25), 3) := by decide +kernel
theorem dX2_sameBefore_30 : decode cX2_sameBefore 30 = .ok (.iconst 1, 1) := by decide +kernel
theorem dX2_sameBefore_31 : decode cX2_sameBefore 31 = .ok (.ireturn, 1) := by decide +kernel
theorem dX2_sameAs_0 : decode cX2_sameAs 0 = .ok (.aload_n 0, 1) := by decide +kernel
theorem dX2_sameAs_1 : decode cX2_sameAs 1 = .ok (.getfield 19, 3) := by decide +kernel
theorem dX2_sameAs_4 : decode cX2_sameAs 4 = .ok (.aload_n 1, 1) := by decide +kernel
theorem dX2_sameAs_5 : decode cX2_sameAs 5 = .ok (.getfield 19, 3) := by decide +kernel
theorem dX2_sameAs_8 : decode cX2_sameAs 8 = .ok (.if_icmp .ne 14, 3) := by decide +kernel
theorem dX2_sameAs_11 : decode cX2_sameAs 11 = .ok (.aload_n 0, 1) := by decide +kernel
theorem dX2_sameAs_12 : decode cX2_sameAs 12 = .ok (.getfield 15, 3) := by decide +kernel
theorem dX2_sameAs_15 : decode cX2_sameAs 15 = .ok (.aload_n 1, 1) := by decide +kernel
theorem dX2_sameAs_16 : decode cX2_sameAs 16 = .ok (.getfield 15, 3) := by decide +kernel
theorem dX2_sameAs_19 : decode cX2_sameAs 19 = .ok (.if_icmp .eq 5, 3) := by decide +kernel
theorem dX2_sameAs_22 : decode cX2_sameAs 22 = .ok (.iconst 0, 1) := by decide +kernel
theorem dX2_sameAs_23 : decode cX2_sameAs 23 = .ok (.ireturn, 1) := by decide +kernel
theorem dX2_sameAs_24 : decode cX2_sameAs 24 = .ok (.iconst 0, 1) := by decide +kernel
theorem dX2_sameAs_25 : decode cX2_sameAs 25 = .ok (.istore_n 2, 1) := by decide +kernel
theorem dX2_sameAs_26 : decode cX2_sameAs 26 = .ok (.iload_n 2, 1) := by decide +kernel
theorem dX2_sameAs_27 : decode cX2_sameAs 27 = .ok (.aload_n 0, 1) := by decide +kernel
theorem dX2_sameAs_28 : decode cX2_sameAs 28 = .ok (.getfield 19, 3) := by decide +kernel
theorem dX2_sameAs_31 : decode cX2_sameAs 31 = .ok (.if_icmp .ge 24, 3) := by decide +kernel
theorem dX2_sameAs_34 : decode cX2_sameAs 34 = .ok (.aload_n 0, 1) := by decide +kernel
theorem dX2_sameAs_35 : decode cX2_sameAs 35 = .ok (.iload_n 2, 1) := by decide +kernel
theorem dX2_sameAs_36 : decode cX2_sameAs 36 = .ok (.invokevirtual 52, 3) := by decide +kernel
theorem dX2_sameAs_39 : decode cX2_sameAs 39 = .ok (.aload_n 1, 1) := by decide +kernel
theorem dX2_sameAs_40 : decode cX2_sameAs 40 = .ok (.iload_n 2, 1) := by decide +kernel
theorem dX2_sameAs_41 : decode cX2_sameAs 41 = .ok (.invokevirtual 52, 3) := by decide +kernel
theorem dX2_sameAs_44 : decode cX2_sameAs 44 = .ok (.if_icmp .eq 5, 3) := by decide +kernel
theorem dX2_sameAs_47 : decode cX2_sameAs 47 = .ok (.iconst 0, 1) := by decide +kernel
theorem dX2_sameAs_48 : decode cX2_sameAs 48 = .ok (.ireturn, 1) := by decide +kernel
theorem dX2_sameAs_49 : decode cX2_sameAs 49 = .ok (.iinc 2 1, 3) := by decide +kernel
theorem dX2_sameAs_52 : decode cX2_sameAs 52 = .ok (.goto (-26), 3) := by decide +kernel
theorem dX2_sameAs_55 : decode cX2_sameAs 55 = .ok (.iconst 1, 1) := by decide +kernel
theorem dX2_sameAs_56 : decode cX2_sameAs 56 = .ok (.ireturn, 1) := by decide +kernel
theorem dX2_isLetter_0 : decode cX2_isLetter 0 = .ok (.iload_n 0, 1) := by decide +kernel
theorem dX2_isLetter_1 : decode cX2_isLetter 1 = .ok (.bipush 65, 2) := by decide +kernel
theorem dX2_isLetter_3 : decode cX2_isLetter 3 = .ok (.if_icmp .lt 9, 3) := by decide +kernel
theorem dX2_isLetter_6 : decode cX2_isLetter 6 = .ok (.iload_n 0, 1) := by decide +kernel
theorem dX2_isLetter_7 : decode cX2_isLetter 7 = .ok (.bipush 90, 2) := by decide +kernel
theorem dX2_isLetter_9 : decode cX2_isLetter 9 = .ok (.if_icmp .le 15, 3) := by decide +kernel
theorem dX2_isLetter_12 : decode cX2_isLetter 12 = .ok (.iload_n 0, 1) := by decide +kernel
theorem dX2_isLetter_13 : decode cX2_isLetter 13 = .ok (.bipush 97, 2) := by decide +kernel
theorem dX2_isLetter_15 : decode cX2_isLetter 15 = .ok (.if_icmp .lt 13, 3) := by decide +kernel
theorem dX2_isLetter_18 : decode cX2_isLetter 18 = .ok (.iload_n 0, 1) := by decide +kernel
theorem dX2_isLetter_19 : decode cX2_isLetter 19 = .ok (.bipush 122, 2) := by decide +kernel
theorem dX2_isLetter_21 : decode cX2_isLetter 21 = .ok (.if_icmp .gt 7, 3) := by decide +kernel
theorem dX2_isLetter_24 : decode cX2_isLetter 24 = .ok (.iconst 1, 1) := by decide +kernel
theorem dX2_isLetter_25 : decode cX2_isLetter 25 = .ok (.goto 4, 3) := by decide +kernel
theorem dX2_isLetter_28 : decode cX2_isLetter 28 = .ok (.iconst 0, 1) := by decide +kernel
theorem dX2_isLetter_29 : decode cX2_isLetter 29 = .ok (.ireturn, 1) := by decide +kernel
theorem dX3_init_0 : decode cX3_init 0 = .ok (.aload_n 0, 1) := by decide +kernel
theorem dX3_init_1 : decode cX3_init 1 = .ok (.invokespecial 3, 3) := by decide +kernel
theorem dX3_init_4 : decode cX3_init 4 = .ok (.return_, 1) := by decide +kernel
theorem dX3_follow_0 : decode cX3_follow 0 = .ok (.aload_n 0, 1) := by decide +kernel
theorem dX3_follow_1 : decode cX3_follow 1 = .ok (.getfield 9, 3) := by decide +kernel
theorem dX3_follow_4 : decode cX3_follow 4 = .ok (.ifCond .le 47, 3) := by decide +kernel
theorem dX3_follow_7 : decode cX3_follow 7 = .ok (.aload_n 1, 1) := by decide +kernel
theorem dX3_follow_8 : decode cX3_follow 8 = .ok (.aload_n 0, 1) := by decide +kernel
theorem dX3_follow_9 : decode cX3_follow 9 = .ok (.getfield 15, 3) := by decide +kernel
theorem dX3_follow_12 : decode cX3_follow 12 = .ok (.invokevirtual 18, 3) := by decide +kernel
theorem dX3_follow_15 : decode cX3_follow 15 = .ok (.aload_n 1, 1) := by decide +kernel
theorem dX3_follow_16 : decode cX3_follow 16 = .ok (.iconst 1, 1) := by decide +kernel
theorem dX3_follow_17 : decode cX3_follow 17 = .ok (.invokevirtual 24, 3) := by decide +kernel
theorem dX3_follow_20 : decode cX3_follow 20 = .ok (.if_icmp .ne 31, 3) := by decide +kernel
theorem dX3_follow_23 : decode cX3_follow 23 = .ok (.aload_n 0, 1) := by decide +kernel
theorem dX3_follow_24 : decode cX3_follow 24 = .ok (.dup, 1) := by decide +kernel
theorem dX3_follow_25 : decode cX3_follow 25 = .ok (.getfield 15, 3) := by decide +kernel
theorem dX3_follow_28 : decode cX3_follow 28 = .ok (.iconst 1, 1) := by decide +kernel
theorem dX3_follow_29 : decode cX3_follow 29 = .ok (.iadd, 1) := by decide +kernel
theorem dX3_follow_30 : decode cX3_follow 30 = .ok (.putfield 15, 3) := by decide +kernel
theorem dX3_follow_33 : decode cX3_follow 33 = .ok (.aload_n 0, 1) := by decide +kernel
theorem dX3_follow_34 : decode cX3_follow 34 = .ok (.bipush 32, 2) := by decide +kernel
theorem dX3_follow_36 : decode cX3_follow 36 = .ok (.aload_n 0, 1) := by decide +kernel
theorem dX3_follow_37 : decode cX3_follow 37 = .ok (.getfield 9, 3) := by decide +kernel
theorem dX3_follow_40 : decode cX3_follow 40 = .ok (.iconst 1, 1) := by decide +kernel
theorem dX3_follow_41 : decode cX3_follow 41 = .ok (.iadd, 1) := by decide +kernel
theorem dX3_follow_42 : decode cX3_follow 42 = .ok (.invokestatic 27, 3) := by decide +kernel
theorem dX3_follow_45 : decode cX3_follow 45 = .ok (.putfield 9, 3) := by decide +kernel
theorem dX3_follow_48 : decode cX3_follow 48 = .ok (.goto 8, 3) := by decide +kernel
theorem dX3_follow_51 : decode cX3_follow 51 = .ok (.aload_n 0, 1) := by decide +kernel
theorem dX3_follow_52 : decode cX3_follow 52 = .ok (.iconst 0, 1) := by decide +kernel
theorem dX3_follow_53 : decode cX3_follow 53 = .ok (.putfield 9, 3) := by decide +kernel
theorem dX3_follow_56 : decode cX3_follow 56 = .ok (.return_, 1) := by decide +kernel
theorem dX3_find_0 : decode cX3_find 0 = .ok (.aload_n 0, 1) := by decide +kernel
theorem dX3_find_1 : decode cX3_find 1 = .ok (.getfield 9, 3) := by decide +kernel
theorem dX3_find_4 : decode cX3_find 4 = .ok (.ifCond .le 4, 3) := by decide +kernel
theorem dX3_find_7 : decode cX3_find 7 = .ok (.return_, 1) := by decide +kernel
theorem dX3_find_8 : decode cX3_find 8 = .ok (.iload_n 2, 1) := by decide +kernel
theorem dX3_find_9 : decode cX3_find 9 = .ok (.aload_n 1, 1) := by decide +kernel
theorem dX3_find_10 : decode cX3_find 10 = .ok (.getfield 33, 3) := by decide +kernel
theorem dX3_find_13 : decode cX3_find 13 = .ok (.bipush 64, 2) := by decide +kernel
theorem dX3_find_15 : decode cX3_find 15 = .ok (.isub, 1) := by decide +kernel
theorem dX3_find_16 : decode cX3_find 16 = .ok (.invokestatic 36, 3) := by decide +kernel
theorem dX3_find_19 : decode cX3_find 19 = .ok (.istore_n 3, 1) := by decide +kernel
theorem dX3_find_20 : decode cX3_find 20 = .ok (.aload_n 1, 1) := by decide +kernel
theorem dX3_find_21 : decode cX3_find 21 = .ok (.getfield 33, 3) := by decide +kernel
theorem dX3_find_24 : decode cX3_find 24 = .ok (.iconst 1, 1) := by decide +kernel
theorem dX3_find_25 : decode cX3_find 25 = .ok (.isub, 1) := by decide +kernel
theorem dX3_find_26 : decode cX3_find 26 = .ok (.istore 4, 2) := by decide +kernel
theorem dX3_find_28 : decode cX3_find 28 = .ok (.iload 4, 2) := by decide +kernel
theorem dX3_find_30 : decode cX3_find 30 = .ok (.iload_n 3, 1) := by decide +kernel
theorem dX3_find_31 : decode cX3_find 31 = .ok (.if_icmp .lt 31, 3) := by decide +kernel
theorem dX3_find_34 : decode cX3_find 34 = .ok (.aload_n 1, 1) := by decide +kernel
theorem dX3_find_35 : decode cX3_find 35 = .ok (.iload 4, 2) := by decide +kernel
theorem dX3_find_37 : decode cX3_find 37 = .ok (.iload_n 2, 1) := by decide +kernel
theorem dX3_find_38 : decode cX3_find 38 = .ok (.invokevirtual 39, 3) := by decide +kernel
theorem dX3_find_41 : decode cX3_find 41 = .ok (.ifCond .eq 15, 3) := by decide +kernel
theorem dX3_find_44 : decode cX3_find 44 = .ok (.aload_n 0, 1) := by decide +kernel
theorem dX3_find_45 : decode cX3_find 45 = .ok (.iload 4, 2) := by decide +kernel
theorem dX3_find_47 : decode cX3_find 47 = .ok (.putfield 15, 3) := by decide +kernel
theorem dX3_find_50 : decode cX3_find 50 = .ok (.aload_n 0, 1) := by decide +kernel
theorem dX3_find_51 : decode cX3_find 51 = .ok (.iload_n 2, 1) := by decide +kernel
theorem dX3_find_52 : decode cX3_find 52 = .ok (.putfield 9, 3) := by decide +kernel
theorem dX3_find_55 : decode cX3_find 55 = .ok (.return_, 1) := by decide +kernel
theorem dX3_find_56 : decode cX3_find 56 = .ok (.iinc 4 (-1), 3) := by decide +kernel
theorem dX3_find_59 : decode cX3_find 59 = .ok (.goto (-31), 3) := by decide +kernel
theorem dX3_find_62 : decode cX3_find 62 = .ok (.return_, 1) := by decide +kernel
theorem dX3_told_0 : decode cX3_told 0 = .ok (.aload_n 1, 1) := by decide +kernel
theorem dX3_told_1 : decode cX3_told 1 = .ok (.aload_n 0, 1) := by decide +kernel
theorem dX3_told_2 : decode cX3_told 2 = .ok (.getfield 15, 3) := by decide +kernel
theorem dX3_told_5 : decode cX3_told 5 = .ok (.invokevirtual 18, 3) := by decide +kernel
theorem dX3_told_8 : decode cX3_told 8 = .ok (.sipush 256, 3) := by decide +kernel
theorem dX3_told_11 : decode cX3_told 11 = .ok (.ior, 1) := by decide +kernel
theorem dX3_told_12 : decode cX3_told 12 = .ok (.istore_n 2, 1) := by decide +kernel
theorem dX3_told_13 : decode cX3_told 13 = .ok (.bipush 8, 2) := by decide +kernel
theorem dX3_told_15 : decode cX3_told 15 = .ok (.aload_n 1, 1) := by decide +kernel
theorem dX3_told_16 : decode cX3_told 16 = .ok (.getfield 43, 3) := by decide +kernel
theorem dX3_told_19 : decode cX3_told 19 = .ok (.isub, 1) := by decide +kernel
theorem dX3_told_20 : decode cX3_told 20 = .ok (.istore_n 3, 1) := by decide +kernel
theorem dX3_told_21 : decode cX3_told 21 = .ok (.aload_n 0, 1) := by decide +kernel
theorem dX3_told_22 : decode cX3_told 22 = .ok (.getfield 9, 3) := by decide +kernel
theorem dX3_told_25 : decode cX3_told 25 = .ok (.ifCond .eq 13, 3) := by decide +kernel
theorem dX3_told_28 : decode cX3_told 28 = .ok (.iload_n 2, 1) := by decide +kernel
theorem dX3_told_29 : decode cX3_told 29 = .ok (.iload_n 3, 1) := by decide +kernel
theorem dX3_told_30 : decode cX3_told 30 = .ok (.ishr, 1) := by decide +kernel
theorem dX3_told_31 : decode cX3_told 31 = .ok (.aload_n 1, 1) := by decide +kernel
theorem dX3_told_32 : decode cX3_told 32 = .ok (.getfield 46, 3) := by decide +kernel
theorem dX3_told_35 : decode cX3_told 35 = .ok (.if_icmp .eq 5, 3) := by decide +kernel
theorem dX3_told_38 : decode cX3_told 38 = .ok (.iconst 0, 1) := by decide +kernel
theorem dX3_told_39 : decode cX3_told 39 = .ok (.ireturn, 1) := by decide +kernel
theorem dX3_told_40 : decode cX3_told 40 = .ok (.bipush 64, 2) := by decide +kernel
theorem dX3_told_42 : decode cX3_told 42 = .ok (.bipush 16, 2) := by decide +kernel
theorem dX3_told_44 : decode cX3_told 44 = .ok (.aload_n 0, 1) := by decide +kernel
theorem dX3_told_45 : decode cX3_told 45 = .ok (.getfield 9, 3) := by decide +kernel
theorem dX3_told_48 : decode cX3_told 48 = .ok (.invokestatic 27, 3) := by decide +kernel
theorem dX3_told_51 : decode cX3_told 51 = .ok (.imul, 1) := by decide +kernel
theorem dX3_told_52 : decode cX3_told 52 = .ok (.istore 4, 2) := by decide +kernel
theorem dX3_told_54 : decode cX3_told 54 = .ok (.iload_n 2, 1) := by decide +kernel
theorem dX3_told_55 : decode cX3_told 55 = .ok (.iload_n 3, 1) := by decide +kernel
theorem dX3_told_56 : decode cX3_told 56 = .ok (.iconst 1, 1) := by decide +kernel
theorem dX3_told_57 : decode cX3_told 57 = .ok (.isub, 1) := by decide +kernel
theorem dX3_told_58 : decode cX3_told 58 = .ok (.ishr, 1) := by decide +kernel
theorem dX3_told_59 : decode cX3_told 59 = .ok (.iconst 1, 1) := by decide +kernel
theorem dX3_told_60 : decode cX3_told 60 = .ok (.iand, 1) := by decide +kernel
theorem dX3_told_61 : decode cX3_told 61 = .ok (.iconst 1, 1) := by decide +kernel
theorem dX3_told_62 : decode cX3_told 62 = .ok (.if_icmp .ne 8, 3) := by decide +kernel
theorem dX3_told_65 : decode cX3_told 65 = .ok (.iload 4, 2) := by decide +kernel
theorem dX3_told_67 : decode cX3_told 67 = .ok (.goto 6, 3) := by decide +kernel
theorem dX3_told_70 : decode cX3_told 70 = .ok (.iload 4, 2) := by decide +kernel
theorem dX3_told_72 : decode cX3_told 72 = .ok (.ineg, 1) := by decide +kernel
theorem dX3_told_73 : decode cX3_told 73 = .ok (.ireturn, 1) := by decide +kernel
theorem dX4_init_0 : decode cX4_init 0 = .ok (.aload_n 0, 1) := by decide +kernel
theorem dX4_init_1 : decode cX4_init 1 = .ok (.invokespecial 3, 3) := by decide +kernel
theorem dX4_init_4 : decode cX4_init 4 = .ok (.aload_n 0, 1) := by decide +kernel
theorem dX4_init_5 : decode cX4_init 5 = .ok (.sipush 2304, 3) := by decide +kernel
theorem dX4_init_8 : decode cX4_init 8 = .ok (.newarray .int, 2) := by decide +kernel
theorem dX4_init_10 : decode cX4_init 10 = .ok (.putfield 11, 3) := by decide +kernel
theorem dX4_init_13 : decode cX4_init 13 = .ok (.aload_n 0, 1) := by decide +kernel
theorem dX4_init_14 : decode cX4_init 14 = .ok (.getfield 11, 3) := by decide +kernel
theorem dX4_init_17 : decode cX4_init 17 = .ok (.invokestatic 15, 3) := by decide +kernel
theorem dX4_init_20 : decode cX4_init 20 = .ok (.return_, 1) := by decide +kernel
theorem dX4_reset_0 : decode cX4_reset 0 = .ok (.aload_n 0, 1) := by decide +kernel
theorem dX4_reset_1 : decode cX4_reset 1 = .ok (.getfield 11, 3) := by decide +kernel
theorem dX4_reset_4 : decode cX4_reset 4 = .ok (.invokestatic 15, 3) := by decide +kernel
theorem dX4_reset_7 : decode cX4_reset 7 = .ok (.return_, 1) := by decide +kernel
theorem dX4_fill_0 : decode cX4_fill 0 = .ok (.aload_n 0, 1) := by decide +kernel
theorem dX4_fill_1 : decode cX4_fill 1 = .ok (.sipush 20000, 3) := by decide +kernel
theorem dX4_fill_4 : decode cX4_fill 4 = .ok (.invokestatic 19, 3) := by decide +kernel
theorem dX4_fill_7 : decode cX4_fill 7 = .ok (.bipush 8, 2) := by decide +kernel
theorem dX4_fill_9 : decode cX4_fill 9 = .ok (.istore_n 1, 1) := by decide +kernel
theorem dX4_fill_10 : decode cX4_fill 10 = .ok (.iload_n 1, 1) := by decide +kernel
theorem dX4_fill_11 : decode cX4_fill 11 = .ok (.aload_n 0, 1) := by decide +kernel
theorem dX4_fill_12 : decode cX4_fill 12 = .ok (.arraylength, 1) := by decide +kernel
theorem dX4_fill_13 : decode cX4_fill 13 = .ok (.if_icmp .ge 13, 3) := by decide +kernel
theorem dX4_fill_16 : decode cX4_fill 16 = .ok (.aload_n 0, 1) := by decide +kernel
theorem dX4_fill_17 : decode cX4_fill 17 = .ok (.iload_n 1, 1) := by decide +kernel
theorem dX4_fill_18 : decode cX4_fill 18 = .ok (.iconst 0, 1) := by decide +kernel
theorem dX4_fill_19 : decode cX4_fill 19 = .ok (.iastore, 1) := by decide +kernel
theorem dX4_fill_20 : decode cX4_fill 20 = .ok (.iinc 1 9, 3) := by decide +kernel
theorem dX4_fill_23 : decode cX4_fill 23 = .ok (.goto (-13), 3) := by decide +kernel
theorem dX4_fill_26 : decode cX4_fill 26 = .ok (.return_, 1) := by decide +kernel
theorem dX4_weightAt_0 : decode cX4_weightAt 0 = .ok (.aload_n 0, 1) := by decide +kernel
theorem dX4_weightAt_1 : decode cX4_weightAt 1 = .ok (.getfield 11, 3) := by decide +kernel
theorem dX4_weightAt_4 : decode cX4_weightAt 4 = .ok (.iload_n 1, 1) := by decide +kernel
theorem dX4_weightAt_5 : decode cX4_weightAt 5 = .ok (.iconst 0, 1) := by decide +kernel
theorem dX4_weightAt_6 : decode cX4_weightAt 6 = .ok (.sipush 255, 3) := by decide +kernel
theorem dX4_weightAt_9 : decode cX4_weightAt 9 = .ok (.invokestatic 24, 3) := by decide +kernel
theorem dX4_weightAt_12 : decode cX4_weightAt 12 = .ok (.bipush 9, 2) := by decide +kernel
theorem dX4_weightAt_14 : decode cX4_weightAt 14 = .ok (.imul, 1) := by decide +kernel
theorem dX4_weightAt_15 : decode cX4_weightAt 15 = .ok (.iload_n 2, 1) := by decide +kernel
theorem dX4_weightAt_16 : decode cX4_weightAt 16 = .ok (.iconst 0, 1) := by decide +kernel
theorem dX4_weightAt_17 : decode cX4_weightAt 17 = .ok (.bipush 8, 2) := by decide +kernel
theorem dX4_weightAt_19 : decode cX4_weightAt 19 = .ok (.invokestatic 24, 3) := by decide +kernel
theorem dX4_weightAt_22 : decode cX4_weightAt 22 = .ok (.iadd, 1) := by decide +kernel
theorem dX4_weightAt_23 : decode cX4_weightAt 23 = .ok (.iaload, 1) := by decide +kernel
theorem dX4_weightAt_24 : decode cX4_weightAt 24 = .ok (.ireturn, 1) := by decide +kernel
theorem dX4_tell_0 : decode cX4_tell 0 = .ok (.aload_n 0, 1) := by decide +kernel
theorem dX4_tell_1 : decode cX4_tell 1 = .ok (.iload_n 1, 1) := by decide +kernel
theorem dX4_tell_2 : decode cX4_tell 2 = .ok (.iconst 0, 1) := by decide +kernel
theorem dX4_tell_3 : decode cX4_tell 3 = .ok (.sipush 255, 3) := by decide +kernel
theorem dX4_tell_6 : decode cX4_tell 6 = .ok (.invokestatic 24, 3) := by decide +kernel
theorem dX4_tell_9 : decode cX4_tell 9 = .ok (.bipush 9, 2) := by decide +kernel
theorem dX4_tell_11 : decode cX4_tell 11 = .ok (.imul, 1) := by decide +kernel
theorem dX4_tell_12 : decode cX4_tell 12 = .ok (.putfield 30, 3) := by decide +kernel
theorem dX4_tell_15 : decode cX4_tell 15 = .ok (.lconst 0, 1) := by decide +kernel
theorem dX4_tell_16 : decode cX4_tell 16 = .ok (.lstore_n 3, 1) := by decide +kernel
theorem dX4_tell_17 : decode cX4_tell 17 = .ok (.iconst 0, 1) := by decide +kernel
theorem dX4_tell_18 : decode cX4_tell 18 = .ok (.istore 5, 2) := by decide +kernel
theorem dX4_tell_20 : decode cX4_tell 20 = .ok (.iload 5, 2) := by decide +kernel
theorem dX4_tell_22 : decode cX4_tell 22 = .ok (.bipush 9, 2) := by decide +kernel
theorem dX4_tell_24 : decode cX4_tell 24 = .ok (.if_icmp .ge 38, 3) := by decide +kernel
theorem dX4_tell_27 : decode cX4_tell 27 = .ok (.iload 5, 2) := by decide +kernel
theorem dX4_tell_29 : decode cX4_tell 29 = .ok (.aload_n 2, 1) := by decide +kernel
theorem dX4_tell_30 : decode cX4_tell 30 = .ok (.arraylength, 1) := by decide +kernel
theorem dX4_tell_31 : decode cX4_tell 31 = .ok (.if_icmp .ge 31, 3) := by decide +kernel
theorem dX4_tell_34 : decode cX4_tell 34 = .ok (.lload_n 3, 1) := by decide +kernel
theorem dX4_tell_35 : decode cX4_tell 35 = .ok (.aload_n 0, 1) := by decide +kernel
theorem dX4_tell_36 : decode cX4_tell 36 = .ok (.getfield 11, 3) := by decide +kernel
theorem dX4_tell_39 : decode cX4_tell 39 = .ok (.aload_n 0, 1) := by decide +kernel
theorem dX4_tell_40 : decode cX4_tell 40 = .ok (.getfield 30, 3) := by decide +kernel
theorem dX4_tell_43 : decode cX4_tell 43 = .ok (.iload 5, 2) := by decide +kernel
theorem dX4_tell_45 : decode cX4_tell 45 = .ok (.iadd, 1) := by decide +kernel
theorem dX4_tell_46 : decode cX4_tell 46 = .ok (.iaload, 1) := by decide +kernel
theorem dX4_tell_47 : decode cX4_tell 47 = .ok (.i2l, 1) := by decide +kernel
theorem dX4_tell_48 : decode cX4_tell 48 = .ok (.aload_n 2, 1) := by decide +kernel
theorem dX4_tell_49 : decode cX4_tell 49 = .ok (.iload 5, 2) := by decide +kernel
theorem dX4_tell_51 : decode cX4_tell 51 = .ok (.iaload, 1) := by decide +kernel
theorem dX4_tell_52 : decode cX4_tell 52 = .ok (.i2l, 1) := by decide +kernel
theorem dX4_tell_53 : decode cX4_tell 53 = .ok (.lmul, 1) := by decide +kernel
theorem dX4_tell_54 : decode cX4_tell 54 = .ok (.ladd, 1) := by decide +kernel
theorem dX4_tell_55 : decode cX4_tell 55 = .ok (.lstore_n 3, 1) := by decide +kernel
theorem dX4_tell_56 : decode cX4_tell 56 = .ok (.iinc 5 1, 3) := by decide +kernel
theorem dX4_tell_59 : decode cX4_tell 59 = .ok (.goto (-39), 3) := by decide +kernel
theorem dX4_tell_62 : decode cX4_tell 62 = .ok (.ldc2_w 34, 3) := by decide +kernel
theorem dX4_tell_65 : decode cX4_tell 65 = .ok (.ldc2_w 36, 3) := by decide +kernel
theorem dX4_tell_68 : decode cX4_tell 68 = .ok (.lload_n 3, 1) := by decide +kernel
theorem dX4_tell_69 : decode cX4_tell 69 = .ok (.bipush 16, 2) := by decide +kernel
theorem dX4_tell_71 : decode cX4_tell 71 = .ok (.lshr, 1) := by decide +kernel
theorem dX4_tell_72 : decode cX4_tell 72 = .ok (.invokestatic 38, 3) := by decide +kernel
theorem dX4_tell_75 : decode cX4_tell 75 = .ok (.invokestatic 44, 3) := by decide +kernel
theorem dX4_tell_78 : decode cX4_tell 78 = .ok (.lstore 5, 2) := by decide +kernel
theorem dX4_tell_80 : decode cX4_tell 80 = .ok (.aload_n 0, 1) := by decide +kernel
theorem dX4_tell_81 : decode cX4_tell 81 = .ok (.lload 5, 2) := by decide +kernel
theorem dX4_tell_83 : decode cX4_tell 83 = .ok (.l2i, 1) := by decide +kernel
theorem dX4_tell_84 : decode cX4_tell 84 = .ok (.invokestatic 47, 3) := by decide +kernel
theorem dX4_tell_87 : decode cX4_tell 87 = .ok (.putfield 51, 3) := by decide +kernel
theorem dX4_tell_90 : decode cX4_tell 90 = .ok (.aload_n 0, 1) := by decide +kernel
theorem dX4_tell_91 : decode cX4_tell 91 = .ok (.getfield 51, 3) := by decide +kernel
theorem dX4_tell_94 : decode cX4_tell 94 = .ok (.ireturn, 1) := by decide +kernel
theorem dX4_learn_0 : decode cX4_learn 0 = .ok (.iload_n 1, 1) := by decide +kernel
theorem dX4_learn_1 : decode cX4_learn 1 = .ok (.ifCond .eq 9, 3) := by decide +kernel
theorem dX4_learn_4 : decode cX4_learn 4 = .ok (.sipush 4095, 3) := by decide +kernel
theorem dX4_learn_7 : decode cX4_learn 7 = .ok (.goto 4, 3) := by decide +kernel
theorem dX4_learn_10 : decode cX4_learn 10 = .ok (.iconst 0, 1) := by decide +kernel
theorem dX4_learn_11 : decode cX4_learn 11 = .ok (.aload_n 0, 1) := by decide +kernel
theorem dX4_learn_12 : decode cX4_learn 12 = .ok (.getfield 51, 3) := by decide +kernel
theorem dX4_learn_15 : decode cX4_learn 15 = .ok (.isub, 1) := by decide +kernel
theorem dX4_learn_16 : decode cX4_learn 16 = .ok (.bipush 7, 2) := by decide +kernel
theorem dX4_learn_18 : decode cX4_learn 18 = .ok (.imul, 1) := by decide +kernel
theorem dX4_learn_19 : decode cX4_learn 19 = .ok (.istore_n 3, 1) := by decide +kernel
theorem dX4_learn_20 : decode cX4_learn 20 = .ok (.iconst 0, 1) := by decide +kernel
theorem dX4_learn_21 : decode cX4_learn 21 = .ok (.istore 4, 2) := by decide +kernel
theorem dX4_learn_23 : decode cX4_learn 23 = .ok (.iload 4, 2) := by decide +kernel
theorem dX4_learn_25 : decode cX4_learn 25 = .ok (.bipush 9, 2) := by decide +kernel
theorem dX4_learn_27 : decode cX4_learn 27 = .ok (.if_icmp .ge 64, 3) := by decide +kernel
theorem dX4_learn_30 : decode cX4_learn 30 = .ok (.iload 4, 2) := by decide +kernel
theorem dX4_learn_32 : decode cX4_learn 32 = .ok (.aload_n 2, 1) := by decide +kernel
theorem dX4_learn_33 : decode cX4_learn 33 = .ok (.arraylength, 1) := by decide +kernel
theorem dX4_learn_34 : decode cX4_learn 34 = .ok (.if_icmp .ge 57, 3) := by decide +kernel
theorem dX4_learn_37 : decode cX4_learn 37 = .ok (.aload_n 0, 1) := by decide +kernel
theorem dX4_learn_38 : decode cX4_learn 38 = .ok (.getfield 11, 3) := by decide +kernel
theorem dX4_learn_41 : decode cX4_learn 41 = .ok (.aload_n 0, 1) := by decide +kernel
theorem dX4_learn_42 : decode cX4_learn 42 = .ok (.getfield 30, 3) := by decide +kernel
theorem dX4_learn_45 : decode cX4_learn 45 = .ok (.iload 4, 2) := by decide +kernel
theorem dX4_learn_47 : decode cX4_learn 47 = .ok (.iadd, 1) := by decide +kernel
theorem dX4_learn_48 : decode cX4_learn 48 = .ok (.iaload, 1) := by decide +kernel
theorem dX4_learn_49 : decode cX4_learn 49 = .ok (.aload_n 2, 1) := by decide +kernel
theorem dX4_learn_50 : decode cX4_learn 50 = .ok (.iload 4, 2) := by decide +kernel
theorem dX4_learn_52 : decode cX4_learn 52 = .ok (.iaload, 1) := by decide +kernel
theorem dX4_learn_53 : decode cX4_learn 53 = .ok (.iload_n 3, 1) := by decide +kernel
theorem dX4_learn_54 : decode cX4_learn 54 = .ok (.imul, 1) := by decide +kernel
theorem dX4_learn_55 : decode cX4_learn 55 = .ok (.ldc 54, 2) := by decide +kernel
theorem dX4_learn_57 : decode cX4_learn 57 = .ok (.iadd, 1) := by decide +kernel
theorem dX4_learn_58 : decode cX4_learn 58 = .ok (.bipush 16, 2) := by decide +kernel
theorem dX4_learn_60 : decode cX4_learn 60 = .ok (.ishr, 1) := by decide +kernel
theorem dX4_learn_61 : decode cX4_learn 61 = .ok (.iadd, 1) := by decide +kernel
theorem dX4_learn_62 : decode cX4_learn 62 = .ok (.istore 5, 2) := by decide +kernel
theorem dX4_learn_64 : decode cX4_learn 64 = .ok (.aload_n 0, 1) := by decide +kernel
theorem dX4_learn_65 : decode cX4_learn 65 = .ok (.getfield 11, 3) := by decide +kernel
theorem dX4_learn_68 : decode cX4_learn 68 = .ok (.aload_n 0, 1) := by decide +kernel
theorem dX4_learn_69 : decode cX4_learn 69 = .ok (.getfield 30, 3) := by decide +kernel
theorem dX4_learn_72 : decode cX4_learn 72 = .ok (.iload 4, 2) := by decide +kernel
theorem dX4_learn_74 : decode cX4_learn 74 = .ok (.iadd, 1) := by decide +kernel
theorem dX4_learn_75 : decode cX4_learn 75 = .ok (.iload 5, 2) := by decide +kernel
theorem dX4_learn_77 : decode cX4_learn 77 = .ok (.ldc 55, 2) := by decide +kernel
theorem dX4_learn_79 : decode cX4_learn 79 = .ok (.ldc 56, 2) := by decide +kernel
theorem dX4_learn_81 : decode cX4_learn 81 = .ok (.invokestatic 24, 3) := by decide +kernel
theorem dX4_learn_84 : decode cX4_learn 84 = .ok (.iastore, 1) := by decide +kernel
theorem dX4_learn_85 : decode cX4_learn 85 = .ok (.iinc 4 1, 3) := by decide +kernel
theorem dX4_learn_88 : decode cX4_learn 88 = .ok (.goto (-65), 3) := by decide +kernel
theorem dX4_learn_91 : decode cX4_learn 91 = .ok (.return_, 1) := by decide +kernel
theorem dX5_init_0 : decode cX5_init 0 = .ok (.aload_n 0, 1) := by decide +kernel
theorem dX5_init_1 : decode cX5_init 1 = .ok (.invokespecial 1, 3) := by decide +kernel
theorem dX5_init_4 : decode cX5_init 4 = .ok (.aload_n 0, 1) := by decide +kernel
theorem dX5_init_5 : decode cX5_init 5 = .ok (.sipush 4096, 3) := by decide +kernel
theorem dX5_init_8 : decode cX5_init 8 = .ok (.newarray .int, 2) := by decide +kernel
theorem dX5_init_10 : decode cX5_init 10 = .ok (.putfield 7, 3) := by decide +kernel
theorem dX5_init_13 : decode cX5_init 13 = .ok (.sipush (-2047), 3) := by decide +kernel
theorem dX5_init_16 : decode cX5_init 16 = .ok (.istore_n 1, 1) := by decide +kernel
theorem dX5_init_17 : decode cX5_init 17 = .ok (.iconst 0, 1) := by decide +kernel
theorem dX5_init_18 : decode cX5_init 18 = .ok (.istore_n 2, 1) := by decide +kernel
theorem dX5_init_19 : decode cX5_init 19 = .ok (.iload_n 2, 1) := by decide +kernel
theorem dX5_init_20 : decode cX5_init 20 = .ok (.aload_n 0, 1) := by decide +kernel
theorem dX5_init_21 : decode cX5_init 21 = .ok (.getfield 7, 3) := by decide +kernel
theorem dX5_init_24 : decode cX5_init 24 = .ok (.arraylength, 1) := by decide +kernel
theorem dX5_init_25 : decode cX5_init 25 = .ok (.if_icmp .ge 37, 3) := by decide +kernel
theorem dX5_init_28 : decode cX5_init 28 = .ok (.iload_n 1, 1) := by decide +kernel
theorem dX5_init_29 : decode cX5_init 29 = .ok (.sipush 2047, 3) := by decide +kernel
theorem dX5_init_32 : decode cX5_init 32 = .ok (.if_icmp .ge 17, 3) := by decide +kernel
theorem dX5_init_35 : decode cX5_init 35 = .ok (.iload_n 1, 1) := by decide +kernel
theorem dX5_init_36 : decode cX5_init 36 = .ok (.invokestatic 13, 3) := by decide +kernel
theorem dX5_init_39 : decode cX5_init 39 = .ok (.iload_n 2, 1) := by decide +kernel
theorem dX5_init_40 : decode cX5_init 40 = .ok (.if_icmp .ge 9, 3) := by decide +kernel
theorem dX5_init_43 : decode cX5_init 43 = .ok (.iinc 1 1, 3) := by decide +kernel
theorem dX5_init_46 : decode cX5_init 46 = .ok (.goto (-18), 3) := by decide +kernel
theorem dX5_init_49 : decode cX5_init 49 = .ok (.aload_n 0, 1) := by decide +kernel
theorem dX5_init_50 : decode cX5_init 50 = .ok (.getfield 7, 3) := by decide +kernel
theorem dX5_init_53 : decode cX5_init 53 = .ok (.iload_n 2, 1) := by decide +kernel
theorem dX5_init_54 : decode cX5_init 54 = .ok (.iload_n 1, 1) := by decide +kernel
theorem dX5_init_55 : decode cX5_init 55 = .ok (.iastore, 1) := by decide +kernel
theorem dX5_init_56 : decode cX5_init 56 = .ok (.iinc 2 1, 3) := by decide +kernel
theorem dX5_init_59 : decode cX5_init 59 = .ok (.goto (-40), 3) := by decide +kernel
theorem dX5_init_62 : decode cX5_init 62 = .ok (.return_, 1) := by decide +kernel
theorem dX5_stretched_0 : decode cX5_stretched 0 = .ok (.aload_n 0, 1) := by decide +kernel
theorem dX5_stretched_1 : decode cX5_stretched 1 = .ok (.getfield 7, 3) := by decide +kernel
theorem dX5_stretched_4 : decode cX5_stretched 4 = .ok (.iload_n 1, 1) := by decide +kernel
theorem dX5_stretched_5 : decode cX5_stretched 5 = .ok (.iconst 0, 1) := by decide +kernel
theorem dX5_stretched_6 : decode cX5_stretched 6 = .ok (.aload_n 0, 1) := by decide +kernel
theorem dX5_stretched_7 : decode cX5_stretched 7 = .ok (.getfield 7, 3) := by decide +kernel
theorem dX5_stretched_10 : decode cX5_stretched 10 = .ok (.arraylength, 1) := by decide +kernel
theorem dX5_stretched_11 : decode cX5_stretched 11 = .ok (.iconst 1, 1) := by decide +kernel
theorem dX5_stretched_12 : decode cX5_stretched 12 = .ok (.isub, 1) := by decide +kernel
theorem dX5_stretched_13 : decode cX5_stretched 13 = .ok (.invokestatic 17, 3) := by decide +kernel
theorem dX5_stretched_16 : decode cX5_stretched 16 = .ok (.iaload, 1) := by decide +kernel
theorem dX5_stretched_17 : decode cX5_stretched 17 = .ok (.ireturn, 1) := by decide +kernel
theorem dX5_squashed_0 : decode cX5_squashed 0 = .ok (.iload_n 0, 1) := by decide +kernel
theorem dX5_squashed_1 : decode cX5_squashed 1 = .ok (.sipush 2047, 3) := by decide +kernel
theorem dX5_squashed_4 : decode cX5_squashed 4 = .ok (.if_icmp .le 7, 3) := by decide +kernel
theorem dX5_squashed_7 : decode cX5_squashed 7 = .ok (.sipush 4095, 3) := by decide +kernel
theorem dX5_squashed_10 : decode cX5_squashed 10 = .ok (.ireturn, 1) := by decide +kernel
theorem dX5_squashed_11 : decode cX5_squashed 11 = .ok (.iload_n 0, 1) := by decide +kernel
theorem dX5_squashed_12 : decode cX5_squashed 12 = .ok (.sipush (-2047), 3) := by decide +kernel
theorem dX5_squashed_15 : decode cX5_squashed 15 = .ok (.if_icmp .ge 5, 3) := by decide +kernel
theorem dX5_squashed_18 : decode cX5_squashed 18 = .ok (.iconst 0, 1) := by decide +kernel
theorem dX5_squashed_19 : decode cX5_squashed 19 = .ok (.ireturn, 1) := by decide +kernel
theorem dX5_squashed_20 : decode cX5_squashed 20 = .ok (.iload_n 0, 1) := by decide +kernel
theorem dX5_squashed_21 : decode cX5_squashed 21 = .ok (.bipush 7, 2) := by decide +kernel
theorem dX5_squashed_23 : decode cX5_squashed 23 = .ok (.ishr, 1) := by decide +kernel
theorem dX5_squashed_24 : decode cX5_squashed 24 = .ok (.bipush 16, 2) := by decide +kernel
theorem dX5_squashed_26 : decode cX5_squashed 26 = .ok (.iadd, 1) := by decide +kernel
theorem dX5_squashed_27 : decode cX5_squashed 27 = .ok (.istore_n 1, 1) := by decide +kernel
theorem dX5_squashed_28 : decode cX5_squashed 28 = .ok (.iload_n 0, 1) := by decide +kernel
theorem dX5_squashed_29 : decode cX5_squashed 29 = .ok (.bipush 127, 2) := by decide +kernel
theorem dX5_squashed_31 : decode cX5_squashed 31 = .ok (.iand, 1) := by decide +kernel
theorem dX5_squashed_32 : decode cX5_squashed 32 = .ok (.istore_n 2, 1) := by decide +kernel
theorem dX5_squashed_33 : decode cX5_squashed 33 = .ok (.getstatic 21, 3) := by decide +kernel
theorem dX5_squashed_36 : decode cX5_squashed 36 = .ok (.iload_n 1, 1) := by decide +kernel
theorem dX5_squashed_37 : decode cX5_squashed 37 = .ok (.iaload, 1) := by decide +kernel
theorem dX5_squashed_38 : decode cX5_squashed 38 = .ok (.sipush 128, 3) := by decide +kernel
theorem dX5_squashed_41 : decode cX5_squashed 41 = .ok (.iload_n 2, 1) := by decide +kernel
theorem dX5_squashed_42 : decode cX5_squashed 42 = .ok (.isub, 1) := by decide +kernel
theorem dX5_squashed_43 : decode cX5_squashed 43 = .ok (.imul, 1) := by decide +kernel
theorem dX5_squashed_44 : decode cX5_squashed 44 = .ok (.getstatic 21, 3) := by decide +kernel
theorem dX5_squashed_47 : decode cX5_squashed 47 = .ok (.iload_n 1, 1) := by decide +kernel
theorem dX5_squashed_48 : decode cX5_squashed 48 = .ok (.iconst 1, 1) := by decide +kernel
theorem dX5_squashed_49 : decode cX5_squashed 49 = .ok (.iadd, 1) := by decide +kernel
theorem dX5_squashed_50 : decode cX5_squashed 50 = .ok (.iaload, 1) := by decide +kernel
theorem dX5_squashed_51 : decode cX5_squashed 51 = .ok (.iload_n 2, 1) := by decide +kernel
theorem dX5_squashed_52 : decode cX5_squashed 52 = .ok (.imul, 1) := by decide +kernel
theorem dX5_squashed_53 : decode cX5_squashed 53 = .ok (.iadd, 1) := by decide +kernel
theorem dX5_squashed_54 : decode cX5_squashed 54 = .ok (.bipush 64, 2) := by decide +kernel
theorem dX5_squashed_56 : decode cX5_squashed 56 = .ok (.iadd, 1) := by decide +kernel
theorem dX5_squashed_57 : decode cX5_squashed 57 = .ok (.bipush 7, 2) := by decide +kernel
theorem dX5_squashed_59 : decode cX5_squashed 59 = .ok (.ishr, 1) := by decide +kernel
theorem dX5_squashed_60 : decode cX5_squashed 60 = .ok (.ireturn, 1) := by decide +kernel
theorem dX5_hash_0 : decode cX5_hash 0 = .ok (.iload_n 0, 1) := by decide +kernel
theorem dX5_hash_1 : decode cX5_hash 1 = .ok (.ldc 24, 2) := by decide +kernel
theorem dX5_hash_3 : decode cX5_hash 3 = .ok (.ixor, 1) := by decide +kernel
theorem dX5_hash_4 : decode cX5_hash 4 = .ok (.ldc 25, 2) := by decide +kernel
theorem dX5_hash_6 : decode cX5_hash 6 = .ok (.imul, 1) := by decide +kernel
theorem dX5_hash_7 : decode cX5_hash 7 = .ok (.iload_n 1, 1) := by decide +kernel
theorem dX5_hash_8 : decode cX5_hash 8 = .ok (.ldc 26, 2) := by decide +kernel
theorem dX5_hash_10 : decode cX5_hash 10 = .ok (.imul, 1) := by decide +kernel
theorem dX5_hash_11 : decode cX5_hash 11 = .ok (.iadd, 1) := by decide +kernel
theorem dX5_hash_12 : decode cX5_hash 12 = .ok (.istore_n 2, 1) := by decide +kernel
theorem dX5_hash_13 : decode cX5_hash 13 = .ok (.iload_n 2, 1) := by decide +kernel
theorem dX5_hash_14 : decode cX5_hash 14 = .ok (.iload_n 2, 1) := by decide +kernel
theorem dX5_hash_15 : decode cX5_hash 15 = .ok (.bipush 15, 2) := by decide +kernel
theorem dX5_hash_17 : decode cX5_hash 17 = .ok (.iushr, 1) := by decide +kernel
theorem dX5_hash_18 : decode cX5_hash 18 = .ok (.ixor, 1) := by decide +kernel
theorem dX5_hash_19 : decode cX5_hash 19 = .ok (.ireturn, 1) := by decide +kernel
theorem dX5_bound_0 : decode cX5_bound 0 = .ok (.iload_n 1, 1) := by decide +kernel
theorem dX5_bound_1 : decode cX5_bound 1 = .ok (.iload_n 2, 1) := by decide +kernel
theorem dX5_bound_2 : decode cX5_bound 2 = .ok (.iload_n 0, 1) := by decide +kernel
theorem dX5_bound_3 : decode cX5_bound 3 = .ok (.invokestatic 27, 3) := by decide +kernel
theorem dX5_bound_6 : decode cX5_bound 6 = .ok (.invokestatic 33, 3) := by decide +kernel
theorem dX5_bound_9 : decode cX5_bound 9 = .ok (.ireturn, 1) := by decide +kernel
theorem dX5_same_0 : decode cX5_same 0 = .ok (.aload_n 0, 1) := by decide +kernel
theorem dX5_same_1 : decode cX5_same 1 = .ok (.arraylength, 1) := by decide +kernel
theorem dX5_same_2 : decode cX5_same 2 = .ok (.aload_n 1, 1) := by decide +kernel
theorem dX5_same_3 : decode cX5_same 3 = .ok (.arraylength, 1) := by decide +kernel
theorem dX5_same_4 : decode cX5_same 4 = .ok (.if_icmp .eq 5, 3) := by decide +kernel
theorem dX5_same_7 : decode cX5_same 7 = .ok (.iconst 0, 1) := by decide +kernel
theorem dX5_same_8 : decode cX5_same 8 = .ok (.ireturn, 1) := by decide +kernel
theorem dX5_same_9 : decode cX5_same 9 = .ok (.iconst 0, 1) := by decide +kernel
theorem dX5_same_10 : decode cX5_same 10 = .ok (.istore_n 2, 1) := by decide +kernel
theorem dX5_same_11 : decode cX5_same 11 = .ok (.iload_n 2, 1) := by decide +kernel
theorem dX5_same_12 : decode cX5_same 12 = .ok (.aload_n 0, 1) := by decide +kernel
theorem dX5_same_13 : decode cX5_same 13 = .ok (.arraylength, 1) := by decide +kernel
theorem dX5_same_14 : decode cX5_same 14 = .ok (.if_icmp .ge 26, 3) := by decide +kernel
theorem dX5_same_17 : decode cX5_same 17 = .ok (.iload_n 2, 1) := by decide +kernel
theorem dX5_same_18 : decode cX5_same 18 = .ok (.aload_n 1, 1) := by decide +kernel
theorem dX5_same_19 : decode cX5_same 19 = .ok (.arraylength, 1) := by decide +kernel
theorem dX5_same_20 : decode cX5_same 20 = .ok (.if_icmp .ge 20, 3) := by decide +kernel
theorem dX5_same_23 : decode cX5_same 23 = .ok (.aload_n 0, 1) := by decide +kernel
theorem dX5_same_24 : decode cX5_same 24 = .ok (.iload_n 2, 1) := by decide +kernel
theorem dX5_same_25 : decode cX5_same 25 = .ok (.iaload, 1) := by decide +kernel
theorem dX5_same_26 : decode cX5_same 26 = .ok (.aload_n 1, 1) := by decide +kernel
theorem dX5_same_27 : decode cX5_same 27 = .ok (.iload_n 2, 1) := by decide +kernel
theorem dX5_same_28 : decode cX5_same 28 = .ok (.iaload, 1) := by decide +kernel
theorem dX5_same_29 : decode cX5_same 29 = .ok (.if_icmp .eq 5, 3) := by decide +kernel
theorem dX5_same_32 : decode cX5_same 32 = .ok (.iconst 0, 1) := by decide +kernel
theorem dX5_same_33 : decode cX5_same 33 = .ok (.ireturn, 1) := by decide +kernel
theorem dX5_same_34 : decode cX5_same 34 = .ok (.iinc 2 1, 3) := by decide +kernel
theorem dX5_same_37 : decode cX5_same 37 = .ok (.goto (-26), 3) := by decide +kernel
theorem dX5_same_40 : decode cX5_same 40 = .ok (.iconst 1, 1) := by decide +kernel
theorem dX5_same_41 : decode cX5_same 41 = .ok (.ireturn, 1) := by decide +kernel
theorem dX6_init_0 : decode cX6_init 0 = .ok (.aload_n 0, 1) := by decide +kernel
theorem dX6_init_1 : decode cX6_init 1 = .ok (.invokespecial 5, 3) := by decide +kernel
theorem dX6_init_4 : decode cX6_init 4 = .ok (.aload_n 0, 1) := by decide +kernel
theorem dX6_init_5 : decode cX6_init 5 = .ok (.sipush 3028, 3) := by decide +kernel
theorem dX6_init_8 : decode cX6_init 8 = .ok (.newarray .int, 2) := by decide +kernel
theorem dX6_init_10 : decode cX6_init 10 = .ok (.putfield 13, 3) := by decide +kernel
theorem dX6_init_13 : decode cX6_init 13 = .ok (.return_, 1) := by decide +kernel
theorem dX6_has_0 : decode cX6_has 0 = .ok (.iload_n 1, 1) := by decide +kernel
theorem dX6_has_1 : decode cX6_has 1 = .ok (.ifCond .lt 15, 3) := by decide +kernel
theorem dX6_has_4 : decode cX6_has 4 = .ok (.iload_n 1, 1) := by decide +kernel
theorem dX6_has_5 : decode cX6_has 5 = .ok (.aload_n 0, 1) := by decide +kernel
theorem dX6_has_6 : decode cX6_has 6 = .ok (.getfield 17, 3) := by decide +kernel
theorem dX6_has_9 : decode cX6_has 9 = .ok (.if_icmp .ge 7, 3) := by decide +kernel
theorem dX6_has_12 : decode cX6_has 12 = .ok (.iconst 1, 1) := by decide +kernel
theorem dX6_has_13 : decode cX6_has 13 = .ok (.goto 4, 3) := by decide +kernel
theorem dX6_has_16 : decode cX6_has 16 = .ok (.iconst 0, 1) := by decide +kernel
theorem dX6_has_17 : decode cX6_has 17 = .ok (.ireturn, 1) := by decide +kernel
theorem dX6_byteAt_0 : decode cX6_byteAt 0 = .ok (.aload_n 0, 1) := by decide +kernel
theorem dX6_byteAt_1 : decode cX6_byteAt 1 = .ok (.iload_n 1, 1) := by decide +kernel
theorem dX6_byteAt_2 : decode cX6_byteAt 2 = .ok (.invokevirtual 21, 3) := by decide +kernel
theorem dX6_byteAt_5 : decode cX6_byteAt 5 = .ok (.ifCond .eq 12, 3) := by decide +kernel
theorem dX6_byteAt_8 : decode cX6_byteAt 8 = .ok (.aload_n 0, 1) := by decide +kernel
theorem dX6_byteAt_9 : decode cX6_byteAt 9 = .ok (.getfield 13, 3) := by decide +kernel
theorem dX6_byteAt_12 : decode cX6_byteAt 12 = .ok (.iload_n 1, 1) := by decide +kernel
theorem dX6_byteAt_13 : decode cX6_byteAt 13 = .ok (.iaload, 1) := by decide +kernel
theorem dX6_byteAt_14 : decode cX6_byteAt 14 = .ok (.goto 4, 3) := by decide +kernel
theorem dX6_byteAt_17 : decode cX6_byteAt 17 = .ok (.iconst 0, 1) := by decide +kernel
theorem dX6_byteAt_18 : decode cX6_byteAt 18 = .ok (.ireturn, 1) := by decide +kernel
theorem dX6_add_0 : decode cX6_add 0 = .ok (.aload_n 0, 1) := by decide +kernel
theorem dX6_add_1 : decode cX6_add 1 = .ok (.getfield 17, 3) := by decide +kernel
theorem dX6_add_4 : decode cX6_add 4 = .ok (.aload_n 0, 1) := by decide +kernel
theorem dX6_add_5 : decode cX6_add 5 = .ok (.getfield 13, 3) := by decide +kernel
theorem dX6_add_8 : decode cX6_add 8 = .ok (.arraylength, 1) := by decide +kernel
theorem dX6_add_9 : decode cX6_add 9 = .ok (.if_icmp .ge 23, 3) := by decide +kernel
theorem dX6_add_12 : decode cX6_add 12 = .ok (.aload_n 0, 1) := by decide +kernel
theorem dX6_add_13 : decode cX6_add 13 = .ok (.getfield 13, 3) := by decide +kernel
theorem dX6_add_16 : decode cX6_add 16 = .ok (.aload_n 0, 1) := by decide +kernel
theorem dX6_add_17 : decode cX6_add 17 = .ok (.getfield 17, 3) := by decide +kernel
theorem dX6_add_20 : decode cX6_add 20 = .ok (.iload_n 1, 1) := by decide +kernel
theorem dX6_add_21 : decode cX6_add 21 = .ok (.iastore, 1) := by decide +kernel
theorem dX6_add_22 : decode cX6_add 22 = .ok (.aload_n 0, 1) := by decide +kernel
theorem dX6_add_23 : decode cX6_add 23 = .ok (.dup, 1) := by decide +kernel
theorem dX6_add_24 : decode cX6_add 24 = .ok (.getfield 17, 3) := by decide +kernel
theorem dX6_add_27 : decode cX6_add 27 = .ok (.iconst 1, 1) := by decide +kernel
theorem dX6_add_28 : decode cX6_add 28 = .ok (.iadd, 1) := by decide +kernel
theorem dX6_add_29 : decode cX6_add 29 = .ok (.putfield 17, 3) := by decide +kernel
theorem dX6_add_32 : decode cX6_add 32 = .ok (.return_, 1) := by decide +kernel
theorem dX6_flip_0 : decode cX6_flip 0 = .ok (.aload_n 0, 1) := by decide +kernel
theorem dX6_flip_1 : decode cX6_flip 1 = .ok (.iload_n 1, 1) := by decide +kernel
theorem dX6_flip_2 : decode cX6_flip 2 = .ok (.invokevirtual 21, 3) := by decide +kernel
theorem dX6_flip_5 : decode cX6_flip 5 = .ok (.ifCond .eq 13, 3) := by decide +kernel
theorem dX6_flip_8 : decode cX6_flip 8 = .ok (.aload_n 0, 1) := by decide +kernel
theorem dX6_flip_9 : decode cX6_flip 9 = .ok (.getfield 13, 3) := by decide +kernel
theorem dX6_flip_12 : decode cX6_flip 12 = .ok (.iload_n 1, 1) := by decide +kernel
theorem dX6_flip_13 : decode cX6_flip 13 = .ok (.dup2, 1) := by decide +kernel
theorem dX6_flip_14 : decode cX6_flip 14 = .ok (.iaload, 1) := by decide +kernel
theorem dX6_flip_15 : decode cX6_flip 15 = .ok (.iload_n 2, 1) := by decide +kernel
theorem dX6_flip_16 : decode cX6_flip 16 = .ok (.ixor, 1) := by decide +kernel
theorem dX6_flip_17 : decode cX6_flip 17 = .ok (.iastore, 1) := by decide +kernel
theorem dX6_flip_18 : decode cX6_flip 18 = .ok (.return_, 1) := by decide +kernel
theorem dX7_init_0 : decode cX7_init 0 = .ok (.aload_n 0, 1) := by decide +kernel
theorem dX7_init_1 : decode cX7_init 1 = .ok (.invokespecial 3, 3) := by decide +kernel
theorem dX7_init_4 : decode cX7_init 4 = .ok (.aload_n 0, 1) := by decide +kernel
theorem dX7_init_5 : decode cX7_init 5 = .ok (.bipush 8, 2) := by decide +kernel
theorem dX7_init_7 : decode cX7_init 7 = .ok (.newarray .int, 2) := by decide +kernel
theorem dX7_init_9 : decode cX7_init 9 = .ok (.putfield 9, 3) := by decide +kernel
theorem dX7_init_12 : decode cX7_init 12 = .ok (.aload_n 0, 1) := by decide +kernel
theorem dX7_init_13 : decode cX7_init 13 = .ok (.bipush 8, 2) := by decide +kernel
theorem dX7_init_15 : decode cX7_init 15 = .ok (.newarray .int, 2) := by decide +kernel
theorem dX7_init_17 : decode cX7_init 17 = .ok (.putfield 15, 3) := by decide +kernel
theorem dX7_init_20 : decode cX7_init 20 = .ok (.aload_n 0, 1) := by decide +kernel
theorem dX7_init_21 : decode cX7_init 21 = .ok (.bipush 8, 2) := by decide +kernel
theorem dX7_init_23 : decode cX7_init 23 = .ok (.newarray .boolean, 2) := by decide +kernel
theorem dX7_init_25 : decode cX7_init 25 = .ok (.putfield 18, 3) := by decide +kernel
theorem dX7_init_28 : decode cX7_init 28 = .ok (.return_, 1) := by decide +kernel
theorem dX7_allows_0 : decode cX7_allows 0 = .ok (.iload_n 0, 1) := by decide +kernel
theorem dX7_allows_1 : decode cX7_allows 1 = .ok (.tableswitch 104 0 4 #[35, 51, 53, 70, 87], 35) := by decide +kernel
theorem dX7_allows_36 : decode cX7_allows 36 = .ok (.iload_n 1, 1) := by decide +kernel
theorem dX7_allows_37 : decode cX7_allows 37 = .ok (.ifCond .lt 13, 3) := by decide +kernel
theorem dX7_allows_40 : decode cX7_allows 40 = .ok (.iload_n 1, 1) := by decide +kernel
theorem dX7_allows_41 : decode cX7_allows 41 = .ok (.bipush 6, 2) := by decide +kernel
theorem dX7_allows_43 : decode cX7_allows 43 = .ok (.if_icmp .gt 7, 3) := by decide +kernel
theorem dX7_allows_46 : decode cX7_allows 46 = .ok (.iconst 1, 1) := by decide +kernel
theorem dX7_allows_47 : decode cX7_allows 47 = .ok (.goto 4, 3) := by decide +kernel
theorem dX7_allows_50 : decode cX7_allows 50 = .ok (.iconst 0, 1) := by decide +kernel
theorem dX7_allows_51 : decode cX7_allows 51 = .ok (.ireturn, 1) := by decide +kernel
theorem dX7_allows_52 : decode cX7_allows 52 = .ok (.iconst 1, 1) := by decide +kernel
theorem dX7_allows_53 : decode cX7_allows 53 = .ok (.ireturn, 1) := by decide +kernel
theorem dX7_allows_54 : decode cX7_allows 54 = .ok (.iload_n 1, 1) := by decide +kernel
theorem dX7_allows_55 : decode cX7_allows 55 = .ok (.iconst 1, 1) := by decide +kernel
theorem dX7_allows_56 : decode cX7_allows 56 = .ok (.if_icmp .lt 13, 3) := by decide +kernel
theorem dX7_allows_59 : decode cX7_allows 59 = .ok (.iload_n 1, 1) := by decide +kernel
theorem dX7_allows_60 : decode cX7_allows 60 = .ok (.bipush 64, 2) := by decide +kernel
theorem dX7_allows_62 : decode cX7_allows 62 = .ok (.if_icmp .gt 7, 3) := by decide +kernel
theorem dX7_allows_65 : decode cX7_allows 65 = .ok (.iconst 1, 1) := by decide +kernel
theorem dX7_allows_66 : decode cX7_allows 66 = .ok (.goto 4, 3) := by decide +kernel
theorem dX7_allows_69 : decode cX7_allows 69 = .ok (.iconst 0, 1) := by decide +kernel
theorem dX7_allows_70 : decode cX7_allows 70 = .ok (.ireturn, 1) := by decide +kernel
theorem dX7_allows_71 : decode cX7_allows 71 = .ok (.iload_n 1, 1) := by decide +kernel
theorem dX7_allows_72 : decode cX7_allows 72 = .ok (.iconst 1, 1) := by decide +kernel
theorem dX7_allows_73 : decode cX7_allows 73 = .ok (.if_icmp .lt 13, 3) := by decide +kernel
theorem dX7_allows_76 : decode cX7_allows 76 = .ok (.iload_n 1, 1) := by decide +kernel
theorem dX7_allows_77 : decode cX7_allows 77 = .ok (.bipush 15, 2) := by decide +kernel
theorem dX7_allows_79 : decode cX7_allows 79 = .ok (.if_icmp .gt 7, 3) := by decide +kernel
theorem dX7_allows_82 : decode cX7_allows 82 = .ok (.iconst 1, 1) := by decide +kernel
theorem dX7_allows_83 : decode cX7_allows 83 = .ok (.goto 4, 3) := by decide +kernel
theorem dX7_allows_86 : decode cX7_allows 86 = .ok (.iconst 0, 1) := by decide +kernel
theorem dX7_allows_87 : decode cX7_allows 87 = .ok (.ireturn, 1) := by decide +kernel
theorem dX7_allows_88 : decode cX7_allows 88 = .ok (.iload_n 1, 1) := by decide +kernel
theorem dX7_allows_89 : decode cX7_allows 89 = .ok (.iconst 3, 1) := by decide +kernel
theorem dX7_allows_90 : decode cX7_allows 90 = .ok (.if_icmp .lt 13, 3) := by decide +kernel
theorem dX7_allows_93 : decode cX7_allows 93 = .ok (.iload_n 1, 1) := by decide +kernel
theorem dX7_allows_94 : decode cX7_allows 94 = .ok (.bipush 8, 2) := by decide +kernel
theorem dX7_allows_96 : decode cX7_allows 96 = .ok (.if_icmp .gt 7, 3) := by decide +kernel
theorem dX7_allows_99 : decode cX7_allows 99 = .ok (.iconst 1, 1) := by decide +kernel
theorem dX7_allows_100 : decode cX7_allows 100 = .ok (.goto 4, 3) := by decide +kernel
theorem dX7_allows_103 : decode cX7_allows 103 = .ok (.iconst 0, 1) := by decide +kernel
theorem dX7_allows_104 : decode cX7_allows 104 = .ok (.ireturn, 1) := by decide +kernel
theorem dX7_allows_105 : decode cX7_allows 105 = .ok (.iconst 0, 1) := by decide +kernel
theorem dX7_allows_106 : decode cX7_allows 106 = .ok (.ireturn, 1) := by decide +kernel
theorem dX7_has_0 : decode cX7_has 0 = .ok (.iload_n 1, 1) := by decide +kernel
theorem dX7_has_1 : decode cX7_has 1 = .ok (.ifCond .lt 15, 3) := by decide +kernel
theorem dX7_has_4 : decode cX7_has 4 = .ok (.iload_n 1, 1) := by decide +kernel
theorem dX7_has_5 : decode cX7_has 5 = .ok (.aload_n 0, 1) := by decide +kernel
theorem dX7_has_6 : decode cX7_has 6 = .ok (.getfield 22, 3) := by decide +kernel
theorem dX7_has_9 : decode cX7_has 9 = .ok (.if_icmp .ge 7, 3) := by decide +kernel
theorem dX7_has_12 : decode cX7_has 12 = .ok (.iconst 1, 1) := by decide +kernel
theorem dX7_has_13 : decode cX7_has 13 = .ok (.goto 4, 3) := by decide +kernel
theorem dX7_has_16 : decode cX7_has 16 = .ok (.iconst 0, 1) := by decide +kernel
theorem dX7_has_17 : decode cX7_has 17 = .ok (.ireturn, 1) := by decide +kernel
theorem dX7_add_0 : decode cX7_add 0 = .ok (.aload_n 0, 1) := by decide +kernel
theorem dX7_add_1 : decode cX7_add 1 = .ok (.getfield 22, 3) := by decide +kernel
theorem dX7_add_4 : decode cX7_add 4 = .ok (.bipush 8, 2) := by decide +kernel
theorem dX7_add_6 : decode cX7_add 6 = .ok (.if_icmp .lt 6, 3) := by decide +kernel
theorem dX7_add_9 : decode cX7_add 9 = .ok (.bipush (-3), 2) := by decide +kernel
theorem dX7_add_11 : decode cX7_add 11 = .ok (.ireturn, 1) := by decide +kernel
theorem dX7_add_12 : decode cX7_add 12 = .ok (.aload_n 0, 1) := by decide +kernel
theorem dX7_add_13 : decode cX7_add 13 = .ok (.getfield 9, 3) := by decide +kernel
theorem dX7_add_16 : decode cX7_add 16 = .ok (.aload_n 0, 1) := by decide +kernel
theorem dX7_add_17 : decode cX7_add 17 = .ok (.getfield 22, 3) := by decide +kernel
theorem dX7_add_20 : decode cX7_add 20 = .ok (.iload_n 1, 1) := by decide +kernel
theorem dX7_add_21 : decode cX7_add 21 = .ok (.iastore, 1) := by decide +kernel
theorem dX7_add_22 : decode cX7_add 22 = .ok (.aload_n 0, 1) := by decide +kernel
theorem dX7_add_23 : decode cX7_add 23 = .ok (.getfield 15, 3) := by decide +kernel
theorem dX7_add_26 : decode cX7_add 26 = .ok (.aload_n 0, 1) := by decide +kernel
theorem dX7_add_27 : decode cX7_add 27 = .ok (.getfield 22, 3) := by decide +kernel
theorem dX7_add_30 : decode cX7_add 30 = .ok (.iload_n 2, 1) := by decide +kernel
theorem dX7_add_31 : decode cX7_add 31 = .ok (.iastore, 1) := by decide +kernel
theorem dX7_add_32 : decode cX7_add 32 = .ok (.aload_n 0, 1) := by decide +kernel
theorem dX7_add_33 : decode cX7_add 33 = .ok (.dup, 1) := by decide +kernel
theorem dX7_add_34 : decode cX7_add 34 = .ok (.getfield 22, 3) := by decide +kernel
theorem dX7_add_37 : decode cX7_add 37 = .ok (.iconst 1, 1) := by decide +kernel
theorem dX7_add_38 : decode cX7_add 38 = .ok (.iadd, 1) := by decide +kernel
theorem dX7_add_39 : decode cX7_add 39 = .ok (.putfield 22, 3) := by decide +kernel
theorem dX7_add_42 : decode cX7_add 42 = .ok (.aload_n 0, 1) := by decide +kernel
theorem dX7_add_43 : decode cX7_add 43 = .ok (.getfield 22, 3) := by decide +kernel
theorem dX7_add_46 : decode cX7_add 46 = .ok (.iconst 1, 1) := by decide +kernel
theorem dX7_add_47 : decode cX7_add 47 = .ok (.isub, 1) := by decide +kernel
theorem dX7_add_48 : decode cX7_add 48 = .ok (.ireturn, 1) := by decide +kernel
theorem dX7_turnOff_0 : decode cX7_turnOff 0 = .ok (.aload_n 0, 1) := by decide +kernel
theorem dX7_turnOff_1 : decode cX7_turnOff 1 = .ok (.iload_n 1, 1) := by decide +kernel
theorem dX7_turnOff_2 : decode cX7_turnOff 2 = .ok (.invokevirtual 26, 3) := by decide +kernel
theorem dX7_turnOff_5 : decode cX7_turnOff 5 = .ok (.ifCond .eq 12, 3) := by decide +kernel
theorem dX7_turnOff_8 : decode cX7_turnOff 8 = .ok (.aload_n 0, 1) := by decide +kernel
theorem dX7_turnOff_9 : decode cX7_turnOff 9 = .ok (.getfield 18, 3) := by decide +kernel
theorem dX7_turnOff_12 : decode cX7_turnOff 12 = .ok (.iload_n 1, 1) := by decide +kernel
theorem dX7_turnOff_13 : decode cX7_turnOff 13 = .ok (.baload, 1) := by decide +kernel
theorem dX7_turnOff_14 : decode cX7_turnOff 14 = .ok (.ifCond .eq 5, 3) := by decide +kernel
theorem dX7_turnOff_17 : decode cX7_turnOff 17 = .ok (.iconst 0, 1) := by decide +kernel
theorem dX7_turnOff_18 : decode cX7_turnOff 18 = .ok (.ireturn, 1) := by decide +kernel
theorem dX7_turnOff_19 : decode cX7_turnOff 19 = .ok (.aload_n 0, 1) := by decide +kernel
theorem dX7_turnOff_20 : decode cX7_turnOff 20 = .ok (.getfield 18, 3) := by decide +kernel
theorem dX7_turnOff_23 : decode cX7_turnOff 23 = .ok (.iload_n 1, 1) := by decide +kernel
theorem dX7_turnOff_24 : decode cX7_turnOff 24 = .ok (.iconst 1, 1) := by decide +kernel
theorem dX7_turnOff_25 : decode cX7_turnOff 25 = .ok (.bastore, 1) := by decide +kernel
theorem dX7_turnOff_26 : decode cX7_turnOff 26 = .ok (.iconst 1, 1) := by decide +kernel
theorem dX7_turnOff_27 : decode cX7_turnOff 27 = .ok (.ireturn, 1) := by decide +kernel
theorem dX8_init_0 : decode cX8_init 0 = .ok (.aload_n 0, 1) := by decide +kernel
theorem dX8_init_1 : decode cX8_init 1 = .ok (.invokespecial 3, 3) := by decide +kernel
theorem dX8_init_4 : decode cX8_init 4 = .ok (.aload_n 0, 1) := by decide +kernel
theorem dX8_init_5 : decode cX8_init 5 = .ok (.new 9, 3) := by decide +kernel
theorem dX8_init_8 : decode cX8_init 8 = .ok (.dup, 1) := by decide +kernel
theorem dX8_init_9 : decode cX8_init 9 = .ok (.invokespecial 11, 3) := by decide +kernel
theorem dX8_init_12 : decode cX8_init 12 = .ok (.putfield 12, 3) := by decide +kernel
theorem dX8_init_15 : decode cX8_init 15 = .ok (.aload_n 0, 1) := by decide +kernel
theorem dX8_init_16 : decode cX8_init 16 = .ok (.new 18, 3) := by decide +kernel
theorem dX8_init_19 : decode cX8_init 19 = .ok (.dup, 1) := by decide +kernel
theorem dX8_init_20 : decode cX8_init 20 = .ok (.invokespecial 20, 3) := by decide +kernel
theorem dX8_init_23 : decode cX8_init 23 = .ok (.putfield 21, 3) := by decide +kernel
theorem dX8_init_26 : decode cX8_init 26 = .ok (.aload_n 0, 1) := by decide +kernel
theorem dX8_init_27 : decode cX8_init 27 = .ok (.new 18, 3) := by decide +kernel
theorem dX8_init_30 : decode cX8_init 30 = .ok (.dup, 1) := by decide +kernel
theorem dX8_init_31 : decode cX8_init 31 = .ok (.invokespecial 20, 3) := by decide +kernel
theorem dX8_init_34 : decode cX8_init 34 = .ok (.putfield 25, 3) := by decide +kernel
theorem dX8_init_37 : decode cX8_init 37 = .ok (.aload_n 0, 1) := by decide +kernel
theorem dX8_init_38 : decode cX8_init 38 = .ok (.new 28, 3) := by decide +kernel
theorem dX8_init_41 : decode cX8_init 41 = .ok (.dup, 1) := by decide +kernel
theorem dX8_init_42 : decode cX8_init 42 = .ok (.invokespecial 30, 3) := by decide +kernel
theorem dX8_init_45 : decode cX8_init 45 = .ok (.putfield 31, 3) := by decide +kernel
theorem dX8_init_48 : decode cX8_init 48 = .ok (.aload_n 0, 1) := by decide +kernel
theorem dX8_init_49 : decode cX8_init 49 = .ok (.bipush 8, 2) := by decide +kernel
theorem dX8_init_51 : decode cX8_init 51 = .ok (.anewarray 35, 3) := by decide +kernel
theorem dX8_init_54 : decode cX8_init 54 = .ok (.putfield 37, 3) := by decide +kernel
theorem dX8_init_57 : decode cX8_init 57 = .ok (.aload_n 0, 1) := by decide +kernel
theorem dX8_init_58 : decode cX8_init 58 = .ok (.bipush 8, 2) := by decide +kernel
theorem dX8_init_60 : decode cX8_init 60 = .ok (.newarray .int, 2) := by decide +kernel
theorem dX8_init_62 : decode cX8_init 62 = .ok (.putfield 41, 3) := by decide +kernel
theorem dX8_init_65 : decode cX8_init 65 = .ok (.aload_n 0, 1) := by decide +kernel
theorem dX8_init_66 : decode cX8_init 66 = .ok (.bipush 9, 2) := by decide +kernel
theorem dX8_init_68 : decode cX8_init 68 = .ok (.newarray .int, 2) := by decide +kernel
theorem dX8_init_70 : decode cX8_init 70 = .ok (.putfield 45, 3) := by decide +kernel
theorem dX8_init_73 : decode cX8_init 73 = .ok (.aload_n 0, 1) := by decide +kernel
theorem dX8_init_74 : decode cX8_init 74 = .ok (.aload_n 2, 1) := by decide +kernel
theorem dX8_init_75 : decode cX8_init 75 = .ok (.putfield 48, 3) := by decide +kernel
theorem dX8_init_78 : decode cX8_init 78 = .ok (.aload_n 0, 1) := by decide +kernel
theorem dX8_init_79 : decode cX8_init 79 = .ok (.aload_n 3, 1) := by decide +kernel
theorem dX8_init_80 : decode cX8_init 80 = .ok (.putfield 52, 3) := by decide +kernel
theorem dX8_init_83 : decode cX8_init 83 = .ok (.aload_n 0, 1) := by decide +kernel
theorem dX8_init_84 : decode cX8_init 84 = .ok (.new 56, 3) := by decide +kernel
theorem dX8_init_87 : decode cX8_init 87 = .ok (.dup, 1) := by decide +kernel
theorem dX8_init_88 : decode cX8_init 88 = .ok (.iload_n 1, 1) := by decide +kernel
theorem dX8_init_89 : decode cX8_init 89 = .ok (.invokespecial 58, 3) := by decide +kernel
theorem dX8_init_92 : decode cX8_init 92 = .ok (.putfield 61, 3) := by decide +kernel
theorem dX8_init_95 : decode cX8_init 95 = .ok (.aload_n 0, 1) := by decide +kernel
theorem dX8_init_96 : decode cX8_init 96 = .ok (.getfield 45, 3) := by decide +kernel
theorem dX8_init_99 : decode cX8_init 99 = .ok (.bipush 8, 2) := by decide +kernel
theorem dX8_init_101 : decode cX8_init 101 = .ok (.sipush 256, 3) := by decide +kernel
theorem dX8_init_104 : decode cX8_init 104 = .ok (.iastore, 1) := by decide +kernel
theorem dX8_init_105 : decode cX8_init 105 = .ok (.iconst 0, 1) := by decide +kernel
theorem dX8_init_106 : decode cX8_init 106 = .ok (.istore 4, 2) := by decide +kernel
theorem dX8_init_108 : decode cX8_init 108 = .ok (.iload 4, 2) := by decide +kernel
theorem dX8_init_110 : decode cX8_init 110 = .ok (.aload_n 0, 1) := by decide +kernel
theorem dX8_init_111 : decode cX8_init 111 = .ok (.getfield 37, 3) := by decide +kernel
theorem dX8_init_114 : decode cX8_init 114 = .ok (.arraylength, 1) := by decide +kernel
theorem dX8_init_115 : decode cX8_init 115 = .ok (.if_icmp .ge 23, 3) := by decide +kernel
theorem dX8_init_118 : decode cX8_init 118 = .ok (.aload_n 0, 1) := by decide +kernel
theorem dX8_init_119 : decode cX8_init 119 = .ok (.getfield 37, 3) := by decide +kernel
theorem dX8_init_122 : decode cX8_init 122 = .ok (.iload 4, 2) := by decide +kernel
theorem dX8_init_124 : decode cX8_init 124 = .ok (.new 35, 3) := by decide +kernel
theorem dX8_init_127 : decode cX8_init 127 = .ok (.dup, 1) := by decide +kernel
theorem dX8_init_128 : decode cX8_init 128 = .ok (.invokespecial 65, 3) := by decide +kernel
theorem dX8_init_131 : decode cX8_init 131 = .ok (.aastore, 1) := by decide +kernel
theorem dX8_init_132 : decode cX8_init 132 = .ok (.iinc 4 1, 3) := by decide +kernel
theorem dX8_init_135 : decode cX8_init 135 = .ok (.goto (-27), 3) := by decide +kernel
theorem dX8_init_138 : decode cX8_init 138 = .ok (.return_, 1) := by decide +kernel
theorem dX8_reset_0 : decode cX8_reset 0 = .ok (.aload_n 0, 1) := by decide +kernel
theorem dX8_reset_1 : decode cX8_reset 1 = .ok (.getfield 12, 3) := by decide +kernel
theorem dX8_reset_4 : decode cX8_reset 4 = .ok (.invokevirtual 66, 3) := by decide +kernel
theorem dX8_reset_7 : decode cX8_reset 7 = .ok (.aload_n 0, 1) := by decide +kernel
theorem dX8_reset_8 : decode cX8_reset 8 = .ok (.getfield 61, 3) := by decide +kernel
theorem dX8_reset_11 : decode cX8_reset 11 = .ok (.invokevirtual 69, 3) := by decide +kernel
theorem dX8_reset_14 : decode cX8_reset 14 = .ok (.aload_n 0, 1) := by decide +kernel
theorem dX8_reset_15 : decode cX8_reset 15 = .ok (.getfield 21, 3) := by decide +kernel
theorem dX8_reset_18 : decode cX8_reset 18 = .ok (.invokevirtual 70, 3) := by decide +kernel
theorem dX8_reset_21 : decode cX8_reset 21 = .ok (.aload_n 0, 1) := by decide +kernel
theorem dX8_reset_22 : decode cX8_reset 22 = .ok (.getfield 25, 3) := by decide +kernel
theorem dX8_reset_25 : decode cX8_reset 25 = .ok (.invokevirtual 70, 3) := by decide +kernel
theorem dX8_reset_28 : decode cX8_reset 28 = .ok (.aload_n 0, 1) := by decide +kernel
theorem dX8_reset_29 : decode cX8_reset 29 = .ok (.getfield 31, 3) := by decide +kernel
theorem dX8_reset_32 : decode cX8_reset 32 = .ok (.invokevirtual 71, 3) := by decide +kernel
theorem dX8_reset_35 : decode cX8_reset 35 = .ok (.iconst 0, 1) := by decide +kernel
theorem dX8_reset_36 : decode cX8_reset 36 = .ok (.istore_n 1, 1) := by decide +kernel
theorem dX8_reset_37 : decode cX8_reset 37 = .ok (.iload_n 1, 1) := by decide +kernel
theorem dX8_reset_38 : decode cX8_reset 38 = .ok (.aload_n 0, 1) := by decide +kernel
theorem dX8_reset_39 : decode cX8_reset 39 = .ok (.getfield 37, 3) := by decide +kernel
theorem dX8_reset_42 : decode cX8_reset 42 = .ok (.arraylength, 1) := by decide +kernel
theorem dX8_reset_43 : decode cX8_reset 43 = .ok (.if_icmp .ge 19, 3) := by decide +kernel
theorem dX8_reset_46 : decode cX8_reset 46 = .ok (.aload_n 0, 1) := by decide +kernel
theorem dX8_reset_47 : decode cX8_reset 47 = .ok (.getfield 37, 3) := by decide +kernel
theorem dX8_reset_50 : decode cX8_reset 50 = .ok (.iload_n 1, 1) := by decide +kernel
theorem dX8_reset_51 : decode cX8_reset 51 = .ok (.aaload, 1) := by decide +kernel
theorem dX8_reset_52 : decode cX8_reset 52 = .ok (.iconst 0, 1) := by decide +kernel
theorem dX8_reset_53 : decode cX8_reset 53 = .ok (.putfield 72, 3) := by decide +kernel
theorem dX8_reset_56 : decode cX8_reset 56 = .ok (.iinc 1 1, 3) := by decide +kernel
theorem dX8_reset_59 : decode cX8_reset 59 = .ok (.goto (-22), 3) := by decide +kernel
theorem dX8_reset_62 : decode cX8_reset 62 = .ok (.aload_n 0, 1) := by decide +kernel
theorem dX8_reset_63 : decode cX8_reset 63 = .ok (.invokevirtual 76, 3) := by decide +kernel
theorem dX8_reset_66 : decode cX8_reset 66 = .ok (.return_, 1) := by decide +kernel
theorem dX8_beginByte_0 : decode cX8_beginByte 0 = .ok (.iconst 0, 1) := by decide +kernel
theorem dX8_beginByte_1 : decode cX8_beginByte 1 = .ok (.istore_n 1, 1) := by decide +kernel
theorem dX8_beginByte_2 : decode cX8_beginByte 2 = .ok (.iload_n 1, 1) := by decide +kernel
theorem dX8_beginByte_3 : decode cX8_beginByte 3 = .ok (.aload_n 0, 1) := by decide +kernel
theorem dX8_beginByte_4 : decode cX8_beginByte 4 = .ok (.getfield 48, 3) := by decide +kernel
theorem dX8_beginByte_7 : decode cX8_beginByte 7 = .ok (.getfield 79, 3) := by decide +kernel
theorem dX8_beginByte_10 : decode cX8_beginByte 10 = .ok (.if_icmp .ge 79, 3) := by decide +kernel
theorem dX8_beginByte_13 : decode cX8_beginByte 13 = .ok (.aload_n 0, 1) := by decide +kernel
theorem dX8_beginByte_14 : decode cX8_beginByte 14 = .ok (.getfield 48, 3) := by decide +kernel
theorem dX8_beginByte_17 : decode cX8_beginByte 17 = .ok (.getfield 84, 3) := by decide +kernel
theorem dX8_beginByte_20 : decode cX8_beginByte 20 = .ok (.iload_n 1, 1) := by decide +kernel
theorem dX8_beginByte_21 : decode cX8_beginByte 21 = .ok (.iaload, 1) := by decide +kernel
theorem dX8_beginByte_22 : decode cX8_beginByte 22 = .ok (.istore_n 2, 1) := by decide +kernel
theorem dX8_beginByte_23 : decode cX8_beginByte 23 = .ok (.aload_n 0, 1) := by decide +kernel
theorem dX8_beginByte_24 : decode cX8_beginByte 24 = .ok (.getfield 48, 3) := by decide +kernel
theorem dX8_beginByte_27 : decode cX8_beginByte 27 = .ok (.getfield 87, 3) := by decide +kernel
theorem dX8_beginByte_30 : decode cX8_beginByte 30 = .ok (.iload_n 1, 1) := by decide +kernel
theorem dX8_beginByte_31 : decode cX8_beginByte 31 = .ok (.iaload, 1) := by decide +kernel
theorem dX8_beginByte_32 : decode cX8_beginByte 32 = .ok (.istore_n 3, 1) := by decide +kernel
theorem dX8_beginByte_33 : decode cX8_beginByte 33 = .ok (.iload_n 2, 1) := by decide +kernel
theorem dX8_beginByte_34 : decode cX8_beginByte 34 = .ok (.iconst 4, 1) := by decide +kernel
theorem dX8_beginByte_35 : decode cX8_beginByte 35 = .ok (.if_icmp .ne 33, 3) := by decide +kernel
theorem dX8_beginByte_38 : decode cX8_beginByte 38 = .ok (.aload_n 0, 1) := by decide +kernel
theorem dX8_beginByte_39 : decode cX8_beginByte 39 = .ok (.getfield 37, 3) := by decide +kernel
theorem dX8_beginByte_42 : decode cX8_beginByte 42 = .ok (.iload_n 1, 1) := by decide +kernel
theorem dX8_beginByte_43 : decode cX8_beginByte 43 = .ok (.aaload, 1) := by decide +kernel
theorem dX8_beginByte_44 : decode cX8_beginByte 44 = .ok (.aload_n 0, 1) := by decide +kernel
theorem dX8_beginByte_45 : decode cX8_beginByte 45 = .ok (.getfield 12, 3) := by decide +kernel
theorem dX8_beginByte_48 : decode cX8_beginByte 48 = .ok (.invokevirtual 90, 3) := by decide +kernel
theorem dX8_beginByte_51 : decode cX8_beginByte 51 = .ok (.aload_n 0, 1) := by decide +kernel
theorem dX8_beginByte_52 : decode cX8_beginByte 52 = .ok (.getfield 37, 3) := by decide +kernel
theorem dX8_beginByte_55 : decode cX8_beginByte 55 = .ok (.iload_n 1, 1) := by decide +kernel
theorem dX8_beginByte_56 : decode cX8_beginByte 56 = .ok (.aaload, 1) := by decide +kernel
theorem dX8_beginByte_57 : decode cX8_beginByte 57 = .ok (.aload_n 0, 1) := by decide +kernel
theorem dX8_beginByte_58 : decode cX8_beginByte 58 = .ok (.getfield 12, 3) := by decide +kernel
theorem dX8_beginByte_61 : decode cX8_beginByte 61 = .ok (.iload_n 3, 1) := by decide +kernel
theorem dX8_beginByte_62 : decode cX8_beginByte 62 = .ok (.invokevirtual 94, 3) := by decide +kernel
theorem dX8_beginByte_65 : decode cX8_beginByte 65 = .ok (.goto 18, 3) := by decide +kernel
theorem dX8_beginByte_68 : decode cX8_beginByte 68 = .ok (.aload_n 0, 1) := by decide +kernel
theorem dX8_beginByte_69 : decode cX8_beginByte 69 = .ok (.getfield 41, 3) := by decide +kernel
theorem dX8_beginByte_72 : decode cX8_beginByte 72 = .ok (.iload_n 1, 1) := by decide +kernel
theorem dX8_beginByte_73 : decode cX8_beginByte 73 = .ok (.aload_n 0, 1) := by decide +kernel
theorem dX8_beginByte_74 : decode cX8_beginByte 74 = .ok (.getfield 12, 3) := by decide +kernel
theorem dX8_beginByte_77 : decode cX8_beginByte 77 = .ok (.iload_n 2, 1) := by decide +kernel
theorem dX8_beginByte_78 : decode cX8_beginByte 78 = .ok (.iload_n 3, 1) := by decide +kernel
theorem dX8_beginByte_79 : decode cX8_beginByte 79 = .ok (.invokevirtual 98, 3) := by decide +kernel
theorem dX8_beginByte_82 : decode cX8_beginByte 82 = .ok (.iastore, 1) := by decide +kernel
theorem dX8_beginByte_83 : decode cX8_beginByte 83 = .ok (.iinc 1 1, 3) := by decide +kernel
theorem dX8_beginByte_86 : decode cX8_beginByte 86 = .ok (.goto (-84), 3) := by decide +kernel
theorem dX8_beginByte_89 : decode cX8_beginByte 89 = .ok (.return_, 1) := by decide +kernel
theorem dX8_inputOf_0 : decode cX8_inputOf 0 = .ok (.aload_n 0, 1) := by decide +kernel
theorem dX8_inputOf_1 : decode cX8_inputOf 1 = .ok (.getfield 48, 3) := by decide +kernel
theorem dX8_inputOf_4 : decode cX8_inputOf 4 = .ok (.iload_n 1, 1) := by decide +kernel
theorem dX8_inputOf_5 : decode cX8_inputOf 5 = .ok (.invokevirtual 102, 3) := by decide +kernel
theorem dX8_inputOf_8 : decode cX8_inputOf 8 = .ok (.ifCond .eq 15, 3) := by decide +kernel
theorem dX8_inputOf_11 : decode cX8_inputOf 11 = .ok (.aload_n 0, 1) := by decide +kernel
theorem dX8_inputOf_12 : decode cX8_inputOf 12 = .ok (.getfield 48, 3) := by decide +kernel
theorem dX8_inputOf_15 : decode cX8_inputOf 15 = .ok (.getfield 106, 3) := by decide +kernel
theorem dX8_inputOf_18 : decode cX8_inputOf 18 = .ok (.iload_n 1, 1) := by decide +kernel
theorem dX8_inputOf_19 : decode cX8_inputOf 19 = .ok (.baload, 1) := by decide +kernel
theorem dX8_inputOf_20 : decode cX8_inputOf 20 = .ok (.ifCond .eq 5, 3) := by decide +kernel
theorem dX8_inputOf_23 : decode cX8_inputOf 23 = .ok (.iconst 0, 1) := by decide +kernel
theorem dX8_inputOf_24 : decode cX8_inputOf 24 = .ok (.ireturn, 1) := by decide +kernel
theorem dX8_inputOf_25 : decode cX8_inputOf 25 = .ok (.aload_n 0, 1) := by decide +kernel
theorem dX8_inputOf_26 : decode cX8_inputOf 26 = .ok (.getfield 48, 3) := by decide +kernel
theorem dX8_inputOf_29 : decode cX8_inputOf 29 = .ok (.getfield 84, 3) := by decide +kernel
theorem dX8_inputOf_32 : decode cX8_inputOf 32 = .ok (.iload_n 1, 1) := by decide +kernel
theorem dX8_inputOf_33 : decode cX8_inputOf 33 = .ok (.iaload, 1) := by decide +kernel
theorem dX8_inputOf_34 : decode cX8_inputOf 34 = .ok (.iconst 4, 1) := by decide +kernel
theorem dX8_inputOf_35 : decode cX8_inputOf 35 = .ok (.if_icmp .ne 17, 3) := by decide +kernel
theorem dX8_inputOf_38 : decode cX8_inputOf 38 = .ok (.aload_n 0, 1) := by decide +kernel
theorem dX8_inputOf_39 : decode cX8_inputOf 39 = .ok (.getfield 37, 3) := by decide +kernel
theorem dX8_inputOf_42 : decode cX8_inputOf 42 = .ok (.iload_n 1, 1) := by decide +kernel
theorem dX8_inputOf_43 : decode cX8_inputOf 43 = .ok (.aaload, 1) := by decide +kernel
theorem dX8_inputOf_44 : decode cX8_inputOf 44 = .ok (.aload_n 0, 1) := by decide +kernel
theorem dX8_inputOf_45 : decode cX8_inputOf 45 = .ok (.getfield 12, 3) := by decide +kernel
theorem dX8_inputOf_48 : decode cX8_inputOf 48 = .ok (.invokevirtual 110, 3) := by decide +kernel
theorem dX8_inputOf_51 : decode cX8_inputOf 51 = .ok (.ireturn, 1) := by decide +kernel
theorem dX8_inputOf_52 : decode cX8_inputOf 52 = .ok (.aload_n 0, 1) := by decide +kernel
theorem dX8_inputOf_53 : decode cX8_inputOf 53 = .ok (.getfield 52, 3) := by decide +kernel
theorem dX8_inputOf_56 : decode cX8_inputOf 56 = .ok (.aload_n 0, 1) := by decide +kernel
theorem dX8_inputOf_57 : decode cX8_inputOf 57 = .ok (.getfield 61, 3) := by decide +kernel
theorem dX8_inputOf_60 : decode cX8_inputOf 60 = .ok (.getfield 114, 3) := by decide +kernel
theorem dX8_inputOf_63 : decode cX8_inputOf 63 = .ok (.aload_n 0, 1) := by decide +kernel
theorem dX8_inputOf_64 : decode cX8_inputOf 64 = .ok (.getfield 61, 3) := by decide +kernel
theorem dX8_inputOf_67 : decode cX8_inputOf 67 = .ok (.aload_n 0, 1) := by decide +kernel
theorem dX8_inputOf_68 : decode cX8_inputOf 68 = .ok (.getfield 41, 3) := by decide +kernel
theorem dX8_inputOf_71 : decode cX8_inputOf 71 = .ok (.iload_n 1, 1) := by decide +kernel
theorem dX8_inputOf_72 : decode cX8_inputOf 72 = .ok (.iaload, 1) := by decide +kernel
theorem dX8_inputOf_73 : decode cX8_inputOf 73 = .ok (.aload_n 0, 1) := by decide +kernel
theorem dX8_inputOf_74 : decode cX8_inputOf 74 = .ok (.getfield 12, 3) := by decide +kernel
theorem dX8_inputOf_77 : decode cX8_inputOf 77 = .ok (.getfield 117, 3) := by decide +kernel
theorem dX8_inputOf_80 : decode cX8_inputOf 80 = .ok (.invokevirtual 120, 3) := by decide +kernel
theorem dX8_inputOf_83 : decode cX8_inputOf 83 = .ok (.iaload, 1) := by decide +kernel
theorem dX8_inputOf_84 : decode cX8_inputOf 84 = .ok (.iconst 4, 1) := by decide +kernel
theorem dX8_inputOf_85 : decode cX8_inputOf 85 = .ok (.ishr, 1) := by decide +kernel
theorem dX8_inputOf_86 : decode cX8_inputOf 86 = .ok (.invokevirtual 123, 3) := by decide +kernel
theorem dX8_inputOf_89 : decode cX8_inputOf 89 = .ok (.ireturn, 1) := by decide +kernel
theorem dX8_foretell_0 : decode cX8_foretell 0 = .ok (.iconst 0, 1) := by decide +kernel
theorem dX8_foretell_1 : decode cX8_foretell 1 = .ok (.istore_n 1, 1) := by decide +kernel
theorem dX8_foretell_2 : decode cX8_foretell 2 = .ok (.iload_n 1, 1) := by decide +kernel
theorem dX8_foretell_3 : decode cX8_foretell 3 = .ok (.aload_n 0, 1) := by decide +kernel
theorem dX8_foretell_4 : decode cX8_foretell 4 = .ok (.getfield 48, 3) := by decide +kernel
theorem dX8_foretell_7 : decode cX8_foretell 7 = .ok (.getfield 79, 3) := by decide +kernel
theorem dX8_foretell_10 : decode cX8_foretell 10 = .ok (.if_icmp .ge 20, 3) := by decide +kernel
theorem dX8_foretell_13 : decode cX8_foretell 13 = .ok (.aload_n 0, 1) := by decide +kernel
theorem dX8_foretell_14 : decode cX8_foretell 14 = .ok (.getfield 45, 3) := by decide +kernel
theorem dX8_foretell_17 : decode cX8_foretell 17 = .ok (.iload_n 1, 1) := by decide +kernel
theorem dX8_foretell_18 : decode cX8_foretell 18 = .ok (.aload_n 0, 1) := by decide +kernel
theorem dX8_foretell_19 : decode cX8_foretell 19 = .ok (.iload_n 1, 1) := by decide +kernel
theorem dX8_foretell_20 : decode cX8_foretell 20 = .ok (.invokevirtual 129, 3) := by decide +kernel
theorem dX8_foretell_23 : decode cX8_foretell 23 = .ok (.iastore, 1) := by decide +kernel
theorem dX8_foretell_24 : decode cX8_foretell 24 = .ok (.iinc 1 1, 3) := by decide +kernel
theorem dX8_foretell_27 : decode cX8_foretell 27 = .ok (.goto (-25), 3) := by decide +kernel
theorem dX8_foretell_30 : decode cX8_foretell 30 = .ok (.aload_n 0, 1) := by decide +kernel
theorem dX8_foretell_31 : decode cX8_foretell 31 = .ok (.getfield 21, 3) := by decide +kernel
theorem dX8_foretell_34 : decode cX8_foretell 34 = .ok (.aload_n 0, 1) := by decide +kernel
theorem dX8_foretell_35 : decode cX8_foretell 35 = .ok (.getfield 12, 3) := by decide +kernel
theorem dX8_foretell_38 : decode cX8_foretell 38 = .ok (.getfield 117, 3) := by decide +kernel
theorem dX8_foretell_41 : decode cX8_foretell 41 = .ok (.aload_n 0, 1) := by decide +kernel
theorem dX8_foretell_42 : decode cX8_foretell 42 = .ok (.getfield 45, 3) := by decide +kernel
theorem dX8_foretell_45 : decode cX8_foretell 45 = .ok (.invokevirtual 132, 3) := by decide +kernel
theorem dX8_foretell_48 : decode cX8_foretell 48 = .ok (.aload_n 0, 1) := by decide +kernel
theorem dX8_foretell_49 : decode cX8_foretell 49 = .ok (.getfield 25, 3) := by decide +kernel
theorem dX8_foretell_52 : decode cX8_foretell 52 = .ok (.aload_n 0, 1) := by decide +kernel
theorem dX8_foretell_53 : decode cX8_foretell 53 = .ok (.getfield 12, 3) := by decide +kernel
theorem dX8_foretell_56 : decode cX8_foretell 56 = .ok (.iconst 1, 1) := by decide +kernel
theorem dX8_foretell_57 : decode cX8_foretell 57 = .ok (.invokevirtual 136, 3) := by decide +kernel
theorem dX8_foretell_60 : decode cX8_foretell 60 = .ok (.aload_n 0, 1) := by decide +kernel
theorem dX8_foretell_61 : decode cX8_foretell 61 = .ok (.getfield 45, 3) := by decide +kernel
theorem dX8_foretell_64 : decode cX8_foretell 64 = .ok (.invokevirtual 132, 3) := by decide +kernel
theorem dX8_foretell_67 : decode cX8_foretell 67 = .ok (.iadd, 1) := by decide +kernel
theorem dX8_foretell_68 : decode cX8_foretell 68 = .ok (.istore_n 1, 1) := by decide +kernel
theorem dX8_foretell_69 : decode cX8_foretell 69 = .ok (.iload_n 1, 1) := by decide +kernel
theorem dX8_foretell_70 : decode cX8_foretell 70 = .ok (.iconst 1, 1) := by decide +kernel
theorem dX8_foretell_71 : decode cX8_foretell 71 = .ok (.iadd, 1) := by decide +kernel
theorem dX8_foretell_72 : decode cX8_foretell 72 = .ok (.iconst 1, 1) := by decide +kernel
theorem dX8_foretell_73 : decode cX8_foretell 73 = .ok (.ishr, 1) := by decide +kernel
theorem dX8_foretell_74 : decode cX8_foretell 74 = .ok (.istore_n 2, 1) := by decide +kernel
theorem dX8_foretell_75 : decode cX8_foretell 75 = .ok (.aload_n 0, 1) := by decide +kernel
theorem dX8_foretell_76 : decode cX8_foretell 76 = .ok (.getfield 31, 3) := by decide +kernel
theorem dX8_foretell_79 : decode cX8_foretell 79 = .ok (.aload_n 0, 1) := by decide +kernel
theorem dX8_foretell_80 : decode cX8_foretell 80 = .ok (.getfield 12, 3) := by decide +kernel
theorem dX8_foretell_83 : decode cX8_foretell 83 = .ok (.getfield 117, 3) := by decide +kernel
theorem dX8_foretell_86 : decode cX8_foretell 86 = .ok (.aload_n 0, 1) := by decide +kernel
theorem dX8_foretell_87 : decode cX8_foretell 87 = .ok (.getfield 52, 3) := by decide +kernel
theorem dX8_foretell_90 : decode cX8_foretell 90 = .ok (.iload_n 2, 1) := by decide +kernel
theorem dX8_foretell_91 : decode cX8_foretell 91 = .ok (.invokevirtual 123, 3) := by decide +kernel
theorem dX8_foretell_94 : decode cX8_foretell 94 = .ok (.invokevirtual 139, 3) := by decide +kernel
theorem dX8_foretell_97 : decode cX8_foretell 97 = .ok (.istore_n 3, 1) := by decide +kernel
theorem dX8_foretell_98 : decode cX8_foretell 98 = .ok (.iload_n 2, 1) := by decide +kernel
theorem dX8_foretell_99 : decode cX8_foretell 99 = .ok (.iconst 3, 1) := by decide +kernel
theorem dX8_foretell_100 : decode cX8_foretell 100 = .ok (.iload_n 3, 1) := by decide +kernel
theorem dX8_foretell_101 : decode cX8_foretell 101 = .ok (.imul, 1) := by decide +kernel
theorem dX8_foretell_102 : decode cX8_foretell 102 = .ok (.iadd, 1) := by decide +kernel
theorem dX8_foretell_103 : decode cX8_foretell 103 = .ok (.iconst 2, 1) := by decide +kernel
theorem dX8_foretell_104 : decode cX8_foretell 104 = .ok (.iadd, 1) := by decide +kernel
theorem dX8_foretell_105 : decode cX8_foretell 105 = .ok (.iconst 2, 1) := by decide +kernel
theorem dX8_foretell_106 : decode cX8_foretell 106 = .ok (.ishr, 1) := by decide +kernel
theorem dX8_foretell_107 : decode cX8_foretell 107 = .ok (.iconst 1, 1) := by decide +kernel
theorem dX8_foretell_108 : decode cX8_foretell 108 = .ok (.sipush 4095, 3) := by decide +kernel
theorem dX8_foretell_111 : decode cX8_foretell 111 = .ok (.invokestatic 142, 3) := by decide +kernel
theorem dX8_foretell_114 : decode cX8_foretell 114 = .ok (.ireturn, 1) := by decide +kernel
theorem dX8_learn_0 : decode cX8_learn 0 = .ok (.aload_n 0, 1) := by decide +kernel
theorem dX8_learn_1 : decode cX8_learn 1 = .ok (.getfield 21, 3) := by decide +kernel
theorem dX8_learn_4 : decode cX8_learn 4 = .ok (.iload_n 1, 1) := by decide +kernel
theorem dX8_learn_5 : decode cX8_learn 5 = .ok (.aload_n 0, 1) := by decide +kernel
theorem dX8_learn_6 : decode cX8_learn 6 = .ok (.getfield 45, 3) := by decide +kernel
theorem dX8_learn_9 : decode cX8_learn 9 = .ok (.invokevirtual 146, 3) := by decide +kernel
theorem dX8_learn_12 : decode cX8_learn 12 = .ok (.aload_n 0, 1) := by decide +kernel
theorem dX8_learn_13 : decode cX8_learn 13 = .ok (.getfield 25, 3) := by decide +kernel
theorem dX8_learn_16 : decode cX8_learn 16 = .ok (.iload_n 1, 1) := by decide +kernel
theorem dX8_learn_17 : decode cX8_learn 17 = .ok (.aload_n 0, 1) := by decide +kernel
theorem dX8_learn_18 : decode cX8_learn 18 = .ok (.getfield 45, 3) := by decide +kernel
theorem dX8_learn_21 : decode cX8_learn 21 = .ok (.invokevirtual 146, 3) := by decide +kernel
theorem dX8_learn_24 : decode cX8_learn 24 = .ok (.aload_n 0, 1) := by decide +kernel
theorem dX8_learn_25 : decode cX8_learn 25 = .ok (.getfield 31, 3) := by decide +kernel
theorem dX8_learn_28 : decode cX8_learn 28 = .ok (.iload_n 1, 1) := by decide +kernel
theorem dX8_learn_29 : decode cX8_learn 29 = .ok (.invokevirtual 150, 3) := by decide +kernel
theorem dX8_learn_32 : decode cX8_learn 32 = .ok (.iconst 0, 1) := by decide +kernel
theorem dX8_learn_33 : decode cX8_learn 33 = .ok (.istore_n 2, 1) := by decide +kernel
theorem dX8_learn_34 : decode cX8_learn 34 = .ok (.iload_n 2, 1) := by decide +kernel
theorem dX8_learn_35 : decode cX8_learn 35 = .ok (.aload_n 0, 1) := by decide +kernel
theorem dX8_learn_36 : decode cX8_learn 36 = .ok (.getfield 48, 3) := by decide +kernel
theorem dX8_learn_39 : decode cX8_learn 39 = .ok (.getfield 79, 3) := by decide +kernel
theorem dX8_learn_42 : decode cX8_learn 42 = .ok (.if_icmp .ge 62, 3) := by decide +kernel
theorem dX8_learn_45 : decode cX8_learn 45 = .ok (.aload_n 0, 1) := by decide +kernel
theorem dX8_learn_46 : decode cX8_learn 46 = .ok (.getfield 48, 3) := by decide +kernel
theorem dX8_learn_49 : decode cX8_learn 49 = .ok (.getfield 106, 3) := by decide +kernel
theorem dX8_learn_52 : decode cX8_learn 52 = .ok (.iload_n 2, 1) := by decide +kernel
theorem dX8_learn_53 : decode cX8_learn 53 = .ok (.baload, 1) := by decide +kernel
theorem dX8_learn_54 : decode cX8_learn 54 = .ok (.ifCond .ne 44, 3) := by decide +kernel
theorem dX8_learn_57 : decode cX8_learn 57 = .ok (.aload_n 0, 1) := by decide +kernel
theorem dX8_learn_58 : decode cX8_learn 58 = .ok (.getfield 48, 3) := by decide +kernel
theorem dX8_learn_61 : decode cX8_learn 61 = .ok (.getfield 84, 3) := by decide +kernel
theorem dX8_learn_64 : decode cX8_learn 64 = .ok (.iload_n 2, 1) := by decide +kernel
theorem dX8_learn_65 : decode cX8_learn 65 = .ok (.iaload, 1) := by decide +kernel
theorem dX8_learn_66 : decode cX8_learn 66 = .ok (.iconst 4, 1) := by decide +kernel
theorem dX8_learn_67 : decode cX8_learn 67 = .ok (.if_icmp .eq 31, 3) := by decide +kernel
theorem dX8_learn_70 : decode cX8_learn 70 = .ok (.aload_n 0, 1) := by decide +kernel
theorem dX8_learn_71 : decode cX8_learn 71 = .ok (.getfield 61, 3) := by decide +kernel
theorem dX8_learn_74 : decode cX8_learn 74 = .ok (.aload_n 0, 1) := by decide +kernel
theorem dX8_learn_75 : decode cX8_learn 75 = .ok (.getfield 61, 3) := by decide +kernel
theorem dX8_learn_78 : decode cX8_learn 78 = .ok (.aload_n 0, 1) := by decide +kernel
theorem dX8_learn_79 : decode cX8_learn 79 = .ok (.getfield 41, 3) := by decide +kernel
theorem dX8_learn_82 : decode cX8_learn 82 = .ok (.iload_n 2, 1) := by decide +kernel
theorem dX8_learn_83 : decode cX8_learn 83 = .ok (.iaload, 1) := by decide +kernel
theorem dX8_learn_84 : decode cX8_learn 84 = .ok (.aload_n 0, 1) := by decide +kernel
theorem dX8_learn_85 : decode cX8_learn 85 = .ok (.getfield 12, 3) := by decide +kernel
theorem dX8_learn_88 : decode cX8_learn 88 = .ok (.getfield 117, 3) := by decide +kernel
theorem dX8_learn_91 : decode cX8_learn 91 = .ok (.invokevirtual 120, 3) := by decide +kernel
theorem dX8_learn_94 : decode cX8_learn 94 = .ok (.iload_n 1, 1) := by decide +kernel
theorem dX8_learn_95 : decode cX8_learn 95 = .ok (.invokevirtual 153, 3) := by decide +kernel
theorem dX8_learn_98 : decode cX8_learn 98 = .ok (.iinc 2 1, 3) := by decide +kernel
theorem dX8_learn_101 : decode cX8_learn 101 = .ok (.goto (-67), 3) := by decide +kernel
theorem dX8_learn_104 : decode cX8_learn 104 = .ok (.aload_n 0, 1) := by decide +kernel
theorem dX8_learn_105 : decode cX8_learn 105 = .ok (.getfield 12, 3) := by decide +kernel
theorem dX8_learn_108 : decode cX8_learn 108 = .ok (.iload_n 1, 1) := by decide +kernel
theorem dX8_learn_109 : decode cX8_learn 109 = .ok (.invokevirtual 156, 3) := by decide +kernel
theorem dX8_learn_112 : decode cX8_learn 112 = .ok (.ifCond .eq 7, 3) := by decide +kernel
theorem dX8_learn_115 : decode cX8_learn 115 = .ok (.aload_n 0, 1) := by decide +kernel
theorem dX8_learn_116 : decode cX8_learn 116 = .ok (.invokevirtual 76, 3) := by decide +kernel
theorem dX8_learn_119 : decode cX8_learn 119 = .ok (.return_, 1) := by decide +kernel
theorem dX8_firstMatchLength_0 : decode cX8_firstMatchLength 0 = .ok (.iconst 0, 1) := by decide +kernel
theorem dX8_firstMatchLength_1 : decode cX8_firstMatchLength 1 = .ok (.istore_n 1, 1) := by decide +kernel
theorem dX8_firstMatchLength_2 : decode cX8_firstMatchLength 2 = .ok (.iload_n 1, 1) := by decide +kernel
theorem dX8_firstMatchLength_3 : decode cX8_firstMatchLength 3 = .ok (.aload_n 0, 1) := by decide +kernel
theorem dX8_firstMatchLength_4 : decode cX8_firstMatchLength 4 = .ok (.getfield 48, 3) := by decide +kernel
theorem dX8_firstMatchLength_7 : decode cX8_firstMatchLength 7 = .ok (.getfield 79, 3) := by decide +kernel
theorem dX8_firstMatchLength_10 : decode cX8_firstMatchLength 10 = .ok (.if_icmp .ge 32, 3) := by decide +kernel
theorem dX8_firstMatchLength_13 : decode cX8_firstMatchLength 13 = .ok (.aload_n 0, 1) := by decide +kernel
theorem dX8_firstMatchLength_14 : decode cX8_firstMatchLength 14 = .ok (.getfield 48, 3) := by decide +kernel
theorem dX8_firstMatchLength_17 : decode cX8_firstMatchLength 17 = .ok (.getfield 84, 3) := by decide +kernel
theorem dX8_firstMatchLength_20 : decode cX8_firstMatchLength 20 = .ok (.iload_n 1, 1) := by decide +kernel
theorem dX8_firstMatchLength_21 : decode cX8_firstMatchLength 21 = .ok (.iaload, 1) := by decide +kernel
theorem dX8_firstMatchLength_22 : decode cX8_firstMatchLength 22 = .ok (.iconst 4, 1) := by decide +kernel
theorem dX8_firstMatchLength_23 : decode cX8_firstMatchLength 23 = .ok (.if_icmp .ne 13, 3) := by decide +kernel
theorem dX8_firstMatchLength_26 : decode cX8_firstMatchLength 26 = .ok (.aload_n 0, 1) := by decide +kernel
theorem dX8_firstMatchLength_27 : decode cX8_firstMatchLength 27 = .ok (.getfield 37, 3) := by decide +kernel
theorem dX8_firstMatchLength_30 : decode cX8_firstMatchLength 30 = .ok (.iload_n 1, 1) := by decide +kernel
theorem dX8_firstMatchLength_31 : decode cX8_firstMatchLength 31 = .ok (.aaload, 1) := by decide +kernel
theorem dX8_firstMatchLength_32 : decode cX8_firstMatchLength 32 = .ok (.getfield 72, 3) := by decide +kernel
theorem dX8_firstMatchLength_35 : decode cX8_firstMatchLength 35 = .ok (.ireturn, 1) := by decide +kernel
theorem dX8_firstMatchLength_36 : decode cX8_firstMatchLength 36 = .ok (.iinc 1 1, 3) := by decide +kernel
theorem dX8_firstMatchLength_39 : decode cX8_firstMatchLength 39 = .ok (.goto (-37), 3) := by decide +kernel
theorem dX8_firstMatchLength_42 : decode cX8_firstMatchLength 42 = .ok (.iconst 0, 1) := by decide +kernel
theorem dX8_firstMatchLength_43 : decode cX8_firstMatchLength 43 = .ok (.ireturn, 1) := by decide +kernel
theorem dX8_sameAs_0 : decode cX8_sameAs 0 = .ok (.aload_n 0, 1) := by decide +kernel
theorem dX8_sameAs_1 : decode cX8_sameAs 1 = .ok (.getfield 12, 3) := by decide +kernel
theorem dX8_sameAs_4 : decode cX8_sameAs 4 = .ok (.aload_n 1, 1) := by decide +kernel
theorem dX8_sameAs_5 : decode cX8_sameAs 5 = .ok (.getfield 12, 3) := by decide +kernel
theorem dX8_sameAs_8 : decode cX8_sameAs 8 = .ok (.invokevirtual 160, 3) := by decide +kernel
theorem dX8_sameAs_11 : decode cX8_sameAs 11 = .ok (.ifCond .eq 81, 3) := by decide +kernel
theorem dX8_sameAs_14 : decode cX8_sameAs 14 = .ok (.aload_n 0, 1) := by decide +kernel
theorem dX8_sameAs_15 : decode cX8_sameAs 15 = .ok (.getfield 61, 3) := by decide +kernel
theorem dX8_sameAs_18 : decode cX8_sameAs 18 = .ok (.aload_n 1, 1) := by decide +kernel
theorem dX8_sameAs_19 : decode cX8_sameAs 19 = .ok (.getfield 61, 3) := by decide +kernel
theorem dX8_sameAs_22 : decode cX8_sameAs 22 = .ok (.invokevirtual 164, 3) := by decide +kernel
theorem dX8_sameAs_25 : decode cX8_sameAs 25 = .ok (.ifCond .eq 67, 3) := by decide +kernel
theorem dX8_sameAs_28 : decode cX8_sameAs 28 = .ok (.aload_n 0, 1) := by decide +kernel
theorem dX8_sameAs_29 : decode cX8_sameAs 29 = .ok (.getfield 21, 3) := by decide +kernel
theorem dX8_sameAs_32 : decode cX8_sameAs 32 = .ok (.getfield 167, 3) := by decide +kernel
theorem dX8_sameAs_35 : decode cX8_sameAs 35 = .ok (.aload_n 1, 1) := by decide +kernel
theorem dX8_sameAs_36 : decode cX8_sameAs 36 = .ok (.getfield 21, 3) := by decide +kernel
theorem dX8_sameAs_39 : decode cX8_sameAs 39 = .ok (.getfield 167, 3) := by decide +kernel
theorem dX8_sameAs_42 : decode cX8_sameAs 42 = .ok (.invokestatic 170, 3) := by decide +kernel
theorem dX8_sameAs_45 : decode cX8_sameAs 45 = .ok (.ifCond .eq 47, 3) := by decide +kernel
theorem dX8_sameAs_48 : decode cX8_sameAs 48 = .ok (.aload_n 0, 1) := by decide +kernel
theorem dX8_sameAs_49 : decode cX8_sameAs 49 = .ok (.getfield 25, 3) := by decide +kernel
theorem dX8_sameAs_52 : decode cX8_sameAs 52 = .ok (.getfield 167, 3) := by decide +kernel
theorem dX8_sameAs_55 : decode cX8_sameAs 55 = .ok (.aload_n 1, 1) := by decide +kernel
theorem dX8_sameAs_56 : decode cX8_sameAs 56 = .ok (.getfield 25, 3) := by decide +kernel
theorem dX8_sameAs_59 : decode cX8_sameAs 59 = .ok (.getfield 167, 3) := by decide +kernel
theorem dX8_sameAs_62 : decode cX8_sameAs 62 = .ok (.invokestatic 170, 3) := by decide +kernel
theorem dX8_sameAs_65 : decode cX8_sameAs 65 = .ok (.ifCond .eq 27, 3) := by decide +kernel
theorem dX8_sameAs_68 : decode cX8_sameAs 68 = .ok (.aload_n 0, 1) := by decide +kernel
theorem dX8_sameAs_69 : decode cX8_sameAs 69 = .ok (.getfield 31, 3) := by decide +kernel
theorem dX8_sameAs_72 : decode cX8_sameAs 72 = .ok (.getfield 174, 3) := by decide +kernel
theorem dX8_sameAs_75 : decode cX8_sameAs 75 = .ok (.aload_n 1, 1) := by decide +kernel
theorem dX8_sameAs_76 : decode cX8_sameAs 76 = .ok (.getfield 31, 3) := by decide +kernel
theorem dX8_sameAs_79 : decode cX8_sameAs 79 = .ok (.getfield 174, 3) := by decide +kernel
theorem dX8_sameAs_82 : decode cX8_sameAs 82 = .ok (.invokestatic 170, 3) := by decide +kernel
theorem dX8_sameAs_85 : decode cX8_sameAs 85 = .ok (.ifCond .eq 7, 3) := by decide +kernel
theorem dX8_sameAs_88 : decode cX8_sameAs 88 = .ok (.iconst 1, 1) := by decide +kernel
theorem dX8_sameAs_89 : decode cX8_sameAs 89 = .ok (.goto 4, 3) := by decide +kernel
theorem dX8_sameAs_92 : decode cX8_sameAs 92 = .ok (.iconst 0, 1) := by decide +kernel
theorem dX8_sameAs_93 : decode cX8_sameAs 93 = .ok (.ireturn, 1) := by decide +kernel
theorem dX9_init_0 : decode cX9_init 0 = .ok (.aload_n 0, 1) := by decide +kernel
theorem dX9_init_1 : decode cX9_init 1 = .ok (.invokespecial 3, 3) := by decide +kernel
theorem dX9_init_4 : decode cX9_init 4 = .ok (.iconst 1, 1) := by decide +kernel
theorem dX9_init_5 : decode cX9_init 5 = .ok (.iload_n 1, 1) := by decide +kernel
theorem dX9_init_6 : decode cX9_init 6 = .ok (.bipush 6, 2) := by decide +kernel
theorem dX9_init_8 : decode cX9_init 8 = .ok (.bipush 12, 2) := by decide +kernel
theorem dX9_init_10 : decode cX9_init 10 = .ok (.invokestatic 9, 3) := by decide +kernel
theorem dX9_init_13 : decode cX9_init 13 = .ok (.ishl, 1) := by decide +kernel
theorem dX9_init_14 : decode cX9_init 14 = .ok (.istore_n 2, 1) := by decide +kernel
theorem dX9_init_15 : decode cX9_init 15 = .ok (.aload_n 0, 1) := by decide +kernel
theorem dX9_init_16 : decode cX9_init 16 = .ok (.iload_n 2, 1) := by decide +kernel
theorem dX9_init_17 : decode cX9_init 17 = .ok (.newarray .int, 2) := by decide +kernel
theorem dX9_init_19 : decode cX9_init 19 = .ok (.putfield 15, 3) := by decide +kernel
theorem dX9_init_22 : decode cX9_init 22 = .ok (.aload_n 0, 1) := by decide +kernel
theorem dX9_init_23 : decode cX9_init 23 = .ok (.iload_n 2, 1) := by decide +kernel
theorem dX9_init_24 : decode cX9_init 24 = .ok (.newarray .int, 2) := by decide +kernel
theorem dX9_init_26 : decode cX9_init 26 = .ok (.putfield 21, 3) := by decide +kernel
theorem dX9_init_29 : decode cX9_init 29 = .ok (.aload_n 0, 1) := by decide +kernel
theorem dX9_init_30 : decode cX9_init 30 = .ok (.getfield 15, 3) := by decide +kernel
theorem dX9_init_33 : decode cX9_init 33 = .ok (.ldc 24, 2) := by decide +kernel
theorem dX9_init_35 : decode cX9_init 35 = .ok (.invokestatic 25, 3) := by decide +kernel
theorem dX9_init_38 : decode cX9_init 38 = .ok (.return_, 1) := by decide +kernel
theorem dX9_reset_0 : decode cX9_reset 0 = .ok (.aload_n 0, 1) := by decide +kernel
theorem dX9_reset_1 : decode cX9_reset 1 = .ok (.getfield 15, 3) := by decide +kernel
theorem dX9_reset_4 : decode cX9_reset 4 = .ok (.ldc 24, 2) := by decide +kernel
theorem dX9_reset_6 : decode cX9_reset 6 = .ok (.invokestatic 25, 3) := by decide +kernel
theorem dX9_reset_9 : decode cX9_reset 9 = .ok (.aload_n 0, 1) := by decide +kernel
theorem dX9_reset_10 : decode cX9_reset 10 = .ok (.getfield 21, 3) := by decide +kernel
theorem dX9_reset_13 : decode cX9_reset 13 = .ok (.iconst 0, 1) := by decide +kernel
theorem dX9_reset_14 : decode cX9_reset 14 = .ok (.invokestatic 25, 3) := by decide +kernel
theorem dX9_reset_17 : decode cX9_reset 17 = .ok (.return_, 1) := by decide +kernel
theorem dX9_has_0 : decode cX9_has 0 = .ok (.iload_n 1, 1) := by decide +kernel
theorem dX9_has_1 : decode cX9_has 1 = .ok (.ifCond .lt 16, 3) := by decide +kernel
theorem dX9_has_4 : decode cX9_has 4 = .ok (.iload_n 1, 1) := by decide +kernel
theorem dX9_has_5 : decode cX9_has 5 = .ok (.aload_n 0, 1) := by decide +kernel
theorem dX9_has_6 : decode cX9_has 6 = .ok (.getfield 15, 3) := by decide +kernel
theorem dX9_has_9 : decode cX9_has 9 = .ok (.arraylength, 1) := by decide +kernel
theorem dX9_has_10 : decode cX9_has 10 = .ok (.if_icmp .ge 7, 3) := by decide +kernel
theorem dX9_has_13 : decode cX9_has 13 = .ok (.iconst 1, 1) := by decide +kernel
theorem dX9_has_14 : decode cX9_has 14 = .ok (.goto 4, 3) := by decide +kernel
theorem dX9_has_17 : decode cX9_has 17 = .ok (.iconst 0, 1) := by decide +kernel
theorem dX9_has_18 : decode cX9_has 18 = .ok (.ireturn, 1) := by decide +kernel
theorem dX9_placeOf_0 : decode cX9_placeOf 0 = .ok (.iload_n 1, 1) := by decide +kernel
theorem dX9_placeOf_1 : decode cX9_placeOf 1 = .ok (.iload_n 2, 1) := by decide +kernel
theorem dX9_placeOf_2 : decode cX9_placeOf 2 = .ok (.invokestatic 31, 3) := by decide +kernel
theorem dX9_placeOf_5 : decode cX9_placeOf 5 = .ok (.aload_n 0, 1) := by decide +kernel
theorem dX9_placeOf_6 : decode cX9_placeOf 6 = .ok (.getfield 15, 3) := by decide +kernel
theorem dX9_placeOf_9 : decode cX9_placeOf 9 = .ok (.arraylength, 1) := by decide +kernel
theorem dX9_placeOf_10 : decode cX9_placeOf 10 = .ok (.iconst 1, 1) := by decide +kernel
theorem dX9_placeOf_11 : decode cX9_placeOf 11 = .ok (.isub, 1) := by decide +kernel
theorem dX9_placeOf_12 : decode cX9_placeOf 12 = .ok (.iand, 1) := by decide +kernel
theorem dX9_placeOf_13 : decode cX9_placeOf 13 = .ok (.ireturn, 1) := by decide +kernel
theorem dX9_learn_0 : decode cX9_learn 0 = .ok (.aload_n 0, 1) := by decide +kernel
theorem dX9_learn_1 : decode cX9_learn 1 = .ok (.iload_n 1, 1) := by decide +kernel
theorem dX9_learn_2 : decode cX9_learn 2 = .ok (.invokevirtual 35, 3) := by decide +kernel
theorem dX9_learn_5 : decode cX9_learn 5 = .ok (.ifCond .ne 4, 3) := by decide +kernel
theorem dX9_learn_8 : decode cX9_learn 8 = .ok (.return_, 1) := by decide +kernel
theorem dX9_learn_9 : decode cX9_learn 9 = .ok (.ldc 39, 2) := by decide +kernel
theorem dX9_learn_11 : decode cX9_learn 11 = .ok (.iconst 2, 1) := by decide +kernel
theorem dX9_learn_12 : decode cX9_learn 12 = .ok (.aload_n 0, 1) := by decide +kernel
theorem dX9_learn_13 : decode cX9_learn 13 = .ok (.getfield 21, 3) := by decide +kernel
theorem dX9_learn_16 : decode cX9_learn 16 = .ok (.iload_n 1, 1) := by decide +kernel
theorem dX9_learn_17 : decode cX9_learn 17 = .ok (.iaload, 1) := by decide +kernel
theorem dX9_learn_18 : decode cX9_learn 18 = .ok (.iconst 2, 1) := by decide +kernel
theorem dX9_learn_19 : decode cX9_learn 19 = .ok (.iadd, 1) := by decide +kernel
theorem dX9_learn_20 : decode cX9_learn 20 = .ok (.invokestatic 40, 3) := by decide +kernel
theorem dX9_learn_23 : decode cX9_learn 23 = .ok (.idiv, 1) := by decide +kernel
theorem dX9_learn_24 : decode cX9_learn 24 = .ok (.istore_n 3, 1) := by decide +kernel
theorem dX9_learn_25 : decode cX9_learn 25 = .ok (.aload_n 0, 1) := by decide +kernel
theorem dX9_learn_26 : decode cX9_learn 26 = .ok (.getfield 15, 3) := by decide +kernel
theorem dX9_learn_29 : decode cX9_learn 29 = .ok (.iload_n 1, 1) := by decide +kernel
theorem dX9_learn_30 : decode cX9_learn 30 = .ok (.dup2, 1) := by decide +kernel
theorem dX9_learn_31 : decode cX9_learn 31 = .ok (.iaload, 1) := by decide +kernel
theorem dX9_learn_32 : decode cX9_learn 32 = .ok (.iload_n 2, 1) := by decide +kernel
theorem dX9_learn_33 : decode cX9_learn 33 = .ok (.ifCond .eq 8, 3) := by decide +kernel
theorem dX9_learn_36 : decode cX9_learn 36 = .ok (.ldc 45, 2) := by decide +kernel
theorem dX9_learn_38 : decode cX9_learn 38 = .ok (.goto 4, 3) := by decide +kernel
theorem dX9_learn_41 : decode cX9_learn 41 = .ok (.iconst 0, 1) := by decide +kernel
theorem dX9_learn_42 : decode cX9_learn 42 = .ok (.aload_n 0, 1) := by decide +kernel
theorem dX9_learn_43 : decode cX9_learn 43 = .ok (.getfield 15, 3) := by decide +kernel
theorem dX9_learn_46 : decode cX9_learn 46 = .ok (.iload_n 1, 1) := by decide +kernel
theorem dX9_learn_47 : decode cX9_learn 47 = .ok (.iaload, 1) := by decide +kernel
theorem dX9_learn_48 : decode cX9_learn 48 = .ok (.isub, 1) := by decide +kernel
theorem dX9_learn_49 : decode cX9_learn 49 = .ok (.iload_n 3, 1) := by decide +kernel
theorem dX9_learn_50 : decode cX9_learn 50 = .ok (.imul, 1) := by decide +kernel
theorem dX9_learn_51 : decode cX9_learn 51 = .ok (.bipush 16, 2) := by decide +kernel
theorem dX9_learn_53 : decode cX9_learn 53 = .ok (.ishr, 1) := by decide +kernel
theorem dX9_learn_54 : decode cX9_learn 54 = .ok (.iadd, 1) := by decide +kernel
theorem dX9_learn_55 : decode cX9_learn 55 = .ok (.iastore, 1) := by decide +kernel
theorem dX9_learn_56 : decode cX9_learn 56 = .ok (.aload_n 0, 1) := by decide +kernel
theorem dX9_learn_57 : decode cX9_learn 57 = .ok (.getfield 21, 3) := by decide +kernel
theorem dX9_learn_60 : decode cX9_learn 60 = .ok (.iload_n 1, 1) := by decide +kernel
theorem dX9_learn_61 : decode cX9_learn 61 = .ok (.bipush 30, 2) := by decide +kernel
theorem dX9_learn_63 : decode cX9_learn 63 = .ok (.aload_n 0, 1) := by decide +kernel
theorem dX9_learn_64 : decode cX9_learn 64 = .ok (.getfield 21, 3) := by decide +kernel
theorem dX9_learn_67 : decode cX9_learn 67 = .ok (.iload_n 1, 1) := by decide +kernel
theorem dX9_learn_68 : decode cX9_learn 68 = .ok (.iaload, 1) := by decide +kernel
theorem dX9_learn_69 : decode cX9_learn 69 = .ok (.iconst 1, 1) := by decide +kernel
theorem dX9_learn_70 : decode cX9_learn 70 = .ok (.iadd, 1) := by decide +kernel
theorem dX9_learn_71 : decode cX9_learn 71 = .ok (.invokestatic 46, 3) := by decide +kernel
theorem dX9_learn_74 : decode cX9_learn 74 = .ok (.iastore, 1) := by decide +kernel
theorem dX9_learn_75 : decode cX9_learn 75 = .ok (.return_, 1) := by decide +kernel
theorem dX9_sameAs_0 : decode cX9_sameAs 0 = .ok (.aload_n 0, 1) := by decide +kernel
theorem dX9_sameAs_1 : decode cX9_sameAs 1 = .ok (.getfield 15, 3) := by decide +kernel
theorem dX9_sameAs_4 : decode cX9_sameAs 4 = .ok (.aload_n 1, 1) := by decide +kernel
theorem dX9_sameAs_5 : decode cX9_sameAs 5 = .ok (.getfield 15, 3) := by decide +kernel
theorem dX9_sameAs_8 : decode cX9_sameAs 8 = .ok (.invokestatic 49, 3) := by decide +kernel
theorem dX9_sameAs_11 : decode cX9_sameAs 11 = .ok (.ifCond .eq 21, 3) := by decide +kernel
theorem dX9_sameAs_14 : decode cX9_sameAs 14 = .ok (.aload_n 0, 1) := by decide +kernel
theorem dX9_sameAs_15 : decode cX9_sameAs 15 = .ok (.getfield 21, 3) := by decide +kernel
theorem dX9_sameAs_18 : decode cX9_sameAs 18 = .ok (.aload_n 1, 1) := by decide +kernel
theorem dX9_sameAs_19 : decode cX9_sameAs 19 = .ok (.getfield 21, 3) := by decide +kernel
theorem dX9_sameAs_22 : decode cX9_sameAs 22 = .ok (.invokestatic 49, 3) := by decide +kernel
theorem dX9_sameAs_25 : decode cX9_sameAs 25 = .ok (.ifCond .eq 7, 3) := by decide +kernel
theorem dX9_sameAs_28 : decode cX9_sameAs 28 = .ok (.iconst 1, 1) := by decide +kernel
theorem dX9_sameAs_29 : decode cX9_sameAs 29 = .ok (.goto 4, 3) := by decide +kernel
theorem dX9_sameAs_32 : decode cX9_sameAs 32 = .ok (.iconst 0, 1) := by decide +kernel
theorem dX9_sameAs_33 : decode cX9_sameAs 33 = .ok (.ireturn, 1) := by decide +kernel
theorem dX10_init_0 : decode cX10_init 0 = .ok (.aload_n 0, 1) := by decide +kernel
theorem dX10_init_1 : decode cX10_init 1 = .ok (.invokespecial 1, 3) := by decide +kernel
theorem dX10_init_4 : decode cX10_init 4 = .ok (.iload_n 1, 1) := by decide +kernel
theorem dX10_init_5 : decode cX10_init 5 = .ok (.bipush 6, 2) := by decide +kernel
theorem dX10_init_7 : decode cX10_init 7 = .ok (.bipush 12, 2) := by decide +kernel
theorem dX10_init_9 : decode cX10_init 9 = .ok (.invokestatic 9, 3) := by decide +kernel
theorem dX10_init_12 : decode cX10_init 12 = .ok (.istore_n 2, 1) := by decide +kernel
theorem dX10_init_13 : decode cX10_init 13 = .ok (.aload_n 0, 1) := by decide +kernel
theorem dX10_init_14 : decode cX10_init 14 = .ok (.new 10, 3) := by decide +kernel
theorem dX10_init_17 : decode cX10_init 17 = .ok (.dup, 1) := by decide +kernel
theorem dX10_init_18 : decode cX10_init 18 = .ok (.invokespecial 15, 3) := by decide +kernel
theorem dX10_init_21 : decode cX10_init 21 = .ok (.putfield 16, 3) := by decide +kernel
theorem dX10_init_24 : decode cX10_init 24 = .ok (.aload_n 0, 1) := by decide +kernel
theorem dX10_init_25 : decode cX10_init 25 = .ok (.new 20, 3) := by decide +kernel
theorem dX10_init_28 : decode cX10_init 28 = .ok (.dup, 1) := by decide +kernel
theorem dX10_init_29 : decode cX10_init 29 = .ok (.invokespecial 22, 3) := by decide +kernel
theorem dX10_init_32 : decode cX10_init 32 = .ok (.putfield 23, 3) := by decide +kernel
theorem dX10_init_35 : decode cX10_init 35 = .ok (.aload_n 0, 1) := by decide +kernel
theorem dX10_init_36 : decode cX10_init 36 = .ok (.new 27, 3) := by decide +kernel
theorem dX10_init_39 : decode cX10_init 39 = .ok (.dup, 1) := by decide +kernel
theorem dX10_init_40 : decode cX10_init 40 = .ok (.iload_n 2, 1) := by decide +kernel
theorem dX10_init_41 : decode cX10_init 41 = .ok (.aload_n 0, 1) := by decide +kernel
theorem dX10_init_42 : decode cX10_init 42 = .ok (.getfield 23, 3) := by decide +kernel
theorem dX10_init_45 : decode cX10_init 45 = .ok (.aload_n 0, 1) := by decide +kernel
theorem dX10_init_46 : decode cX10_init 46 = .ok (.getfield 16, 3) := by decide +kernel
theorem dX10_init_49 : decode cX10_init 49 = .ok (.invokespecial 29, 3) := by decide +kernel
theorem dX10_init_52 : decode cX10_init 52 = .ok (.putfield 32, 3) := by decide +kernel
theorem dX10_init_55 : decode cX10_init 55 = .ok (.aload_n 0, 1) := by decide +kernel
theorem dX10_init_56 : decode cX10_init 56 = .ok (.new 27, 3) := by decide +kernel
theorem dX10_init_59 : decode cX10_init 59 = .ok (.dup, 1) := by decide +kernel
theorem dX10_init_60 : decode cX10_init 60 = .ok (.iload_n 2, 1) := by decide +kernel
theorem dX10_init_61 : decode cX10_init 61 = .ok (.aload_n 0, 1) := by decide +kernel
theorem dX10_init_62 : decode cX10_init 62 = .ok (.getfield 23, 3) := by decide +kernel
theorem dX10_init_65 : decode cX10_init 65 = .ok (.aload_n 0, 1) := by decide +kernel
theorem dX10_init_66 : decode cX10_init 66 = .ok (.getfield 16, 3) := by decide +kernel
theorem dX10_init_69 : decode cX10_init 69 = .ok (.invokespecial 29, 3) := by decide +kernel
theorem dX10_init_72 : decode cX10_init 72 = .ok (.putfield 36, 3) := by decide +kernel
theorem dX10_init_75 : decode cX10_init 75 = .ok (.aload_n 0, 1) := by decide +kernel
theorem dX10_init_76 : decode cX10_init 76 = .ok (.new 39, 3) := by decide +kernel
theorem dX10_init_79 : decode cX10_init 79 = .ok (.dup, 1) := by decide +kernel
theorem dX10_init_80 : decode cX10_init 80 = .ok (.invokespecial 41, 3) := by decide +kernel
theorem dX10_init_83 : decode cX10_init 83 = .ok (.putfield 42, 3) := by decide +kernel
theorem dX10_init_86 : decode cX10_init 86 = .ok (.aload_n 0, 1) := by decide +kernel
theorem dX10_init_87 : decode cX10_init 87 = .ok (.new 46, 3) := by decide +kernel
theorem dX10_init_90 : decode cX10_init 90 = .ok (.dup, 1) := by decide +kernel
theorem dX10_init_91 : decode cX10_init 91 = .ok (.invokespecial 48, 3) := by decide +kernel
theorem dX10_init_94 : decode cX10_init 94 = .ok (.putfield 49, 3) := by decide +kernel
theorem dX10_init_97 : decode cX10_init 97 = .ok (.aload_n 0, 1) := by decide +kernel
theorem dX10_init_98 : decode cX10_init 98 = .ok (.new 46, 3) := by decide +kernel
theorem dX10_init_101 : decode cX10_init 101 = .ok (.dup, 1) := by decide +kernel
theorem dX10_init_102 : decode cX10_init 102 = .ok (.invokespecial 48, 3) := by decide +kernel
theorem dX10_init_105 : decode cX10_init 105 = .ok (.putfield 53, 3) := by decide +kernel
theorem dX10_init_108 : decode cX10_init 108 = .ok (.return_, 1) := by decide +kernel
theorem dX10_predictor_0 : decode cX10_predictor 0 = .ok (.iload_n 1, 1) := by decide +kernel
theorem dX10_predictor_1 : decode cX10_predictor 1 = .ok (.iload_n 2, 1) := by decide +kernel
theorem dX10_predictor_2 : decode cX10_predictor 2 = .ok (.invokestatic 56, 3) := by decide +kernel
theorem dX10_predictor_5 : decode cX10_predictor 5 = .ok (.ifCond .ne 5, 3) := by decide +kernel
theorem dX10_predictor_8 : decode cX10_predictor 8 = .ok (.iconst (-1), 1) := by decide +kernel
theorem dX10_predictor_9 : decode cX10_predictor 9 = .ok (.ireturn, 1) := by decide +kernel
theorem dX10_predictor_10 : decode cX10_predictor 10 = .ok (.aload_n 0, 1) := by decide +kernel
theorem dX10_predictor_11 : decode cX10_predictor 11 = .ok (.getfield 60, 3) := by decide +kernel
theorem dX10_predictor_14 : decode cX10_predictor 14 = .ok (.ifCond .ne 16, 3) := by decide +kernel
theorem dX10_predictor_17 : decode cX10_predictor 17 = .ok (.aload_n 0, 1) := by decide +kernel
theorem dX10_predictor_18 : decode cX10_predictor 18 = .ok (.getfield 32, 3) := by decide +kernel
theorem dX10_predictor_21 : decode cX10_predictor 21 = .ok (.getfield 64, 3) := by decide +kernel
theorem dX10_predictor_24 : decode cX10_predictor 24 = .ok (.invokevirtual 68, 3) := by decide +kernel
theorem dX10_predictor_27 : decode cX10_predictor 27 = .ok (.ifCond .eq 6, 3) := by decide +kernel
theorem dX10_predictor_30 : decode cX10_predictor 30 = .ok (.bipush (-4), 2) := by decide +kernel
theorem dX10_predictor_32 : decode cX10_predictor 32 = .ok (.ireturn, 1) := by decide +kernel
theorem dX10_predictor_33 : decode cX10_predictor 33 = .ok (.aload_n 0, 1) := by decide +kernel
theorem dX10_predictor_34 : decode cX10_predictor 34 = .ok (.getfield 23, 3) := by decide +kernel
theorem dX10_predictor_37 : decode cX10_predictor 37 = .ok (.iload_n 1, 1) := by decide +kernel
theorem dX10_predictor_38 : decode cX10_predictor 38 = .ok (.iload_n 2, 1) := by decide +kernel
theorem dX10_predictor_39 : decode cX10_predictor 39 = .ok (.invokevirtual 74, 3) := by decide +kernel
theorem dX10_predictor_42 : decode cX10_predictor 42 = .ok (.istore_n 3, 1) := by decide +kernel
theorem dX10_predictor_43 : decode cX10_predictor 43 = .ok (.aload_n 0, 1) := by decide +kernel
theorem dX10_predictor_44 : decode cX10_predictor 44 = .ok (.getfield 32, 3) := by decide +kernel
theorem dX10_predictor_47 : decode cX10_predictor 47 = .ok (.invokevirtual 78, 3) := by decide +kernel
theorem dX10_predictor_50 : decode cX10_predictor 50 = .ok (.aload_n 0, 1) := by decide +kernel
theorem dX10_predictor_51 : decode cX10_predictor 51 = .ok (.getfield 36, 3) := by decide +kernel
theorem dX10_predictor_54 : decode cX10_predictor 54 = .ok (.invokevirtual 78, 3) := by decide +kernel
theorem dX10_predictor_57 : decode cX10_predictor 57 = .ok (.iload_n 3, 1) := by decide +kernel
theorem dX10_predictor_58 : decode cX10_predictor 58 = .ok (.ireturn, 1) := by decide +kernel
theorem dX10_off_0 : decode cX10_off 0 = .ok (.aload_n 0, 1) := by decide +kernel
theorem dX10_off_1 : decode cX10_off 1 = .ok (.getfield 23, 3) := by decide +kernel
theorem dX10_off_4 : decode cX10_off 4 = .ok (.iload_n 1, 1) := by decide +kernel
theorem dX10_off_5 : decode cX10_off 5 = .ok (.invokevirtual 81, 3) := by decide +kernel
theorem dX10_off_8 : decode cX10_off 8 = .ok (.ifCond .ne 5, 3) := by decide +kernel
theorem dX10_off_11 : decode cX10_off 11 = .ok (.iconst (-1), 1) := by decide +kernel
theorem dX10_off_12 : decode cX10_off 12 = .ok (.ireturn, 1) := by decide +kernel
theorem dX10_off_13 : decode cX10_off 13 = .ok (.aload_n 0, 1) := by decide +kernel
theorem dX10_off_14 : decode cX10_off 14 = .ok (.getfield 60, 3) := by decide +kernel
theorem dX10_off_17 : decode cX10_off 17 = .ok (.ifCond .ne 16, 3) := by decide +kernel
theorem dX10_off_20 : decode cX10_off 20 = .ok (.aload_n 0, 1) := by decide +kernel
theorem dX10_off_21 : decode cX10_off 21 = .ok (.getfield 32, 3) := by decide +kernel
theorem dX10_off_24 : decode cX10_off 24 = .ok (.getfield 64, 3) := by decide +kernel
theorem dX10_off_27 : decode cX10_off 27 = .ok (.invokevirtual 68, 3) := by decide +kernel
theorem dX10_off_30 : decode cX10_off 30 = .ok (.ifCond .eq 6, 3) := by decide +kernel
theorem dX10_off_33 : decode cX10_off 33 = .ok (.bipush (-4), 2) := by decide +kernel
theorem dX10_off_35 : decode cX10_off 35 = .ok (.ireturn, 1) := by decide +kernel
theorem dX10_off_36 : decode cX10_off 36 = .ok (.aload_n 0, 1) := by decide +kernel
theorem dX10_off_37 : decode cX10_off 37 = .ok (.getfield 23, 3) := by decide +kernel
theorem dX10_off_40 : decode cX10_off 40 = .ok (.iload_n 1, 1) := by decide +kernel
theorem dX10_off_41 : decode cX10_off 41 = .ok (.invokevirtual 85, 3) := by decide +kernel
theorem dX10_off_44 : decode cX10_off 44 = .ok (.ifCond .eq 7, 3) := by decide +kernel
theorem dX10_off_47 : decode cX10_off 47 = .ok (.iconst 1, 1) := by decide +kernel
theorem dX10_off_48 : decode cX10_off 48 = .ok (.goto 4, 3) := by decide +kernel
theorem dX10_off_51 : decode cX10_off 51 = .ok (.iconst 0, 1) := by decide +kernel
theorem dX10_off_52 : decode cX10_off 52 = .ok (.ireturn, 1) := by decide +kernel
theorem dX10_bit_0 : decode cX10_bit 0 = .ok (.aload_n 0, 1) := by decide +kernel
theorem dX10_bit_1 : decode cX10_bit 1 = .ok (.getfield 60, 3) := by decide +kernel
theorem dX10_bit_4 : decode cX10_bit 4 = .ok (.ifCond .eq 6, 3) := by decide +kernel
theorem dX10_bit_7 : decode cX10_bit 7 = .ok (.bipush (-4), 2) := by decide +kernel
theorem dX10_bit_9 : decode cX10_bit 9 = .ok (.ireturn, 1) := by decide +kernel
theorem dX10_bit_10 : decode cX10_bit 10 = .ok (.aload_n 0, 1) := by decide +kernel
theorem dX10_bit_11 : decode cX10_bit 11 = .ok (.invokevirtual 88, 3) := by decide +kernel
theorem dX10_bit_14 : decode cX10_bit 14 = .ok (.ifCond .eq 6, 3) := by decide +kernel
theorem dX10_bit_17 : decode cX10_bit 17 = .ok (.bipush (-3), 2) := by decide +kernel
theorem dX10_bit_19 : decode cX10_bit 19 = .ok (.ireturn, 1) := by decide +kernel
theorem dX10_bit_20 : decode cX10_bit 20 = .ok (.aload_n 0, 1) := by decide +kernel
theorem dX10_bit_21 : decode cX10_bit 21 = .ok (.iload_n 1, 1) := by decide +kernel
theorem dX10_bit_22 : decode cX10_bit 22 = .ok (.invokevirtual 91, 3) := by decide +kernel
theorem dX10_bit_25 : decode cX10_bit 25 = .ok (.aload_n 0, 1) := by decide +kernel
theorem dX10_bit_26 : decode cX10_bit 26 = .ok (.getfield 42, 3) := by decide +kernel
theorem dX10_bit_29 : decode cX10_bit 29 = .ok (.getfield 95, 3) := by decide +kernel
theorem dX10_bit_32 : decode cX10_bit 32 = .ok (.ireturn, 1) := by decide +kernel
theorem dX10_octet_0 : decode cX10_octet 0 = .ok (.aload_n 0, 1) := by decide +kernel
theorem dX10_octet_1 : decode cX10_octet 1 = .ok (.getfield 60, 3) := by decide +kernel
theorem dX10_octet_4 : decode cX10_octet 4 = .ok (.ifCond .ne 16, 3) := by decide +kernel
theorem dX10_octet_7 : decode cX10_octet 7 = .ok (.aload_n 0, 1) := by decide +kernel
theorem dX10_octet_8 : decode cX10_octet 8 = .ok (.getfield 32, 3) := by decide +kernel
theorem dX10_octet_11 : decode cX10_octet 11 = .ok (.getfield 64, 3) := by decide +kernel
theorem dX10_octet_14 : decode cX10_octet 14 = .ok (.getfield 99, 3) := by decide +kernel
theorem dX10_octet_17 : decode cX10_octet 17 = .ok (.ifCond .eq 6, 3) := by decide +kernel
theorem dX10_octet_20 : decode cX10_octet 20 = .ok (.bipush (-4), 2) := by decide +kernel
theorem dX10_octet_22 : decode cX10_octet 22 = .ok (.ireturn, 1) := by decide +kernel
theorem dX10_octet_23 : decode cX10_octet 23 = .ok (.aload_n 0, 1) := by decide +kernel
theorem dX10_octet_24 : decode cX10_octet 24 = .ok (.invokevirtual 88, 3) := by decide +kernel
theorem dX10_octet_27 : decode cX10_octet 27 = .ok (.ifCond .eq 6, 3) := by decide +kernel
theorem dX10_octet_30 : decode cX10_octet 30 = .ok (.bipush (-3), 2) := by decide +kernel
theorem dX10_octet_32 : decode cX10_octet 32 = .ok (.ireturn, 1) := by decide +kernel
theorem dX10_octet_33 : decode cX10_octet 33 = .ok (.bipush 7, 2) := by decide +kernel
theorem dX10_octet_35 : decode cX10_octet 35 = .ok (.istore_n 2, 1) := by decide +kernel
theorem dX10_octet_36 : decode cX10_octet 36 = .ok (.iload_n 2, 1) := by decide +kernel
theorem dX10_octet_37 : decode cX10_octet 37 = .ok (.ifCond .lt 27, 3) := by decide +kernel
theorem dX10_octet_40 : decode cX10_octet 40 = .ok (.aload_n 0, 1) := by decide +kernel
theorem dX10_octet_41 : decode cX10_octet 41 = .ok (.iload_n 1, 1) := by decide +kernel
theorem dX10_octet_42 : decode cX10_octet 42 = .ok (.iload_n 2, 1) := by decide +kernel
theorem dX10_octet_43 : decode cX10_octet 43 = .ok (.ishr, 1) := by decide +kernel
theorem dX10_octet_44 : decode cX10_octet 44 = .ok (.iconst 1, 1) := by decide +kernel
theorem dX10_octet_45 : decode cX10_octet 45 = .ok (.iand, 1) := by decide +kernel
theorem dX10_octet_46 : decode cX10_octet 46 = .ok (.iconst 1, 1) := by decide +kernel
theorem dX10_octet_47 : decode cX10_octet 47 = .ok (.if_icmp .ne 7, 3) := by decide +kernel
theorem dX10_octet_50 : decode cX10_octet 50 = .ok (.iconst 1, 1) := by decide +kernel
theorem dX10_octet_51 : decode cX10_octet 51 = .ok (.goto 4, 3) := by decide +kernel
theorem dX10_octet_54 : decode cX10_octet 54 = .ok (.iconst 0, 1) := by decide +kernel
theorem dX10_octet_55 : decode cX10_octet 55 = .ok (.invokevirtual 91, 3) := by decide +kernel
theorem dX10_octet_58 : decode cX10_octet 58 = .ok (.iinc 2 (-1), 3) := by decide +kernel
theorem dX10_octet_61 : decode cX10_octet 61 = .ok (.goto (-25), 3) := by decide +kernel
theorem dX10_octet_64 : decode cX10_octet 64 = .ok (.aload_n 0, 1) := by decide +kernel
theorem dX10_octet_65 : decode cX10_octet 65 = .ok (.getfield 42, 3) := by decide +kernel
theorem dX10_octet_68 : decode cX10_octet 68 = .ok (.getfield 95, 3) := by decide +kernel
theorem dX10_octet_71 : decode cX10_octet 71 = .ok (.ireturn, 1) := by decide +kernel
theorem dX10_end_0 : decode cX10_end 0 = .ok (.aload_n 0, 1) := by decide +kernel
theorem dX10_end_1 : decode cX10_end 1 = .ok (.getfield 60, 3) := by decide +kernel
theorem dX10_end_4 : decode cX10_end 4 = .ok (.ifCond .eq 6, 3) := by decide +kernel
theorem dX10_end_7 : decode cX10_end 7 = .ok (.bipush (-4), 2) := by decide +kernel
theorem dX10_end_9 : decode cX10_end 9 = .ok (.ireturn, 1) := by decide +kernel
theorem dX10_end_10 : decode cX10_end 10 = .ok (.iconst 0, 1) := by decide +kernel
theorem dX10_end_11 : decode cX10_end 11 = .ok (.istore_n 1, 1) := by decide +kernel
theorem dX10_end_12 : decode cX10_end 12 = .ok (.iload_n 1, 1) := by decide +kernel
theorem dX10_end_13 : decode cX10_end 13 = .ok (.iconst 4, 1) := by decide +kernel
theorem dX10_end_14 : decode cX10_end 14 = .ok (.if_icmp .ge 30, 3) := by decide +kernel
theorem dX10_end_17 : decode cX10_end 17 = .ok (.aload_n 0, 1) := by decide +kernel
theorem dX10_end_18 : decode cX10_end 18 = .ok (.getfield 42, 3) := by decide +kernel
theorem dX10_end_21 : decode cX10_end 21 = .ok (.aload_n 0, 1) := by decide +kernel
theorem dX10_end_22 : decode cX10_end 22 = .ok (.getfield 49, 3) := by decide +kernel
theorem dX10_end_25 : decode cX10_end 25 = .ok (.invokevirtual 102, 3) := by decide +kernel
theorem dX10_end_28 : decode cX10_end 28 = .ok (.invokevirtual 106, 3) := by decide +kernel
theorem dX10_end_31 : decode cX10_end 31 = .ok (.aload_n 0, 1) := by decide +kernel
theorem dX10_end_32 : decode cX10_end 32 = .ok (.getfield 49, 3) := by decide +kernel
theorem dX10_end_35 : decode cX10_end 35 = .ok (.invokevirtual 109, 3) := by decide +kernel
theorem dX10_end_38 : decode cX10_end 38 = .ok (.iinc 1 1, 3) := by decide +kernel
theorem dX10_end_41 : decode cX10_end 41 = .ok (.goto (-29), 3) := by decide +kernel
theorem dX10_end_44 : decode cX10_end 44 = .ok (.aload_n 0, 1) := by decide +kernel
theorem dX10_end_45 : decode cX10_end 45 = .ok (.iconst 1, 1) := by decide +kernel
theorem dX10_end_46 : decode cX10_end 46 = .ok (.putfield 60, 3) := by decide +kernel
theorem dX10_end_49 : decode cX10_end 49 = .ok (.aload_n 0, 1) := by decide +kernel
theorem dX10_end_50 : decode cX10_end 50 = .ok (.invokevirtual 112, 3) := by decide +kernel
theorem dX10_end_53 : decode cX10_end 53 = .ok (.aload_n 0, 1) := by decide +kernel
theorem dX10_end_54 : decode cX10_end 54 = .ok (.getfield 42, 3) := by decide +kernel
theorem dX10_end_57 : decode cX10_end 57 = .ok (.getfield 95, 3) := by decide +kernel
theorem dX10_end_60 : decode cX10_end 60 = .ok (.ireturn, 1) := by decide +kernel
theorem dX10_get_0 : decode cX10_get 0 = .ok (.aload_n 0, 1) := by decide +kernel
theorem dX10_get_1 : decode cX10_get 1 = .ok (.getfield 60, 3) := by decide +kernel
theorem dX10_get_4 : decode cX10_get 4 = .ok (.ifCond .ne 6, 3) := by decide +kernel
theorem dX10_get_7 : decode cX10_get 7 = .ok (.bipush (-4), 2) := by decide +kernel
theorem dX10_get_9 : decode cX10_get 9 = .ok (.ireturn, 1) := by decide +kernel
theorem dX10_get_10 : decode cX10_get 10 = .ok (.aload_n 0, 1) := by decide +kernel
theorem dX10_get_11 : decode cX10_get 11 = .ok (.getfield 36, 3) := by decide +kernel
theorem dX10_get_14 : decode cX10_get 14 = .ok (.getfield 64, 3) := by decide +kernel
theorem dX10_get_17 : decode cX10_get 17 = .ok (.getfield 115, 3) := by decide +kernel
theorem dX10_get_20 : decode cX10_get 20 = .ok (.aload_n 0, 1) := by decide +kernel
theorem dX10_get_21 : decode cX10_get 21 = .ok (.getfield 32, 3) := by decide +kernel
theorem dX10_get_24 : decode cX10_get 24 = .ok (.getfield 64, 3) := by decide +kernel
theorem dX10_get_27 : decode cX10_get 27 = .ok (.getfield 115, 3) := by decide +kernel
theorem dX10_get_30 : decode cX10_get 30 = .ok (.if_icmp .lt 6, 3) := by decide +kernel
theorem dX10_get_33 : decode cX10_get 33 = .ok (.bipush (-2), 2) := by decide +kernel
theorem dX10_get_35 : decode cX10_get 35 = .ok (.ireturn, 1) := by decide +kernel
theorem dX10_get_36 : decode cX10_get 36 = .ok (.iconst 0, 1) := by decide +kernel
theorem dX10_get_37 : decode cX10_get 37 = .ok (.istore_n 1, 1) := by decide +kernel
theorem dX10_get_38 : decode cX10_get 38 = .ok (.iconst 0, 1) := by decide +kernel
theorem dX10_get_39 : decode cX10_get 39 = .ok (.istore_n 2, 1) := by decide +kernel
theorem dX10_get_40 : decode cX10_get 40 = .ok (.iload_n 2, 1) := by decide +kernel
theorem dX10_get_41 : decode cX10_get 41 = .ok (.bipush 8, 2) := by decide +kernel
theorem dX10_get_43 : decode cX10_get 43 = .ok (.if_icmp .ge 26, 3) := by decide +kernel
theorem dX10_get_46 : decode cX10_get 46 = .ok (.iload_n 1, 1) := by decide +kernel
theorem dX10_get_47 : decode cX10_get 47 = .ok (.iconst 1, 1) := by decide +kernel
theorem dX10_get_48 : decode cX10_get 48 = .ok (.ishl, 1) := by decide +kernel
theorem dX10_get_49 : decode cX10_get 49 = .ok (.aload_n 0, 1) := by decide +kernel
theorem dX10_get_50 : decode cX10_get 50 = .ok (.invokevirtual 116, 3) := by decide +kernel
theorem dX10_get_53 : decode cX10_get 53 = .ok (.ifCond .eq 7, 3) := by decide +kernel
theorem dX10_get_56 : decode cX10_get 56 = .ok (.iconst 1, 1) := by decide +kernel
theorem dX10_get_57 : decode cX10_get 57 = .ok (.goto 4, 3) := by decide +kernel
theorem dX10_get_60 : decode cX10_get 60 = .ok (.iconst 0, 1) := by decide +kernel
theorem dX10_get_61 : decode cX10_get 61 = .ok (.ior, 1) := by decide +kernel
theorem dX10_get_62 : decode cX10_get 62 = .ok (.istore_n 1, 1) := by decide +kernel
theorem dX10_get_63 : decode cX10_get 63 = .ok (.iinc 2 1, 3) := by decide +kernel
theorem dX10_get_66 : decode cX10_get 66 = .ok (.goto (-26), 3) := by decide +kernel
theorem dX10_get_69 : decode cX10_get 69 = .ok (.iload_n 1, 1) := by decide +kernel
theorem dX10_get_70 : decode cX10_get 70 = .ok (.ireturn, 1) := by decide +kernel
theorem dX10_again_0 : decode cX10_again 0 = .ok (.aload_n 0, 1) := by decide +kernel
theorem dX10_again_1 : decode cX10_again 1 = .ok (.getfield 36, 3) := by decide +kernel
theorem dX10_again_4 : decode cX10_again 4 = .ok (.getfield 64, 3) := by decide +kernel
theorem dX10_again_7 : decode cX10_again 7 = .ok (.getfield 115, 3) := by decide +kernel
theorem dX10_again_10 : decode cX10_again 10 = .ok (.istore_n 1, 1) := by decide +kernel
theorem dX10_again_11 : decode cX10_again 11 = .ok (.aload_n 0, 1) := by decide +kernel
theorem dX10_again_12 : decode cX10_again 12 = .ok (.getfield 36, 3) := by decide +kernel
theorem dX10_again_15 : decode cX10_again 15 = .ok (.invokevirtual 119, 3) := by decide +kernel
theorem dX10_again_18 : decode cX10_again 18 = .ok (.aload_n 0, 1) := by decide +kernel
theorem dX10_again_19 : decode cX10_again 19 = .ok (.invokevirtual 112, 3) := by decide +kernel
theorem dX10_again_22 : decode cX10_again 22 = .ok (.iload_n 1, 1) := by decide +kernel
theorem dX10_again_23 : decode cX10_again 23 = .ok (.ireturn, 1) := by decide +kernel
theorem dX10_clear_0 : decode cX10_clear 0 = .ok (.aload_n 0, 1) := by decide +kernel
theorem dX10_clear_1 : decode cX10_clear 1 = .ok (.getfield 32, 3) := by decide +kernel
theorem dX10_clear_4 : decode cX10_clear 4 = .ok (.invokevirtual 119, 3) := by decide +kernel
theorem dX10_clear_7 : decode cX10_clear 7 = .ok (.aload_n 0, 1) := by decide +kernel
theorem dX10_clear_8 : decode cX10_clear 8 = .ok (.getfield 36, 3) := by decide +kernel
theorem dX10_clear_11 : decode cX10_clear 11 = .ok (.invokevirtual 119, 3) := by decide +kernel
theorem dX10_clear_14 : decode cX10_clear 14 = .ok (.aload_n 0, 1) := by decide +kernel
theorem dX10_clear_15 : decode cX10_clear 15 = .ok (.getfield 42, 3) := by decide +kernel
theorem dX10_clear_18 : decode cX10_clear 18 = .ok (.iconst 0, 1) := by decide +kernel
theorem dX10_clear_19 : decode cX10_clear 19 = .ok (.putfield 95, 3) := by decide +kernel
theorem dX10_clear_22 : decode cX10_clear 22 = .ok (.aload_n 0, 1) := by decide +kernel
theorem dX10_clear_23 : decode cX10_clear 23 = .ok (.getfield 49, 3) := by decide +kernel
theorem dX10_clear_26 : decode cX10_clear 26 = .ok (.invokevirtual 122, 3) := by decide +kernel
theorem dX10_clear_29 : decode cX10_clear 29 = .ok (.aload_n 0, 1) := by decide +kernel
theorem dX10_clear_30 : decode cX10_clear 30 = .ok (.iconst 0, 1) := by decide +kernel
theorem dX10_clear_31 : decode cX10_clear 31 = .ok (.putfield 60, 3) := by decide +kernel
theorem dX10_clear_34 : decode cX10_clear 34 = .ok (.aload_n 0, 1) := by decide +kernel
theorem dX10_clear_35 : decode cX10_clear 35 = .ok (.invokevirtual 112, 3) := by decide +kernel
theorem dX10_clear_38 : decode cX10_clear 38 = .ok (.iconst 1, 1) := by decide +kernel
theorem dX10_clear_39 : decode cX10_clear 39 = .ok (.ireturn, 1) := by decide +kernel
theorem dX10_out_0 : decode cX10_out 0 = .ok (.aload_n 0, 1) := by decide +kernel
theorem dX10_out_1 : decode cX10_out 1 = .ok (.getfield 42, 3) := by decide +kernel
theorem dX10_out_4 : decode cX10_out 4 = .ok (.iload_n 1, 1) := by decide +kernel
theorem dX10_out_5 : decode cX10_out 5 = .ok (.invokevirtual 123, 3) := by decide +kernel
theorem dX10_out_8 : decode cX10_out 8 = .ok (.ifCond .eq 14, 3) := by decide +kernel
theorem dX10_out_11 : decode cX10_out 11 = .ok (.aload_n 0, 1) := by decide +kernel
theorem dX10_out_12 : decode cX10_out 12 = .ok (.getfield 42, 3) := by decide +kernel
theorem dX10_out_15 : decode cX10_out 15 = .ok (.iload_n 1, 1) := by decide +kernel
theorem dX10_out_16 : decode cX10_out 16 = .ok (.invokevirtual 124, 3) := by decide +kernel
theorem dX10_out_19 : decode cX10_out 19 = .ok (.goto 4, 3) := by decide +kernel
theorem dX10_out_22 : decode cX10_out 22 = .ok (.iconst (-1), 1) := by decide +kernel
theorem dX10_out_23 : decode cX10_out 23 = .ok (.ireturn, 1) := by decide +kernel
theorem dX10_spoil_0 : decode cX10_spoil 0 = .ok (.aload_n 0, 1) := by decide +kernel
theorem dX10_spoil_1 : decode cX10_spoil 1 = .ok (.getfield 42, 3) := by decide +kernel
theorem dX10_spoil_4 : decode cX10_spoil 4 = .ok (.iload_n 1, 1) := by decide +kernel
theorem dX10_spoil_5 : decode cX10_spoil 5 = .ok (.invokevirtual 123, 3) := by decide +kernel
theorem dX10_spoil_8 : decode cX10_spoil 8 = .ok (.ifCond .eq 15, 3) := by decide +kernel
theorem dX10_spoil_11 : decode cX10_spoil 11 = .ok (.iload_n 2, 1) := by decide +kernel
theorem dX10_spoil_12 : decode cX10_spoil 12 = .ok (.iconst 1, 1) := by decide +kernel
theorem dX10_spoil_13 : decode cX10_spoil 13 = .ok (.if_icmp .lt 10, 3) := by decide +kernel
theorem dX10_spoil_16 : decode cX10_spoil 16 = .ok (.iload_n 2, 1) := by decide +kernel
theorem dX10_spoil_17 : decode cX10_spoil 17 = .ok (.sipush 255, 3) := by decide +kernel
theorem dX10_spoil_20 : decode cX10_spoil 20 = .ok (.if_icmp .le 5, 3) := by decide +kernel
theorem dX10_spoil_23 : decode cX10_spoil 23 = .ok (.iconst (-1), 1) := by decide +kernel
theorem dX10_spoil_24 : decode cX10_spoil 24 = .ok (.ireturn, 1) := by decide +kernel
theorem dX10_spoil_25 : decode cX10_spoil 25 = .ok (.aload_n 0, 1) := by decide +kernel
theorem dX10_spoil_26 : decode cX10_spoil 26 = .ok (.getfield 42, 3) := by decide +kernel
theorem dX10_spoil_29 : decode cX10_spoil 29 = .ok (.iload_n 1, 1) := by decide +kernel
theorem dX10_spoil_30 : decode cX10_spoil 30 = .ok (.iload_n 2, 1) := by decide +kernel
theorem dX10_spoil_31 : decode cX10_spoil 31 = .ok (.invokevirtual 128, 3) := by decide +kernel
theorem dX10_spoil_34 : decode cX10_spoil 34 = .ok (.aload_n 0, 1) := by decide +kernel
theorem dX10_spoil_35 : decode cX10_spoil 35 = .ok (.getfield 42, 3) := by decide +kernel
theorem dX10_spoil_38 : decode cX10_spoil 38 = .ok (.iload_n 1, 1) := by decide +kernel
theorem dX10_spoil_39 : decode cX10_spoil 39 = .ok (.invokevirtual 124, 3) := by decide +kernel
theorem dX10_spoil_42 : decode cX10_spoil 42 = .ok (.ireturn, 1) := by decide +kernel
theorem dX10_chance_0 : decode cX10_chance 0 = .ok (.aload_n 0, 1) := by decide +kernel
theorem dX10_chance_1 : decode cX10_chance 1 = .ok (.iload_n 1, 1) := by decide +kernel
theorem dX10_chance_2 : decode cX10_chance 2 = .ok (.invokevirtual 132, 3) := by decide +kernel
theorem dX10_chance_5 : decode cX10_chance 5 = .ok (.astore_n 2, 1) := by decide +kernel
theorem dX10_chance_6 : decode cX10_chance 6 = .ok (.aload_n 2, 1) := by decide +kernel
theorem dX10_chance_7 : decode cX10_chance 7 = .ok (.ifnonnull 7, 3) := by decide +kernel
theorem dX10_chance_10 : decode cX10_chance 10 = .ok (.iconst (-1), 1) := by decide +kernel
theorem dX10_chance_11 : decode cX10_chance 11 = .ok (.goto 7, 3) := by decide +kernel
theorem dX10_chance_14 : decode cX10_chance 14 = .ok (.aload_n 2, 1) := by decide +kernel
theorem dX10_chance_15 : decode cX10_chance 15 = .ok (.invokevirtual 136, 3) := by decide +kernel
theorem dX10_chance_18 : decode cX10_chance 18 = .ok (.ireturn, 1) := by decide +kernel
theorem dX10_input_0 : decode cX10_input 0 = .ok (.aload_n 0, 1) := by decide +kernel
theorem dX10_input_1 : decode cX10_input 1 = .ok (.iload_n 1, 1) := by decide +kernel
theorem dX10_input_2 : decode cX10_input 2 = .ok (.invokevirtual 132, 3) := by decide +kernel
theorem dX10_input_5 : decode cX10_input 5 = .ok (.astore_n 3, 1) := by decide +kernel
theorem dX10_input_6 : decode cX10_input 6 = .ok (.aload_n 3, 1) := by decide +kernel
theorem dX10_input_7 : decode cX10_input 7 = .ok (.ifnull 14, 3) := by decide +kernel
theorem dX10_input_10 : decode cX10_input 10 = .ok (.aload_n 0, 1) := by decide +kernel
theorem dX10_input_11 : decode cX10_input 11 = .ok (.getfield 23, 3) := by decide +kernel
theorem dX10_input_14 : decode cX10_input 14 = .ok (.iload_n 2, 1) := by decide +kernel
theorem dX10_input_15 : decode cX10_input 15 = .ok (.invokevirtual 81, 3) := by decide +kernel
theorem dX10_input_18 : decode cX10_input 18 = .ok (.ifCond .ne 7, 3) := by decide +kernel
theorem dX10_input_21 : decode cX10_input 21 = .ok (.sipush (-9999), 3) := by decide +kernel
theorem dX10_input_24 : decode cX10_input 24 = .ok (.ireturn, 1) := by decide +kernel
theorem dX10_input_25 : decode cX10_input 25 = .ok (.aload_n 3, 1) := by decide +kernel
theorem dX10_input_26 : decode cX10_input 26 = .ok (.iload_n 2, 1) := by decide +kernel
theorem dX10_input_27 : decode cX10_input 27 = .ok (.invokevirtual 139, 3) := by decide +kernel
theorem dX10_input_30 : decode cX10_input 30 = .ok (.ireturn, 1) := by decide +kernel
theorem dX10_weight_0 : decode cX10_weight 0 = .ok (.aload_n 0, 1) := by decide +kernel
theorem dX10_weight_1 : decode cX10_weight 1 = .ok (.iload_n 1, 1) := by decide +kernel
theorem dX10_weight_2 : decode cX10_weight 2 = .ok (.invokevirtual 132, 3) := by decide +kernel
theorem dX10_weight_5 : decode cX10_weight 5 = .ok (.astore 5, 2) := by decide +kernel
theorem dX10_weight_7 : decode cX10_weight 7 = .ok (.aload 5, 2) := by decide +kernel
theorem dX10_weight_9 : decode cX10_weight 9 = .ok (.ifnull 23, 3) := by decide +kernel
theorem dX10_weight_12 : decode cX10_weight 12 = .ok (.iload_n 2, 1) := by decide +kernel
theorem dX10_weight_13 : decode cX10_weight 13 = .ok (.ifCond .lt 19, 3) := by decide +kernel
theorem dX10_weight_16 : decode cX10_weight 16 = .ok (.iload_n 2, 1) := by decide +kernel
theorem dX10_weight_17 : decode cX10_weight 17 = .ok (.iconst 1, 1) := by decide +kernel
theorem dX10_weight_18 : decode cX10_weight 18 = .ok (.if_icmp .gt 14, 3) := by decide +kernel
theorem dX10_weight_21 : decode cX10_weight 21 = .ok (.iload_n 3, 1) := by decide +kernel
theorem dX10_weight_22 : decode cX10_weight 22 = .ok (.ifCond .lt 10, 3) := by decide +kernel
theorem dX10_weight_25 : decode cX10_weight 25 = .ok (.iload_n 3, 1) := by decide +kernel
theorem dX10_weight_26 : decode cX10_weight 26 = .ok (.sipush 256, 3) := by decide +kernel
theorem dX10_weight_29 : decode cX10_weight 29 = .ok (.if_icmp .lt 6, 3) := by decide +kernel
theorem dX10_weight_32 : decode cX10_weight 32 = .ok (.ldc 144, 2) := by decide +kernel
theorem dX10_weight_34 : decode cX10_weight 34 = .ok (.ireturn, 1) := by decide +kernel
theorem dX10_weight_35 : decode cX10_weight 35 = .ok (.iload_n 2, 1) := by decide +kernel
theorem dX10_weight_36 : decode cX10_weight 36 = .ok (.ifCond .ne 11, 3) := by decide +kernel
theorem dX10_weight_39 : decode cX10_weight 39 = .ok (.aload 5, 2) := by decide +kernel
theorem dX10_weight_41 : decode cX10_weight 41 = .ok (.getfield 145, 3) := by decide +kernel
theorem dX10_weight_44 : decode cX10_weight 44 = .ok (.goto 8, 3) := by decide +kernel
theorem dX10_weight_47 : decode cX10_weight 47 = .ok (.aload 5, 2) := by decide +kernel
theorem dX10_weight_49 : decode cX10_weight 49 = .ok (.getfield 149, 3) := by decide +kernel
theorem dX10_weight_52 : decode cX10_weight 52 = .ok (.astore 6, 2) := by decide +kernel
theorem dX10_weight_54 : decode cX10_weight 54 = .ok (.iload 4, 2) := by decide +kernel
theorem dX10_weight_56 : decode cX10_weight 56 = .ok (.aload_n 0, 1) := by decide +kernel
theorem dX10_weight_57 : decode cX10_weight 57 = .ok (.getfield 23, 3) := by decide +kernel
theorem dX10_weight_60 : decode cX10_weight 60 = .ok (.getfield 152, 3) := by decide +kernel
theorem dX10_weight_63 : decode cX10_weight 63 = .ok (.if_icmp .ne 12, 3) := by decide +kernel
theorem dX10_weight_66 : decode cX10_weight 66 = .ok (.aload 6, 2) := by decide +kernel
theorem dX10_weight_68 : decode cX10_weight 68 = .ok (.iload_n 3, 1) := by decide +kernel
theorem dX10_weight_69 : decode cX10_weight 69 = .ok (.bipush 8, 2) := by decide +kernel
theorem dX10_weight_71 : decode cX10_weight 71 = .ok (.invokevirtual 153, 3) := by decide +kernel
theorem dX10_weight_74 : decode cX10_weight 74 = .ok (.ireturn, 1) := by decide +kernel
theorem dX10_weight_75 : decode cX10_weight 75 = .ok (.aload_n 0, 1) := by decide +kernel
theorem dX10_weight_76 : decode cX10_weight 76 = .ok (.getfield 23, 3) := by decide +kernel
theorem dX10_weight_79 : decode cX10_weight 79 = .ok (.iload 4, 2) := by decide +kernel
theorem dX10_weight_81 : decode cX10_weight 81 = .ok (.invokevirtual 81, 3) := by decide +kernel
theorem dX10_weight_84 : decode cX10_weight 84 = .ok (.ifCond .eq 14, 3) := by decide +kernel
theorem dX10_weight_87 : decode cX10_weight 87 = .ok (.aload 6, 2) := by decide +kernel
theorem dX10_weight_89 : decode cX10_weight 89 = .ok (.iload_n 3, 1) := by decide +kernel
theorem dX10_weight_90 : decode cX10_weight 90 = .ok (.iload 4, 2) := by decide +kernel
theorem dX10_weight_92 : decode cX10_weight 92 = .ok (.invokevirtual 153, 3) := by decide +kernel
theorem dX10_weight_95 : decode cX10_weight 95 = .ok (.goto 5, 3) := by decide +kernel
theorem dX10_weight_98 : decode cX10_weight 98 = .ok (.ldc 144, 2) := by decide +kernel
theorem dX10_weight_100 : decode cX10_weight 100 = .ok (.ireturn, 1) := by decide +kernel
theorem dX10_slot_0 : decode cX10_slot 0 = .ok (.aload_n 0, 1) := by decide +kernel
theorem dX10_slot_1 : decode cX10_slot 1 = .ok (.iload_n 1, 1) := by decide +kernel
theorem dX10_slot_2 : decode cX10_slot 2 = .ok (.invokevirtual 132, 3) := by decide +kernel
theorem dX10_slot_5 : decode cX10_slot 5 = .ok (.astore_n 3, 1) := by decide +kernel
theorem dX10_slot_6 : decode cX10_slot 6 = .ok (.aload_n 3, 1) := by decide +kernel
theorem dX10_slot_7 : decode cX10_slot 7 = .ok (.ifnonnull 5, 3) := by decide +kernel
theorem dX10_slot_10 : decode cX10_slot 10 = .ok (.iconst (-1), 1) := by decide +kernel
theorem dX10_slot_11 : decode cX10_slot 11 = .ok (.ireturn, 1) := by decide +kernel
theorem dX10_slot_12 : decode cX10_slot 12 = .ok (.aload_n 3, 1) := by decide +kernel
theorem dX10_slot_13 : decode cX10_slot 13 = .ok (.getfield 156, 3) := by decide +kernel
theorem dX10_slot_16 : decode cX10_slot 16 = .ok (.iload_n 2, 1) := by decide +kernel
theorem dX10_slot_17 : decode cX10_slot 17 = .ok (.invokevirtual 160, 3) := by decide +kernel
theorem dX10_slot_20 : decode cX10_slot 20 = .ok (.ifCond .ne 13, 3) := by decide +kernel
theorem dX10_slot_23 : decode cX10_slot 23 = .ok (.new 163, 3) := by decide +kernel
theorem dX10_slot_26 : decode cX10_slot 26 = .ok (.dup, 1) := by decide +kernel
theorem dX10_slot_27 : decode cX10_slot 27 = .ok (.ldc 165, 2) := by decide +kernel
theorem dX10_slot_29 : decode cX10_slot 29 = .ok (.invokespecial 167, 3) := by decide +kernel
theorem dX10_slot_32 : decode cX10_slot 32 = .ok (.athrow, 1) := by decide +kernel
theorem dX10_slot_33 : decode cX10_slot 33 = .ok (.aload_n 3, 1) := by decide +kernel
theorem dX10_slot_34 : decode cX10_slot 34 = .ok (.getfield 156, 3) := by decide +kernel
theorem dX10_slot_37 : decode cX10_slot 37 = .ok (.getfield 170, 3) := by decide +kernel
theorem dX10_slot_40 : decode cX10_slot 40 = .ok (.iload_n 2, 1) := by decide +kernel
theorem dX10_slot_41 : decode cX10_slot 41 = .ok (.iaload, 1) := by decide +kernel
theorem dX10_slot_42 : decode cX10_slot 42 = .ok (.ireturn, 1) := by decide +kernel
theorem dX10_seen_0 : decode cX10_seen 0 = .ok (.aload_n 0, 1) := by decide +kernel
theorem dX10_seen_1 : decode cX10_seen 1 = .ok (.iload_n 1, 1) := by decide +kernel
theorem dX10_seen_2 : decode cX10_seen 2 = .ok (.invokevirtual 132, 3) := by decide +kernel
theorem dX10_seen_5 : decode cX10_seen 5 = .ok (.astore_n 3, 1) := by decide +kernel
theorem dX10_seen_6 : decode cX10_seen 6 = .ok (.aload_n 3, 1) := by decide +kernel
theorem dX10_seen_7 : decode cX10_seen 7 = .ok (.ifnull 14, 3) := by decide +kernel
theorem dX10_seen_10 : decode cX10_seen 10 = .ok (.aload_n 3, 1) := by decide +kernel
theorem dX10_seen_11 : decode cX10_seen 11 = .ok (.getfield 156, 3) := by decide +kernel
theorem dX10_seen_14 : decode cX10_seen 14 = .ok (.iload_n 2, 1) := by decide +kernel
theorem dX10_seen_15 : decode cX10_seen 15 = .ok (.invokevirtual 160, 3) := by decide +kernel
theorem dX10_seen_18 : decode cX10_seen 18 = .ok (.ifCond .ne 5, 3) := by decide +kernel
theorem dX10_seen_21 : decode cX10_seen 21 = .ok (.iconst (-1), 1) := by decide +kernel
theorem dX10_seen_22 : decode cX10_seen 22 = .ok (.ireturn, 1) := by decide +kernel
theorem dX10_seen_23 : decode cX10_seen 23 = .ok (.aload_n 3, 1) := by decide +kernel
theorem dX10_seen_24 : decode cX10_seen 24 = .ok (.getfield 156, 3) := by decide +kernel
theorem dX10_seen_27 : decode cX10_seen 27 = .ok (.getfield 174, 3) := by decide +kernel
theorem dX10_seen_30 : decode cX10_seen 30 = .ok (.iload_n 2, 1) := by decide +kernel
theorem dX10_seen_31 : decode cX10_seen 31 = .ok (.iaload, 1) := by decide +kernel
theorem dX10_seen_32 : decode cX10_seen 32 = .ok (.ireturn, 1) := by decide +kernel
theorem dX10_cell_0 : decode cX10_cell 0 = .ok (.aload_n 0, 1) := by decide +kernel
theorem dX10_cell_1 : decode cX10_cell 1 = .ok (.iload_n 1, 1) := by decide +kernel
theorem dX10_cell_2 : decode cX10_cell 2 = .ok (.invokevirtual 132, 3) := by decide +kernel
theorem dX10_cell_5 : decode cX10_cell 5 = .ok (.astore 4, 2) := by decide +kernel
theorem dX10_cell_7 : decode cX10_cell 7 = .ok (.aload 4, 2) := by decide +kernel
theorem dX10_cell_9 : decode cX10_cell 9 = .ok (.ifnull 11, 3) := by decide +kernel
theorem dX10_cell_12 : decode cX10_cell 12 = .ok (.iload_n 2, 1) := by decide +kernel
theorem dX10_cell_13 : decode cX10_cell 13 = .ok (.iload_n 3, 1) := by decide +kernel
theorem dX10_cell_14 : decode cX10_cell 14 = .ok (.invokestatic 177, 3) := by decide +kernel
theorem dX10_cell_17 : decode cX10_cell 17 = .ok (.ifCond .ne 6, 3) := by decide +kernel
theorem dX10_cell_20 : decode cX10_cell 20 = .ok (.ldc 181, 2) := by decide +kernel
theorem dX10_cell_22 : decode cX10_cell 22 = .ok (.ireturn, 1) := by decide +kernel
theorem dX10_cell_23 : decode cX10_cell 23 = .ok (.aload 4, 2) := by decide +kernel
theorem dX10_cell_25 : decode cX10_cell 25 = .ok (.getfield 182, 3) := by decide +kernel
theorem dX10_cell_28 : decode cX10_cell 28 = .ok (.iload_n 2, 1) := by decide +kernel
theorem dX10_cell_29 : decode cX10_cell 29 = .ok (.iload_n 3, 1) := by decide +kernel
theorem dX10_cell_30 : decode cX10_cell 30 = .ok (.invokevirtual 186, 3) := by decide +kernel
theorem dX10_cell_33 : decode cX10_cell 33 = .ok (.istore 5, 2) := by decide +kernel
theorem dX10_cell_35 : decode cX10_cell 35 = .ok (.iload 5, 2) := by decide +kernel
theorem dX10_cell_37 : decode cX10_cell 37 = .ok (.sipush 32767, 3) := by decide +kernel
theorem dX10_cell_40 : decode cX10_cell 40 = .ok (.if_icmp .le 11, 3) := by decide +kernel
theorem dX10_cell_43 : decode cX10_cell 43 = .ok (.iload 5, 2) := by decide +kernel
theorem dX10_cell_45 : decode cX10_cell 45 = .ok (.ldc 189, 2) := by decide +kernel
theorem dX10_cell_47 : decode cX10_cell 47 = .ok (.isub, 1) := by decide +kernel
theorem dX10_cell_48 : decode cX10_cell 48 = .ok (.goto 5, 3) := by decide +kernel
theorem dX10_cell_51 : decode cX10_cell 51 = .ok (.iload 5, 2) := by decide +kernel
theorem dX10_cell_53 : decode cX10_cell 53 = .ok (.ireturn, 1) := by decide +kernel
theorem dX10_squash_0 : decode cX10_squash 0 = .ok (.iload_n 1, 1) := by decide +kernel
theorem dX10_squash_1 : decode cX10_squash 1 = .ok (.invokestatic 190, 3) := by decide +kernel
theorem dX10_squash_4 : decode cX10_squash 4 = .ok (.ireturn, 1) := by decide +kernel
theorem dX10_stretch_0 : decode cX10_stretch 0 = .ok (.iload_n 1, 1) := by decide +kernel
theorem dX10_stretch_1 : decode cX10_stretch 1 = .ok (.ifCond .lt 10, 3) := by decide +kernel
theorem dX10_stretch_4 : decode cX10_stretch 4 = .ok (.iload_n 1, 1) := by decide +kernel
theorem dX10_stretch_5 : decode cX10_stretch 5 = .ok (.sipush 4095, 3) := by decide +kernel
theorem dX10_stretch_8 : decode cX10_stretch 8 = .ok (.if_icmp .le 9, 3) := by decide +kernel
theorem dX10_stretch_11 : decode cX10_stretch 11 = .ok (.sipush (-9999), 3) := by decide +kernel
theorem dX10_stretch_14 : decode cX10_stretch 14 = .ok (.goto 11, 3) := by decide +kernel
theorem dX10_stretch_17 : decode cX10_stretch 17 = .ok (.aload_n 0, 1) := by decide +kernel
theorem dX10_stretch_18 : decode cX10_stretch 18 = .ok (.getfield 16, 3) := by decide +kernel
theorem dX10_stretch_21 : decode cX10_stretch 21 = .ok (.iload_n 1, 1) := by decide +kernel
theorem dX10_stretch_22 : decode cX10_stretch 22 = .ok (.invokevirtual 193, 3) := by decide +kernel
theorem dX10_stretch_25 : decode cX10_stretch 25 = .ok (.ireturn, 1) := by decide +kernel
theorem dX10_equal_0 : decode cX10_equal 0 = .ok (.aload_n 0, 1) := by decide +kernel
theorem dX10_equal_1 : decode cX10_equal 1 = .ok (.getfield 32, 3) := by decide +kernel
theorem dX10_equal_4 : decode cX10_equal 4 = .ok (.aload_n 0, 1) := by decide +kernel
theorem dX10_equal_5 : decode cX10_equal 5 = .ok (.getfield 36, 3) := by decide +kernel
theorem dX10_equal_8 : decode cX10_equal 8 = .ok (.invokevirtual 196, 3) := by decide +kernel
theorem dX10_equal_11 : decode cX10_equal 11 = .ok (.ifCond .eq 7, 3) := by decide +kernel
theorem dX10_equal_14 : decode cX10_equal 14 = .ok (.iconst 1, 1) := by decide +kernel
theorem dX10_equal_15 : decode cX10_equal 15 = .ok (.goto 4, 3) := by decide +kernel
theorem dX10_equal_18 : decode cX10_equal 18 = .ok (.iconst 0, 1) := by decide +kernel
theorem dX10_equal_19 : decode cX10_equal 19 = .ok (.ireturn, 1) := by decide +kernel
theorem dX10_count_0 : decode cX10_count 0 = .ok (.iload_n 1, 1) := by decide +kernel
theorem dX10_count_1 : decode cX10_count 1 = .ok (.tableswitch 129 0 7 #[47, 55, 66, 77, 85, 96, 108, 121], 47) := by decide +kernel
theorem dX10_count_48 : decode cX10_count 48 = .ok (.aload_n 0, 1) := by decide +kernel
theorem dX10_count_49 : decode cX10_count 49 = .ok (.getfield 23, 3) := by decide +kernel
theorem dX10_count_52 : decode cX10_count 52 = .ok (.getfield 152, 3) := by decide +kernel
theorem dX10_count_55 : decode cX10_count 55 = .ok (.ireturn, 1) := by decide +kernel
theorem dX10_count_56 : decode cX10_count 56 = .ok (.aload_n 0, 1) := by decide +kernel
theorem dX10_count_57 : decode cX10_count 57 = .ok (.getfield 32, 3) := by decide +kernel
theorem dX10_count_60 : decode cX10_count 60 = .ok (.getfield 64, 3) := by decide +kernel
theorem dX10_count_63 : decode cX10_count 63 = .ok (.getfield 115, 3) := by decide +kernel
theorem dX10_count_66 : decode cX10_count 66 = .ok (.ireturn, 1) := by decide +kernel
theorem dX10_count_67 : decode cX10_count 67 = .ok (.aload_n 0, 1) := by decide +kernel
theorem dX10_count_68 : decode cX10_count 68 = .ok (.getfield 32, 3) := by decide +kernel
theorem dX10_count_71 : decode cX10_count 71 = .ok (.getfield 64, 3) := by decide +kernel
theorem dX10_count_74 : decode cX10_count 74 = .ok (.getfield 99, 3) := by decide +kernel
theorem dX10_count_77 : decode cX10_count 77 = .ok (.ireturn, 1) := by decide +kernel
theorem dX10_count_78 : decode cX10_count 78 = .ok (.aload_n 0, 1) := by decide +kernel
theorem dX10_count_79 : decode cX10_count 79 = .ok (.getfield 42, 3) := by decide +kernel
theorem dX10_count_82 : decode cX10_count 82 = .ok (.getfield 95, 3) := by decide +kernel
theorem dX10_count_85 : decode cX10_count 85 = .ok (.ireturn, 1) := by decide +kernel
theorem dX10_count_86 : decode cX10_count 86 = .ok (.aload_n 0, 1) := by decide +kernel
theorem dX10_count_87 : decode cX10_count 87 = .ok (.getfield 36, 3) := by decide +kernel
theorem dX10_count_90 : decode cX10_count 90 = .ok (.getfield 64, 3) := by decide +kernel
theorem dX10_count_93 : decode cX10_count 93 = .ok (.getfield 115, 3) := by decide +kernel
theorem dX10_count_96 : decode cX10_count 96 = .ok (.ireturn, 1) := by decide +kernel
theorem dX10_count_97 : decode cX10_count 97 = .ok (.aload_n 0, 1) := by decide +kernel
theorem dX10_count_98 : decode cX10_count 98 = .ok (.getfield 32, 3) := by decide +kernel
theorem dX10_count_101 : decode cX10_count 101 = .ok (.getfield 156, 3) := by decide +kernel
theorem dX10_count_104 : decode cX10_count 104 = .ok (.getfield 170, 3) := by decide +kernel
theorem dX10_count_107 : decode cX10_count 107 = .ok (.arraylength, 1) := by decide +kernel
theorem dX10_count_108 : decode cX10_count 108 = .ok (.ireturn, 1) := by decide +kernel
theorem dX10_count_109 : decode cX10_count 109 = .ok (.aload_n 0, 1) := by decide +kernel
theorem dX10_count_110 : decode cX10_count 110 = .ok (.getfield 60, 3) := by decide +kernel
theorem dX10_count_113 : decode cX10_count 113 = .ok (.ifCond .eq 7, 3) := by decide +kernel
theorem dX10_count_116 : decode cX10_count 116 = .ok (.iconst 1, 1) := by decide +kernel
theorem dX10_count_117 : decode cX10_count 117 = .ok (.goto 4, 3) := by decide +kernel
theorem dX10_count_120 : decode cX10_count 120 = .ok (.iconst 0, 1) := by decide +kernel
theorem dX10_count_121 : decode cX10_count 121 = .ok (.ireturn, 1) := by decide +kernel
theorem dX10_count_122 : decode cX10_count 122 = .ok (.aload_n 0, 1) := by decide +kernel
theorem dX10_count_123 : decode cX10_count 123 = .ok (.getfield 32, 3) := by decide +kernel
theorem dX10_count_126 : decode cX10_count 126 = .ok (.invokevirtual 200, 3) := by decide +kernel
theorem dX10_count_129 : decode cX10_count 129 = .ok (.ireturn, 1) := by decide +kernel
theorem dX10_count_130 : decode cX10_count 130 = .ok (.iconst (-1), 1) := by decide +kernel
theorem dX10_count_131 : decode cX10_count 131 = .ok (.ireturn, 1) := by decide +kernel
theorem dX10_sideOf_0 : decode cX10_sideOf 0 = .ok (.iload_n 1, 1) := by decide +kernel
theorem dX10_sideOf_1 : decode cX10_sideOf 1 = .ok (.ifCond .ne 8, 3) := by decide +kernel
theorem dX10_sideOf_4 : decode cX10_sideOf 4 = .ok (.aload_n 0, 1) := by decide +kernel
theorem dX10_sideOf_5 : decode cX10_sideOf 5 = .ok (.getfield 32, 3) := by decide +kernel
theorem dX10_sideOf_8 : decode cX10_sideOf 8 = .ok (.areturn, 1) := by decide +kernel
theorem dX10_sideOf_9 : decode cX10_sideOf 9 = .ok (.iload_n 1, 1) := by decide +kernel
theorem dX10_sideOf_10 : decode cX10_sideOf 10 = .ok (.iconst 1, 1) := by decide +kernel
theorem dX10_sideOf_11 : decode cX10_sideOf 11 = .ok (.if_icmp .ne 10, 3) := by decide +kernel
theorem dX10_sideOf_14 : decode cX10_sideOf 14 = .ok (.aload_n 0, 1) := by decide +kernel
theorem dX10_sideOf_15 : decode cX10_sideOf 15 = .ok (.getfield 36, 3) := by decide +kernel
theorem dX10_sideOf_18 : decode cX10_sideOf 18 = .ok (.goto 4, 3) := by decide +kernel
theorem dX10_sideOf_21 : decode cX10_sideOf 21 = .ok (.aconst_null, 1) := by decide +kernel
theorem dX10_sideOf_22 : decode cX10_sideOf 22 = .ok (.areturn, 1) := by decide +kernel
theorem dX10_isFull_0 : decode cX10_isFull 0 = .ok (.aload_n 0, 1) := by decide +kernel
theorem dX10_isFull_1 : decode cX10_isFull 1 = .ok (.getfield 32, 3) := by decide +kernel
theorem dX10_isFull_4 : decode cX10_isFull 4 = .ok (.getfield 64, 3) := by decide +kernel
theorem dX10_isFull_7 : decode cX10_isFull 7 = .ok (.getfield 115, 3) := by decide +kernel
theorem dX10_isFull_10 : decode cX10_isFull 10 = .ok (.sipush 2000, 3) := by decide +kernel
theorem dX10_isFull_13 : decode cX10_isFull 13 = .ok (.if_icmp .ge 16, 3) := by decide +kernel
theorem dX10_isFull_16 : decode cX10_isFull 16 = .ok (.aload_n 0, 1) := by decide +kernel
theorem dX10_isFull_17 : decode cX10_isFull 17 = .ok (.getfield 42, 3) := by decide +kernel
theorem dX10_isFull_20 : decode cX10_isFull 20 = .ok (.getfield 95, 3) := by decide +kernel
theorem dX10_isFull_23 : decode cX10_isFull 23 = .ok (.sipush 2992, 3) := by decide +kernel
theorem dX10_isFull_26 : decode cX10_isFull 26 = .ok (.if_icmp .le 7, 3) := by decide +kernel
theorem dX10_isFull_29 : decode cX10_isFull 29 = .ok (.iconst 1, 1) := by decide +kernel
theorem dX10_isFull_30 : decode cX10_isFull 30 = .ok (.goto 4, 3) := by decide +kernel
theorem dX10_isFull_33 : decode cX10_isFull 33 = .ok (.iconst 0, 1) := by decide +kernel
theorem dX10_isFull_34 : decode cX10_isFull 34 = .ok (.ireturn, 1) := by decide +kernel
theorem dX10_writeBit_0 : decode cX10_writeBit 0 = .ok (.aload_n 0, 1) := by decide +kernel
theorem dX10_writeBit_1 : decode cX10_writeBit 1 = .ok (.getfield 49, 3) := by decide +kernel
theorem dX10_writeBit_4 : decode cX10_writeBit 4 = .ok (.iload_n 1, 1) := by decide +kernel
theorem dX10_writeBit_5 : decode cX10_writeBit 5 = .ok (.aload_n 0, 1) := by decide +kernel
theorem dX10_writeBit_6 : decode cX10_writeBit 6 = .ok (.getfield 49, 3) := by decide +kernel
theorem dX10_writeBit_9 : decode cX10_writeBit 9 = .ok (.aload_n 0, 1) := by decide +kernel
theorem dX10_writeBit_10 : decode cX10_writeBit 10 = .ok (.getfield 32, 3) := by decide +kernel
theorem dX10_writeBit_13 : decode cX10_writeBit 13 = .ok (.invokevirtual 136, 3) := by decide +kernel
theorem dX10_writeBit_16 : decode cX10_writeBit 16 = .ok (.invokevirtual 203, 3) := by decide +kernel
theorem dX10_writeBit_19 : decode cX10_writeBit 19 = .ok (.invokevirtual 207, 3) := by decide +kernel
theorem dX10_writeBit_22 : decode cX10_writeBit 22 = .ok (.iconst 0, 1) := by decide +kernel
theorem dX10_writeBit_23 : decode cX10_writeBit 23 = .ok (.istore_n 2, 1) := by decide +kernel
theorem dX10_writeBit_24 : decode cX10_writeBit 24 = .ok (.iload_n 2, 1) := by decide +kernel
theorem dX10_writeBit_25 : decode cX10_writeBit 25 = .ok (.iconst 4, 1) := by decide +kernel
theorem dX10_writeBit_26 : decode cX10_writeBit 26 = .ok (.if_icmp .ge 40, 3) := by decide +kernel
theorem dX10_writeBit_29 : decode cX10_writeBit 29 = .ok (.aload_n 0, 1) := by decide +kernel
theorem dX10_writeBit_30 : decode cX10_writeBit 30 = .ok (.getfield 49, 3) := by decide +kernel
theorem dX10_writeBit_33 : decode cX10_writeBit 33 = .ok (.invokevirtual 211, 3) := by decide +kernel
theorem dX10_writeBit_36 : decode cX10_writeBit 36 = .ok (.ifCond .eq 30, 3) := by decide +kernel
theorem dX10_writeBit_39 : decode cX10_writeBit 39 = .ok (.aload_n 0, 1) := by decide +kernel
theorem dX10_writeBit_40 : decode cX10_writeBit 40 = .ok (.getfield 42, 3) := by decide +kernel
theorem dX10_writeBit_43 : decode cX10_writeBit 43 = .ok (.aload_n 0, 1) := by decide +kernel
theorem dX10_writeBit_44 : decode cX10_writeBit 44 = .ok (.getfield 49, 3) := by decide +kernel
theorem dX10_writeBit_47 : decode cX10_writeBit 47 = .ok (.invokevirtual 102, 3) := by decide +kernel
theorem dX10_writeBit_50 : decode cX10_writeBit 50 = .ok (.invokevirtual 106, 3) := by decide +kernel
theorem dX10_writeBit_53 : decode cX10_writeBit 53 = .ok (.aload_n 0, 1) := by decide +kernel
theorem dX10_writeBit_54 : decode cX10_writeBit 54 = .ok (.getfield 49, 3) := by decide +kernel
theorem dX10_writeBit_57 : decode cX10_writeBit 57 = .ok (.invokevirtual 109, 3) := by decide +kernel
theorem dX10_writeBit_60 : decode cX10_writeBit 60 = .ok (.iinc 2 1, 3) := by decide +kernel
theorem dX10_writeBit_63 : decode cX10_writeBit 63 = .ok (.goto (-39), 3) := by decide +kernel
theorem dX10_writeBit_66 : decode cX10_writeBit 66 = .ok (.aload_n 0, 1) := by decide +kernel
theorem dX10_writeBit_67 : decode cX10_writeBit 67 = .ok (.getfield 32, 3) := by decide +kernel
theorem dX10_writeBit_70 : decode cX10_writeBit 70 = .ok (.iload_n 1, 1) := by decide +kernel
theorem dX10_writeBit_71 : decode cX10_writeBit 71 = .ok (.invokevirtual 214, 3) := by decide +kernel
theorem dX10_writeBit_74 : decode cX10_writeBit 74 = .ok (.return_, 1) := by decide +kernel
theorem dX10_readBit_0 : decode cX10_readBit 0 = .ok (.aload_n 0, 1) := by decide +kernel
theorem dX10_readBit_1 : decode cX10_readBit 1 = .ok (.getfield 53, 3) := by decide +kernel
theorem dX10_readBit_4 : decode cX10_readBit 4 = .ok (.aload_n 0, 1) := by decide +kernel
theorem dX10_readBit_5 : decode cX10_readBit 5 = .ok (.getfield 36, 3) := by decide +kernel
theorem dX10_readBit_8 : decode cX10_readBit 8 = .ok (.invokevirtual 136, 3) := by decide +kernel
theorem dX10_readBit_11 : decode cX10_readBit 11 = .ok (.invokevirtual 203, 3) := by decide +kernel
theorem dX10_readBit_14 : decode cX10_readBit 14 = .ok (.lstore_n 1, 1) := by decide +kernel
theorem dX10_readBit_15 : decode cX10_readBit 15 = .ok (.aload_n 0, 1) := by decide +kernel
theorem dX10_readBit_16 : decode cX10_readBit 16 = .ok (.getfield 217, 3) := by decide +kernel
theorem dX10_readBit_19 : decode cX10_readBit 19 = .ok (.lload_n 1, 1) := by decide +kernel
theorem dX10_readBit_20 : decode cX10_readBit 20 = .ok (.lcmp, 1) := by decide +kernel
theorem dX10_readBit_21 : decode cX10_readBit 21 = .ok (.ifCond .gt 7, 3) := by decide +kernel
theorem dX10_readBit_24 : decode cX10_readBit 24 = .ok (.iconst 1, 1) := by decide +kernel
theorem dX10_readBit_25 : decode cX10_readBit 25 = .ok (.goto 4, 3) := by decide +kernel
theorem dX10_readBit_28 : decode cX10_readBit 28 = .ok (.iconst 0, 1) := by decide +kernel
theorem dX10_readBit_29 : decode cX10_readBit 29 = .ok (.istore_n 3, 1) := by decide +kernel
theorem dX10_readBit_30 : decode cX10_readBit 30 = .ok (.aload_n 0, 1) := by decide +kernel
theorem dX10_readBit_31 : decode cX10_readBit 31 = .ok (.getfield 53, 3) := by decide +kernel
theorem dX10_readBit_34 : decode cX10_readBit 34 = .ok (.iload_n 3, 1) := by decide +kernel
theorem dX10_readBit_35 : decode cX10_readBit 35 = .ok (.lload_n 1, 1) := by decide +kernel
theorem dX10_readBit_36 : decode cX10_readBit 36 = .ok (.invokevirtual 207, 3) := by decide +kernel
theorem dX10_readBit_39 : decode cX10_readBit 39 = .ok (.iconst 0, 1) := by decide +kernel
theorem dX10_readBit_40 : decode cX10_readBit 40 = .ok (.istore 4, 2) := by decide +kernel
theorem dX10_readBit_42 : decode cX10_readBit 42 = .ok (.iload 4, 2) := by decide +kernel
theorem dX10_readBit_44 : decode cX10_readBit 44 = .ok (.iconst 4, 1) := by decide +kernel
theorem dX10_readBit_45 : decode cX10_readBit 45 = .ok (.if_icmp .ge 30, 3) := by decide +kernel
theorem dX10_readBit_48 : decode cX10_readBit 48 = .ok (.aload_n 0, 1) := by decide +kernel
theorem dX10_readBit_49 : decode cX10_readBit 49 = .ok (.getfield 53, 3) := by decide +kernel
theorem dX10_readBit_52 : decode cX10_readBit 52 = .ok (.invokevirtual 211, 3) := by decide +kernel
theorem dX10_readBit_55 : decode cX10_readBit 55 = .ok (.ifCond .eq 20, 3) := by decide +kernel
theorem dX10_readBit_58 : decode cX10_readBit 58 = .ok (.aload_n 0, 1) := by decide +kernel
theorem dX10_readBit_59 : decode cX10_readBit 59 = .ok (.getfield 53, 3) := by decide +kernel
theorem dX10_readBit_62 : decode cX10_readBit 62 = .ok (.invokevirtual 109, 3) := by decide +kernel
theorem dX10_readBit_65 : decode cX10_readBit 65 = .ok (.aload_n 0, 1) := by decide +kernel
theorem dX10_readBit_66 : decode cX10_readBit 66 = .ok (.invokevirtual 221, 3) := by decide +kernel
theorem dX10_readBit_69 : decode cX10_readBit 69 = .ok (.iinc 4 1, 3) := by decide +kernel
theorem dX10_readBit_72 : decode cX10_readBit 72 = .ok (.goto (-30), 3) := by decide +kernel
theorem dX10_readBit_75 : decode cX10_readBit 75 = .ok (.aload_n 0, 1) := by decide +kernel
theorem dX10_readBit_76 : decode cX10_readBit 76 = .ok (.getfield 36, 3) := by decide +kernel
theorem dX10_readBit_79 : decode cX10_readBit 79 = .ok (.iload_n 3, 1) := by decide +kernel
theorem dX10_readBit_80 : decode cX10_readBit 80 = .ok (.invokevirtual 214, 3) := by decide +kernel
theorem dX10_readBit_83 : decode cX10_readBit 83 = .ok (.iload_n 3, 1) := by decide +kernel
theorem dX10_readBit_84 : decode cX10_readBit 84 = .ok (.ireturn, 1) := by decide +kernel
theorem dX10_beginReading_0 : decode cX10_beginReading 0 = .ok (.aload_n 0, 1) := by decide +kernel
theorem dX10_beginReading_1 : decode cX10_beginReading 1 = .ok (.getfield 53, 3) := by decide +kernel
theorem dX10_beginReading_4 : decode cX10_beginReading 4 = .ok (.invokevirtual 122, 3) := by decide +kernel
theorem dX10_beginReading_7 : decode cX10_beginReading 7 = .ok (.aload_n 0, 1) := by decide +kernel
theorem dX10_beginReading_8 : decode cX10_beginReading 8 = .ok (.lconst 0, 1) := by decide +kernel
theorem dX10_beginReading_9 : decode cX10_beginReading 9 = .ok (.putfield 217, 3) := by decide +kernel
theorem dX10_beginReading_12 : decode cX10_beginReading 12 = .ok (.aload_n 0, 1) := by decide +kernel
theorem dX10_beginReading_13 : decode cX10_beginReading 13 = .ok (.iconst 0, 1) := by decide +kernel
theorem dX10_beginReading_14 : decode cX10_beginReading 14 = .ok (.putfield 224, 3) := by decide +kernel
theorem dX10_beginReading_17 : decode cX10_beginReading 17 = .ok (.iconst 0, 1) := by decide +kernel
theorem dX10_beginReading_18 : decode cX10_beginReading 18 = .ok (.istore_n 1, 1) := by decide +kernel
theorem dX10_beginReading_19 : decode cX10_beginReading 19 = .ok (.iload_n 1, 1) := by decide +kernel
theorem dX10_beginReading_20 : decode cX10_beginReading 20 = .ok (.iconst 4, 1) := by decide +kernel
theorem dX10_beginReading_21 : decode cX10_beginReading 21 = .ok (.if_icmp .ge 13, 3) := by decide +kernel
theorem dX10_beginReading_24 : decode cX10_beginReading 24 = .ok (.aload_n 0, 1) := by decide +kernel
theorem dX10_beginReading_25 : decode cX10_beginReading 25 = .ok (.invokevirtual 221, 3) := by decide +kernel
theorem dX10_beginReading_28 : decode cX10_beginReading 28 = .ok (.iinc 1 1, 3) := by decide +kernel
theorem dX10_beginReading_31 : decode cX10_beginReading 31 = .ok (.goto (-12), 3) := by decide +kernel
theorem dX10_beginReading_34 : decode cX10_beginReading 34 = .ok (.return_, 1) := by decide +kernel
theorem dX10_takeByte_0 : decode cX10_takeByte 0 = .ok (.aload_n 0, 1) := by decide +kernel
theorem dX10_takeByte_1 : decode cX10_takeByte 1 = .ok (.getfield 42, 3) := by decide +kernel
theorem dX10_takeByte_4 : decode cX10_takeByte 4 = .ok (.aload_n 0, 1) := by decide +kernel
theorem dX10_takeByte_5 : decode cX10_takeByte 5 = .ok (.getfield 224, 3) := by decide +kernel
theorem dX10_takeByte_8 : decode cX10_takeByte 8 = .ok (.invokevirtual 123, 3) := by decide +kernel
theorem dX10_takeByte_11 : decode cX10_takeByte 11 = .ok (.ifCond .eq 17, 3) := by decide +kernel
theorem dX10_takeByte_14 : decode cX10_takeByte 14 = .ok (.aload_n 0, 1) := by decide +kernel
theorem dX10_takeByte_15 : decode cX10_takeByte 15 = .ok (.getfield 42, 3) := by decide +kernel
theorem dX10_takeByte_18 : decode cX10_takeByte 18 = .ok (.aload_n 0, 1) := by decide +kernel
theorem dX10_takeByte_19 : decode cX10_takeByte 19 = .ok (.getfield 224, 3) := by decide +kernel
theorem dX10_takeByte_22 : decode cX10_takeByte 22 = .ok (.invokevirtual 124, 3) := by decide +kernel
theorem dX10_takeByte_25 : decode cX10_takeByte 25 = .ok (.goto 4, 3) := by decide +kernel
theorem dX10_takeByte_28 : decode cX10_takeByte 28 = .ok (.iconst 0, 1) := by decide +kernel
theorem dX10_takeByte_29 : decode cX10_takeByte 29 = .ok (.istore_n 1, 1) := by decide +kernel
theorem dX10_takeByte_30 : decode cX10_takeByte 30 = .ok (.aload_n 0, 1) := by decide +kernel
theorem dX10_takeByte_31 : decode cX10_takeByte 31 = .ok (.aload_n 0, 1) := by decide +kernel
theorem dX10_takeByte_32 : decode cX10_takeByte 32 = .ok (.getfield 217, 3) := by decide +kernel
theorem dX10_takeByte_35 : decode cX10_takeByte 35 = .ok (.bipush 8, 2) := by decide +kernel
theorem dX10_takeByte_37 : decode cX10_takeByte 37 = .ok (.lshl, 1) := by decide +kernel
theorem dX10_takeByte_38 : decode cX10_takeByte 38 = .ok (.ldc2_w 227, 3) := by decide +kernel
theorem dX10_takeByte_41 : decode cX10_takeByte 41 = .ok (.land, 1) := by decide +kernel
theorem dX10_takeByte_42 : decode cX10_takeByte 42 = .ok (.iload_n 1, 1) := by decide +kernel
theorem dX10_takeByte_43 : decode cX10_takeByte 43 = .ok (.i2l, 1) := by decide +kernel
theorem dX10_takeByte_44 : decode cX10_takeByte 44 = .ok (.lor, 1) := by decide +kernel
theorem dX10_takeByte_45 : decode cX10_takeByte 45 = .ok (.putfield 217, 3) := by decide +kernel
theorem dX10_takeByte_48 : decode cX10_takeByte 48 = .ok (.aload_n 0, 1) := by decide +kernel
theorem dX10_takeByte_49 : decode cX10_takeByte 49 = .ok (.dup, 1) := by decide +kernel
theorem dX10_takeByte_50 : decode cX10_takeByte 50 = .ok (.getfield 224, 3) := by decide +kernel
theorem dX10_takeByte_53 : decode cX10_takeByte 53 = .ok (.iconst 1, 1) := by decide +kernel
theorem dX10_takeByte_54 : decode cX10_takeByte 54 = .ok (.iadd, 1) := by decide +kernel
theorem dX10_takeByte_55 : decode cX10_takeByte 55 = .ok (.putfield 224, 3) := by decide +kernel
theorem dX10_takeByte_58 : decode cX10_takeByte 58 = .ok (.return_, 1) := by decide +kernel
theorem dJx00060_init_a7421_0 : decode cJx00060_init_a7421 0 = .ok (.aload_n 0, 1) := by decide +kernel
theorem dJx00060_init_a7421_1 : decode cJx00060_init_a7421 1 = .ok (.aload_n 1, 1) := by decide +kernel
theorem dJx00060_init_a7421_2 : decode cJx00060_init_a7421 2 = .ok (.invokespecial 7, 3) := by decide +kernel
theorem dJx00060_init_a7421_5 : decode cJx00060_init_a7421 5 = .ok (.return_, 1) := by decide +kernel
theorem dJ9_max_7cf53_0 : decode cJ9_max_7cf53 0 = .ok (.iload_n 0, 1) := by decide +kernel
theorem dJ9_max_7cf53_1 : decode cJ9_max_7cf53 1 = .ok (.iload_n 1, 1) := by decide +kernel
theorem dJ9_max_7cf53_2 : decode cJ9_max_7cf53 2 = .ok (.if_icmp .lt 7, 3) := by decide +kernel
theorem dJ9_max_7cf53_5 : decode cJ9_max_7cf53 5 = .ok (.iload_n 0, 1) := by decide +kernel
theorem dJ9_max_7cf53_6 : decode cJ9_max_7cf53 6 = .ok (.goto 4, 3) := by decide +kernel
theorem dJ9_max_7cf53_9 : decode cJ9_max_7cf53 9 = .ok (.iload_n 1, 1) := by decide +kernel
theorem dJ9_max_7cf53_10 : decode cJ9_max_7cf53 10 = .ok (.ireturn, 1) := by decide +kernel
theorem dJ9_max_f86c9_0 : decode cJ9_max_f86c9 0 = .ok (.lload_n 0, 1) := by decide +kernel
theorem dJ9_max_f86c9_1 : decode cJ9_max_f86c9 1 = .ok (.lload_n 2, 1) := by decide +kernel
theorem dJ9_max_f86c9_2 : decode cJ9_max_f86c9 2 = .ok (.lcmp, 1) := by decide +kernel
theorem dJ9_max_f86c9_3 : decode cJ9_max_f86c9 3 = .ok (.ifCond .lt 7, 3) := by decide +kernel
theorem dJ9_max_f86c9_6 : decode cJ9_max_f86c9 6 = .ok (.lload_n 0, 1) := by decide +kernel
theorem dJ9_max_f86c9_7 : decode cJ9_max_f86c9 7 = .ok (.goto 4, 3) := by decide +kernel
theorem dJ9_max_f86c9_10 : decode cJ9_max_f86c9 10 = .ok (.lload_n 2, 1) := by decide +kernel
theorem dJ9_max_f86c9_11 : decode cJ9_max_f86c9 11 = .ok (.lreturn, 1) := by decide +kernel
theorem dJ9_min_7cf53_0 : decode cJ9_min_7cf53 0 = .ok (.iload_n 0, 1) := by decide +kernel
theorem dJ9_min_7cf53_1 : decode cJ9_min_7cf53 1 = .ok (.iload_n 1, 1) := by decide +kernel
theorem dJ9_min_7cf53_2 : decode cJ9_min_7cf53 2 = .ok (.if_icmp .gt 7, 3) := by decide +kernel
theorem dJ9_min_7cf53_5 : decode cJ9_min_7cf53 5 = .ok (.iload_n 0, 1) := by decide +kernel
theorem dJ9_min_7cf53_6 : decode cJ9_min_7cf53 6 = .ok (.goto 4, 3) := by decide +kernel
theorem dJ9_min_7cf53_9 : decode cJ9_min_7cf53 9 = .ok (.iload_n 1, 1) := by decide +kernel
theorem dJ9_min_7cf53_10 : decode cJ9_min_7cf53 10 = .ok (.ireturn, 1) := by decide +kernel
theorem dJ9_min_f86c9_0 : decode cJ9_min_f86c9 0 = .ok (.lload_n 0, 1) := by decide +kernel
theorem dJ9_min_f86c9_1 : decode cJ9_min_f86c9 1 = .ok (.lload_n 2, 1) := by decide +kernel
theorem dJ9_min_f86c9_2 : decode cJ9_min_f86c9 2 = .ok (.lcmp, 1) := by decide +kernel
theorem dJ9_min_f86c9_3 : decode cJ9_min_f86c9 3 = .ok (.ifCond .gt 7, 3) := by decide +kernel
theorem dJ9_min_f86c9_6 : decode cJ9_min_f86c9 6 = .ok (.lload_n 0, 1) := by decide +kernel
theorem dJ9_min_f86c9_7 : decode cJ9_min_f86c9 7 = .ok (.goto 4, 3) := by decide +kernel
theorem dJ9_min_f86c9_10 : decode cJ9_min_f86c9 10 = .ok (.lload_n 2, 1) := by decide +kernel
theorem dJ9_min_f86c9_11 : decode cJ9_min_f86c9 11 = .ok (.lreturn, 1) := by decide +kernel
theorem dJ7_fill_53178_0 : decode cJ7_fill_53178 0 = .ok (.iconst 0, 1) := by decide +kernel
theorem dJ7_fill_53178_1 : decode cJ7_fill_53178 1 = .ok (.istore_n 2, 1) := by decide +kernel
theorem dJ7_fill_53178_2 : decode cJ7_fill_53178 2 = .ok (.aload_n 0, 1) := by decide +kernel
theorem dJ7_fill_53178_3 : decode cJ7_fill_53178 3 = .ok (.arraylength, 1) := by decide +kernel
theorem dJ7_fill_53178_4 : decode cJ7_fill_53178 4 = .ok (.istore_n 3, 1) := by decide +kernel
theorem dJ7_fill_53178_5 : decode cJ7_fill_53178 5 = .ok (.iload_n 2, 1) := by decide +kernel
theorem dJ7_fill_53178_6 : decode cJ7_fill_53178 6 = .ok (.iload_n 3, 1) := by decide +kernel
theorem dJ7_fill_53178_7 : decode cJ7_fill_53178 7 = .ok (.if_icmp .ge 13, 3) := by decide +kernel
theorem dJ7_fill_53178_10 : decode cJ7_fill_53178 10 = .ok (.aload_n 0, 1) := by decide +kernel
theorem dJ7_fill_53178_11 : decode cJ7_fill_53178 11 = .ok (.iload_n 2, 1) := by decide +kernel
theorem dJ7_fill_53178_12 : decode cJ7_fill_53178 12 = .ok (.iload_n 1, 1) := by decide +kernel
theorem dJ7_fill_53178_13 : decode cJ7_fill_53178 13 = .ok (.iastore, 1) := by decide +kernel
theorem dJ7_fill_53178_14 : decode cJ7_fill_53178 14 = .ok (.iinc 2 1, 3) := by decide +kernel
theorem dJ7_fill_53178_17 : decode cJ7_fill_53178 17 = .ok (.goto (-12), 3) := by decide +kernel
theorem dJ7_fill_53178_20 : decode cJ7_fill_53178 20 = .ok (.return_, 1) := by decide +kernel
end
section
theorem dX11_init_0 : decode cX11_init 0 = .ok (.aload_n 0, 1) := by decide +kernel
theorem dX11_init_1 : decode cX11_init 1 = .ok (.invokespecial 1, 3) := by decide +kernel
theorem dX11_init_4 : decode cX11_init 4 = .ok (.aload_n 0, 1) := by decide +kernel
theorem dX11_init_5 : decode cX11_init 5 = .ok (.sipush 4096, 3) := by decide +kernel
theorem dX11_init_8 : decode cX11_init 8 = .ok (.newarray .int, 2) := by decide +kernel
theorem dX11_init_10 : decode cX11_init 10 = .ok (.putfield 7, 3) := by decide +kernel
theorem dX11_init_13 : decode cX11_init 13 = .ok (.aload_n 0, 1) := by decide +kernel
theorem dX11_init_14 : decode cX11_init 14 = .ok (.bipush 8, 2) := by decide +kernel
theorem dX11_init_16 : decode cX11_init 16 = .ok (.newarray .int, 2) := by decide +kernel
theorem dX11_init_18 : decode cX11_init 18 = .ok (.putfield 13, 3) := by decide +kernel
theorem dX11_init_21 : decode cX11_init 21 = .ok (.aload_n 0, 1) := by decide +kernel
theorem dX11_init_22 : decode cX11_init 22 = .ok (.bipush 8, 2) := by decide +kernel
theorem dX11_init_24 : decode cX11_init 24 = .ok (.newarray .int, 2) := by decide +kernel
theorem dX11_init_26 : decode cX11_init 26 = .ok (.putfield 16, 3) := by decide +kernel
theorem dX11_init_29 : decode cX11_init 29 = .ok (.aload_n 0, 1) := by decide +kernel
theorem dX11_init_30 : decode cX11_init 30 = .ok (.bipush 8, 2) := by decide +kernel
theorem dX11_init_32 : decode cX11_init 32 = .ok (.newarray .boolean, 2) := by decide +kernel
theorem dX11_init_34 : decode cX11_init 34 = .ok (.putfield 19, 3) := by decide +kernel
theorem dX11_init_37 : decode cX11_init 37 = .ok (.aload_n 0, 1) := by decide +kernel
theorem dX11_init_38 : decode cX11_init 38 = .ok (.sipush 4100, 3) := by decide +kernel
theorem dX11_init_41 : decode cX11_init 41 = .ok (.newarray .int, 2) := by decide +kernel
theorem dX11_init_43 : decode cX11_init 43 = .ok (.putfield 23, 3) := by decide +kernel
theorem dX11_init_46 : decode cX11_init 46 = .ok (.aload_n 0, 1) := by decide +kernel
theorem dX11_init_47 : decode cX11_init 47 = .ok (.iconst 2, 1) := by decide +kernel
theorem dX11_init_48 : decode cX11_init 48 = .ok (.newarray .int, 2) := by decide +kernel
theorem dX11_init_50 : decode cX11_init 50 = .ok (.putfield 26, 3) := by decide +kernel
theorem dX11_init_53 : decode cX11_init 53 = .ok (.aload_n 0, 1) := by decide +kernel
theorem dX11_init_54 : decode cX11_init 54 = .ok (.iconst 2, 1) := by decide +kernel
theorem dX11_init_55 : decode cX11_init 55 = .ok (.newarray .int, 2) := by decide +kernel
theorem dX11_init_57 : decode cX11_init 57 = .ok (.putfield 29, 3) := by decide +kernel
theorem dX11_init_60 : decode cX11_init 60 = .ok (.aload_n 0, 1) := by decide +kernel
theorem dX11_init_61 : decode cX11_init 61 = .ok (.bipush 16, 2) := by decide +kernel
theorem dX11_init_63 : decode cX11_init 63 = .ok (.newarray .int, 2) := by decide +kernel
theorem dX11_init_65 : decode cX11_init 65 = .ok (.putfield 32, 3) := by decide +kernel
theorem dX11_init_68 : decode cX11_init 68 = .ok (.aload_n 0, 1) := by decide +kernel
theorem dX11_init_69 : decode cX11_init 69 = .ok (.bipush 16, 2) := by decide +kernel
theorem dX11_init_71 : decode cX11_init 71 = .ok (.newarray .int, 2) := by decide +kernel
theorem dX11_init_73 : decode cX11_init 73 = .ok (.putfield 35, 3) := by decide +kernel
theorem dX11_init_76 : decode cX11_init 76 = .ok (.aload_n 0, 1) := by decide +kernel
theorem dX11_init_77 : decode cX11_init 77 = .ok (.bipush 16, 2) := by decide +kernel
theorem dX11_init_79 : decode cX11_init 79 = .ok (.newarray .int, 2) := by decide +kernel
theorem dX11_init_81 : decode cX11_init 81 = .ok (.putfield 38, 3) := by decide +kernel
theorem dX11_init_84 : decode cX11_init 84 = .ok (.aload_n 0, 1) := by decide +kernel
theorem dX11_init_85 : decode cX11_init 85 = .ok (.sipush 8192, 3) := by decide +kernel
theorem dX11_init_88 : decode cX11_init 88 = .ok (.newarray .int, 2) := by decide +kernel
theorem dX11_init_90 : decode cX11_init 90 = .ok (.putfield 41, 3) := by decide +kernel
theorem dX11_init_93 : decode cX11_init 93 = .ok (.aload_n 0, 1) := by decide +kernel
theorem dX11_init_94 : decode cX11_init 94 = .ok (.sipush 8192, 3) := by decide +kernel
theorem dX11_init_97 : decode cX11_init 97 = .ok (.newarray .int, 2) := by decide +kernel
theorem dX11_init_99 : decode cX11_init 99 = .ok (.putfield 44, 3) := by decide +kernel
theorem dX11_init_102 : decode cX11_init 102 = .ok (.aload_n 0, 1) := by decide +kernel
theorem dX11_init_103 : decode cX11_init 103 = .ok (.sipush 9216, 3) := by decide +kernel
theorem dX11_init_106 : decode cX11_init 106 = .ok (.newarray .int, 2) := by decide +kernel
theorem dX11_init_108 : decode cX11_init 108 = .ok (.putfield 47, 3) := by decide +kernel
theorem dX11_init_111 : decode cX11_init 111 = .ok (.aload_n 0, 1) := by decide +kernel
theorem dX11_init_112 : decode cX11_init 112 = .ok (.sipush 16896, 3) := by decide +kernel
theorem dX11_init_115 : decode cX11_init 115 = .ok (.newarray .int, 2) := by decide +kernel
theorem dX11_init_117 : decode cX11_init 117 = .ok (.putfield 50, 3) := by decide +kernel
theorem dX11_init_120 : decode cX11_init 120 = .ok (.aload_n 0, 1) := by decide +kernel
theorem dX11_init_121 : decode cX11_init 121 = .ok (.iconst 2, 1) := by decide +kernel
theorem dX11_init_122 : decode cX11_init 122 = .ok (.newarray .long, 2) := by decide +kernel
theorem dX11_init_124 : decode cX11_init 124 = .ok (.putfield 53, 3) := by decide +kernel
theorem dX11_init_127 : decode cX11_init 127 = .ok (.aload_n 0, 1) := by decide +kernel
theorem dX11_init_128 : decode cX11_init 128 = .ok (.iconst 2, 1) := by decide +kernel
theorem dX11_init_129 : decode cX11_init 129 = .ok (.newarray .long, 2) := by decide +kernel
theorem dX11_init_131 : decode cX11_init 131 = .ok (.putfield 57, 3) := by decide +kernel
theorem dX11_init_134 : decode cX11_init 134 = .ok (.aload_n 0, 1) := by decide +kernel
theorem dX11_init_135 : decode cX11_init 135 = .ok (.sipush 3200, 3) := by decide +kernel
theorem dX11_init_138 : decode cX11_init 138 = .ok (.newarray .int, 2) := by decide +kernel
theorem dX11_init_140 : decode cX11_init 140 = .ok (.putfield 60, 3) := by decide +kernel
theorem dX11_init_143 : decode cX11_init 143 = .ok (.aload_n 0, 1) := by decide +kernel
theorem dX11_init_144 : decode cX11_init 144 = .ok (.bipush 9, 2) := by decide +kernel
theorem dX11_init_146 : decode cX11_init 146 = .ok (.newarray .int, 2) := by decide +kernel
theorem dX11_init_148 : decode cX11_init 148 = .ok (.putfield 63, 3) := by decide +kernel
theorem dX11_init_151 : decode cX11_init 151 = .ok (.aload_n 0, 1) := by decide +kernel
theorem dX11_init_152 : decode cX11_init 152 = .ok (.iload_n 1, 1) := by decide +kernel
theorem dX11_init_153 : decode cX11_init 153 = .ok (.bipush 6, 2) := by decide +kernel
theorem dX11_init_155 : decode cX11_init 155 = .ok (.if_icmp .ge 8, 3) := by decide +kernel
theorem dX11_init_158 : decode cX11_init 158 = .ok (.bipush 6, 2) := by decide +kernel
theorem dX11_init_160 : decode cX11_init 160 = .ok (.goto 15, 3) := by decide +kernel
theorem dX11_init_163 : decode cX11_init 163 = .ok (.iload_n 1, 1) := by decide +kernel
theorem dX11_init_164 : decode cX11_init 164 = .ok (.bipush 12, 2) := by decide +kernel
theorem dX11_init_166 : decode cX11_init 166 = .ok (.if_icmp .le 8, 3) := by decide +kernel
theorem dX11_init_169 : decode cX11_init 169 = .ok (.bipush 12, 2) := by decide +kernel
theorem dX11_init_171 : decode cX11_init 171 = .ok (.goto 4, 3) := by decide +kernel
theorem dX11_init_174 : decode cX11_init 174 = .ok (.iload_n 1, 1) := by decide +kernel
theorem dX11_init_175 : decode cX11_init 175 = .ok (.putfield 66, 3) := by decide +kernel
theorem dX11_init_178 : decode cX11_init 178 = .ok (.sipush (-2047), 3) := by decide +kernel
theorem dX11_init_181 : decode cX11_init 181 = .ok (.istore_n 2, 1) := by decide +kernel
theorem dX11_init_182 : decode cX11_init 182 = .ok (.iconst 0, 1) := by decide +kernel
theorem dX11_init_183 : decode cX11_init 183 = .ok (.istore_n 3, 1) := by decide +kernel
theorem dX11_init_184 : decode cX11_init 184 = .ok (.iload_n 3, 1) := by decide +kernel
theorem dX11_init_185 : decode cX11_init 185 = .ok (.sipush 4096, 3) := by decide +kernel
theorem dX11_init_188 : decode cX11_init 188 = .ok (.if_icmp .ge 37, 3) := by decide +kernel
theorem dX11_init_191 : decode cX11_init 191 = .ok (.iload_n 2, 1) := by decide +kernel
theorem dX11_init_192 : decode cX11_init 192 = .ok (.sipush 2047, 3) := by decide +kernel
theorem dX11_init_195 : decode cX11_init 195 = .ok (.if_icmp .ge 17, 3) := by decide +kernel
theorem dX11_init_198 : decode cX11_init 198 = .ok (.iload_n 2, 1) := by decide +kernel
theorem dX11_init_199 : decode cX11_init 199 = .ok (.invokestatic 70, 3) := by decide +kernel
theorem dX11_init_202 : decode cX11_init 202 = .ok (.iload_n 3, 1) := by decide +kernel
theorem dX11_init_203 : decode cX11_init 203 = .ok (.if_icmp .ge 9, 3) := by decide +kernel
theorem dX11_init_206 : decode cX11_init 206 = .ok (.iinc 2 1, 3) := by decide +kernel
theorem dX11_init_209 : decode cX11_init 209 = .ok (.goto (-18), 3) := by decide +kernel
theorem dX11_init_212 : decode cX11_init 212 = .ok (.aload_n 0, 1) := by decide +kernel
theorem dX11_init_213 : decode cX11_init 213 = .ok (.getfield 7, 3) := by decide +kernel
theorem dX11_init_216 : decode cX11_init 216 = .ok (.iload_n 3, 1) := by decide +kernel
theorem dX11_init_217 : decode cX11_init 217 = .ok (.iload_n 2, 1) := by decide +kernel
theorem dX11_init_218 : decode cX11_init 218 = .ok (.iastore, 1) := by decide +kernel
theorem dX11_init_219 : decode cX11_init 219 = .ok (.iinc 3 1, 3) := by decide +kernel
theorem dX11_init_222 : decode cX11_init 222 = .ok (.goto (-38), 3) := by decide +kernel
theorem dX11_init_225 : decode cX11_init 225 = .ok (.aload_n 0, 1) := by decide +kernel
theorem dX11_init_226 : decode cX11_init 226 = .ok (.invokevirtual 74, 3) := by decide +kernel
theorem dX11_init_229 : decode cX11_init 229 = .ok (.return_, 1) := by decide +kernel
theorem dX11_thrown_0 : decode cX11_thrown 0 = .ok (.aload_n 0, 1) := by decide +kernel
theorem dX11_thrown_1 : decode cX11_thrown 1 = .ok (.getfield 77, 3) := by decide +kernel
theorem dX11_thrown_4 : decode cX11_thrown 4 = .ok (.ireturn, 1) := by decide +kernel
theorem dX11_squashed_0 : decode cX11_squashed 0 = .ok (.iload_n 0, 1) := by decide +kernel
theorem dX11_squashed_1 : decode cX11_squashed 1 = .ok (.sipush 2047, 3) := by decide +kernel
theorem dX11_squashed_4 : decode cX11_squashed 4 = .ok (.if_icmp .le 7, 3) := by decide +kernel
theorem dX11_squashed_7 : decode cX11_squashed 7 = .ok (.sipush 4095, 3) := by decide +kernel
theorem dX11_squashed_10 : decode cX11_squashed 10 = .ok (.ireturn, 1) := by decide +kernel
theorem dX11_squashed_11 : decode cX11_squashed 11 = .ok (.iload_n 0, 1) := by decide +kernel
theorem dX11_squashed_12 : decode cX11_squashed 12 = .ok (.sipush (-2047), 3) := by decide +kernel
theorem dX11_squashed_15 : decode cX11_squashed 15 = .ok (.if_icmp .ge 5, 3) := by decide +kernel
theorem dX11_squashed_18 : decode cX11_squashed 18 = .ok (.iconst 0, 1) := by decide +kernel
theorem dX11_squashed_19 : decode cX11_squashed 19 = .ok (.ireturn, 1) := by decide +kernel
theorem dX11_squashed_20 : decode cX11_squashed 20 = .ok (.iload_n 0, 1) := by decide +kernel
theorem dX11_squashed_21 : decode cX11_squashed 21 = .ok (.bipush 7, 2) := by decide +kernel
theorem dX11_squashed_23 : decode cX11_squashed 23 = .ok (.ishr, 1) := by decide +kernel
theorem dX11_squashed_24 : decode cX11_squashed 24 = .ok (.bipush 16, 2) := by decide +kernel
theorem dX11_squashed_26 : decode cX11_squashed 26 = .ok (.iadd, 1) := by decide +kernel
theorem dX11_squashed_27 : decode cX11_squashed 27 = .ok (.istore_n 1, 1) := by decide +kernel
theorem dX11_squashed_28 : decode cX11_squashed 28 = .ok (.iload_n 0, 1) := by decide +kernel
theorem dX11_squashed_29 : decode cX11_squashed 29 = .ok (.bipush 127, 2) := by decide +kernel
theorem dX11_squashed_31 : decode cX11_squashed 31 = .ok (.iand, 1) := by decide +kernel
theorem dX11_squashed_32 : decode cX11_squashed 32 = .ok (.istore_n 2, 1) := by decide +kernel
theorem dX11_squashed_33 : decode cX11_squashed 33 = .ok (.getstatic 80, 3) := by decide +kernel
theorem dX11_squashed_36 : decode cX11_squashed 36 = .ok (.iload_n 1, 1) := by decide +kernel
theorem dX11_squashed_37 : decode cX11_squashed 37 = .ok (.iaload, 1) := by decide +kernel
theorem dX11_squashed_38 : decode cX11_squashed 38 = .ok (.sipush 128, 3) := by decide +kernel
theorem dX11_squashed_41 : decode cX11_squashed 41 = .ok (.iload_n 2, 1) := by decide +kernel
theorem dX11_squashed_42 : decode cX11_squashed 42 = .ok (.isub, 1) := by decide +kernel
theorem dX11_squashed_43 : decode cX11_squashed 43 = .ok (.imul, 1) := by decide +kernel
theorem dX11_squashed_44 : decode cX11_squashed 44 = .ok (.getstatic 80, 3) := by decide +kernel
theorem dX11_squashed_47 : decode cX11_squashed 47 = .ok (.iload_n 1, 1) := by decide +kernel
theorem dX11_squashed_48 : decode cX11_squashed 48 = .ok (.iconst 1, 1) := by decide +kernel
theorem dX11_squashed_49 : decode cX11_squashed 49 = .ok (.iadd, 1) := by decide +kernel
theorem dX11_squashed_50 : decode cX11_squashed 50 = .ok (.iaload, 1) := by decide +kernel
theorem dX11_squashed_51 : decode cX11_squashed 51 = .ok (.iload_n 2, 1) := by decide +kernel
theorem dX11_squashed_52 : decode cX11_squashed 52 = .ok (.imul, 1) := by decide +kernel
theorem dX11_squashed_53 : decode cX11_squashed 53 = .ok (.iadd, 1) := by decide +kernel
theorem dX11_squashed_54 : decode cX11_squashed 54 = .ok (.bipush 64, 2) := by decide +kernel
theorem dX11_squashed_56 : decode cX11_squashed 56 = .ok (.iadd, 1) := by decide +kernel
theorem dX11_squashed_57 : decode cX11_squashed 57 = .ok (.bipush 7, 2) := by decide +kernel
theorem dX11_squashed_59 : decode cX11_squashed 59 = .ok (.ishr, 1) := by decide +kernel
theorem dX11_squashed_60 : decode cX11_squashed 60 = .ok (.ireturn, 1) := by decide +kernel
theorem dX11_hash_0 : decode cX11_hash 0 = .ok (.iload_n 0, 1) := by decide +kernel
theorem dX11_hash_1 : decode cX11_hash 1 = .ok (.ldc 83, 2) := by decide +kernel
theorem dX11_hash_3 : decode cX11_hash 3 = .ok (.ixor, 1) := by decide +kernel
theorem dX11_hash_4 : decode cX11_hash 4 = .ok (.ldc 84, 2) := by decide +kernel
theorem dX11_hash_6 : decode cX11_hash 6 = .ok (.imul, 1) := by decide +kernel
theorem dX11_hash_7 : decode cX11_hash 7 = .ok (.iload_n 1, 1) := by decide +kernel
theorem dX11_hash_8 : decode cX11_hash 8 = .ok (.ldc 85, 2) := by decide +kernel
theorem dX11_hash_10 : decode cX11_hash 10 = .ok (.imul, 1) := by decide +kernel
theorem dX11_hash_11 : decode cX11_hash 11 = .ok (.iadd, 1) := by decide +kernel
theorem dX11_hash_12 : decode cX11_hash 12 = .ok (.istore_n 2, 1) := by decide +kernel
theorem dX11_hash_13 : decode cX11_hash 13 = .ok (.iload_n 2, 1) := by decide +kernel
theorem dX11_hash_14 : decode cX11_hash 14 = .ok (.iload_n 2, 1) := by decide +kernel
theorem dX11_hash_15 : decode cX11_hash 15 = .ok (.bipush 15, 2) := by decide +kernel
theorem dX11_hash_17 : decode cX11_hash 17 = .ok (.iushr, 1) := by decide +kernel
theorem dX11_hash_18 : decode cX11_hash 18 = .ok (.ixor, 1) := by decide +kernel
theorem dX11_hash_19 : decode cX11_hash 19 = .ok (.ireturn, 1) := by decide +kernel
theorem dX11_bound_0 : decode cX11_bound 0 = .ok (.iload_n 0, 1) := by decide +kernel
theorem dX11_bound_1 : decode cX11_bound 1 = .ok (.iload_n 1, 1) := by decide +kernel
theorem dX11_bound_2 : decode cX11_bound 2 = .ok (.if_icmp .ge 7, 3) := by decide +kernel
theorem dX11_bound_5 : decode cX11_bound 5 = .ok (.iload_n 1, 1) := by decide +kernel
theorem dX11_bound_6 : decode cX11_bound 6 = .ok (.goto 13, 3) := by decide +kernel
theorem dX11_bound_9 : decode cX11_bound 9 = .ok (.iload_n 0, 1) := by decide +kernel
theorem dX11_bound_10 : decode cX11_bound 10 = .ok (.iload_n 2, 1) := by decide +kernel
theorem dX11_bound_11 : decode cX11_bound 11 = .ok (.if_icmp .le 7, 3) := by decide +kernel
theorem dX11_bound_14 : decode cX11_bound 14 = .ok (.iload_n 2, 1) := by decide +kernel
theorem dX11_bound_15 : decode cX11_bound 15 = .ok (.goto 4, 3) := by decide +kernel
theorem dX11_bound_18 : decode cX11_bound 18 = .ok (.iload_n 0, 1) := by decide +kernel
theorem dX11_bound_19 : decode cX11_bound 19 = .ok (.ireturn, 1) := by decide +kernel
theorem dX11_squash_0 : decode cX11_squash 0 = .ok (.aload_n 0, 1) := by decide +kernel
theorem dX11_squash_1 : decode cX11_squash 1 = .ok (.iconst 0, 1) := by decide +kernel
theorem dX11_squash_2 : decode cX11_squash 2 = .ok (.putfield 77, 3) := by decide +kernel
theorem dX11_squash_5 : decode cX11_squash 5 = .ok (.iload_n 1, 1) := by decide +kernel
theorem dX11_squash_6 : decode cX11_squash 6 = .ok (.invokestatic 70, 3) := by decide +kernel
theorem dX11_squash_9 : decode cX11_squash 9 = .ok (.ireturn, 1) := by decide +kernel
theorem dX11_stretch_0 : decode cX11_stretch 0 = .ok (.aload_n 0, 1) := by decide +kernel
theorem dX11_stretch_1 : decode cX11_stretch 1 = .ok (.iconst 0, 1) := by decide +kernel
theorem dX11_stretch_2 : decode cX11_stretch 2 = .ok (.putfield 77, 3) := by decide +kernel
theorem dX11_stretch_5 : decode cX11_stretch 5 = .ok (.iload_n 1, 1) := by decide +kernel
theorem dX11_stretch_6 : decode cX11_stretch 6 = .ok (.ifCond .lt 10, 3) := by decide +kernel
theorem dX11_stretch_9 : decode cX11_stretch 9 = .ok (.iload_n 1, 1) := by decide +kernel
theorem dX11_stretch_10 : decode cX11_stretch 10 = .ok (.sipush 4095, 3) := by decide +kernel
theorem dX11_stretch_13 : decode cX11_stretch 13 = .ok (.if_icmp .le 9, 3) := by decide +kernel
theorem dX11_stretch_16 : decode cX11_stretch 16 = .ok (.sipush (-9999), 3) := by decide +kernel
theorem dX11_stretch_19 : decode cX11_stretch 19 = .ok (.goto 9, 3) := by decide +kernel
theorem dX11_stretch_22 : decode cX11_stretch 22 = .ok (.aload_n 0, 1) := by decide +kernel
theorem dX11_stretch_23 : decode cX11_stretch 23 = .ok (.getfield 7, 3) := by decide +kernel
theorem dX11_stretch_26 : decode cX11_stretch 26 = .ok (.iload_n 1, 1) := by decide +kernel
theorem dX11_stretch_27 : decode cX11_stretch 27 = .ok (.iaload, 1) := by decide +kernel
theorem dX11_stretch_28 : decode cX11_stretch 28 = .ok (.ireturn, 1) := by decide +kernel
theorem dX11_fresh_0 : decode cX11_fresh 0 = .ok (.aload_n 0, 1) := by decide +kernel
theorem dX11_fresh_1 : decode cX11_fresh 1 = .ok (.getfield 26, 3) := by decide +kernel
theorem dX11_fresh_4 : decode cX11_fresh 4 = .ok (.iload_n 1, 1) := by decide +kernel
theorem dX11_fresh_5 : decode cX11_fresh 5 = .ok (.iconst 0, 1) := by decide +kernel
theorem dX11_fresh_6 : decode cX11_fresh 6 = .ok (.iastore, 1) := by decide +kernel
theorem dX11_fresh_7 : decode cX11_fresh 7 = .ok (.aload_n 0, 1) := by decide +kernel
theorem dX11_fresh_8 : decode cX11_fresh 8 = .ok (.getfield 29, 3) := by decide +kernel
theorem dX11_fresh_11 : decode cX11_fresh 11 = .ok (.iload_n 1, 1) := by decide +kernel
theorem dX11_fresh_12 : decode cX11_fresh 12 = .ok (.iconst 1, 1) := by decide +kernel
theorem dX11_fresh_13 : decode cX11_fresh 13 = .ok (.iastore, 1) := by decide +kernel
theorem dX11_fresh_14 : decode cX11_fresh 14 = .ok (.iconst 0, 1) := by decide +kernel
theorem dX11_fresh_15 : decode cX11_fresh 15 = .ok (.istore_n 2, 1) := by decide +kernel
theorem dX11_fresh_16 : decode cX11_fresh 16 = .ok (.iload_n 2, 1) := by decide +kernel
theorem dX11_fresh_17 : decode cX11_fresh 17 = .ok (.sipush 4096, 3) := by decide +kernel
theorem dX11_fresh_20 : decode cX11_fresh 20 = .ok (.if_icmp .ge 36, 3) := by decide +kernel
theorem dX11_fresh_23 : decode cX11_fresh 23 = .ok (.aload_n 0, 1) := by decide +kernel
theorem dX11_fresh_24 : decode cX11_fresh 24 = .ok (.getfield 41, 3) := by decide +kernel
theorem dX11_fresh_27 : decode cX11_fresh 27 = .ok (.sipush 4096, 3) := by decide +kernel
theorem dX11_fresh_30 : decode cX11_fresh 30 = .ok (.iload_n 1, 1) := by decide +kernel
theorem dX11_fresh_31 : decode cX11_fresh 31 = .ok (.imul, 1) := by decide +kernel
theorem dX11_fresh_32 : decode cX11_fresh 32 = .ok (.iload_n 2, 1) := by decide +kernel
theorem dX11_fresh_33 : decode cX11_fresh 33 = .ok (.iadd, 1) := by decide +kernel
theorem dX11_fresh_34 : decode cX11_fresh 34 = .ok (.ldc 86, 2) := by decide +kernel
theorem dX11_fresh_36 : decode cX11_fresh 36 = .ok (.iastore, 1) := by decide +kernel
theorem dX11_fresh_37 : decode cX11_fresh 37 = .ok (.aload_n 0, 1) := by decide +kernel
theorem dX11_fresh_38 : decode cX11_fresh 38 = .ok (.getfield 44, 3) := by decide +kernel
theorem dX11_fresh_41 : decode cX11_fresh 41 = .ok (.sipush 4096, 3) := by decide +kernel
theorem dX11_fresh_44 : decode cX11_fresh 44 = .ok (.iload_n 1, 1) := by decide +kernel
theorem dX11_fresh_45 : decode cX11_fresh 45 = .ok (.imul, 1) := by decide +kernel
theorem dX11_fresh_46 : decode cX11_fresh 46 = .ok (.iload_n 2, 1) := by decide +kernel
theorem dX11_fresh_47 : decode cX11_fresh 47 = .ok (.iadd, 1) := by decide +kernel
theorem dX11_fresh_48 : decode cX11_fresh 48 = .ok (.iconst 0, 1) := by decide +kernel
theorem dX11_fresh_49 : decode cX11_fresh 49 = .ok (.iastore, 1) := by decide +kernel
theorem dX11_fresh_50 : decode cX11_fresh 50 = .ok (.iinc 2 1, 3) := by decide +kernel
theorem dX11_fresh_53 : decode cX11_fresh 53 = .ok (.goto (-37), 3) := by decide +kernel
theorem dX11_fresh_56 : decode cX11_fresh 56 = .ok (.iconst 0, 1) := by decide +kernel
theorem dX11_fresh_57 : decode cX11_fresh 57 = .ok (.istore_n 2, 1) := by decide +kernel
theorem dX11_fresh_58 : decode cX11_fresh 58 = .ok (.iload_n 2, 1) := by decide +kernel
theorem dX11_fresh_59 : decode cX11_fresh 59 = .ok (.iconst 2, 1) := by decide +kernel
theorem dX11_fresh_60 : decode cX11_fresh 60 = .ok (.if_icmp .ge 69, 3) := by decide +kernel
theorem dX11_fresh_63 : decode cX11_fresh 63 = .ok (.iconst 0, 1) := by decide +kernel
theorem dX11_fresh_64 : decode cX11_fresh 64 = .ok (.istore_n 3, 1) := by decide +kernel
theorem dX11_fresh_65 : decode cX11_fresh 65 = .ok (.iload_n 3, 1) := by decide +kernel
theorem dX11_fresh_66 : decode cX11_fresh 66 = .ok (.sipush 256, 3) := by decide +kernel
theorem dX11_fresh_69 : decode cX11_fresh 69 = .ok (.if_icmp .ge 54, 3) := by decide +kernel
theorem dX11_fresh_72 : decode cX11_fresh 72 = .ok (.iconst 0, 1) := by decide +kernel
theorem dX11_fresh_73 : decode cX11_fresh 73 = .ok (.istore 4, 2) := by decide +kernel
theorem dX11_fresh_75 : decode cX11_fresh 75 = .ok (.iload 4, 2) := by decide +kernel
theorem dX11_fresh_77 : decode cX11_fresh 77 = .ok (.bipush 9, 2) := by decide +kernel
theorem dX11_fresh_79 : decode cX11_fresh 79 = .ok (.if_icmp .ge 38, 3) := by decide +kernel
theorem dX11_fresh_82 : decode cX11_fresh 82 = .ok (.aload_n 0, 1) := by decide +kernel
theorem dX11_fresh_83 : decode cX11_fresh 83 = .ok (.getfield 47, 3) := by decide +kernel
theorem dX11_fresh_86 : decode cX11_fresh 86 = .ok (.iload_n 1, 1) := by decide +kernel
theorem dX11_fresh_87 : decode cX11_fresh 87 = .ok (.iload_n 2, 1) := by decide +kernel
theorem dX11_fresh_88 : decode cX11_fresh 88 = .ok (.iload_n 3, 1) := by decide +kernel
theorem dX11_fresh_89 : decode cX11_fresh 89 = .ok (.iload 4, 2) := by decide +kernel
theorem dX11_fresh_91 : decode cX11_fresh 91 = .ok (.invokestatic 87, 3) := by decide +kernel
theorem dX11_fresh_94 : decode cX11_fresh 94 = .ok (.iload 4, 2) := by decide +kernel
theorem dX11_fresh_96 : decode cX11_fresh 96 = .ok (.aload_n 0, 1) := by decide +kernel
theorem dX11_fresh_97 : decode cX11_fresh 97 = .ok (.getfield 91, 3) := by decide +kernel
theorem dX11_fresh_100 : decode cX11_fresh 100 = .ok (.if_icmp .ge 9, 3) := by decide +kernel
theorem dX11_fresh_103 : decode cX11_fresh 103 = .ok (.sipush 20000, 3) := by decide +kernel
theorem dX11_fresh_106 : decode cX11_fresh 106 = .ok (.goto 4, 3) := by decide +kernel
theorem dX11_fresh_109 : decode cX11_fresh 109 = .ok (.iconst 0, 1) := by decide +kernel
theorem dX11_fresh_110 : decode cX11_fresh 110 = .ok (.iastore, 1) := by decide +kernel
theorem dX11_fresh_111 : decode cX11_fresh 111 = .ok (.iinc 4 1, 3) := by decide +kernel
theorem dX11_fresh_114 : decode cX11_fresh 114 = .ok (.goto (-39), 3) := by decide +kernel
theorem dX11_fresh_117 : decode cX11_fresh 117 = .ok (.iinc 3 1, 3) := by decide +kernel
theorem dX11_fresh_120 : decode cX11_fresh 120 = .ok (.goto (-55), 3) := by decide +kernel
theorem dX11_fresh_123 : decode cX11_fresh 123 = .ok (.iinc 2 1, 3) := by decide +kernel
theorem dX11_fresh_126 : decode cX11_fresh 126 = .ok (.goto (-68), 3) := by decide +kernel
theorem dX11_fresh_129 : decode cX11_fresh 129 = .ok (.iconst 0, 1) := by decide +kernel
theorem dX11_fresh_130 : decode cX11_fresh 130 = .ok (.istore_n 2, 1) := by decide +kernel
theorem dX11_fresh_131 : decode cX11_fresh 131 = .ok (.iload_n 2, 1) := by decide +kernel
theorem dX11_fresh_132 : decode cX11_fresh 132 = .ok (.sipush 256, 3) := by decide +kernel
theorem dX11_fresh_135 : decode cX11_fresh 135 = .ok (.if_icmp .ge 54, 3) := by decide +kernel
theorem dX11_fresh_138 : decode cX11_fresh 138 = .ok (.iconst 0, 1) := by decide +kernel
theorem dX11_fresh_139 : decode cX11_fresh 139 = .ok (.istore_n 3, 1) := by decide +kernel
theorem dX11_fresh_140 : decode cX11_fresh 140 = .ok (.iload_n 3, 1) := by decide +kernel
theorem dX11_fresh_141 : decode cX11_fresh 141 = .ok (.bipush 33, 2) := by decide +kernel
theorem dX11_fresh_143 : decode cX11_fresh 143 = .ok (.if_icmp .ge 40, 3) := by decide +kernel
theorem dX11_fresh_146 : decode cX11_fresh 146 = .ok (.aload_n 0, 1) := by decide +kernel
theorem dX11_fresh_147 : decode cX11_fresh 147 = .ok (.getfield 50, 3) := by decide +kernel
theorem dX11_fresh_150 : decode cX11_fresh 150 = .ok (.sipush 8448, 3) := by decide +kernel
theorem dX11_fresh_153 : decode cX11_fresh 153 = .ok (.iload_n 1, 1) := by decide +kernel
theorem dX11_fresh_154 : decode cX11_fresh 154 = .ok (.imul, 1) := by decide +kernel
theorem dX11_fresh_155 : decode cX11_fresh 155 = .ok (.bipush 33, 2) := by decide +kernel
theorem dX11_fresh_157 : decode cX11_fresh 157 = .ok (.iload_n 2, 1) := by decide +kernel
theorem dX11_fresh_158 : decode cX11_fresh 158 = .ok (.imul, 1) := by decide +kernel
theorem dX11_fresh_159 : decode cX11_fresh 159 = .ok (.iadd, 1) := by decide +kernel
theorem dX11_fresh_160 : decode cX11_fresh 160 = .ok (.iload_n 3, 1) := by decide +kernel
theorem dX11_fresh_161 : decode cX11_fresh 161 = .ok (.iadd, 1) := by decide +kernel
theorem dX11_fresh_162 : decode cX11_fresh 162 = .ok (.iload_n 3, 1) := by decide +kernel
theorem dX11_fresh_163 : decode cX11_fresh 163 = .ok (.bipush 16, 2) := by decide +kernel
theorem dX11_fresh_165 : decode cX11_fresh 165 = .ok (.isub, 1) := by decide +kernel
theorem dX11_fresh_166 : decode cX11_fresh 166 = .ok (.sipush 128, 3) := by decide +kernel
theorem dX11_fresh_169 : decode cX11_fresh 169 = .ok (.imul, 1) := by decide +kernel
theorem dX11_fresh_170 : decode cX11_fresh 170 = .ok (.invokestatic 70, 3) := by decide +kernel
theorem dX11_fresh_173 : decode cX11_fresh 173 = .ok (.bipush 16, 2) := by decide +kernel
theorem dX11_fresh_175 : decode cX11_fresh 175 = .ok (.imul, 1) := by decide +kernel
theorem dX11_fresh_176 : decode cX11_fresh 176 = .ok (.iastore, 1) := by decide +kernel
theorem dX11_fresh_177 : decode cX11_fresh 177 = .ok (.iinc 3 1, 3) := by decide +kernel
theorem dX11_fresh_180 : decode cX11_fresh 180 = .ok (.goto (-40), 3) := by decide +kernel
theorem dX11_fresh_183 : decode cX11_fresh 183 = .ok (.iinc 2 1, 3) := by decide +kernel
theorem dX11_fresh_186 : decode cX11_fresh 186 = .ok (.goto (-55), 3) := by decide +kernel
theorem dX11_fresh_189 : decode cX11_fresh 189 = .ok (.iconst 0, 1) := by decide +kernel
theorem dX11_fresh_190 : decode cX11_fresh 190 = .ok (.istore_n 2, 1) := by decide +kernel
theorem dX11_fresh_191 : decode cX11_fresh 191 = .ok (.iload_n 2, 1) := by decide +kernel
theorem dX11_fresh_192 : decode cX11_fresh 192 = .ok (.bipush 8, 2) := by decide +kernel
theorem dX11_fresh_194 : decode cX11_fresh 194 = .ok (.if_icmp .ge 33, 3) := by decide +kernel
theorem dX11_fresh_197 : decode cX11_fresh 197 = .ok (.aload_n 0, 1) := by decide +kernel
theorem dX11_fresh_198 : decode cX11_fresh 198 = .ok (.getfield 35, 3) := by decide +kernel
theorem dX11_fresh_201 : decode cX11_fresh 201 = .ok (.bipush 8, 2) := by decide +kernel
theorem dX11_fresh_203 : decode cX11_fresh 203 = .ok (.iload_n 1, 1) := by decide +kernel
theorem dX11_fresh_204 : decode cX11_fresh 204 = .ok (.imul, 1) := by decide +kernel
theorem dX11_fresh_205 : decode cX11_fresh 205 = .ok (.iload_n 2, 1) := by decide +kernel
theorem dX11_fresh_206 : decode cX11_fresh 206 = .ok (.iadd, 1) := by decide +kernel
theorem dX11_fresh_207 : decode cX11_fresh 207 = .ok (.iconst 0, 1) := by decide +kernel
theorem dX11_fresh_208 : decode cX11_fresh 208 = .ok (.iastore, 1) := by decide +kernel
theorem dX11_fresh_209 : decode cX11_fresh 209 = .ok (.aload_n 0, 1) := by decide +kernel
theorem dX11_fresh_210 : decode cX11_fresh 210 = .ok (.getfield 38, 3) := by decide +kernel
theorem dX11_fresh_213 : decode cX11_fresh 213 = .ok (.bipush 8, 2) := by decide +kernel
theorem dX11_fresh_215 : decode cX11_fresh 215 = .ok (.iload_n 1, 1) := by decide +kernel
theorem dX11_fresh_216 : decode cX11_fresh 216 = .ok (.imul, 1) := by decide +kernel
theorem dX11_fresh_217 : decode cX11_fresh 217 = .ok (.iload_n 2, 1) := by decide +kernel
theorem dX11_fresh_218 : decode cX11_fresh 218 = .ok (.iadd, 1) := by decide +kernel
theorem dX11_fresh_219 : decode cX11_fresh 219 = .ok (.iconst 0, 1) := by decide +kernel
theorem dX11_fresh_220 : decode cX11_fresh 220 = .ok (.iastore, 1) := by decide +kernel
theorem dX11_fresh_221 : decode cX11_fresh 221 = .ok (.iinc 2 1, 3) := by decide +kernel
theorem dX11_fresh_224 : decode cX11_fresh 224 = .ok (.goto (-33), 3) := by decide +kernel
theorem dX11_fresh_227 : decode cX11_fresh 227 = .ok (.aload_n 0, 1) := by decide +kernel
theorem dX11_fresh_228 : decode cX11_fresh 228 = .ok (.getfield 53, 3) := by decide +kernel
theorem dX11_fresh_231 : decode cX11_fresh 231 = .ok (.iload_n 1, 1) := by decide +kernel
theorem dX11_fresh_232 : decode cX11_fresh 232 = .ok (.lconst 0, 1) := by decide +kernel
theorem dX11_fresh_233 : decode cX11_fresh 233 = .ok (.lastore, 1) := by decide +kernel
theorem dX11_fresh_234 : decode cX11_fresh 234 = .ok (.aload_n 0, 1) := by decide +kernel
theorem dX11_fresh_235 : decode cX11_fresh 235 = .ok (.getfield 57, 3) := by decide +kernel
theorem dX11_fresh_238 : decode cX11_fresh 238 = .ok (.iload_n 1, 1) := by decide +kernel
theorem dX11_fresh_239 : decode cX11_fresh 239 = .ok (.ldc2_w 94, 3) := by decide +kernel
theorem dX11_fresh_242 : decode cX11_fresh 242 = .ok (.lastore, 1) := by decide +kernel
theorem dX11_fresh_243 : decode cX11_fresh 243 = .ok (.aload_n 0, 1) := by decide +kernel
theorem dX11_fresh_244 : decode cX11_fresh 244 = .ok (.iload_n 1, 1) := by decide +kernel
theorem dX11_fresh_245 : decode cX11_fresh 245 = .ok (.iconst 0, 1) := by decide +kernel
theorem dX11_fresh_246 : decode cX11_fresh 246 = .ok (.invokevirtual 96, 3) := by decide +kernel
theorem dX11_fresh_249 : decode cX11_fresh 249 = .ok (.return_, 1) := by decide +kernel
theorem dX11_freshAll_0 : decode cX11_freshAll 0 = .ok (.aload_n 0, 1) := by decide +kernel
theorem dX11_freshAll_1 : decode cX11_freshAll 1 = .ok (.iconst 0, 1) := by decide +kernel
theorem dX11_freshAll_2 : decode cX11_freshAll 2 = .ok (.invokevirtual 100, 3) := by decide +kernel
theorem dX11_freshAll_5 : decode cX11_freshAll 5 = .ok (.aload_n 0, 1) := by decide +kernel
theorem dX11_freshAll_6 : decode cX11_freshAll 6 = .ok (.iconst 1, 1) := by decide +kernel
theorem dX11_freshAll_7 : decode cX11_freshAll 7 = .ok (.invokevirtual 100, 3) := by decide +kernel
theorem dX11_freshAll_10 : decode cX11_freshAll 10 = .ok (.aload_n 0, 1) := by decide +kernel
theorem dX11_freshAll_11 : decode cX11_freshAll 11 = .ok (.iconst 0, 1) := by decide +kernel
theorem dX11_freshAll_12 : decode cX11_freshAll 12 = .ok (.putfield 104, 3) := by decide +kernel
theorem dX11_freshAll_15 : decode cX11_freshAll 15 = .ok (.aload_n 0, 1) := by decide +kernel
theorem dX11_freshAll_16 : decode cX11_freshAll 16 = .ok (.iconst 0, 1) := by decide +kernel
theorem dX11_freshAll_17 : decode cX11_freshAll 17 = .ok (.putfield 107, 3) := by decide +kernel
theorem dX11_freshAll_20 : decode cX11_freshAll 20 = .ok (.aload_n 0, 1) := by decide +kernel
theorem dX11_freshAll_21 : decode cX11_freshAll 21 = .ok (.iconst 0, 1) := by decide +kernel
theorem dX11_freshAll_22 : decode cX11_freshAll 22 = .ok (.putfield 110, 3) := by decide +kernel
theorem dX11_freshAll_25 : decode cX11_freshAll 25 = .ok (.aload_n 0, 1) := by decide +kernel
theorem dX11_freshAll_26 : decode cX11_freshAll 26 = .ok (.iconst 0, 1) := by decide +kernel
theorem dX11_freshAll_27 : decode cX11_freshAll 27 = .ok (.putfield 114, 3) := by decide +kernel
theorem dX11_freshAll_30 : decode cX11_freshAll 30 = .ok (.return_, 1) := by decide +kernel
theorem dX11_weightAt_0 : decode cX11_weightAt 0 = .ok (.iconst 2, 1) := by decide +kernel
theorem dX11_weightAt_1 : decode cX11_weightAt 1 = .ok (.iload_n 0, 1) := by decide +kernel
theorem dX11_weightAt_2 : decode cX11_weightAt 2 = .ok (.imul, 1) := by decide +kernel
theorem dX11_weightAt_3 : decode cX11_weightAt 3 = .ok (.iload_n 1, 1) := by decide +kernel
theorem dX11_weightAt_4 : decode cX11_weightAt 4 = .ok (.iadd, 1) := by decide +kernel
theorem dX11_weightAt_5 : decode cX11_weightAt 5 = .ok (.sipush 256, 3) := by decide +kernel
theorem dX11_weightAt_8 : decode cX11_weightAt 8 = .ok (.imul, 1) := by decide +kernel
theorem dX11_weightAt_9 : decode cX11_weightAt 9 = .ok (.iload_n 2, 1) := by decide +kernel
theorem dX11_weightAt_10 : decode cX11_weightAt 10 = .ok (.iadd, 1) := by decide +kernel
theorem dX11_weightAt_11 : decode cX11_weightAt 11 = .ok (.bipush 9, 2) := by decide +kernel
theorem dX11_weightAt_13 : decode cX11_weightAt 13 = .ok (.imul, 1) := by decide +kernel
theorem dX11_weightAt_14 : decode cX11_weightAt 14 = .ok (.iload_n 3, 1) := by decide +kernel
theorem dX11_weightAt_15 : decode cX11_weightAt 15 = .ok (.iadd, 1) := by decide +kernel
theorem dX11_weightAt_16 : decode cX11_weightAt 16 = .ok (.ireturn, 1) := by decide +kernel
theorem dX11_latest_0 : decode cX11_latest 0 = .ok (.aload_n 0, 1) := by decide +kernel
theorem dX11_latest_1 : decode cX11_latest 1 = .ok (.getfield 26, 3) := by decide +kernel
theorem dX11_latest_4 : decode cX11_latest 4 = .ok (.iload_n 1, 1) := by decide +kernel
theorem dX11_latest_5 : decode cX11_latest 5 = .ok (.iaload, 1) := by decide +kernel
theorem dX11_latest_6 : decode cX11_latest 6 = .ok (.iload_n 2, 1) := by decide +kernel
theorem dX11_latest_7 : decode cX11_latest 7 = .ok (.isub, 1) := by decide +kernel
theorem dX11_latest_8 : decode cX11_latest 8 = .ok (.ifCond .ge 7, 3) := by decide +kernel
theorem dX11_latest_11 : decode cX11_latest 11 = .ok (.iconst 0, 1) := by decide +kernel
theorem dX11_latest_12 : decode cX11_latest 12 = .ok (.goto 22, 3) := by decide +kernel
theorem dX11_latest_15 : decode cX11_latest 15 = .ok (.aload_n 0, 1) := by decide +kernel
theorem dX11_latest_16 : decode cX11_latest 16 = .ok (.getfield 23, 3) := by decide +kernel
theorem dX11_latest_19 : decode cX11_latest 19 = .ok (.sipush 2050, 3) := by decide +kernel
theorem dX11_latest_22 : decode cX11_latest 22 = .ok (.iload_n 1, 1) := by decide +kernel
theorem dX11_latest_23 : decode cX11_latest 23 = .ok (.imul, 1) := by decide +kernel
theorem dX11_latest_24 : decode cX11_latest 24 = .ok (.aload_n 0, 1) := by decide +kernel
theorem dX11_latest_25 : decode cX11_latest 25 = .ok (.getfield 26, 3) := by decide +kernel
theorem dX11_latest_28 : decode cX11_latest 28 = .ok (.iload_n 1, 1) := by decide +kernel
theorem dX11_latest_29 : decode cX11_latest 29 = .ok (.iaload, 1) := by decide +kernel
theorem dX11_latest_30 : decode cX11_latest 30 = .ok (.iadd, 1) := by decide +kernel
theorem dX11_latest_31 : decode cX11_latest 31 = .ok (.iload_n 2, 1) := by decide +kernel
theorem dX11_latest_32 : decode cX11_latest 32 = .ok (.isub, 1) := by decide +kernel
theorem dX11_latest_33 : decode cX11_latest 33 = .ok (.iaload, 1) := by decide +kernel
theorem dX11_latest_34 : decode cX11_latest 34 = .ok (.ireturn, 1) := by decide +kernel
theorem dX11_isLetter_0 : decode cX11_isLetter 0 = .ok (.iload_n 0, 1) := by decide +kernel
theorem dX11_isLetter_1 : decode cX11_isLetter 1 = .ok (.bipush 65, 2) := by decide +kernel
theorem dX11_isLetter_3 : decode cX11_isLetter 3 = .ok (.if_icmp .lt 9, 3) := by decide +kernel
theorem dX11_isLetter_6 : decode cX11_isLetter 6 = .ok (.iload_n 0, 1) := by decide +kernel
theorem dX11_isLetter_7 : decode cX11_isLetter 7 = .ok (.bipush 90, 2) := by decide +kernel
theorem dX11_isLetter_9 : decode cX11_isLetter 9 = .ok (.if_icmp .le 15, 3) := by decide +kernel
theorem dX11_isLetter_12 : decode cX11_isLetter 12 = .ok (.iload_n 0, 1) := by decide +kernel
theorem dX11_isLetter_13 : decode cX11_isLetter 13 = .ok (.bipush 97, 2) := by decide +kernel
theorem dX11_isLetter_15 : decode cX11_isLetter 15 = .ok (.if_icmp .lt 13, 3) := by decide +kernel
theorem dX11_isLetter_18 : decode cX11_isLetter 18 = .ok (.iload_n 0, 1) := by decide +kernel
theorem dX11_isLetter_19 : decode cX11_isLetter 19 = .ok (.bipush 122, 2) := by decide +kernel
theorem dX11_isLetter_21 : decode cX11_isLetter 21 = .ok (.if_icmp .gt 7, 3) := by decide +kernel
theorem dX11_isLetter_24 : decode cX11_isLetter 24 = .ok (.iconst 1, 1) := by decide +kernel
theorem dX11_isLetter_25 : decode cX11_isLetter 25 = .ok (.goto 4, 3) := by decide +kernel
theorem dX11_isLetter_28 : decode cX11_isLetter 28 = .ok (.iconst 0, 1) := by decide +kernel
theorem dX11_isLetter_29 : decode cX11_isLetter 29 = .ok (.ireturn, 1) := by decide +kernel
theorem dX11_contextOf_0 : decode cX11_contextOf 0 = .ok (.aload_n 0, 1) := by decide +kernel
theorem dX11_contextOf_1 : decode cX11_contextOf 1 = .ok (.getfield 16, 3) := by decide +kernel
theorem dX11_contextOf_4 : decode cX11_contextOf 4 = .ok (.iload_n 2, 1) := by decide +kernel
theorem dX11_contextOf_5 : decode cX11_contextOf 5 = .ok (.iaload, 1) := by decide +kernel
theorem dX11_contextOf_6 : decode cX11_contextOf 6 = .ok (.istore_n 3, 1) := by decide +kernel
theorem dX11_contextOf_7 : decode cX11_contextOf 7 = .ok (.aload_n 0, 1) := by decide +kernel
theorem dX11_contextOf_8 : decode cX11_contextOf 8 = .ok (.getfield 13, 3) := by decide +kernel
theorem dX11_contextOf_11 : decode cX11_contextOf 11 = .ok (.iload_n 2, 1) := by decide +kernel
theorem dX11_contextOf_12 : decode cX11_contextOf 12 = .ok (.iaload, 1) := by decide +kernel
theorem dX11_contextOf_13 : decode cX11_contextOf 13 = .ok (.ifCond .ne 44, 3) := by decide +kernel
theorem dX11_contextOf_16 : decode cX11_contextOf 16 = .ok (.iload_n 3, 1) := by decide +kernel
theorem dX11_contextOf_17 : decode cX11_contextOf 17 = .ok (.iconst 1, 1) := by decide +kernel
theorem dX11_contextOf_18 : decode cX11_contextOf 18 = .ok (.iadd, 1) := by decide +kernel
theorem dX11_contextOf_19 : decode cX11_contextOf 19 = .ok (.iconst 0, 1) := by decide +kernel
theorem dX11_contextOf_20 : decode cX11_contextOf 20 = .ok (.invokestatic 117, 3) := by decide +kernel
theorem dX11_contextOf_23 : decode cX11_contextOf 23 = .ok (.istore 4, 2) := by decide +kernel
theorem dX11_contextOf_25 : decode cX11_contextOf 25 = .ok (.iconst 1, 1) := by decide +kernel
theorem dX11_contextOf_26 : decode cX11_contextOf 26 = .ok (.istore 5, 2) := by decide +kernel
theorem dX11_contextOf_28 : decode cX11_contextOf 28 = .ok (.iload 5, 2) := by decide +kernel
theorem dX11_contextOf_30 : decode cX11_contextOf 30 = .ok (.iload_n 3, 1) := by decide +kernel
theorem dX11_contextOf_31 : decode cX11_contextOf 31 = .ok (.if_icmp .gt 23, 3) := by decide +kernel
theorem dX11_contextOf_34 : decode cX11_contextOf 34 = .ok (.iload 4, 2) := by decide +kernel
theorem dX11_contextOf_36 : decode cX11_contextOf 36 = .ok (.aload_n 0, 1) := by decide +kernel
theorem dX11_contextOf_37 : decode cX11_contextOf 37 = .ok (.iload_n 1, 1) := by decide +kernel
theorem dX11_contextOf_38 : decode cX11_contextOf 38 = .ok (.iload 5, 2) := by decide +kernel
theorem dX11_contextOf_40 : decode cX11_contextOf 40 = .ok (.invokevirtual 121, 3) := by decide +kernel
theorem dX11_contextOf_43 : decode cX11_contextOf 43 = .ok (.invokestatic 117, 3) := by decide +kernel
theorem dX11_contextOf_46 : decode cX11_contextOf 46 = .ok (.istore 4, 2) := by decide +kernel
theorem dX11_contextOf_48 : decode cX11_contextOf 48 = .ok (.iinc 5 1, 3) := by decide +kernel
theorem dX11_contextOf_51 : decode cX11_contextOf 51 = .ok (.goto (-23), 3) := by decide +kernel
theorem dX11_contextOf_54 : decode cX11_contextOf 54 = .ok (.goto 195, 3) := by decide +kernel
theorem dX11_contextOf_57 : decode cX11_contextOf 57 = .ok (.aload_n 0, 1) := by decide +kernel
theorem dX11_contextOf_58 : decode cX11_contextOf 58 = .ok (.getfield 13, 3) := by decide +kernel
theorem dX11_contextOf_61 : decode cX11_contextOf 61 = .ok (.iload_n 2, 1) := by decide +kernel
theorem dX11_contextOf_62 : decode cX11_contextOf 62 = .ok (.iaload, 1) := by decide +kernel
theorem dX11_contextOf_63 : decode cX11_contextOf 63 = .ok (.iconst 1, 1) := by decide +kernel
theorem dX11_contextOf_64 : decode cX11_contextOf 64 = .ok (.if_icmp .ne 85, 3) := by decide +kernel
theorem dX11_contextOf_67 : decode cX11_contextOf 67 = .ok (.bipush 32, 2) := by decide +kernel
theorem dX11_contextOf_69 : decode cX11_contextOf 69 = .ok (.iconst 0, 1) := by decide +kernel
theorem dX11_contextOf_70 : decode cX11_contextOf 70 = .ok (.invokestatic 117, 3) := by decide +kernel
theorem dX11_contextOf_73 : decode cX11_contextOf 73 = .ok (.istore 4, 2) := by decide +kernel
theorem dX11_contextOf_75 : decode cX11_contextOf 75 = .ok (.iconst 0, 1) := by decide +kernel
theorem dX11_contextOf_76 : decode cX11_contextOf 76 = .ok (.istore 5, 2) := by decide +kernel
theorem dX11_contextOf_78 : decode cX11_contextOf 78 = .ok (.iload 5, 2) := by decide +kernel
theorem dX11_contextOf_80 : decode cX11_contextOf 80 = .ok (.bipush 16, 2) := by decide +kernel
theorem dX11_contextOf_82 : decode cX11_contextOf 82 = .ok (.if_icmp .ge 35, 3) := by decide +kernel
theorem dX11_contextOf_85 : decode cX11_contextOf 85 = .ok (.iload 5, 2) := by decide +kernel
theorem dX11_contextOf_87 : decode cX11_contextOf 87 = .ok (.aload_n 0, 1) := by decide +kernel
theorem dX11_contextOf_88 : decode cX11_contextOf 88 = .ok (.getfield 26, 3) := by decide +kernel
theorem dX11_contextOf_91 : decode cX11_contextOf 91 = .ok (.iload_n 1, 1) := by decide +kernel
theorem dX11_contextOf_92 : decode cX11_contextOf 92 = .ok (.iaload, 1) := by decide +kernel
theorem dX11_contextOf_93 : decode cX11_contextOf 93 = .ok (.if_icmp .ge 24, 3) := by decide +kernel
theorem dX11_contextOf_96 : decode cX11_contextOf 96 = .ok (.aload_n 0, 1) := by decide +kernel
theorem dX11_contextOf_97 : decode cX11_contextOf 97 = .ok (.iload_n 1, 1) := by decide +kernel
theorem dX11_contextOf_98 : decode cX11_contextOf 98 = .ok (.iload 5, 2) := by decide +kernel
theorem dX11_contextOf_100 : decode cX11_contextOf 100 = .ok (.iconst 1, 1) := by decide +kernel
theorem dX11_contextOf_101 : decode cX11_contextOf 101 = .ok (.iadd, 1) := by decide +kernel
theorem dX11_contextOf_102 : decode cX11_contextOf 102 = .ok (.invokevirtual 121, 3) := by decide +kernel
theorem dX11_contextOf_105 : decode cX11_contextOf 105 = .ok (.invokestatic 124, 3) := by decide +kernel
theorem dX11_contextOf_108 : decode cX11_contextOf 108 = .ok (.ifCond .eq 9, 3) := by decide +kernel
theorem dX11_contextOf_111 : decode cX11_contextOf 111 = .ok (.iinc 5 1, 3) := by decide +kernel
theorem dX11_contextOf_114 : decode cX11_contextOf 114 = .ok (.goto (-36), 3) := by decide +kernel
theorem dX11_contextOf_117 : decode cX11_contextOf 117 = .ok (.iload 5, 2) := by decide +kernel
theorem dX11_contextOf_119 : decode cX11_contextOf 119 = .ok (.istore 6, 2) := by decide +kernel
theorem dX11_contextOf_121 : decode cX11_contextOf 121 = .ok (.iload 6, 2) := by decide +kernel
theorem dX11_contextOf_123 : decode cX11_contextOf 123 = .ok (.ifCond .le 23, 3) := by decide +kernel
theorem dX11_contextOf_126 : decode cX11_contextOf 126 = .ok (.iload 4, 2) := by decide +kernel
theorem dX11_contextOf_128 : decode cX11_contextOf 128 = .ok (.aload_n 0, 1) := by decide +kernel
theorem dX11_contextOf_129 : decode cX11_contextOf 129 = .ok (.iload_n 1, 1) := by decide +kernel
theorem dX11_contextOf_130 : decode cX11_contextOf 130 = .ok (.iload 6, 2) := by decide +kernel
theorem dX11_contextOf_132 : decode cX11_contextOf 132 = .ok (.invokevirtual 121, 3) := by decide +kernel
theorem dX11_contextOf_135 : decode cX11_contextOf 135 = .ok (.invokestatic 117, 3) := by decide +kernel
theorem dX11_contextOf_138 : decode cX11_contextOf 138 = .ok (.istore 4, 2) := by decide +kernel
theorem dX11_contextOf_140 : decode cX11_contextOf 140 = .ok (.iinc 6 (-1), 3) := by decide +kernel
theorem dX11_contextOf_143 : decode cX11_contextOf 143 = .ok (.goto (-22), 3) := by decide +kernel
theorem dX11_contextOf_146 : decode cX11_contextOf 146 = .ok (.goto 103, 3) := by decide +kernel
theorem dX11_contextOf_149 : decode cX11_contextOf 149 = .ok (.aload_n 0, 1) := by decide +kernel
theorem dX11_contextOf_150 : decode cX11_contextOf 150 = .ok (.getfield 13, 3) := by decide +kernel
theorem dX11_contextOf_153 : decode cX11_contextOf 153 = .ok (.iload_n 2, 1) := by decide +kernel
theorem dX11_contextOf_154 : decode cX11_contextOf 154 = .ok (.iaload, 1) := by decide +kernel
theorem dX11_contextOf_155 : decode cX11_contextOf 155 = .ok (.iconst 2, 1) := by decide +kernel
theorem dX11_contextOf_156 : decode cX11_contextOf 156 = .ok (.if_icmp .ne 36, 3) := by decide +kernel
theorem dX11_contextOf_159 : decode cX11_contextOf 159 = .ok (.bipush 64, 2) := by decide +kernel
theorem dX11_contextOf_161 : decode cX11_contextOf 161 = .ok (.iload_n 3, 1) := by decide +kernel
theorem dX11_contextOf_162 : decode cX11_contextOf 162 = .ok (.iadd, 1) := by decide +kernel
theorem dX11_contextOf_163 : decode cX11_contextOf 163 = .ok (.iconst 0, 1) := by decide +kernel
theorem dX11_contextOf_164 : decode cX11_contextOf 164 = .ok (.invokestatic 117, 3) := by decide +kernel
theorem dX11_contextOf_167 : decode cX11_contextOf 167 = .ok (.aload_n 0, 1) := by decide +kernel
theorem dX11_contextOf_168 : decode cX11_contextOf 168 = .ok (.getfield 26, 3) := by decide +kernel
theorem dX11_contextOf_171 : decode cX11_contextOf 171 = .ok (.iload_n 1, 1) := by decide +kernel
theorem dX11_contextOf_172 : decode cX11_contextOf 172 = .ok (.iaload, 1) := by decide +kernel
theorem dX11_contextOf_173 : decode cX11_contextOf 173 = .ok (.iload_n 3, 1) := by decide +kernel
theorem dX11_contextOf_174 : decode cX11_contextOf 174 = .ok (.irem, 1) := by decide +kernel
theorem dX11_contextOf_175 : decode cX11_contextOf 175 = .ok (.invokestatic 117, 3) := by decide +kernel
theorem dX11_contextOf_178 : decode cX11_contextOf 178 = .ok (.aload_n 0, 1) := by decide +kernel
theorem dX11_contextOf_179 : decode cX11_contextOf 179 = .ok (.iload_n 1, 1) := by decide +kernel
theorem dX11_contextOf_180 : decode cX11_contextOf 180 = .ok (.iload_n 3, 1) := by decide +kernel
theorem dX11_contextOf_181 : decode cX11_contextOf 181 = .ok (.invokevirtual 121, 3) := by decide +kernel
theorem dX11_contextOf_184 : decode cX11_contextOf 184 = .ok (.invokestatic 117, 3) := by decide +kernel
theorem dX11_contextOf_187 : decode cX11_contextOf 187 = .ok (.istore 4, 2) := by decide +kernel
theorem dX11_contextOf_189 : decode cX11_contextOf 189 = .ok (.goto 60, 3) := by decide +kernel
theorem dX11_contextOf_192 : decode cX11_contextOf 192 = .ok (.sipush 128, 3) := by decide +kernel
theorem dX11_contextOf_195 : decode cX11_contextOf 195 = .ok (.iload_n 3, 1) := by decide +kernel
theorem dX11_contextOf_196 : decode cX11_contextOf 196 = .ok (.iadd, 1) := by decide +kernel
theorem dX11_contextOf_197 : decode cX11_contextOf 197 = .ok (.iconst 0, 1) := by decide +kernel
theorem dX11_contextOf_198 : decode cX11_contextOf 198 = .ok (.invokestatic 117, 3) := by decide +kernel
theorem dX11_contextOf_201 : decode cX11_contextOf 201 = .ok (.istore 4, 2) := by decide +kernel
theorem dX11_contextOf_203 : decode cX11_contextOf 203 = .ok (.iconst 0, 1) := by decide +kernel
theorem dX11_contextOf_204 : decode cX11_contextOf 204 = .ok (.istore 5, 2) := by decide +kernel
theorem dX11_contextOf_206 : decode cX11_contextOf 206 = .ok (.iload 5, 2) := by decide +kernel
theorem dX11_contextOf_208 : decode cX11_contextOf 208 = .ok (.iconst 4, 1) := by decide +kernel
theorem dX11_contextOf_209 : decode cX11_contextOf 209 = .ok (.if_icmp .ge 40, 3) := by decide +kernel
theorem dX11_contextOf_212 : decode cX11_contextOf 212 = .ok (.iload_n 3, 1) := by decide +kernel
theorem dX11_contextOf_213 : decode cX11_contextOf 213 = .ok (.iload 5, 2) := by decide +kernel
theorem dX11_contextOf_215 : decode cX11_contextOf 215 = .ok (.ishr, 1) := by decide +kernel
theorem dX11_contextOf_216 : decode cX11_contextOf 216 = .ok (.iconst 1, 1) := by decide +kernel
theorem dX11_contextOf_217 : decode cX11_contextOf 217 = .ok (.iand, 1) := by decide +kernel
theorem dX11_contextOf_218 : decode cX11_contextOf 218 = .ok (.iconst 1, 1) := by decide +kernel
theorem dX11_contextOf_219 : decode cX11_contextOf 219 = .ok (.if_icmp .ne 20, 3) := by decide +kernel
theorem dX11_contextOf_222 : decode cX11_contextOf 222 = .ok (.iload 4, 2) := by decide +kernel
theorem dX11_contextOf_224 : decode cX11_contextOf 224 = .ok (.aload_n 0, 1) := by decide +kernel
theorem dX11_contextOf_225 : decode cX11_contextOf 225 = .ok (.iload_n 1, 1) := by decide +kernel
theorem dX11_contextOf_226 : decode cX11_contextOf 226 = .ok (.iload 5, 2) := by decide +kernel
theorem dX11_contextOf_228 : decode cX11_contextOf 228 = .ok (.iconst 1, 1) := by decide +kernel
theorem dX11_contextOf_229 : decode cX11_contextOf 229 = .ok (.iadd, 1) := by decide +kernel
theorem dX11_contextOf_230 : decode cX11_contextOf 230 = .ok (.invokevirtual 121, 3) := by decide +kernel
theorem dX11_contextOf_233 : decode cX11_contextOf 233 = .ok (.invokestatic 117, 3) := by decide +kernel
theorem dX11_contextOf_236 : decode cX11_contextOf 236 = .ok (.goto 5, 3) := by decide +kernel
theorem dX11_contextOf_239 : decode cX11_contextOf 239 = .ok (.iload 4, 2) := by decide +kernel
theorem dX11_contextOf_241 : decode cX11_contextOf 241 = .ok (.istore 4, 2) := by decide +kernel
theorem dX11_contextOf_243 : decode cX11_contextOf 243 = .ok (.iinc 5 1, 3) := by decide +kernel
theorem dX11_contextOf_246 : decode cX11_contextOf 246 = .ok (.goto (-40), 3) := by decide +kernel
theorem dX11_contextOf_249 : decode cX11_contextOf 249 = .ok (.iload 4, 2) := by decide +kernel
theorem dX11_contextOf_251 : decode cX11_contextOf 251 = .ok (.ireturn, 1) := by decide +kernel
theorem dX11_byteBegins_0 : decode cX11_byteBegins 0 = .ok (.iconst 0, 1) := by decide +kernel
theorem dX11_byteBegins_1 : decode cX11_byteBegins 1 = .ok (.istore_n 3, 1) := by decide +kernel
theorem dX11_byteBegins_2 : decode cX11_byteBegins 2 = .ok (.iload_n 3, 1) := by decide +kernel
theorem dX11_byteBegins_3 : decode cX11_byteBegins 3 = .ok (.aload_n 0, 1) := by decide +kernel
theorem dX11_byteBegins_4 : decode cX11_byteBegins 4 = .ok (.getfield 91, 3) := by decide +kernel
theorem dX11_byteBegins_7 : decode cX11_byteBegins 7 = .ok (.if_icmp .ge 46, 3) := by decide +kernel
theorem dX11_byteBegins_10 : decode cX11_byteBegins 10 = .ok (.aload_n 0, 1) := by decide +kernel
theorem dX11_byteBegins_11 : decode cX11_byteBegins 11 = .ok (.getfield 13, 3) := by decide +kernel
theorem dX11_byteBegins_14 : decode cX11_byteBegins 14 = .ok (.iload_n 3, 1) := by decide +kernel
theorem dX11_byteBegins_15 : decode cX11_byteBegins 15 = .ok (.iaload, 1) := by decide +kernel
theorem dX11_byteBegins_16 : decode cX11_byteBegins 16 = .ok (.iconst 4, 1) := by decide +kernel
theorem dX11_byteBegins_17 : decode cX11_byteBegins 17 = .ok (.if_icmp .ge 23, 3) := by decide +kernel
theorem dX11_byteBegins_20 : decode cX11_byteBegins 20 = .ok (.aload_n 0, 1) := by decide +kernel
theorem dX11_byteBegins_21 : decode cX11_byteBegins 21 = .ok (.getfield 32, 3) := by decide +kernel
theorem dX11_byteBegins_24 : decode cX11_byteBegins 24 = .ok (.bipush 8, 2) := by decide +kernel
theorem dX11_byteBegins_26 : decode cX11_byteBegins 26 = .ok (.iload_n 1, 1) := by decide +kernel
theorem dX11_byteBegins_27 : decode cX11_byteBegins 27 = .ok (.imul, 1) := by decide +kernel
theorem dX11_byteBegins_28 : decode cX11_byteBegins 28 = .ok (.iload_n 3, 1) := by decide +kernel
theorem dX11_byteBegins_29 : decode cX11_byteBegins 29 = .ok (.iadd, 1) := by decide +kernel
theorem dX11_byteBegins_30 : decode cX11_byteBegins 30 = .ok (.aload_n 0, 1) := by decide +kernel
theorem dX11_byteBegins_31 : decode cX11_byteBegins 31 = .ok (.iload_n 1, 1) := by decide +kernel
theorem dX11_byteBegins_32 : decode cX11_byteBegins 32 = .ok (.iload_n 3, 1) := by decide +kernel
theorem dX11_byteBegins_33 : decode cX11_byteBegins 33 = .ok (.invokevirtual 128, 3) := by decide +kernel
theorem dX11_byteBegins_36 : decode cX11_byteBegins 36 = .ok (.iastore, 1) := by decide +kernel
theorem dX11_byteBegins_37 : decode cX11_byteBegins 37 = .ok (.goto 10, 3) := by decide +kernel
theorem dX11_byteBegins_40 : decode cX11_byteBegins 40 = .ok (.aload_n 0, 1) := by decide +kernel
theorem dX11_byteBegins_41 : decode cX11_byteBegins 41 = .ok (.iload_n 1, 1) := by decide +kernel
theorem dX11_byteBegins_42 : decode cX11_byteBegins 42 = .ok (.iload_n 3, 1) := by decide +kernel
theorem dX11_byteBegins_43 : decode cX11_byteBegins 43 = .ok (.iload_n 2, 1) := by decide +kernel
theorem dX11_byteBegins_44 : decode cX11_byteBegins 44 = .ok (.invokevirtual 131, 3) := by decide +kernel
theorem dX11_byteBegins_47 : decode cX11_byteBegins 47 = .ok (.iinc 3 1, 3) := by decide +kernel
theorem dX11_byteBegins_50 : decode cX11_byteBegins 50 = .ok (.goto (-48), 3) := by decide +kernel
theorem dX11_byteBegins_53 : decode cX11_byteBegins 53 = .ok (.return_, 1) := by decide +kernel
theorem dX11_match_0 : decode cX11_match 0 = .ok (.bipush 8, 2) := by decide +kernel
theorem dX11_match_2 : decode cX11_match 2 = .ok (.iload_n 1, 1) := by decide +kernel
theorem dX11_match_3 : decode cX11_match 3 = .ok (.imul, 1) := by decide +kernel
theorem dX11_match_4 : decode cX11_match 4 = .ok (.iload_n 2, 1) := by decide +kernel
theorem dX11_match_5 : decode cX11_match 5 = .ok (.iadd, 1) := by decide +kernel
theorem dX11_match_6 : decode cX11_match 6 = .ok (.istore 4, 2) := by decide +kernel
theorem dX11_match_8 : decode cX11_match 8 = .ok (.iload_n 3, 1) := by decide +kernel
theorem dX11_match_9 : decode cX11_match 9 = .ok (.ifCond .eq 87, 3) := by decide +kernel
theorem dX11_match_12 : decode cX11_match 12 = .ok (.aload_n 0, 1) := by decide +kernel
theorem dX11_match_13 : decode cX11_match 13 = .ok (.getfield 38, 3) := by decide +kernel
theorem dX11_match_16 : decode cX11_match 16 = .ok (.iload 4, 2) := by decide +kernel
theorem dX11_match_18 : decode cX11_match 18 = .ok (.iaload, 1) := by decide +kernel
theorem dX11_match_19 : decode cX11_match 19 = .ok (.ifCond .le 77, 3) := by decide +kernel
theorem dX11_match_22 : decode cX11_match 22 = .ok (.aload_n 0, 1) := by decide +kernel
theorem dX11_match_23 : decode cX11_match 23 = .ok (.getfield 23, 3) := by decide +kernel
theorem dX11_match_26 : decode cX11_match 26 = .ok (.sipush 2050, 3) := by decide +kernel
theorem dX11_match_29 : decode cX11_match 29 = .ok (.iload_n 1, 1) := by decide +kernel
theorem dX11_match_30 : decode cX11_match 30 = .ok (.imul, 1) := by decide +kernel
theorem dX11_match_31 : decode cX11_match 31 = .ok (.aload_n 0, 1) := by decide +kernel
theorem dX11_match_32 : decode cX11_match 32 = .ok (.getfield 35, 3) := by decide +kernel
theorem dX11_match_35 : decode cX11_match 35 = .ok (.iload 4, 2) := by decide +kernel
theorem dX11_match_37 : decode cX11_match 37 = .ok (.iaload, 1) := by decide +kernel
theorem dX11_match_38 : decode cX11_match 38 = .ok (.iadd, 1) := by decide +kernel
theorem dX11_match_39 : decode cX11_match 39 = .ok (.iaload, 1) := by decide +kernel
theorem dX11_match_40 : decode cX11_match 40 = .ok (.aload_n 0, 1) := by decide +kernel
theorem dX11_match_41 : decode cX11_match 41 = .ok (.iload_n 1, 1) := by decide +kernel
theorem dX11_match_42 : decode cX11_match 42 = .ok (.iconst 1, 1) := by decide +kernel
theorem dX11_match_43 : decode cX11_match 43 = .ok (.invokevirtual 121, 3) := by decide +kernel
theorem dX11_match_46 : decode cX11_match 46 = .ok (.if_icmp .ne 50, 3) := by decide +kernel
theorem dX11_match_49 : decode cX11_match 49 = .ok (.aload_n 0, 1) := by decide +kernel
theorem dX11_match_50 : decode cX11_match 50 = .ok (.getfield 35, 3) := by decide +kernel
theorem dX11_match_53 : decode cX11_match 53 = .ok (.iload 4, 2) := by decide +kernel
theorem dX11_match_55 : decode cX11_match 55 = .ok (.dup2, 1) := by decide +kernel
theorem dX11_match_56 : decode cX11_match 56 = .ok (.iaload, 1) := by decide +kernel
theorem dX11_match_57 : decode cX11_match 57 = .ok (.iconst 1, 1) := by decide +kernel
theorem dX11_match_58 : decode cX11_match 58 = .ok (.iadd, 1) := by decide +kernel
theorem dX11_match_59 : decode cX11_match 59 = .ok (.iastore, 1) := by decide +kernel
theorem dX11_match_60 : decode cX11_match 60 = .ok (.aload_n 0, 1) := by decide +kernel
theorem dX11_match_61 : decode cX11_match 61 = .ok (.getfield 38, 3) := by decide +kernel
theorem dX11_match_64 : decode cX11_match 64 = .ok (.iload 4, 2) := by decide +kernel
theorem dX11_match_66 : decode cX11_match 66 = .ok (.aload_n 0, 1) := by decide +kernel
theorem dX11_match_67 : decode cX11_match 67 = .ok (.getfield 38, 3) := by decide +kernel
theorem dX11_match_70 : decode cX11_match 70 = .ok (.iload 4, 2) := by decide +kernel
theorem dX11_match_72 : decode cX11_match 72 = .ok (.iaload, 1) := by decide +kernel
theorem dX11_match_73 : decode cX11_match 73 = .ok (.bipush 32, 2) := by decide +kernel
theorem dX11_match_75 : decode cX11_match 75 = .ok (.if_icmp .ge 15, 3) := by decide +kernel
theorem dX11_match_78 : decode cX11_match 78 = .ok (.aload_n 0, 1) := by decide +kernel
theorem dX11_match_79 : decode cX11_match 79 = .ok (.getfield 38, 3) := by decide +kernel
theorem dX11_match_82 : decode cX11_match 82 = .ok (.iload 4, 2) := by decide +kernel
theorem dX11_match_84 : decode cX11_match 84 = .ok (.iaload, 1) := by decide +kernel
theorem dX11_match_85 : decode cX11_match 85 = .ok (.iconst 1, 1) := by decide +kernel
theorem dX11_match_86 : decode cX11_match 86 = .ok (.iadd, 1) := by decide +kernel
theorem dX11_match_87 : decode cX11_match 87 = .ok (.goto 5, 3) := by decide +kernel
theorem dX11_match_90 : decode cX11_match 90 = .ok (.bipush 32, 2) := by decide +kernel
theorem dX11_match_92 : decode cX11_match 92 = .ok (.iastore, 1) := by decide +kernel
theorem dX11_match_93 : decode cX11_match 93 = .ok (.goto 11, 3) := by decide +kernel
theorem dX11_match_96 : decode cX11_match 96 = .ok (.aload_n 0, 1) := by decide +kernel
theorem dX11_match_97 : decode cX11_match 97 = .ok (.getfield 38, 3) := by decide +kernel
theorem dX11_match_100 : decode cX11_match 100 = .ok (.iload 4, 2) := by decide +kernel
theorem dX11_match_102 : decode cX11_match 102 = .ok (.iconst 0, 1) := by decide +kernel
theorem dX11_match_103 : decode cX11_match 103 = .ok (.iastore, 1) := by decide +kernel
theorem dX11_match_104 : decode cX11_match 104 = .ok (.aload_n 0, 1) := by decide +kernel
theorem dX11_match_105 : decode cX11_match 105 = .ok (.getfield 16, 3) := by decide +kernel
theorem dX11_match_108 : decode cX11_match 108 = .ok (.iload_n 2, 1) := by decide +kernel
theorem dX11_match_109 : decode cX11_match 109 = .ok (.iaload, 1) := by decide +kernel
theorem dX11_match_110 : decode cX11_match 110 = .ok (.istore 5, 2) := by decide +kernel
theorem dX11_match_112 : decode cX11_match 112 = .ok (.aload_n 0, 1) := by decide +kernel
theorem dX11_match_113 : decode cX11_match 113 = .ok (.getfield 26, 3) := by decide +kernel
theorem dX11_match_116 : decode cX11_match 116 = .ok (.iload_n 1, 1) := by decide +kernel
theorem dX11_match_117 : decode cX11_match 117 = .ok (.iaload, 1) := by decide +kernel
theorem dX11_match_118 : decode cX11_match 118 = .ok (.iconst 1, 1) := by decide +kernel
theorem dX11_match_119 : decode cX11_match 119 = .ok (.isub, 1) := by decide +kernel
theorem dX11_match_120 : decode cX11_match 120 = .ok (.istore 6, 2) := by decide +kernel
theorem dX11_match_122 : decode cX11_match 122 = .ok (.iload 6, 2) := by decide +kernel
theorem dX11_match_124 : decode cX11_match 124 = .ok (.iload 5, 2) := by decide +kernel
theorem dX11_match_126 : decode cX11_match 126 = .ok (.if_icmp .lt 113, 3) := by decide +kernel
theorem dX11_match_129 : decode cX11_match 129 = .ok (.iload 6, 2) := by decide +kernel
theorem dX11_match_131 : decode cX11_match 131 = .ok (.aload_n 0, 1) := by decide +kernel
theorem dX11_match_132 : decode cX11_match 132 = .ok (.getfield 26, 3) := by decide +kernel
theorem dX11_match_135 : decode cX11_match 135 = .ok (.iload_n 1, 1) := by decide +kernel
theorem dX11_match_136 : decode cX11_match 136 = .ok (.iaload, 1) := by decide +kernel
theorem dX11_match_137 : decode cX11_match 137 = .ok (.bipush 64, 2) := by decide +kernel
theorem dX11_match_139 : decode cX11_match 139 = .ok (.isub, 1) := by decide +kernel
theorem dX11_match_140 : decode cX11_match 140 = .ok (.if_icmp .lt 99, 3) := by decide +kernel
theorem dX11_match_143 : decode cX11_match 143 = .ok (.aload_n 0, 1) := by decide +kernel
theorem dX11_match_144 : decode cX11_match 144 = .ok (.getfield 38, 3) := by decide +kernel
theorem dX11_match_147 : decode cX11_match 147 = .ok (.iload 4, 2) := by decide +kernel
theorem dX11_match_149 : decode cX11_match 149 = .ok (.iaload, 1) := by decide +kernel
theorem dX11_match_150 : decode cX11_match 150 = .ok (.ifCond .ne 89, 3) := by decide +kernel
theorem dX11_match_153 : decode cX11_match 153 = .ok (.iconst 1, 1) := by decide +kernel
theorem dX11_match_154 : decode cX11_match 154 = .ok (.istore 7, 2) := by decide +kernel
theorem dX11_match_156 : decode cX11_match 156 = .ok (.iconst 1, 1) := by decide +kernel
theorem dX11_match_157 : decode cX11_match 157 = .ok (.istore 8, 2) := by decide +kernel
theorem dX11_match_159 : decode cX11_match 159 = .ok (.iload 8, 2) := by decide +kernel
theorem dX11_match_161 : decode cX11_match 161 = .ok (.iload 5, 2) := by decide +kernel
theorem dX11_match_163 : decode cX11_match 163 = .ok (.if_icmp .gt 47, 3) := by decide +kernel
theorem dX11_match_166 : decode cX11_match 166 = .ok (.iload 7, 2) := by decide +kernel
theorem dX11_match_168 : decode cX11_match 168 = .ok (.ifCond .eq 42, 3) := by decide +kernel
theorem dX11_match_171 : decode cX11_match 171 = .ok (.aload_n 0, 1) := by decide +kernel
theorem dX11_match_172 : decode cX11_match 172 = .ok (.getfield 23, 3) := by decide +kernel
theorem dX11_match_175 : decode cX11_match 175 = .ok (.sipush 2050, 3) := by decide +kernel
theorem dX11_match_178 : decode cX11_match 178 = .ok (.iload_n 1, 1) := by decide +kernel
theorem dX11_match_179 : decode cX11_match 179 = .ok (.imul, 1) := by decide +kernel
theorem dX11_match_180 : decode cX11_match 180 = .ok (.iload 6, 2) := by decide +kernel
theorem dX11_match_182 : decode cX11_match 182 = .ok (.iadd, 1) := by decide +kernel
theorem dX11_match_183 : decode cX11_match 183 = .ok (.iload 8, 2) := by decide +kernel
theorem dX11_match_185 : decode cX11_match 185 = .ok (.isub, 1) := by decide +kernel
theorem dX11_match_186 : decode cX11_match 186 = .ok (.iaload, 1) := by decide +kernel
theorem dX11_match_187 : decode cX11_match 187 = .ok (.aload_n 0, 1) := by decide +kernel
theorem dX11_match_188 : decode cX11_match 188 = .ok (.iload_n 1, 1) := by decide +kernel
theorem dX11_match_189 : decode cX11_match 189 = .ok (.iload 8, 2) := by decide +kernel
theorem dX11_match_191 : decode cX11_match 191 = .ok (.invokevirtual 121, 3) := by decide +kernel
theorem dX11_match_194 : decode cX11_match 194 = .ok (.if_icmp .ne 7, 3) := by decide +kernel
theorem dX11_match_197 : decode cX11_match 197 = .ok (.iconst 1, 1) := by decide +kernel
theorem dX11_match_198 : decode cX11_match 198 = .ok (.goto 4, 3) := by decide +kernel
theorem dX11_match_201 : decode cX11_match 201 = .ok (.iconst 0, 1) := by decide +kernel
theorem dX11_match_202 : decode cX11_match 202 = .ok (.istore 7, 2) := by decide +kernel
theorem dX11_match_204 : decode cX11_match 204 = .ok (.iinc 8 1, 3) := by decide +kernel
theorem dX11_match_207 : decode cX11_match 207 = .ok (.goto (-48), 3) := by decide +kernel
theorem dX11_match_210 : decode cX11_match 210 = .ok (.iload 7, 2) := by decide +kernel
theorem dX11_match_212 : decode cX11_match 212 = .ok (.ifCond .eq 21, 3) := by decide +kernel
theorem dX11_match_215 : decode cX11_match 215 = .ok (.aload_n 0, 1) := by decide +kernel
theorem dX11_match_216 : decode cX11_match 216 = .ok (.getfield 35, 3) := by decide +kernel
theorem dX11_match_219 : decode cX11_match 219 = .ok (.iload 4, 2) := by decide +kernel
theorem dX11_match_221 : decode cX11_match 221 = .ok (.iload 6, 2) := by decide +kernel
theorem dX11_match_223 : decode cX11_match 223 = .ok (.iastore, 1) := by decide +kernel
theorem dX11_match_224 : decode cX11_match 224 = .ok (.aload_n 0, 1) := by decide +kernel
theorem dX11_match_225 : decode cX11_match 225 = .ok (.getfield 38, 3) := by decide +kernel
theorem dX11_match_228 : decode cX11_match 228 = .ok (.iload 4, 2) := by decide +kernel
theorem dX11_match_230 : decode cX11_match 230 = .ok (.iload 5, 2) := by decide +kernel
theorem dX11_match_232 : decode cX11_match 232 = .ok (.iastore, 1) := by decide +kernel
theorem dX11_match_233 : decode cX11_match 233 = .ok (.iinc 6 (-1), 3) := by decide +kernel
theorem dX11_match_236 : decode cX11_match 236 = .ok (.goto (-114), 3) := by decide +kernel
theorem dX11_match_239 : decode cX11_match 239 = .ok (.return_, 1) := by decide +kernel
theorem dX11_bitsDone_0 : decode cX11_bitsDone 0 = .ok (.iconst 0, 1) := by decide +kernel
theorem dX11_bitsDone_1 : decode cX11_bitsDone 1 = .ok (.istore_n 2, 1) := by decide +kernel
theorem dX11_bitsDone_2 : decode cX11_bitsDone 2 = .ok (.aload_n 0, 1) := by decide +kernel
theorem dX11_bitsDone_3 : decode cX11_bitsDone 3 = .ok (.getfield 29, 3) := by decide +kernel
theorem dX11_bitsDone_6 : decode cX11_bitsDone 6 = .ok (.iload_n 1, 1) := by decide +kernel
theorem dX11_bitsDone_7 : decode cX11_bitsDone 7 = .ok (.iaload, 1) := by decide +kernel
theorem dX11_bitsDone_8 : decode cX11_bitsDone 8 = .ok (.iload_n 2, 1) := by decide +kernel
theorem dX11_bitsDone_9 : decode cX11_bitsDone 9 = .ok (.ishr, 1) := by decide +kernel
theorem dX11_bitsDone_10 : decode cX11_bitsDone 10 = .ok (.iconst 1, 1) := by decide +kernel
theorem dX11_bitsDone_11 : decode cX11_bitsDone 11 = .ok (.if_icmp .le 9, 3) := by decide +kernel
theorem dX11_bitsDone_14 : decode cX11_bitsDone 14 = .ok (.iinc 2 1, 3) := by decide +kernel
theorem dX11_bitsDone_17 : decode cX11_bitsDone 17 = .ok (.goto (-15), 3) := by decide +kernel
theorem dX11_bitsDone_20 : decode cX11_bitsDone 20 = .ok (.iload_n 2, 1) := by decide +kernel
theorem dX11_bitsDone_21 : decode cX11_bitsDone 21 = .ok (.ireturn, 1) := by decide +kernel
theorem dX11_slotOf_0 : decode cX11_slotOf 0 = .ok (.sipush 4096, 3) := by decide +kernel
theorem dX11_slotOf_3 : decode cX11_slotOf 3 = .ok (.iload_n 1, 1) := by decide +kernel
theorem dX11_slotOf_4 : decode cX11_slotOf 4 = .ok (.imul, 1) := by decide +kernel
theorem dX11_slotOf_5 : decode cX11_slotOf 5 = .ok (.aload_n 0, 1) := by decide +kernel
theorem dX11_slotOf_6 : decode cX11_slotOf 6 = .ok (.getfield 32, 3) := by decide +kernel
theorem dX11_slotOf_9 : decode cX11_slotOf 9 = .ok (.bipush 8, 2) := by decide +kernel
theorem dX11_slotOf_11 : decode cX11_slotOf 11 = .ok (.iload_n 1, 1) := by decide +kernel
theorem dX11_slotOf_12 : decode cX11_slotOf 12 = .ok (.imul, 1) := by decide +kernel
theorem dX11_slotOf_13 : decode cX11_slotOf 13 = .ok (.iload_n 2, 1) := by decide +kernel
theorem dX11_slotOf_14 : decode cX11_slotOf 14 = .ok (.iadd, 1) := by decide +kernel
theorem dX11_slotOf_15 : decode cX11_slotOf 15 = .ok (.iaload, 1) := by decide +kernel
theorem dX11_slotOf_16 : decode cX11_slotOf 16 = .ok (.aload_n 0, 1) := by decide +kernel
theorem dX11_slotOf_17 : decode cX11_slotOf 17 = .ok (.getfield 29, 3) := by decide +kernel
theorem dX11_slotOf_20 : decode cX11_slotOf 20 = .ok (.iload_n 1, 1) := by decide +kernel
theorem dX11_slotOf_21 : decode cX11_slotOf 21 = .ok (.iaload, 1) := by decide +kernel
theorem dX11_slotOf_22 : decode cX11_slotOf 22 = .ok (.invokestatic 117, 3) := by decide +kernel
theorem dX11_slotOf_25 : decode cX11_slotOf 25 = .ok (.iconst 1, 1) := by decide +kernel
theorem dX11_slotOf_26 : decode cX11_slotOf 26 = .ok (.aload_n 0, 1) := by decide +kernel
theorem dX11_slotOf_27 : decode cX11_slotOf 27 = .ok (.getfield 66, 3) := by decide +kernel
theorem dX11_slotOf_30 : decode cX11_slotOf 30 = .ok (.ishl, 1) := by decide +kernel
theorem dX11_slotOf_31 : decode cX11_slotOf 31 = .ok (.iconst 1, 1) := by decide +kernel
theorem dX11_slotOf_32 : decode cX11_slotOf 32 = .ok (.isub, 1) := by decide +kernel
theorem dX11_slotOf_33 : decode cX11_slotOf 33 = .ok (.iand, 1) := by decide +kernel
theorem dX11_slotOf_34 : decode cX11_slotOf 34 = .ok (.iadd, 1) := by decide +kernel
theorem dX11_slotOf_35 : decode cX11_slotOf 35 = .ok (.ireturn, 1) := by decide +kernel
theorem dX11_inputOf_0 : decode cX11_inputOf 0 = .ok (.iload_n 2, 1) := by decide +kernel
theorem dX11_inputOf_1 : decode cX11_inputOf 1 = .ok (.aload_n 0, 1) := by decide +kernel
theorem dX11_inputOf_2 : decode cX11_inputOf 2 = .ok (.getfield 91, 3) := by decide +kernel
theorem dX11_inputOf_5 : decode cX11_inputOf 5 = .ok (.if_icmp .ne 7, 3) := by decide +kernel
theorem dX11_inputOf_8 : decode cX11_inputOf 8 = .ok (.sipush 256, 3) := by decide +kernel
theorem dX11_inputOf_11 : decode cX11_inputOf 11 = .ok (.ireturn, 1) := by decide +kernel
theorem dX11_inputOf_12 : decode cX11_inputOf 12 = .ok (.aload_n 0, 1) := by decide +kernel
theorem dX11_inputOf_13 : decode cX11_inputOf 13 = .ok (.getfield 19, 3) := by decide +kernel
theorem dX11_inputOf_16 : decode cX11_inputOf 16 = .ok (.iload_n 2, 1) := by decide +kernel
theorem dX11_inputOf_17 : decode cX11_inputOf 17 = .ok (.baload, 1) := by decide +kernel
theorem dX11_inputOf_18 : decode cX11_inputOf 18 = .ok (.ifCond .eq 5, 3) := by decide +kernel
theorem dX11_inputOf_21 : decode cX11_inputOf 21 = .ok (.iconst 0, 1) := by decide +kernel
theorem dX11_inputOf_22 : decode cX11_inputOf 22 = .ok (.ireturn, 1) := by decide +kernel
theorem dX11_inputOf_23 : decode cX11_inputOf 23 = .ok (.aload_n 0, 1) := by decide +kernel
theorem dX11_inputOf_24 : decode cX11_inputOf 24 = .ok (.getfield 13, 3) := by decide +kernel
theorem dX11_inputOf_27 : decode cX11_inputOf 27 = .ok (.iload_n 2, 1) := by decide +kernel
theorem dX11_inputOf_28 : decode cX11_inputOf 28 = .ok (.iaload, 1) := by decide +kernel
theorem dX11_inputOf_29 : decode cX11_inputOf 29 = .ok (.iconst 4, 1) := by decide +kernel
theorem dX11_inputOf_30 : decode cX11_inputOf 30 = .ok (.if_icmp .ge 22, 3) := by decide +kernel
theorem dX11_inputOf_33 : decode cX11_inputOf 33 = .ok (.aload_n 0, 1) := by decide +kernel
theorem dX11_inputOf_34 : decode cX11_inputOf 34 = .ok (.getfield 7, 3) := by decide +kernel
theorem dX11_inputOf_37 : decode cX11_inputOf 37 = .ok (.aload_n 0, 1) := by decide +kernel
theorem dX11_inputOf_38 : decode cX11_inputOf 38 = .ok (.getfield 41, 3) := by decide +kernel
theorem dX11_inputOf_41 : decode cX11_inputOf 41 = .ok (.aload_n 0, 1) := by decide +kernel
theorem dX11_inputOf_42 : decode cX11_inputOf 42 = .ok (.iload_n 1, 1) := by decide +kernel
theorem dX11_inputOf_43 : decode cX11_inputOf 43 = .ok (.iload_n 2, 1) := by decide +kernel
theorem dX11_inputOf_44 : decode cX11_inputOf 44 = .ok (.invokevirtual 135, 3) := by decide +kernel
theorem dX11_inputOf_47 : decode cX11_inputOf 47 = .ok (.iaload, 1) := by decide +kernel
theorem dX11_inputOf_48 : decode cX11_inputOf 48 = .ok (.iconst 4, 1) := by decide +kernel
theorem dX11_inputOf_49 : decode cX11_inputOf 49 = .ok (.ishr, 1) := by decide +kernel
theorem dX11_inputOf_50 : decode cX11_inputOf 50 = .ok (.iaload, 1) := by decide +kernel
theorem dX11_inputOf_51 : decode cX11_inputOf 51 = .ok (.ireturn, 1) := by decide +kernel
theorem dX11_inputOf_52 : decode cX11_inputOf 52 = .ok (.bipush 8, 2) := by decide +kernel
theorem dX11_inputOf_54 : decode cX11_inputOf 54 = .ok (.iload_n 1, 1) := by decide +kernel
theorem dX11_inputOf_55 : decode cX11_inputOf 55 = .ok (.imul, 1) := by decide +kernel
theorem dX11_inputOf_56 : decode cX11_inputOf 56 = .ok (.iload_n 2, 1) := by decide +kernel
theorem dX11_inputOf_57 : decode cX11_inputOf 57 = .ok (.iadd, 1) := by decide +kernel
theorem dX11_inputOf_58 : decode cX11_inputOf 58 = .ok (.istore_n 3, 1) := by decide +kernel
theorem dX11_inputOf_59 : decode cX11_inputOf 59 = .ok (.aload_n 0, 1) := by decide +kernel
theorem dX11_inputOf_60 : decode cX11_inputOf 60 = .ok (.iload_n 1, 1) := by decide +kernel
theorem dX11_inputOf_61 : decode cX11_inputOf 61 = .ok (.invokevirtual 138, 3) := by decide +kernel
theorem dX11_inputOf_64 : decode cX11_inputOf 64 = .ok (.istore 4, 2) := by decide +kernel
theorem dX11_inputOf_66 : decode cX11_inputOf 66 = .ok (.aload_n 0, 1) := by decide +kernel
theorem dX11_inputOf_67 : decode cX11_inputOf 67 = .ok (.getfield 23, 3) := by decide +kernel
theorem dX11_inputOf_70 : decode cX11_inputOf 70 = .ok (.sipush 2050, 3) := by decide +kernel
theorem dX11_inputOf_73 : decode cX11_inputOf 73 = .ok (.iload_n 1, 1) := by decide +kernel
theorem dX11_inputOf_74 : decode cX11_inputOf 74 = .ok (.imul, 1) := by decide +kernel
theorem dX11_inputOf_75 : decode cX11_inputOf 75 = .ok (.aload_n 0, 1) := by decide +kernel
theorem dX11_inputOf_76 : decode cX11_inputOf 76 = .ok (.getfield 35, 3) := by decide +kernel
theorem dX11_inputOf_79 : decode cX11_inputOf 79 = .ok (.iload_n 3, 1) := by decide +kernel
theorem dX11_inputOf_80 : decode cX11_inputOf 80 = .ok (.iaload, 1) := by decide +kernel
theorem dX11_inputOf_81 : decode cX11_inputOf 81 = .ok (.iadd, 1) := by decide +kernel
theorem dX11_inputOf_82 : decode cX11_inputOf 82 = .ok (.iaload, 1) := by decide +kernel
theorem dX11_inputOf_83 : decode cX11_inputOf 83 = .ok (.sipush 256, 3) := by decide +kernel
theorem dX11_inputOf_86 : decode cX11_inputOf 86 = .ok (.ior, 1) := by decide +kernel
theorem dX11_inputOf_87 : decode cX11_inputOf 87 = .ok (.istore 5, 2) := by decide +kernel
theorem dX11_inputOf_89 : decode cX11_inputOf 89 = .ok (.aload_n 0, 1) := by decide +kernel
theorem dX11_inputOf_90 : decode cX11_inputOf 90 = .ok (.getfield 38, 3) := by decide +kernel
theorem dX11_inputOf_93 : decode cX11_inputOf 93 = .ok (.iload_n 3, 1) := by decide +kernel
theorem dX11_inputOf_94 : decode cX11_inputOf 94 = .ok (.iaload, 1) := by decide +kernel
theorem dX11_inputOf_95 : decode cX11_inputOf 95 = .ok (.ifCond .eq 20, 3) := by decide +kernel
theorem dX11_inputOf_98 : decode cX11_inputOf 98 = .ok (.iload 5, 2) := by decide +kernel
theorem dX11_inputOf_100 : decode cX11_inputOf 100 = .ok (.bipush 8, 2) := by decide +kernel
theorem dX11_inputOf_102 : decode cX11_inputOf 102 = .ok (.iload 4, 2) := by decide +kernel
theorem dX11_inputOf_104 : decode cX11_inputOf 104 = .ok (.isub, 1) := by decide +kernel
theorem dX11_inputOf_105 : decode cX11_inputOf 105 = .ok (.ishr, 1) := by decide +kernel
theorem dX11_inputOf_106 : decode cX11_inputOf 106 = .ok (.aload_n 0, 1) := by decide +kernel
theorem dX11_inputOf_107 : decode cX11_inputOf 107 = .ok (.getfield 29, 3) := by decide +kernel
theorem dX11_inputOf_110 : decode cX11_inputOf 110 = .ok (.iload_n 1, 1) := by decide +kernel
theorem dX11_inputOf_111 : decode cX11_inputOf 111 = .ok (.iaload, 1) := by decide +kernel
theorem dX11_inputOf_112 : decode cX11_inputOf 112 = .ok (.if_icmp .eq 5, 3) := by decide +kernel
theorem dX11_inputOf_115 : decode cX11_inputOf 115 = .ok (.iconst 0, 1) := by decide +kernel
theorem dX11_inputOf_116 : decode cX11_inputOf 116 = .ok (.ireturn, 1) := by decide +kernel
theorem dX11_inputOf_117 : decode cX11_inputOf 117 = .ok (.bipush 64, 2) := by decide +kernel
theorem dX11_inputOf_119 : decode cX11_inputOf 119 = .ok (.aload_n 0, 1) := by decide +kernel
theorem dX11_inputOf_120 : decode cX11_inputOf 120 = .ok (.getfield 38, 3) := by decide +kernel
theorem dX11_inputOf_123 : decode cX11_inputOf 123 = .ok (.iload_n 3, 1) := by decide +kernel
theorem dX11_inputOf_124 : decode cX11_inputOf 124 = .ok (.iaload, 1) := by decide +kernel
theorem dX11_inputOf_125 : decode cX11_inputOf 125 = .ok (.bipush 16, 2) := by decide +kernel
theorem dX11_inputOf_127 : decode cX11_inputOf 127 = .ok (.if_icmp .ge 12, 3) := by decide +kernel
theorem dX11_inputOf_130 : decode cX11_inputOf 130 = .ok (.aload_n 0, 1) := by decide +kernel
theorem dX11_inputOf_131 : decode cX11_inputOf 131 = .ok (.getfield 38, 3) := by decide +kernel
theorem dX11_inputOf_134 : decode cX11_inputOf 134 = .ok (.iload_n 3, 1) := by decide +kernel
theorem dX11_inputOf_135 : decode cX11_inputOf 135 = .ok (.iaload, 1) := by decide +kernel
theorem dX11_inputOf_136 : decode cX11_inputOf 136 = .ok (.goto 5, 3) := by decide +kernel
theorem dX11_inputOf_139 : decode cX11_inputOf 139 = .ok (.bipush 16, 2) := by decide +kernel
theorem dX11_inputOf_141 : decode cX11_inputOf 141 = .ok (.imul, 1) := by decide +kernel
theorem dX11_inputOf_142 : decode cX11_inputOf 142 = .ok (.istore 6, 2) := by decide +kernel
theorem dX11_inputOf_144 : decode cX11_inputOf 144 = .ok (.iload 5, 2) := by decide +kernel
theorem dX11_inputOf_146 : decode cX11_inputOf 146 = .ok (.bipush 7, 2) := by decide +kernel
theorem dX11_inputOf_148 : decode cX11_inputOf 148 = .ok (.iload 4, 2) := by decide +kernel
theorem dX11_inputOf_150 : decode cX11_inputOf 150 = .ok (.isub, 1) := by decide +kernel
theorem dX11_inputOf_151 : decode cX11_inputOf 151 = .ok (.ishr, 1) := by decide +kernel
theorem dX11_inputOf_152 : decode cX11_inputOf 152 = .ok (.iconst 1, 1) := by decide +kernel
theorem dX11_inputOf_153 : decode cX11_inputOf 153 = .ok (.iand, 1) := by decide +kernel
theorem dX11_inputOf_154 : decode cX11_inputOf 154 = .ok (.iconst 1, 1) := by decide +kernel
theorem dX11_inputOf_155 : decode cX11_inputOf 155 = .ok (.if_icmp .ne 8, 3) := by decide +kernel
theorem dX11_inputOf_158 : decode cX11_inputOf 158 = .ok (.iload 6, 2) := by decide +kernel
theorem dX11_inputOf_160 : decode cX11_inputOf 160 = .ok (.goto 6, 3) := by decide +kernel
theorem dX11_inputOf_163 : decode cX11_inputOf 163 = .ok (.iload 6, 2) := by decide +kernel
theorem dX11_inputOf_165 : decode cX11_inputOf 165 = .ok (.ineg, 1) := by decide +kernel
theorem dX11_inputOf_166 : decode cX11_inputOf 166 = .ok (.ireturn, 1) := by decide +kernel
theorem dX11_told_0 : decode cX11_told 0 = .ok (.lconst 0, 1) := by decide +kernel
theorem dX11_told_1 : decode cX11_told 1 = .ok (.lstore 4, 2) := by decide +kernel
theorem dX11_told_3 : decode cX11_told 3 = .ok (.iconst 0, 1) := by decide +kernel
theorem dX11_told_4 : decode cX11_told 4 = .ok (.istore 6, 2) := by decide +kernel
theorem dX11_told_6 : decode cX11_told 6 = .ok (.iload 6, 2) := by decide +kernel
theorem dX11_told_8 : decode cX11_told 8 = .ok (.aload_n 0, 1) := by decide +kernel
theorem dX11_told_9 : decode cX11_told 9 = .ok (.getfield 91, 3) := by decide +kernel
theorem dX11_told_12 : decode cX11_told 12 = .ok (.if_icmp .gt 37, 3) := by decide +kernel
theorem dX11_told_15 : decode cX11_told 15 = .ok (.lload 4, 2) := by decide +kernel
theorem dX11_told_17 : decode cX11_told 17 = .ok (.aload_n 0, 1) := by decide +kernel
theorem dX11_told_18 : decode cX11_told 18 = .ok (.getfield 47, 3) := by decide +kernel
theorem dX11_told_21 : decode cX11_told 21 = .ok (.iload_n 1, 1) := by decide +kernel
theorem dX11_told_22 : decode cX11_told 22 = .ok (.iload_n 2, 1) := by decide +kernel
theorem dX11_told_23 : decode cX11_told 23 = .ok (.iload_n 3, 1) := by decide +kernel
theorem dX11_told_24 : decode cX11_told 24 = .ok (.iload 6, 2) := by decide +kernel
theorem dX11_told_26 : decode cX11_told 26 = .ok (.invokestatic 87, 3) := by decide +kernel
theorem dX11_told_29 : decode cX11_told 29 = .ok (.iaload, 1) := by decide +kernel
theorem dX11_told_30 : decode cX11_told 30 = .ok (.i2l, 1) := by decide +kernel
theorem dX11_told_31 : decode cX11_told 31 = .ok (.aload_n 0, 1) := by decide +kernel
theorem dX11_told_32 : decode cX11_told 32 = .ok (.getfield 63, 3) := by decide +kernel
theorem dX11_told_35 : decode cX11_told 35 = .ok (.iload 6, 2) := by decide +kernel
theorem dX11_told_37 : decode cX11_told 37 = .ok (.iaload, 1) := by decide +kernel
theorem dX11_told_38 : decode cX11_told 38 = .ok (.i2l, 1) := by decide +kernel
theorem dX11_told_39 : decode cX11_told 39 = .ok (.lmul, 1) := by decide +kernel
theorem dX11_told_40 : decode cX11_told 40 = .ok (.ladd, 1) := by decide +kernel
theorem dX11_told_41 : decode cX11_told 41 = .ok (.lstore 4, 2) := by decide +kernel
theorem dX11_told_43 : decode cX11_told 43 = .ok (.iinc 6 1, 3) := by decide +kernel
theorem dX11_told_46 : decode cX11_told 46 = .ok (.goto (-40), 3) := by decide +kernel
theorem dX11_told_49 : decode cX11_told 49 = .ok (.lload 4, 2) := by decide +kernel
theorem dX11_told_51 : decode cX11_told 51 = .ok (.bipush 16, 2) := by decide +kernel
theorem dX11_told_53 : decode cX11_told 53 = .ok (.lshr, 1) := by decide +kernel
theorem dX11_told_54 : decode cX11_told 54 = .ok (.lstore 6, 2) := by decide +kernel
theorem dX11_told_56 : decode cX11_told 56 = .ok (.lload 6, 2) := by decide +kernel
theorem dX11_told_58 : decode cX11_told 58 = .ok (.ldc2_w 141, 3) := by decide +kernel
theorem dX11_told_61 : decode cX11_told 61 = .ok (.lcmp, 1) := by decide +kernel
theorem dX11_told_62 : decode cX11_told 62 = .ok (.ifCond .ge 9, 3) := by decide +kernel
theorem dX11_told_65 : decode cX11_told 65 = .ok (.sipush (-2047), 3) := by decide +kernel
theorem dX11_told_68 : decode cX11_told 68 = .ok (.goto 21, 3) := by decide +kernel
theorem dX11_told_71 : decode cX11_told 71 = .ok (.lload 6, 2) := by decide +kernel
theorem dX11_told_73 : decode cX11_told 73 = .ok (.ldc2_w 143, 3) := by decide +kernel
theorem dX11_told_76 : decode cX11_told 76 = .ok (.lcmp, 1) := by decide +kernel
theorem dX11_told_77 : decode cX11_told 77 = .ok (.ifCond .le 9, 3) := by decide +kernel
theorem dX11_told_80 : decode cX11_told 80 = .ok (.sipush 2047, 3) := by decide +kernel
theorem dX11_told_83 : decode cX11_told 83 = .ok (.goto 6, 3) := by decide +kernel
theorem dX11_told_86 : decode cX11_told 86 = .ok (.lload 6, 2) := by decide +kernel
theorem dX11_told_88 : decode cX11_told 88 = .ok (.l2i, 1) := by decide +kernel
theorem dX11_told_89 : decode cX11_told 89 = .ok (.invokestatic 70, 3) := by decide +kernel
theorem dX11_told_92 : decode cX11_told 92 = .ok (.ireturn, 1) := by decide +kernel
theorem dX11_work_0 : decode cX11_work 0 = .ok (.iconst 0, 1) := by decide +kernel
theorem dX11_work_1 : decode cX11_work 1 = .ok (.istore_n 2, 1) := by decide +kernel
theorem dX11_work_2 : decode cX11_work 2 = .ok (.iload_n 2, 1) := by decide +kernel
theorem dX11_work_3 : decode cX11_work 3 = .ok (.aload_n 0, 1) := by decide +kernel
theorem dX11_work_4 : decode cX11_work 4 = .ok (.getfield 91, 3) := by decide +kernel
theorem dX11_work_7 : decode cX11_work 7 = .ok (.if_icmp .gt 21, 3) := by decide +kernel
theorem dX11_work_10 : decode cX11_work 10 = .ok (.aload_n 0, 1) := by decide +kernel
theorem dX11_work_11 : decode cX11_work 11 = .ok (.getfield 63, 3) := by decide +kernel
theorem dX11_work_14 : decode cX11_work 14 = .ok (.iload_n 2, 1) := by decide +kernel
theorem dX11_work_15 : decode cX11_work 15 = .ok (.aload_n 0, 1) := by decide +kernel
theorem dX11_work_16 : decode cX11_work 16 = .ok (.iload_n 1, 1) := by decide +kernel
theorem dX11_work_17 : decode cX11_work 17 = .ok (.iload_n 2, 1) := by decide +kernel
theorem dX11_work_18 : decode cX11_work 18 = .ok (.invokevirtual 145, 3) := by decide +kernel
theorem dX11_work_21 : decode cX11_work 21 = .ok (.iastore, 1) := by decide +kernel
theorem dX11_work_22 : decode cX11_work 22 = .ok (.iinc 2 1, 3) := by decide +kernel
theorem dX11_work_25 : decode cX11_work 25 = .ok (.goto (-23), 3) := by decide +kernel
theorem dX11_work_28 : decode cX11_work 28 = .ok (.aload_n 0, 1) := by decide +kernel
theorem dX11_work_29 : decode cX11_work 29 = .ok (.aload_n 0, 1) := by decide +kernel
theorem dX11_work_30 : decode cX11_work 30 = .ok (.iload_n 1, 1) := by decide +kernel
theorem dX11_work_31 : decode cX11_work 31 = .ok (.iconst 1, 1) := by decide +kernel
theorem dX11_work_32 : decode cX11_work 32 = .ok (.invokevirtual 121, 3) := by decide +kernel
theorem dX11_work_35 : decode cX11_work 35 = .ok (.putfield 148, 3) := by decide +kernel
theorem dX11_work_38 : decode cX11_work 38 = .ok (.aload_n 0, 1) := by decide +kernel
theorem dX11_work_39 : decode cX11_work 39 = .ok (.aload_n 0, 1) := by decide +kernel
theorem dX11_work_40 : decode cX11_work 40 = .ok (.iload_n 1, 1) := by decide +kernel
theorem dX11_work_41 : decode cX11_work 41 = .ok (.iconst 0, 1) := by decide +kernel
theorem dX11_work_42 : decode cX11_work 42 = .ok (.aload_n 0, 1) := by decide +kernel
theorem dX11_work_43 : decode cX11_work 43 = .ok (.getfield 29, 3) := by decide +kernel
theorem dX11_work_46 : decode cX11_work 46 = .ok (.iload_n 1, 1) := by decide +kernel
theorem dX11_work_47 : decode cX11_work 47 = .ok (.iaload, 1) := by decide +kernel
theorem dX11_work_48 : decode cX11_work 48 = .ok (.invokevirtual 151, 3) := by decide +kernel
theorem dX11_work_51 : decode cX11_work 51 = .ok (.putfield 155, 3) := by decide +kernel
theorem dX11_work_54 : decode cX11_work 54 = .ok (.aload_n 0, 1) := by decide +kernel
theorem dX11_work_55 : decode cX11_work 55 = .ok (.aload_n 0, 1) := by decide +kernel
theorem dX11_work_56 : decode cX11_work 56 = .ok (.iload_n 1, 1) := by decide +kernel
theorem dX11_work_57 : decode cX11_work 57 = .ok (.iconst 1, 1) := by decide +kernel
theorem dX11_work_58 : decode cX11_work 58 = .ok (.aload_n 0, 1) := by decide +kernel
theorem dX11_work_59 : decode cX11_work 59 = .ok (.getfield 148, 3) := by decide +kernel
theorem dX11_work_62 : decode cX11_work 62 = .ok (.invokevirtual 151, 3) := by decide +kernel
theorem dX11_work_65 : decode cX11_work 65 = .ok (.putfield 158, 3) := by decide +kernel
theorem dX11_work_68 : decode cX11_work 68 = .ok (.aload_n 0, 1) := by decide +kernel
theorem dX11_work_69 : decode cX11_work 69 = .ok (.getfield 155, 3) := by decide +kernel
theorem dX11_work_72 : decode cX11_work 72 = .ok (.aload_n 0, 1) := by decide +kernel
theorem dX11_work_73 : decode cX11_work 73 = .ok (.getfield 158, 3) := by decide +kernel
theorem dX11_work_76 : decode cX11_work 76 = .ok (.iadd, 1) := by decide +kernel
theorem dX11_work_77 : decode cX11_work 77 = .ok (.iconst 1, 1) := by decide +kernel
theorem dX11_work_78 : decode cX11_work 78 = .ok (.iadd, 1) := by decide +kernel
theorem dX11_work_79 : decode cX11_work 79 = .ok (.iconst 1, 1) := by decide +kernel
theorem dX11_work_80 : decode cX11_work 80 = .ok (.ishr, 1) := by decide +kernel
theorem dX11_work_81 : decode cX11_work 81 = .ok (.istore_n 2, 1) := by decide +kernel
theorem dX11_work_82 : decode cX11_work 82 = .ok (.aload_n 0, 1) := by decide +kernel
theorem dX11_work_83 : decode cX11_work 83 = .ok (.getfield 7, 3) := by decide +kernel
theorem dX11_work_86 : decode cX11_work 86 = .ok (.iload_n 2, 1) := by decide +kernel
theorem dX11_work_87 : decode cX11_work 87 = .ok (.iaload, 1) := by decide +kernel
theorem dX11_work_88 : decode cX11_work 88 = .ok (.sipush 2048, 3) := by decide +kernel
theorem dX11_work_91 : decode cX11_work 91 = .ok (.iadd, 1) := by decide +kernel
theorem dX11_work_92 : decode cX11_work 92 = .ok (.istore_n 3, 1) := by decide +kernel
theorem dX11_work_93 : decode cX11_work 93 = .ok (.iload_n 3, 1) := by decide +kernel
theorem dX11_work_94 : decode cX11_work 94 = .ok (.bipush 7, 2) := by decide +kernel
theorem dX11_work_96 : decode cX11_work 96 = .ok (.ishr, 1) := by decide +kernel
theorem dX11_work_97 : decode cX11_work 97 = .ok (.istore 4, 2) := by decide +kernel
theorem dX11_work_99 : decode cX11_work 99 = .ok (.aload_n 0, 1) := by decide +kernel
theorem dX11_work_100 : decode cX11_work 100 = .ok (.iload_n 3, 1) := by decide +kernel
theorem dX11_work_101 : decode cX11_work 101 = .ok (.bipush 127, 2) := by decide +kernel
theorem dX11_work_103 : decode cX11_work 103 = .ok (.iand, 1) := by decide +kernel
theorem dX11_work_104 : decode cX11_work 104 = .ok (.putfield 161, 3) := by decide +kernel
theorem dX11_work_107 : decode cX11_work 107 = .ok (.aload_n 0, 1) := by decide +kernel
theorem dX11_work_108 : decode cX11_work 108 = .ok (.sipush 8448, 3) := by decide +kernel
theorem dX11_work_111 : decode cX11_work 111 = .ok (.iload_n 1, 1) := by decide +kernel
theorem dX11_work_112 : decode cX11_work 112 = .ok (.imul, 1) := by decide +kernel
theorem dX11_work_113 : decode cX11_work 113 = .ok (.bipush 33, 2) := by decide +kernel
theorem dX11_work_115 : decode cX11_work 115 = .ok (.aload_n 0, 1) := by decide +kernel
theorem dX11_work_116 : decode cX11_work 116 = .ok (.getfield 29, 3) := by decide +kernel
theorem dX11_work_119 : decode cX11_work 119 = .ok (.iload_n 1, 1) := by decide +kernel
theorem dX11_work_120 : decode cX11_work 120 = .ok (.iaload, 1) := by decide +kernel
theorem dX11_work_121 : decode cX11_work 121 = .ok (.imul, 1) := by decide +kernel
theorem dX11_work_122 : decode cX11_work 122 = .ok (.iadd, 1) := by decide +kernel
theorem dX11_work_123 : decode cX11_work 123 = .ok (.iload 4, 2) := by decide +kernel
theorem dX11_work_125 : decode cX11_work 125 = .ok (.iadd, 1) := by decide +kernel
theorem dX11_work_126 : decode cX11_work 126 = .ok (.putfield 164, 3) := by decide +kernel
theorem dX11_work_129 : decode cX11_work 129 = .ok (.aload_n 0, 1) := by decide +kernel
theorem dX11_work_130 : decode cX11_work 130 = .ok (.getfield 50, 3) := by decide +kernel
theorem dX11_work_133 : decode cX11_work 133 = .ok (.aload_n 0, 1) := by decide +kernel
theorem dX11_work_134 : decode cX11_work 134 = .ok (.getfield 164, 3) := by decide +kernel
theorem dX11_work_137 : decode cX11_work 137 = .ok (.iaload, 1) := by decide +kernel
theorem dX11_work_138 : decode cX11_work 138 = .ok (.sipush 128, 3) := by decide +kernel
theorem dX11_work_141 : decode cX11_work 141 = .ok (.aload_n 0, 1) := by decide +kernel
theorem dX11_work_142 : decode cX11_work 142 = .ok (.getfield 161, 3) := by decide +kernel
theorem dX11_work_145 : decode cX11_work 145 = .ok (.isub, 1) := by decide +kernel
theorem dX11_work_146 : decode cX11_work 146 = .ok (.imul, 1) := by decide +kernel
theorem dX11_work_147 : decode cX11_work 147 = .ok (.aload_n 0, 1) := by decide +kernel
theorem dX11_work_148 : decode cX11_work 148 = .ok (.getfield 50, 3) := by decide +kernel
theorem dX11_work_151 : decode cX11_work 151 = .ok (.aload_n 0, 1) := by decide +kernel
theorem dX11_work_152 : decode cX11_work 152 = .ok (.getfield 164, 3) := by decide +kernel
theorem dX11_work_155 : decode cX11_work 155 = .ok (.iconst 1, 1) := by decide +kernel
theorem dX11_work_156 : decode cX11_work 156 = .ok (.iadd, 1) := by decide +kernel
theorem dX11_work_157 : decode cX11_work 157 = .ok (.iaload, 1) := by decide +kernel
theorem dX11_work_158 : decode cX11_work 158 = .ok (.aload_n 0, 1) := by decide +kernel
theorem dX11_work_159 : decode cX11_work 159 = .ok (.getfield 161, 3) := by decide +kernel
theorem dX11_work_162 : decode cX11_work 162 = .ok (.imul, 1) := by decide +kernel
theorem dX11_work_163 : decode cX11_work 163 = .ok (.iadd, 1) := by decide +kernel
theorem dX11_work_164 : decode cX11_work 164 = .ok (.sipush 2048, 3) := by decide +kernel
theorem dX11_work_167 : decode cX11_work 167 = .ok (.idiv, 1) := by decide +kernel
theorem dX11_work_168 : decode cX11_work 168 = .ok (.istore 5, 2) := by decide +kernel
theorem dX11_work_170 : decode cX11_work 170 = .ok (.aload_n 0, 1) := by decide +kernel
theorem dX11_work_171 : decode cX11_work 171 = .ok (.iload_n 2, 1) := by decide +kernel
theorem dX11_work_172 : decode cX11_work 172 = .ok (.iconst 3, 1) := by decide +kernel
theorem dX11_work_173 : decode cX11_work 173 = .ok (.iload 5, 2) := by decide +kernel
theorem dX11_work_175 : decode cX11_work 175 = .ok (.imul, 1) := by decide +kernel
theorem dX11_work_176 : decode cX11_work 176 = .ok (.iadd, 1) := by decide +kernel
theorem dX11_work_177 : decode cX11_work 177 = .ok (.iconst 2, 1) := by decide +kernel
theorem dX11_work_178 : decode cX11_work 178 = .ok (.iadd, 1) := by decide +kernel
theorem dX11_work_179 : decode cX11_work 179 = .ok (.iconst 2, 1) := by decide +kernel
theorem dX11_work_180 : decode cX11_work 180 = .ok (.ishr, 1) := by decide +kernel
theorem dX11_work_181 : decode cX11_work 181 = .ok (.iconst 1, 1) := by decide +kernel
theorem dX11_work_182 : decode cX11_work 182 = .ok (.sipush 4095, 3) := by decide +kernel
theorem dX11_work_185 : decode cX11_work 185 = .ok (.invokestatic 167, 3) := by decide +kernel
theorem dX11_work_188 : decode cX11_work 188 = .ok (.putfield 170, 3) := by decide +kernel
theorem dX11_work_191 : decode cX11_work 191 = .ok (.return_, 1) := by decide +kernel
theorem dX11_learn_0 : decode cX11_learn 0 = .ok (.iload_n 2, 1) := by decide +kernel
theorem dX11_learn_1 : decode cX11_learn 1 = .ok (.iconst 1, 1) := by decide +kernel
theorem dX11_learn_2 : decode cX11_learn 2 = .ok (.if_icmp .ne 9, 3) := by decide +kernel
theorem dX11_learn_5 : decode cX11_learn 5 = .ok (.sipush 4095, 3) := by decide +kernel
theorem dX11_learn_8 : decode cX11_learn 8 = .ok (.goto 4, 3) := by decide +kernel
theorem dX11_learn_11 : decode cX11_learn 11 = .ok (.iconst 0, 1) := by decide +kernel
theorem dX11_learn_12 : decode cX11_learn 12 = .ok (.aload_n 0, 1) := by decide +kernel
theorem dX11_learn_13 : decode cX11_learn 13 = .ok (.getfield 155, 3) := by decide +kernel
theorem dX11_learn_16 : decode cX11_learn 16 = .ok (.isub, 1) := by decide +kernel
theorem dX11_learn_17 : decode cX11_learn 17 = .ok (.bipush 7, 2) := by decide +kernel
theorem dX11_learn_19 : decode cX11_learn 19 = .ok (.imul, 1) := by decide +kernel
theorem dX11_learn_20 : decode cX11_learn 20 = .ok (.istore_n 3, 1) := by decide +kernel
theorem dX11_learn_21 : decode cX11_learn 21 = .ok (.iload_n 2, 1) := by decide +kernel
theorem dX11_learn_22 : decode cX11_learn 22 = .ok (.iconst 1, 1) := by decide +kernel
theorem dX11_learn_23 : decode cX11_learn 23 = .ok (.if_icmp .ne 9, 3) := by decide +kernel
theorem dX11_learn_26 : decode cX11_learn 26 = .ok (.sipush 4095, 3) := by decide +kernel
theorem dX11_learn_29 : decode cX11_learn 29 = .ok (.goto 4, 3) := by decide +kernel
theorem dX11_learn_32 : decode cX11_learn 32 = .ok (.iconst 0, 1) := by decide +kernel
theorem dX11_learn_33 : decode cX11_learn 33 = .ok (.aload_n 0, 1) := by decide +kernel
theorem dX11_learn_34 : decode cX11_learn 34 = .ok (.getfield 158, 3) := by decide +kernel
theorem dX11_learn_37 : decode cX11_learn 37 = .ok (.isub, 1) := by decide +kernel
theorem dX11_learn_38 : decode cX11_learn 38 = .ok (.bipush 7, 2) := by decide +kernel
theorem dX11_learn_40 : decode cX11_learn 40 = .ok (.imul, 1) := by decide +kernel
theorem dX11_learn_41 : decode cX11_learn 41 = .ok (.istore 4, 2) := by decide +kernel
theorem dX11_learn_43 : decode cX11_learn 43 = .ok (.iconst 0, 1) := by decide +kernel
theorem dX11_learn_44 : decode cX11_learn 44 = .ok (.istore 5, 2) := by decide +kernel
theorem dX11_learn_46 : decode cX11_learn 46 = .ok (.iload 5, 2) := by decide +kernel
theorem dX11_learn_48 : decode cX11_learn 48 = .ok (.aload_n 0, 1) := by decide +kernel
theorem dX11_learn_49 : decode cX11_learn 49 = .ok (.getfield 91, 3) := by decide +kernel
theorem dX11_learn_52 : decode cX11_learn 52 = .ok (.if_icmp .gt 112, 3) := by decide +kernel
theorem dX11_learn_55 : decode cX11_learn 55 = .ok (.iload_n 1, 1) := by decide +kernel
theorem dX11_learn_56 : decode cX11_learn 56 = .ok (.iconst 0, 1) := by decide +kernel
theorem dX11_learn_57 : decode cX11_learn 57 = .ok (.aload_n 0, 1) := by decide +kernel
theorem dX11_learn_58 : decode cX11_learn 58 = .ok (.getfield 29, 3) := by decide +kernel
theorem dX11_learn_61 : decode cX11_learn 61 = .ok (.iload_n 1, 1) := by decide +kernel
theorem dX11_learn_62 : decode cX11_learn 62 = .ok (.iaload, 1) := by decide +kernel
theorem dX11_learn_63 : decode cX11_learn 63 = .ok (.iload 5, 2) := by decide +kernel
theorem dX11_learn_65 : decode cX11_learn 65 = .ok (.invokestatic 87, 3) := by decide +kernel
theorem dX11_learn_68 : decode cX11_learn 68 = .ok (.istore 6, 2) := by decide +kernel
theorem dX11_learn_70 : decode cX11_learn 70 = .ok (.iload_n 1, 1) := by decide +kernel
theorem dX11_learn_71 : decode cX11_learn 71 = .ok (.iconst 1, 1) := by decide +kernel
theorem dX11_learn_72 : decode cX11_learn 72 = .ok (.aload_n 0, 1) := by decide +kernel
theorem dX11_learn_73 : decode cX11_learn 73 = .ok (.getfield 148, 3) := by decide +kernel
theorem dX11_learn_76 : decode cX11_learn 76 = .ok (.iload 5, 2) := by decide +kernel
theorem dX11_learn_78 : decode cX11_learn 78 = .ok (.invokestatic 87, 3) := by decide +kernel
theorem dX11_learn_81 : decode cX11_learn 81 = .ok (.istore 7, 2) := by decide +kernel
theorem dX11_learn_83 : decode cX11_learn 83 = .ok (.aload_n 0, 1) := by decide +kernel
theorem dX11_learn_84 : decode cX11_learn 84 = .ok (.getfield 47, 3) := by decide +kernel
theorem dX11_learn_87 : decode cX11_learn 87 = .ok (.iload 6, 2) := by decide +kernel
theorem dX11_learn_89 : decode cX11_learn 89 = .ok (.aload_n 0, 1) := by decide +kernel
theorem dX11_learn_90 : decode cX11_learn 90 = .ok (.getfield 47, 3) := by decide +kernel
theorem dX11_learn_93 : decode cX11_learn 93 = .ok (.iload 6, 2) := by decide +kernel
theorem dX11_learn_95 : decode cX11_learn 95 = .ok (.iaload, 1) := by decide +kernel
theorem dX11_learn_96 : decode cX11_learn 96 = .ok (.aload_n 0, 1) := by decide +kernel
theorem dX11_learn_97 : decode cX11_learn 97 = .ok (.getfield 63, 3) := by decide +kernel
theorem dX11_learn_100 : decode cX11_learn 100 = .ok (.iload 5, 2) := by decide +kernel
theorem dX11_learn_102 : decode cX11_learn 102 = .ok (.iaload, 1) := by decide +kernel
theorem dX11_learn_103 : decode cX11_learn 103 = .ok (.iload_n 3, 1) := by decide +kernel
theorem dX11_learn_104 : decode cX11_learn 104 = .ok (.imul, 1) := by decide +kernel
theorem dX11_learn_105 : decode cX11_learn 105 = .ok (.ldc 86, 2) := by decide +kernel
theorem dX11_learn_107 : decode cX11_learn 107 = .ok (.iadd, 1) := by decide +kernel
theorem dX11_learn_108 : decode cX11_learn 108 = .ok (.bipush 16, 2) := by decide +kernel
theorem dX11_learn_110 : decode cX11_learn 110 = .ok (.ishr, 1) := by decide +kernel
theorem dX11_learn_111 : decode cX11_learn 111 = .ok (.iadd, 1) := by decide +kernel
theorem dX11_learn_112 : decode cX11_learn 112 = .ok (.ldc 173, 2) := by decide +kernel
theorem dX11_learn_114 : decode cX11_learn 114 = .ok (.ldc 174, 2) := by decide +kernel
theorem dX11_learn_116 : decode cX11_learn 116 = .ok (.invokestatic 167, 3) := by decide +kernel
theorem dX11_learn_119 : decode cX11_learn 119 = .ok (.iastore, 1) := by decide +kernel
theorem dX11_learn_120 : decode cX11_learn 120 = .ok (.aload_n 0, 1) := by decide +kernel
theorem dX11_learn_121 : decode cX11_learn 121 = .ok (.getfield 47, 3) := by decide +kernel
theorem dX11_learn_124 : decode cX11_learn 124 = .ok (.iload 7, 2) := by decide +kernel
theorem dX11_learn_126 : decode cX11_learn 126 = .ok (.aload_n 0, 1) := by decide +kernel
theorem dX11_learn_127 : decode cX11_learn 127 = .ok (.getfield 47, 3) := by decide +kernel
theorem dX11_learn_130 : decode cX11_learn 130 = .ok (.iload 7, 2) := by decide +kernel
theorem dX11_learn_132 : decode cX11_learn 132 = .ok (.iaload, 1) := by decide +kernel
theorem dX11_learn_133 : decode cX11_learn 133 = .ok (.aload_n 0, 1) := by decide +kernel
theorem dX11_learn_134 : decode cX11_learn 134 = .ok (.getfield 63, 3) := by decide +kernel
theorem dX11_learn_137 : decode cX11_learn 137 = .ok (.iload 5, 2) := by decide +kernel
theorem dX11_learn_139 : decode cX11_learn 139 = .ok (.iaload, 1) := by decide +kernel
theorem dX11_learn_140 : decode cX11_learn 140 = .ok (.iload 4, 2) := by decide +kernel
theorem dX11_learn_142 : decode cX11_learn 142 = .ok (.imul, 1) := by decide +kernel
theorem dX11_learn_143 : decode cX11_learn 143 = .ok (.ldc 86, 2) := by decide +kernel
theorem dX11_learn_145 : decode cX11_learn 145 = .ok (.iadd, 1) := by decide +kernel
theorem dX11_learn_146 : decode cX11_learn 146 = .ok (.bipush 16, 2) := by decide +kernel
theorem dX11_learn_148 : decode cX11_learn 148 = .ok (.ishr, 1) := by decide +kernel
theorem dX11_learn_149 : decode cX11_learn 149 = .ok (.iadd, 1) := by decide +kernel
theorem dX11_learn_150 : decode cX11_learn 150 = .ok (.ldc 173, 2) := by decide +kernel
theorem dX11_learn_152 : decode cX11_learn 152 = .ok (.ldc 174, 2) := by decide +kernel
theorem dX11_learn_154 : decode cX11_learn 154 = .ok (.invokestatic 167, 3) := by decide +kernel
theorem dX11_learn_157 : decode cX11_learn 157 = .ok (.iastore, 1) := by decide +kernel
theorem dX11_learn_158 : decode cX11_learn 158 = .ok (.iinc 5 1, 3) := by decide +kernel
theorem dX11_learn_161 : decode cX11_learn 161 = .ok (.goto (-115), 3) := by decide +kernel
theorem dX11_learn_164 : decode cX11_learn 164 = .ok (.aload_n 0, 1) := by decide +kernel
theorem dX11_learn_165 : decode cX11_learn 165 = .ok (.getfield 161, 3) := by decide +kernel
theorem dX11_learn_168 : decode cX11_learn 168 = .ok (.bipush 64, 2) := by decide +kernel
theorem dX11_learn_170 : decode cX11_learn 170 = .ok (.if_icmp .lt 12, 3) := by decide +kernel
theorem dX11_learn_173 : decode cX11_learn 173 = .ok (.aload_n 0, 1) := by decide +kernel
theorem dX11_learn_174 : decode cX11_learn 174 = .ok (.getfield 164, 3) := by decide +kernel
theorem dX11_learn_177 : decode cX11_learn 177 = .ok (.iconst 1, 1) := by decide +kernel
theorem dX11_learn_178 : decode cX11_learn 178 = .ok (.iadd, 1) := by decide +kernel
theorem dX11_learn_179 : decode cX11_learn 179 = .ok (.goto 7, 3) := by decide +kernel
theorem dX11_learn_182 : decode cX11_learn 182 = .ok (.aload_n 0, 1) := by decide +kernel
theorem dX11_learn_183 : decode cX11_learn 183 = .ok (.getfield 164, 3) := by decide +kernel
theorem dX11_learn_186 : decode cX11_learn 186 = .ok (.istore 5, 2) := by decide +kernel
theorem dX11_learn_188 : decode cX11_learn 188 = .ok (.aload_n 0, 1) := by decide +kernel
theorem dX11_learn_189 : decode cX11_learn 189 = .ok (.getfield 50, 3) := by decide +kernel
theorem dX11_learn_192 : decode cX11_learn 192 = .ok (.iload 5, 2) := by decide +kernel
theorem dX11_learn_194 : decode cX11_learn 194 = .ok (.dup2, 1) := by decide +kernel
theorem dX11_learn_195 : decode cX11_learn 195 = .ok (.iaload, 1) := by decide +kernel
theorem dX11_learn_196 : decode cX11_learn 196 = .ok (.iload_n 2, 1) := by decide +kernel
theorem dX11_learn_197 : decode cX11_learn 197 = .ok (.iconst 1, 1) := by decide +kernel
theorem dX11_learn_198 : decode cX11_learn 198 = .ok (.if_icmp .ne 8, 3) := by decide +kernel
theorem dX11_learn_201 : decode cX11_learn 201 = .ok (.ldc 175, 2) := by decide +kernel
theorem dX11_learn_203 : decode cX11_learn 203 = .ok (.goto 4, 3) := by decide +kernel
theorem dX11_learn_206 : decode cX11_learn 206 = .ok (.iconst 0, 1) := by decide +kernel
theorem dX11_learn_207 : decode cX11_learn 207 = .ok (.aload_n 0, 1) := by decide +kernel
theorem dX11_learn_208 : decode cX11_learn 208 = .ok (.getfield 50, 3) := by decide +kernel
theorem dX11_learn_211 : decode cX11_learn 211 = .ok (.iload 5, 2) := by decide +kernel
theorem dX11_learn_213 : decode cX11_learn 213 = .ok (.iaload, 1) := by decide +kernel
theorem dX11_learn_214 : decode cX11_learn 214 = .ok (.isub, 1) := by decide +kernel
theorem dX11_learn_215 : decode cX11_learn 215 = .ok (.bipush 7, 2) := by decide +kernel
theorem dX11_learn_217 : decode cX11_learn 217 = .ok (.ishr, 1) := by decide +kernel
theorem dX11_learn_218 : decode cX11_learn 218 = .ok (.iadd, 1) := by decide +kernel
theorem dX11_learn_219 : decode cX11_learn 219 = .ok (.iastore, 1) := by decide +kernel
theorem dX11_learn_220 : decode cX11_learn 220 = .ok (.iconst 0, 1) := by decide +kernel
theorem dX11_learn_221 : decode cX11_learn 221 = .ok (.istore 6, 2) := by decide +kernel
theorem dX11_learn_223 : decode cX11_learn 223 = .ok (.iload 6, 2) := by decide +kernel
theorem dX11_learn_225 : decode cX11_learn 225 = .ok (.aload_n 0, 1) := by decide +kernel
theorem dX11_learn_226 : decode cX11_learn 226 = .ok (.getfield 91, 3) := by decide +kernel
theorem dX11_learn_229 : decode cX11_learn 229 = .ok (.if_icmp .ge 121, 3) := by decide +kernel
theorem dX11_learn_232 : decode cX11_learn 232 = .ok (.aload_n 0, 1) := by decide +kernel
theorem dX11_learn_233 : decode cX11_learn 233 = .ok (.getfield 13, 3) := by decide +kernel
theorem dX11_learn_236 : decode cX11_learn 236 = .ok (.iload 6, 2) := by decide +kernel
theorem dX11_learn_238 : decode cX11_learn 238 = .ok (.iaload, 1) := by decide +kernel
theorem dX11_learn_239 : decode cX11_learn 239 = .ok (.iconst 4, 1) := by decide +kernel
theorem dX11_learn_240 : decode cX11_learn 240 = .ok (.if_icmp .ge 104, 3) := by decide +kernel
theorem dX11_learn_243 : decode cX11_learn 243 = .ok (.aload_n 0, 1) := by decide +kernel
theorem dX11_learn_244 : decode cX11_learn 244 = .ok (.getfield 19, 3) := by decide +kernel
theorem dX11_learn_247 : decode cX11_learn 247 = .ok (.iload 6, 2) := by decide +kernel
theorem dX11_learn_249 : decode cX11_learn 249 = .ok (.baload, 1) := by decide +kernel
theorem dX11_learn_250 : decode cX11_learn 250 = .ok (.ifCond .ne 94, 3) := by decide +kernel
theorem dX11_learn_253 : decode cX11_learn 253 = .ok (.aload_n 0, 1) := by decide +kernel
theorem dX11_learn_254 : decode cX11_learn 254 = .ok (.iload_n 1, 1) := by decide +kernel
theorem dX11_learn_255 : decode cX11_learn 255 = .ok (.iload 6, 2) := by decide +kernel
theorem dX11_learn_257 : decode cX11_learn 257 = .ok (.invokevirtual 135, 3) := by decide +kernel
theorem dX11_learn_260 : decode cX11_learn 260 = .ok (.istore 7, 2) := by decide +kernel
theorem dX11_learn_262 : decode cX11_learn 262 = .ok (.iload_n 2, 1) := by decide +kernel
theorem dX11_learn_263 : decode cX11_learn 263 = .ok (.iconst 1, 1) := by decide +kernel
theorem dX11_learn_264 : decode cX11_learn 264 = .ok (.if_icmp .ne 8, 3) := by decide +kernel
theorem dX11_learn_267 : decode cX11_learn 267 = .ok (.ldc 175, 2) := by decide +kernel
theorem dX11_learn_269 : decode cX11_learn 269 = .ok (.goto 4, 3) := by decide +kernel
theorem dX11_learn_272 : decode cX11_learn 272 = .ok (.iconst 0, 1) := by decide +kernel
theorem dX11_learn_273 : decode cX11_learn 273 = .ok (.aload_n 0, 1) := by decide +kernel
theorem dX11_learn_274 : decode cX11_learn 274 = .ok (.getfield 41, 3) := by decide +kernel
theorem dX11_learn_277 : decode cX11_learn 277 = .ok (.iload 7, 2) := by decide +kernel
theorem dX11_learn_279 : decode cX11_learn 279 = .ok (.iaload, 1) := by decide +kernel
theorem dX11_learn_280 : decode cX11_learn 280 = .ok (.isub, 1) := by decide +kernel
theorem dX11_learn_281 : decode cX11_learn 281 = .ok (.istore 8, 2) := by decide +kernel
theorem dX11_learn_283 : decode cX11_learn 283 = .ok (.aload_n 0, 1) := by decide +kernel
theorem dX11_learn_284 : decode cX11_learn 284 = .ok (.getfield 41, 3) := by decide +kernel
theorem dX11_learn_287 : decode cX11_learn 287 = .ok (.iload 7, 2) := by decide +kernel
theorem dX11_learn_289 : decode cX11_learn 289 = .ok (.dup2, 1) := by decide +kernel
theorem dX11_learn_290 : decode cX11_learn 290 = .ok (.iaload, 1) := by decide +kernel
theorem dX11_learn_291 : decode cX11_learn 291 = .ok (.iload 8, 2) := by decide +kernel
theorem dX11_learn_293 : decode cX11_learn 293 = .ok (.ldc 176, 2) := by decide +kernel
theorem dX11_learn_295 : decode cX11_learn 295 = .ok (.aload_n 0, 1) := by decide +kernel
theorem dX11_learn_296 : decode cX11_learn 296 = .ok (.getfield 44, 3) := by decide +kernel
theorem dX11_learn_299 : decode cX11_learn 299 = .ok (.iload 7, 2) := by decide +kernel
theorem dX11_learn_301 : decode cX11_learn 301 = .ok (.iaload, 1) := by decide +kernel
theorem dX11_learn_302 : decode cX11_learn 302 = .ok (.iconst 2, 1) := by decide +kernel
theorem dX11_learn_303 : decode cX11_learn 303 = .ok (.iadd, 1) := by decide +kernel
theorem dX11_learn_304 : decode cX11_learn 304 = .ok (.idiv, 1) := by decide +kernel
theorem dX11_learn_305 : decode cX11_learn 305 = .ok (.imul, 1) := by decide +kernel
theorem dX11_learn_306 : decode cX11_learn 306 = .ok (.bipush 16, 2) := by decide +kernel
theorem dX11_learn_308 : decode cX11_learn 308 = .ok (.ishr, 1) := by decide +kernel
theorem dX11_learn_309 : decode cX11_learn 309 = .ok (.iadd, 1) := by decide +kernel
theorem dX11_learn_310 : decode cX11_learn 310 = .ok (.iastore, 1) := by decide +kernel
theorem dX11_learn_311 : decode cX11_learn 311 = .ok (.aload_n 0, 1) := by decide +kernel
theorem dX11_learn_312 : decode cX11_learn 312 = .ok (.getfield 44, 3) := by decide +kernel
theorem dX11_learn_315 : decode cX11_learn 315 = .ok (.iload 7, 2) := by decide +kernel
theorem dX11_learn_317 : decode cX11_learn 317 = .ok (.aload_n 0, 1) := by decide +kernel
theorem dX11_learn_318 : decode cX11_learn 318 = .ok (.getfield 44, 3) := by decide +kernel
theorem dX11_learn_321 : decode cX11_learn 321 = .ok (.iload 7, 2) := by decide +kernel
theorem dX11_learn_323 : decode cX11_learn 323 = .ok (.iaload, 1) := by decide +kernel
theorem dX11_learn_324 : decode cX11_learn 324 = .ok (.bipush 30, 2) := by decide +kernel
theorem dX11_learn_326 : decode cX11_learn 326 = .ok (.if_icmp .ge 15, 3) := by decide +kernel
theorem dX11_learn_329 : decode cX11_learn 329 = .ok (.aload_n 0, 1) := by decide +kernel
theorem dX11_learn_330 : decode cX11_learn 330 = .ok (.getfield 44, 3) := by decide +kernel
theorem dX11_learn_333 : decode cX11_learn 333 = .ok (.iload 7, 2) := by decide +kernel
theorem dX11_learn_335 : decode cX11_learn 335 = .ok (.iaload, 1) := by decide +kernel
theorem dX11_learn_336 : decode cX11_learn 336 = .ok (.iconst 1, 1) := by decide +kernel
theorem dX11_learn_337 : decode cX11_learn 337 = .ok (.iadd, 1) := by decide +kernel
theorem dX11_learn_338 : decode cX11_learn 338 = .ok (.goto 5, 3) := by decide +kernel
theorem dX11_learn_341 : decode cX11_learn 341 = .ok (.bipush 30, 2) := by decide +kernel
theorem dX11_learn_343 : decode cX11_learn 343 = .ok (.iastore, 1) := by decide +kernel
theorem dX11_learn_344 : decode cX11_learn 344 = .ok (.iinc 6 1, 3) := by decide +kernel
theorem dX11_learn_347 : decode cX11_learn 347 = .ok (.goto (-124), 3) := by decide +kernel
theorem dX11_learn_350 : decode cX11_learn 350 = .ok (.aload_n 0, 1) := by decide +kernel
theorem dX11_learn_351 : decode cX11_learn 351 = .ok (.getfield 29, 3) := by decide +kernel
theorem dX11_learn_354 : decode cX11_learn 354 = .ok (.iload_n 1, 1) := by decide +kernel
theorem dX11_learn_355 : decode cX11_learn 355 = .ok (.iconst 2, 1) := by decide +kernel
theorem dX11_learn_356 : decode cX11_learn 356 = .ok (.aload_n 0, 1) := by decide +kernel
theorem dX11_learn_357 : decode cX11_learn 357 = .ok (.getfield 29, 3) := by decide +kernel
theorem dX11_learn_360 : decode cX11_learn 360 = .ok (.iload_n 1, 1) := by decide +kernel
theorem dX11_learn_361 : decode cX11_learn 361 = .ok (.iaload, 1) := by decide +kernel
theorem dX11_learn_362 : decode cX11_learn 362 = .ok (.imul, 1) := by decide +kernel
theorem dX11_learn_363 : decode cX11_learn 363 = .ok (.iload_n 2, 1) := by decide +kernel
theorem dX11_learn_364 : decode cX11_learn 364 = .ok (.iadd, 1) := by decide +kernel
theorem dX11_learn_365 : decode cX11_learn 365 = .ok (.iastore, 1) := by decide +kernel
theorem dX11_learn_366 : decode cX11_learn 366 = .ok (.aload_n 0, 1) := by decide +kernel
theorem dX11_learn_367 : decode cX11_learn 367 = .ok (.getfield 29, 3) := by decide +kernel
theorem dX11_learn_370 : decode cX11_learn 370 = .ok (.iload_n 1, 1) := by decide +kernel
theorem dX11_learn_371 : decode cX11_learn 371 = .ok (.iaload, 1) := by decide +kernel
theorem dX11_learn_372 : decode cX11_learn 372 = .ok (.sipush 255, 3) := by decide +kernel
theorem dX11_learn_375 : decode cX11_learn 375 = .ok (.if_icmp .le 53, 3) := by decide +kernel
theorem dX11_learn_378 : decode cX11_learn 378 = .ok (.aload_n 0, 1) := by decide +kernel
theorem dX11_learn_379 : decode cX11_learn 379 = .ok (.getfield 23, 3) := by decide +kernel
theorem dX11_learn_382 : decode cX11_learn 382 = .ok (.sipush 2050, 3) := by decide +kernel
theorem dX11_learn_385 : decode cX11_learn 385 = .ok (.iload_n 1, 1) := by decide +kernel
theorem dX11_learn_386 : decode cX11_learn 386 = .ok (.imul, 1) := by decide +kernel
theorem dX11_learn_387 : decode cX11_learn 387 = .ok (.aload_n 0, 1) := by decide +kernel
theorem dX11_learn_388 : decode cX11_learn 388 = .ok (.getfield 26, 3) := by decide +kernel
theorem dX11_learn_391 : decode cX11_learn 391 = .ok (.iload_n 1, 1) := by decide +kernel
theorem dX11_learn_392 : decode cX11_learn 392 = .ok (.iaload, 1) := by decide +kernel
theorem dX11_learn_393 : decode cX11_learn 393 = .ok (.iadd, 1) := by decide +kernel
theorem dX11_learn_394 : decode cX11_learn 394 = .ok (.aload_n 0, 1) := by decide +kernel
theorem dX11_learn_395 : decode cX11_learn 395 = .ok (.getfield 29, 3) := by decide +kernel
theorem dX11_learn_398 : decode cX11_learn 398 = .ok (.iload_n 1, 1) := by decide +kernel
theorem dX11_learn_399 : decode cX11_learn 399 = .ok (.iaload, 1) := by decide +kernel
theorem dX11_learn_400 : decode cX11_learn 400 = .ok (.sipush 255, 3) := by decide +kernel
theorem dX11_learn_403 : decode cX11_learn 403 = .ok (.iand, 1) := by decide +kernel
theorem dX11_learn_404 : decode cX11_learn 404 = .ok (.iastore, 1) := by decide +kernel
theorem dX11_learn_405 : decode cX11_learn 405 = .ok (.aload_n 0, 1) := by decide +kernel
theorem dX11_learn_406 : decode cX11_learn 406 = .ok (.getfield 26, 3) := by decide +kernel
theorem dX11_learn_409 : decode cX11_learn 409 = .ok (.iload_n 1, 1) := by decide +kernel
theorem dX11_learn_410 : decode cX11_learn 410 = .ok (.dup2, 1) := by decide +kernel
theorem dX11_learn_411 : decode cX11_learn 411 = .ok (.iaload, 1) := by decide +kernel
theorem dX11_learn_412 : decode cX11_learn 412 = .ok (.iconst 1, 1) := by decide +kernel
theorem dX11_learn_413 : decode cX11_learn 413 = .ok (.iadd, 1) := by decide +kernel
theorem dX11_learn_414 : decode cX11_learn 414 = .ok (.iastore, 1) := by decide +kernel
theorem dX11_learn_415 : decode cX11_learn 415 = .ok (.aload_n 0, 1) := by decide +kernel
theorem dX11_learn_416 : decode cX11_learn 416 = .ok (.getfield 29, 3) := by decide +kernel
theorem dX11_learn_419 : decode cX11_learn 419 = .ok (.iload_n 1, 1) := by decide +kernel
theorem dX11_learn_420 : decode cX11_learn 420 = .ok (.iconst 1, 1) := by decide +kernel
theorem dX11_learn_421 : decode cX11_learn 421 = .ok (.iastore, 1) := by decide +kernel
theorem dX11_learn_422 : decode cX11_learn 422 = .ok (.aload_n 0, 1) := by decide +kernel
theorem dX11_learn_423 : decode cX11_learn 423 = .ok (.iload_n 1, 1) := by decide +kernel
theorem dX11_learn_424 : decode cX11_learn 424 = .ok (.iconst 1, 1) := by decide +kernel
theorem dX11_learn_425 : decode cX11_learn 425 = .ok (.invokevirtual 96, 3) := by decide +kernel
theorem dX11_learn_428 : decode cX11_learn 428 = .ok (.return_, 1) := by decide +kernel
theorem dX11_predictor_0 : decode cX11_predictor 0 = .ok (.aload_n 0, 1) := by decide +kernel
theorem dX11_predictor_1 : decode cX11_predictor 1 = .ok (.iconst 0, 1) := by decide +kernel
theorem dX11_predictor_2 : decode cX11_predictor 2 = .ok (.putfield 77, 3) := by decide +kernel
theorem dX11_predictor_5 : decode cX11_predictor 5 = .ok (.iload_n 1, 1) := by decide +kernel
theorem dX11_predictor_6 : decode cX11_predictor 6 = .ok (.ifCond .ne 21, 3) := by decide +kernel
theorem dX11_predictor_9 : decode cX11_predictor 9 = .ok (.iload_n 2, 1) := by decide +kernel
theorem dX11_predictor_10 : decode cX11_predictor 10 = .ok (.ifCond .lt 13, 3) := by decide +kernel
theorem dX11_predictor_13 : decode cX11_predictor 13 = .ok (.iload_n 2, 1) := by decide +kernel
theorem dX11_predictor_14 : decode cX11_predictor 14 = .ok (.bipush 6, 2) := by decide +kernel
theorem dX11_predictor_16 : decode cX11_predictor 16 = .ok (.if_icmp .gt 7, 3) := by decide +kernel
theorem dX11_predictor_19 : decode cX11_predictor 19 = .ok (.iconst 1, 1) := by decide +kernel
theorem dX11_predictor_20 : decode cX11_predictor 20 = .ok (.goto 85, 3) := by decide +kernel
theorem dX11_predictor_23 : decode cX11_predictor 23 = .ok (.iconst 0, 1) := by decide +kernel
theorem dX11_predictor_24 : decode cX11_predictor 24 = .ok (.goto 81, 3) := by decide +kernel
theorem dX11_predictor_27 : decode cX11_predictor 27 = .ok (.iload_n 1, 1) := by decide +kernel
theorem dX11_predictor_28 : decode cX11_predictor 28 = .ok (.iconst 1, 1) := by decide +kernel
theorem dX11_predictor_29 : decode cX11_predictor 29 = .ok (.if_icmp .ne 7, 3) := by decide +kernel
theorem dX11_predictor_32 : decode cX11_predictor 32 = .ok (.iconst 1, 1) := by decide +kernel
theorem dX11_predictor_33 : decode cX11_predictor 33 = .ok (.goto 72, 3) := by decide +kernel
theorem dX11_predictor_36 : decode cX11_predictor 36 = .ok (.iload_n 1, 1) := by decide +kernel
theorem dX11_predictor_37 : decode cX11_predictor 37 = .ok (.iconst 2, 1) := by decide +kernel
theorem dX11_predictor_38 : decode cX11_predictor 38 = .ok (.if_icmp .ne 22, 3) := by decide +kernel
theorem dX11_predictor_41 : decode cX11_predictor 41 = .ok (.iload_n 2, 1) := by decide +kernel
theorem dX11_predictor_42 : decode cX11_predictor 42 = .ok (.iconst 1, 1) := by decide +kernel
theorem dX11_predictor_43 : decode cX11_predictor 43 = .ok (.if_icmp .lt 13, 3) := by decide +kernel
theorem dX11_predictor_46 : decode cX11_predictor 46 = .ok (.iload_n 2, 1) := by decide +kernel
theorem dX11_predictor_47 : decode cX11_predictor 47 = .ok (.bipush 64, 2) := by decide +kernel
theorem dX11_predictor_49 : decode cX11_predictor 49 = .ok (.if_icmp .gt 7, 3) := by decide +kernel
theorem dX11_predictor_52 : decode cX11_predictor 52 = .ok (.iconst 1, 1) := by decide +kernel
theorem dX11_predictor_53 : decode cX11_predictor 53 = .ok (.goto 52, 3) := by decide +kernel
theorem dX11_predictor_56 : decode cX11_predictor 56 = .ok (.iconst 0, 1) := by decide +kernel
theorem dX11_predictor_57 : decode cX11_predictor 57 = .ok (.goto 48, 3) := by decide +kernel
theorem dX11_predictor_60 : decode cX11_predictor 60 = .ok (.iload_n 1, 1) := by decide +kernel
theorem dX11_predictor_61 : decode cX11_predictor 61 = .ok (.iconst 3, 1) := by decide +kernel
theorem dX11_predictor_62 : decode cX11_predictor 62 = .ok (.if_icmp .ne 22, 3) := by decide +kernel
theorem dX11_predictor_65 : decode cX11_predictor 65 = .ok (.iload_n 2, 1) := by decide +kernel
theorem dX11_predictor_66 : decode cX11_predictor 66 = .ok (.iconst 1, 1) := by decide +kernel
theorem dX11_predictor_67 : decode cX11_predictor 67 = .ok (.if_icmp .lt 13, 3) := by decide +kernel
theorem dX11_predictor_70 : decode cX11_predictor 70 = .ok (.iload_n 2, 1) := by decide +kernel
theorem dX11_predictor_71 : decode cX11_predictor 71 = .ok (.bipush 15, 2) := by decide +kernel
theorem dX11_predictor_73 : decode cX11_predictor 73 = .ok (.if_icmp .gt 7, 3) := by decide +kernel
theorem dX11_predictor_76 : decode cX11_predictor 76 = .ok (.iconst 1, 1) := by decide +kernel
theorem dX11_predictor_77 : decode cX11_predictor 77 = .ok (.goto 28, 3) := by decide +kernel
theorem dX11_predictor_80 : decode cX11_predictor 80 = .ok (.iconst 0, 1) := by decide +kernel
theorem dX11_predictor_81 : decode cX11_predictor 81 = .ok (.goto 24, 3) := by decide +kernel
theorem dX11_predictor_84 : decode cX11_predictor 84 = .ok (.iload_n 1, 1) := by decide +kernel
theorem dX11_predictor_85 : decode cX11_predictor 85 = .ok (.iconst 4, 1) := by decide +kernel
theorem dX11_predictor_86 : decode cX11_predictor 86 = .ok (.if_icmp .ne 18, 3) := by decide +kernel
theorem dX11_predictor_89 : decode cX11_predictor 89 = .ok (.iload_n 2, 1) := by decide +kernel
theorem dX11_predictor_90 : decode cX11_predictor 90 = .ok (.iconst 3, 1) := by decide +kernel
theorem dX11_predictor_91 : decode cX11_predictor 91 = .ok (.if_icmp .lt 13, 3) := by decide +kernel
theorem dX11_predictor_94 : decode cX11_predictor 94 = .ok (.iload_n 2, 1) := by decide +kernel
theorem dX11_predictor_95 : decode cX11_predictor 95 = .ok (.bipush 8, 2) := by decide +kernel
theorem dX11_predictor_97 : decode cX11_predictor 97 = .ok (.if_icmp .gt 7, 3) := by decide +kernel
theorem dX11_predictor_100 : decode cX11_predictor 100 = .ok (.iconst 1, 1) := by decide +kernel
theorem dX11_predictor_101 : decode cX11_predictor 101 = .ok (.goto 4, 3) := by decide +kernel
theorem dX11_predictor_104 : decode cX11_predictor 104 = .ok (.iconst 0, 1) := by decide +kernel
theorem dX11_predictor_105 : decode cX11_predictor 105 = .ok (.istore_n 3, 1) := by decide +kernel
theorem dX11_predictor_106 : decode cX11_predictor 106 = .ok (.iload_n 3, 1) := by decide +kernel
theorem dX11_predictor_107 : decode cX11_predictor 107 = .ok (.ifCond .ne 5, 3) := by decide +kernel
theorem dX11_predictor_110 : decode cX11_predictor 110 = .ok (.iconst (-1), 1) := by decide +kernel
theorem dX11_predictor_111 : decode cX11_predictor 111 = .ok (.ireturn, 1) := by decide +kernel
theorem dX11_predictor_112 : decode cX11_predictor 112 = .ok (.aload_n 0, 1) := by decide +kernel
theorem dX11_predictor_113 : decode cX11_predictor 113 = .ok (.invokevirtual 177, 3) := by decide +kernel
theorem dX11_predictor_116 : decode cX11_predictor 116 = .ok (.ifCond .eq 6, 3) := by decide +kernel
theorem dX11_predictor_119 : decode cX11_predictor 119 = .ok (.bipush (-4), 2) := by decide +kernel
theorem dX11_predictor_121 : decode cX11_predictor 121 = .ok (.ireturn, 1) := by decide +kernel
theorem dX11_predictor_122 : decode cX11_predictor 122 = .ok (.aload_n 0, 1) := by decide +kernel
theorem dX11_predictor_123 : decode cX11_predictor 123 = .ok (.getfield 91, 3) := by decide +kernel
theorem dX11_predictor_126 : decode cX11_predictor 126 = .ok (.bipush 8, 2) := by decide +kernel
theorem dX11_predictor_128 : decode cX11_predictor 128 = .ok (.if_icmp .ne 6, 3) := by decide +kernel
theorem dX11_predictor_131 : decode cX11_predictor 131 = .ok (.bipush (-3), 2) := by decide +kernel
theorem dX11_predictor_133 : decode cX11_predictor 133 = .ok (.ireturn, 1) := by decide +kernel
theorem dX11_predictor_134 : decode cX11_predictor 134 = .ok (.aload_n 0, 1) := by decide +kernel
theorem dX11_predictor_135 : decode cX11_predictor 135 = .ok (.getfield 13, 3) := by decide +kernel
theorem dX11_predictor_138 : decode cX11_predictor 138 = .ok (.aload_n 0, 1) := by decide +kernel
theorem dX11_predictor_139 : decode cX11_predictor 139 = .ok (.getfield 91, 3) := by decide +kernel
theorem dX11_predictor_142 : decode cX11_predictor 142 = .ok (.iload_n 1, 1) := by decide +kernel
theorem dX11_predictor_143 : decode cX11_predictor 143 = .ok (.iastore, 1) := by decide +kernel
theorem dX11_predictor_144 : decode cX11_predictor 144 = .ok (.aload_n 0, 1) := by decide +kernel
theorem dX11_predictor_145 : decode cX11_predictor 145 = .ok (.getfield 16, 3) := by decide +kernel
theorem dX11_predictor_148 : decode cX11_predictor 148 = .ok (.aload_n 0, 1) := by decide +kernel
theorem dX11_predictor_149 : decode cX11_predictor 149 = .ok (.getfield 91, 3) := by decide +kernel
theorem dX11_predictor_152 : decode cX11_predictor 152 = .ok (.iload_n 2, 1) := by decide +kernel
theorem dX11_predictor_153 : decode cX11_predictor 153 = .ok (.iastore, 1) := by decide +kernel
theorem dX11_predictor_154 : decode cX11_predictor 154 = .ok (.aload_n 0, 1) := by decide +kernel
theorem dX11_predictor_155 : decode cX11_predictor 155 = .ok (.getfield 19, 3) := by decide +kernel
theorem dX11_predictor_158 : decode cX11_predictor 158 = .ok (.aload_n 0, 1) := by decide +kernel
theorem dX11_predictor_159 : decode cX11_predictor 159 = .ok (.getfield 91, 3) := by decide +kernel
theorem dX11_predictor_162 : decode cX11_predictor 162 = .ok (.iconst 0, 1) := by decide +kernel
theorem dX11_predictor_163 : decode cX11_predictor 163 = .ok (.bastore, 1) := by decide +kernel
theorem dX11_predictor_164 : decode cX11_predictor 164 = .ok (.aload_n 0, 1) := by decide +kernel
theorem dX11_predictor_165 : decode cX11_predictor 165 = .ok (.dup, 1) := by decide +kernel
theorem dX11_predictor_166 : decode cX11_predictor 166 = .ok (.getfield 91, 3) := by decide +kernel
theorem dX11_predictor_169 : decode cX11_predictor 169 = .ok (.iconst 1, 1) := by decide +kernel
theorem dX11_predictor_170 : decode cX11_predictor 170 = .ok (.iadd, 1) := by decide +kernel
theorem dX11_predictor_171 : decode cX11_predictor 171 = .ok (.putfield 91, 3) := by decide +kernel
theorem dX11_predictor_174 : decode cX11_predictor 174 = .ok (.aload_n 0, 1) := by decide +kernel
theorem dX11_predictor_175 : decode cX11_predictor 175 = .ok (.invokevirtual 74, 3) := by decide +kernel
theorem dX11_predictor_178 : decode cX11_predictor 178 = .ok (.aload_n 0, 1) := by decide +kernel
theorem dX11_predictor_179 : decode cX11_predictor 179 = .ok (.getfield 91, 3) := by decide +kernel
theorem dX11_predictor_182 : decode cX11_predictor 182 = .ok (.iconst 1, 1) := by decide +kernel
theorem dX11_predictor_183 : decode cX11_predictor 183 = .ok (.isub, 1) := by decide +kernel
theorem dX11_predictor_184 : decode cX11_predictor 184 = .ok (.ireturn, 1) := by decide +kernel
theorem dX11_hasWritten_0 : decode cX11_hasWritten 0 = .ok (.aload_n 0, 1) := by decide +kernel
theorem dX11_hasWritten_1 : decode cX11_hasWritten 1 = .ok (.getfield 26, 3) := by decide +kernel
theorem dX11_hasWritten_4 : decode cX11_hasWritten 4 = .ok (.iconst 0, 1) := by decide +kernel
theorem dX11_hasWritten_5 : decode cX11_hasWritten 5 = .ok (.iaload, 1) := by decide +kernel
theorem dX11_hasWritten_6 : decode cX11_hasWritten 6 = .ok (.ifCond .gt 17, 3) := by decide +kernel
theorem dX11_hasWritten_9 : decode cX11_hasWritten 9 = .ok (.aload_n 0, 1) := by decide +kernel
theorem dX11_hasWritten_10 : decode cX11_hasWritten 10 = .ok (.getfield 107, 3) := by decide +kernel
theorem dX11_hasWritten_13 : decode cX11_hasWritten 13 = .ok (.ifCond .gt 10, 3) := by decide +kernel
theorem dX11_hasWritten_16 : decode cX11_hasWritten 16 = .ok (.aload_n 0, 1) := by decide +kernel
theorem dX11_hasWritten_17 : decode cX11_hasWritten 17 = .ok (.getfield 110, 3) := by decide +kernel
theorem dX11_hasWritten_20 : decode cX11_hasWritten 20 = .ok (.ifCond .eq 7, 3) := by decide +kernel
theorem dX11_hasWritten_23 : decode cX11_hasWritten 23 = .ok (.iconst 1, 1) := by decide +kernel
theorem dX11_hasWritten_24 : decode cX11_hasWritten 24 = .ok (.goto 4, 3) := by decide +kernel
theorem dX11_hasWritten_27 : decode cX11_hasWritten 27 = .ok (.iconst 0, 1) := by decide +kernel
theorem dX11_hasWritten_28 : decode cX11_hasWritten 28 = .ok (.ireturn, 1) := by decide +kernel
theorem dX11_off_0 : decode cX11_off 0 = .ok (.aload_n 0, 1) := by decide +kernel
theorem dX11_off_1 : decode cX11_off 1 = .ok (.iconst 0, 1) := by decide +kernel
theorem dX11_off_2 : decode cX11_off 2 = .ok (.putfield 77, 3) := by decide +kernel
theorem dX11_off_5 : decode cX11_off 5 = .ok (.iload_n 1, 1) := by decide +kernel
theorem dX11_off_6 : decode cX11_off 6 = .ok (.ifCond .lt 11, 3) := by decide +kernel
theorem dX11_off_9 : decode cX11_off 9 = .ok (.iload_n 1, 1) := by decide +kernel
theorem dX11_off_10 : decode cX11_off 10 = .ok (.aload_n 0, 1) := by decide +kernel
theorem dX11_off_11 : decode cX11_off 11 = .ok (.getfield 91, 3) := by decide +kernel
theorem dX11_off_14 : decode cX11_off 14 = .ok (.if_icmp .lt 5, 3) := by decide +kernel
theorem dX11_off_17 : decode cX11_off 17 = .ok (.iconst (-1), 1) := by decide +kernel
theorem dX11_off_18 : decode cX11_off 18 = .ok (.ireturn, 1) := by decide +kernel
theorem dX11_off_19 : decode cX11_off 19 = .ok (.aload_n 0, 1) := by decide +kernel
theorem dX11_off_20 : decode cX11_off 20 = .ok (.invokevirtual 177, 3) := by decide +kernel
theorem dX11_off_23 : decode cX11_off 23 = .ok (.ifCond .eq 6, 3) := by decide +kernel
theorem dX11_off_26 : decode cX11_off 26 = .ok (.bipush (-4), 2) := by decide +kernel
theorem dX11_off_28 : decode cX11_off 28 = .ok (.ireturn, 1) := by decide +kernel
theorem dX11_off_29 : decode cX11_off 29 = .ok (.aload_n 0, 1) := by decide +kernel
theorem dX11_off_30 : decode cX11_off 30 = .ok (.getfield 19, 3) := by decide +kernel
theorem dX11_off_33 : decode cX11_off 33 = .ok (.iload_n 1, 1) := by decide +kernel
theorem dX11_off_34 : decode cX11_off 34 = .ok (.baload, 1) := by decide +kernel
theorem dX11_off_35 : decode cX11_off 35 = .ok (.ifCond .eq 7, 3) := by decide +kernel
theorem dX11_off_38 : decode cX11_off 38 = .ok (.iconst 0, 1) := by decide +kernel
theorem dX11_off_39 : decode cX11_off 39 = .ok (.goto 4, 3) := by decide +kernel
theorem dX11_off_42 : decode cX11_off 42 = .ok (.iconst 1, 1) := by decide +kernel
theorem dX11_off_43 : decode cX11_off 43 = .ok (.istore_n 2, 1) := by decide +kernel
theorem dX11_off_44 : decode cX11_off 44 = .ok (.aload_n 0, 1) := by decide +kernel
theorem dX11_off_45 : decode cX11_off 45 = .ok (.getfield 19, 3) := by decide +kernel
theorem dX11_off_48 : decode cX11_off 48 = .ok (.iload_n 1, 1) := by decide +kernel
theorem dX11_off_49 : decode cX11_off 49 = .ok (.iconst 1, 1) := by decide +kernel
theorem dX11_off_50 : decode cX11_off 50 = .ok (.bastore, 1) := by decide +kernel
theorem dX11_off_51 : decode cX11_off 51 = .ok (.iload_n 2, 1) := by decide +kernel
theorem dX11_off_52 : decode cX11_off 52 = .ok (.ireturn, 1) := by decide +kernel
theorem dX11_writeBit_0 : decode cX11_writeBit 0 = .ok (.aload_n 0, 1) := by decide +kernel
theorem dX11_writeBit_1 : decode cX11_writeBit 1 = .ok (.iconst 0, 1) := by decide +kernel
theorem dX11_writeBit_2 : decode cX11_writeBit 2 = .ok (.invokevirtual 181, 3) := by decide +kernel
theorem dX11_writeBit_5 : decode cX11_writeBit 5 = .ok (.aload_n 0, 1) := by decide +kernel
theorem dX11_writeBit_6 : decode cX11_writeBit 6 = .ok (.getfield 53, 3) := by decide +kernel
theorem dX11_writeBit_9 : decode cX11_writeBit 9 = .ok (.iconst 0, 1) := by decide +kernel
theorem dX11_writeBit_10 : decode cX11_writeBit 10 = .ok (.laload, 1) := by decide +kernel
theorem dX11_writeBit_11 : decode cX11_writeBit 11 = .ok (.aload_n 0, 1) := by decide +kernel
theorem dX11_writeBit_12 : decode cX11_writeBit 12 = .ok (.getfield 57, 3) := by decide +kernel
theorem dX11_writeBit_15 : decode cX11_writeBit 15 = .ok (.iconst 0, 1) := by decide +kernel
theorem dX11_writeBit_16 : decode cX11_writeBit 16 = .ok (.laload, 1) := by decide +kernel
theorem dX11_writeBit_17 : decode cX11_writeBit 17 = .ok (.aload_n 0, 1) := by decide +kernel
theorem dX11_writeBit_18 : decode cX11_writeBit 18 = .ok (.getfield 53, 3) := by decide +kernel
theorem dX11_writeBit_21 : decode cX11_writeBit 21 = .ok (.iconst 0, 1) := by decide +kernel
theorem dX11_writeBit_22 : decode cX11_writeBit 22 = .ok (.laload, 1) := by decide +kernel
theorem dX11_writeBit_23 : decode cX11_writeBit 23 = .ok (.lsub, 1) := by decide +kernel
theorem dX11_writeBit_24 : decode cX11_writeBit 24 = .ok (.ldc2_w 184, 3) := by decide +kernel
theorem dX11_writeBit_27 : decode cX11_writeBit 27 = .ok (.ldiv, 1) := by decide +kernel
theorem dX11_writeBit_28 : decode cX11_writeBit 28 = .ok (.aload_n 0, 1) := by decide +kernel
theorem dX11_writeBit_29 : decode cX11_writeBit 29 = .ok (.getfield 170, 3) := by decide +kernel
theorem dX11_writeBit_32 : decode cX11_writeBit 32 = .ok (.i2l, 1) := by decide +kernel
theorem dX11_writeBit_33 : decode cX11_writeBit 33 = .ok (.lmul, 1) := by decide +kernel
theorem dX11_writeBit_34 : decode cX11_writeBit 34 = .ok (.ladd, 1) := by decide +kernel
theorem dX11_writeBit_35 : decode cX11_writeBit 35 = .ok (.lstore_n 2, 1) := by decide +kernel
theorem dX11_writeBit_36 : decode cX11_writeBit 36 = .ok (.iload_n 1, 1) := by decide +kernel
theorem dX11_writeBit_37 : decode cX11_writeBit 37 = .ok (.iconst 1, 1) := by decide +kernel
theorem dX11_writeBit_38 : decode cX11_writeBit 38 = .ok (.if_icmp .ne 13, 3) := by decide +kernel
theorem dX11_writeBit_41 : decode cX11_writeBit 41 = .ok (.aload_n 0, 1) := by decide +kernel
theorem dX11_writeBit_42 : decode cX11_writeBit 42 = .ok (.getfield 57, 3) := by decide +kernel
theorem dX11_writeBit_45 : decode cX11_writeBit 45 = .ok (.iconst 0, 1) := by decide +kernel
theorem dX11_writeBit_46 : decode cX11_writeBit 46 = .ok (.lload_n 2, 1) := by decide +kernel
theorem dX11_writeBit_47 : decode cX11_writeBit 47 = .ok (.lastore, 1) := by decide +kernel
theorem dX11_writeBit_48 : decode cX11_writeBit 48 = .ok (.goto 12, 3) := by decide +kernel
theorem dX11_writeBit_51 : decode cX11_writeBit 51 = .ok (.aload_n 0, 1) := by decide +kernel
theorem dX11_writeBit_52 : decode cX11_writeBit 52 = .ok (.getfield 53, 3) := by decide +kernel
theorem dX11_writeBit_55 : decode cX11_writeBit 55 = .ok (.iconst 0, 1) := by decide +kernel
theorem dX11_writeBit_56 : decode cX11_writeBit 56 = .ok (.lload_n 2, 1) := by decide +kernel
theorem dX11_writeBit_57 : decode cX11_writeBit 57 = .ok (.lconst 1, 1) := by decide +kernel
theorem dX11_writeBit_58 : decode cX11_writeBit 58 = .ok (.ladd, 1) := by decide +kernel
theorem dX11_writeBit_59 : decode cX11_writeBit 59 = .ok (.lastore, 1) := by decide +kernel
theorem dX11_writeBit_60 : decode cX11_writeBit 60 = .ok (.aload_n 0, 1) := by decide +kernel
theorem dX11_writeBit_61 : decode cX11_writeBit 61 = .ok (.getfield 53, 3) := by decide +kernel
theorem dX11_writeBit_64 : decode cX11_writeBit 64 = .ok (.iconst 0, 1) := by decide +kernel
theorem dX11_writeBit_65 : decode cX11_writeBit 65 = .ok (.laload, 1) := by decide +kernel
theorem dX11_writeBit_66 : decode cX11_writeBit 66 = .ok (.bipush 24, 2) := by decide +kernel
theorem dX11_writeBit_68 : decode cX11_writeBit 68 = .ok (.lshr, 1) := by decide +kernel
theorem dX11_writeBit_69 : decode cX11_writeBit 69 = .ok (.aload_n 0, 1) := by decide +kernel
theorem dX11_writeBit_70 : decode cX11_writeBit 70 = .ok (.getfield 57, 3) := by decide +kernel
theorem dX11_writeBit_73 : decode cX11_writeBit 73 = .ok (.iconst 0, 1) := by decide +kernel
theorem dX11_writeBit_74 : decode cX11_writeBit 74 = .ok (.laload, 1) := by decide +kernel
theorem dX11_writeBit_75 : decode cX11_writeBit 75 = .ok (.bipush 24, 2) := by decide +kernel
theorem dX11_writeBit_77 : decode cX11_writeBit 77 = .ok (.lshr, 1) := by decide +kernel
theorem dX11_writeBit_78 : decode cX11_writeBit 78 = .ok (.lcmp, 1) := by decide +kernel
theorem dX11_writeBit_79 : decode cX11_writeBit 79 = .ok (.ifCond .ne 77, 3) := by decide +kernel
theorem dX11_writeBit_82 : decode cX11_writeBit 82 = .ok (.aload_n 0, 1) := by decide +kernel
theorem dX11_writeBit_83 : decode cX11_writeBit 83 = .ok (.getfield 60, 3) := by decide +kernel
theorem dX11_writeBit_86 : decode cX11_writeBit 86 = .ok (.aload_n 0, 1) := by decide +kernel
theorem dX11_writeBit_87 : decode cX11_writeBit 87 = .ok (.getfield 104, 3) := by decide +kernel
theorem dX11_writeBit_90 : decode cX11_writeBit 90 = .ok (.aload_n 0, 1) := by decide +kernel
theorem dX11_writeBit_91 : decode cX11_writeBit 91 = .ok (.getfield 57, 3) := by decide +kernel
theorem dX11_writeBit_94 : decode cX11_writeBit 94 = .ok (.iconst 0, 1) := by decide +kernel
theorem dX11_writeBit_95 : decode cX11_writeBit 95 = .ok (.laload, 1) := by decide +kernel
theorem dX11_writeBit_96 : decode cX11_writeBit 96 = .ok (.bipush 24, 2) := by decide +kernel
theorem dX11_writeBit_98 : decode cX11_writeBit 98 = .ok (.lshr, 1) := by decide +kernel
theorem dX11_writeBit_99 : decode cX11_writeBit 99 = .ok (.l2i, 1) := by decide +kernel
theorem dX11_writeBit_100 : decode cX11_writeBit 100 = .ok (.iastore, 1) := by decide +kernel
theorem dX11_writeBit_101 : decode cX11_writeBit 101 = .ok (.aload_n 0, 1) := by decide +kernel
theorem dX11_writeBit_102 : decode cX11_writeBit 102 = .ok (.dup, 1) := by decide +kernel
theorem dX11_writeBit_103 : decode cX11_writeBit 103 = .ok (.getfield 104, 3) := by decide +kernel
theorem dX11_writeBit_106 : decode cX11_writeBit 106 = .ok (.iconst 1, 1) := by decide +kernel
theorem dX11_writeBit_107 : decode cX11_writeBit 107 = .ok (.iadd, 1) := by decide +kernel
theorem dX11_writeBit_108 : decode cX11_writeBit 108 = .ok (.putfield 104, 3) := by decide +kernel
theorem dX11_writeBit_111 : decode cX11_writeBit 111 = .ok (.aload_n 0, 1) := by decide +kernel
theorem dX11_writeBit_112 : decode cX11_writeBit 112 = .ok (.getfield 53, 3) := by decide +kernel
theorem dX11_writeBit_115 : decode cX11_writeBit 115 = .ok (.iconst 0, 1) := by decide +kernel
theorem dX11_writeBit_116 : decode cX11_writeBit 116 = .ok (.aload_n 0, 1) := by decide +kernel
theorem dX11_writeBit_117 : decode cX11_writeBit 117 = .ok (.getfield 53, 3) := by decide +kernel
theorem dX11_writeBit_120 : decode cX11_writeBit 120 = .ok (.iconst 0, 1) := by decide +kernel
theorem dX11_writeBit_121 : decode cX11_writeBit 121 = .ok (.laload, 1) := by decide +kernel
theorem dX11_writeBit_122 : decode cX11_writeBit 122 = .ok (.bipush 8, 2) := by decide +kernel
theorem dX11_writeBit_124 : decode cX11_writeBit 124 = .ok (.lshl, 1) := by decide +kernel
theorem dX11_writeBit_125 : decode cX11_writeBit 125 = .ok (.ldc2_w 94, 3) := by decide +kernel
theorem dX11_writeBit_128 : decode cX11_writeBit 128 = .ok (.land, 1) := by decide +kernel
theorem dX11_writeBit_129 : decode cX11_writeBit 129 = .ok (.lastore, 1) := by decide +kernel
theorem dX11_writeBit_130 : decode cX11_writeBit 130 = .ok (.aload_n 0, 1) := by decide +kernel
theorem dX11_writeBit_131 : decode cX11_writeBit 131 = .ok (.getfield 57, 3) := by decide +kernel
theorem dX11_writeBit_134 : decode cX11_writeBit 134 = .ok (.iconst 0, 1) := by decide +kernel
theorem dX11_writeBit_135 : decode cX11_writeBit 135 = .ok (.aload_n 0, 1) := by decide +kernel
theorem dX11_writeBit_136 : decode cX11_writeBit 136 = .ok (.getfield 57, 3) := by decide +kernel
theorem dX11_writeBit_139 : decode cX11_writeBit 139 = .ok (.iconst 0, 1) := by decide +kernel
theorem dX11_writeBit_140 : decode cX11_writeBit 140 = .ok (.laload, 1) := by decide +kernel
theorem dX11_writeBit_141 : decode cX11_writeBit 141 = .ok (.bipush 8, 2) := by decide +kernel
theorem dX11_writeBit_143 : decode cX11_writeBit 143 = .ok (.lshl, 1) := by decide +kernel
theorem dX11_writeBit_144 : decode cX11_writeBit 144 = .ok (.ldc2_w 94, 3) := by decide +kernel
theorem dX11_writeBit_147 : decode cX11_writeBit 147 = .ok (.land, 1) := by decide +kernel
theorem dX11_writeBit_148 : decode cX11_writeBit 148 = .ok (.ldc2_w 186, 3) := by decide +kernel
theorem dX11_writeBit_151 : decode cX11_writeBit 151 = .ok (.lor, 1) := by decide +kernel
theorem dX11_writeBit_152 : decode cX11_writeBit 152 = .ok (.lastore, 1) := by decide +kernel
theorem dX11_writeBit_153 : decode cX11_writeBit 153 = .ok (.goto (-93), 3) := by decide +kernel
theorem dX11_writeBit_156 : decode cX11_writeBit 156 = .ok (.aload_n 0, 1) := by decide +kernel
theorem dX11_writeBit_157 : decode cX11_writeBit 157 = .ok (.iconst 0, 1) := by decide +kernel
theorem dX11_writeBit_158 : decode cX11_writeBit 158 = .ok (.iload_n 1, 1) := by decide +kernel
theorem dX11_writeBit_159 : decode cX11_writeBit 159 = .ok (.invokevirtual 188, 3) := by decide +kernel
theorem dX11_writeBit_162 : decode cX11_writeBit 162 = .ok (.aload_n 0, 1) := by decide +kernel
theorem dX11_writeBit_163 : decode cX11_writeBit 163 = .ok (.aload_n 0, 1) := by decide +kernel
theorem dX11_writeBit_164 : decode cX11_writeBit 164 = .ok (.getfield 107, 3) := by decide +kernel
theorem dX11_writeBit_167 : decode cX11_writeBit 167 = .ok (.iconst 1, 1) := by decide +kernel
theorem dX11_writeBit_168 : decode cX11_writeBit 168 = .ok (.iadd, 1) := by decide +kernel
theorem dX11_writeBit_169 : decode cX11_writeBit 169 = .ok (.bipush 8, 2) := by decide +kernel
theorem dX11_writeBit_171 : decode cX11_writeBit 171 = .ok (.irem, 1) := by decide +kernel
theorem dX11_writeBit_172 : decode cX11_writeBit 172 = .ok (.putfield 107, 3) := by decide +kernel
theorem dX11_writeBit_175 : decode cX11_writeBit 175 = .ok (.return_, 1) := by decide +kernel
theorem dX11_isFull_0 : decode cX11_isFull 0 = .ok (.aload_n 0, 1) := by decide +kernel
theorem dX11_isFull_1 : decode cX11_isFull 1 = .ok (.getfield 26, 3) := by decide +kernel
theorem dX11_isFull_4 : decode cX11_isFull 4 = .ok (.iconst 0, 1) := by decide +kernel
theorem dX11_isFull_5 : decode cX11_isFull 5 = .ok (.iaload, 1) := by decide +kernel
theorem dX11_isFull_6 : decode cX11_isFull 6 = .ok (.sipush 2000, 3) := by decide +kernel
theorem dX11_isFull_9 : decode cX11_isFull 9 = .ok (.if_icmp .eq 13, 3) := by decide +kernel
theorem dX11_isFull_12 : decode cX11_isFull 12 = .ok (.aload_n 0, 1) := by decide +kernel
theorem dX11_isFull_13 : decode cX11_isFull 13 = .ok (.getfield 104, 3) := by decide +kernel
theorem dX11_isFull_16 : decode cX11_isFull 16 = .ok (.sipush 2992, 3) := by decide +kernel
theorem dX11_isFull_19 : decode cX11_isFull 19 = .ok (.if_icmp .le 7, 3) := by decide +kernel
theorem dX11_isFull_22 : decode cX11_isFull 22 = .ok (.iconst 1, 1) := by decide +kernel
theorem dX11_isFull_23 : decode cX11_isFull 23 = .ok (.goto 4, 3) := by decide +kernel
theorem dX11_isFull_26 : decode cX11_isFull 26 = .ok (.iconst 0, 1) := by decide +kernel
theorem dX11_isFull_27 : decode cX11_isFull 27 = .ok (.ireturn, 1) := by decide +kernel
theorem dX11_bit_0 : decode cX11_bit 0 = .ok (.aload_n 0, 1) := by decide +kernel
theorem dX11_bit_1 : decode cX11_bit 1 = .ok (.iconst 0, 1) := by decide +kernel
theorem dX11_bit_2 : decode cX11_bit 2 = .ok (.putfield 77, 3) := by decide +kernel
theorem dX11_bit_5 : decode cX11_bit 5 = .ok (.aload_n 0, 1) := by decide +kernel
theorem dX11_bit_6 : decode cX11_bit 6 = .ok (.getfield 110, 3) := by decide +kernel
theorem dX11_bit_9 : decode cX11_bit 9 = .ok (.ifCond .eq 6, 3) := by decide +kernel
theorem dX11_bit_12 : decode cX11_bit 12 = .ok (.bipush (-4), 2) := by decide +kernel
theorem dX11_bit_14 : decode cX11_bit 14 = .ok (.ireturn, 1) := by decide +kernel
theorem dX11_bit_15 : decode cX11_bit 15 = .ok (.aload_n 0, 1) := by decide +kernel
theorem dX11_bit_16 : decode cX11_bit 16 = .ok (.invokevirtual 192, 3) := by decide +kernel
theorem dX11_bit_19 : decode cX11_bit 19 = .ok (.ifCond .eq 6, 3) := by decide +kernel
theorem dX11_bit_22 : decode cX11_bit 22 = .ok (.bipush (-3), 2) := by decide +kernel
theorem dX11_bit_24 : decode cX11_bit 24 = .ok (.ireturn, 1) := by decide +kernel
theorem dX11_bit_25 : decode cX11_bit 25 = .ok (.aload_n 0, 1) := by decide +kernel
theorem dX11_bit_26 : decode cX11_bit 26 = .ok (.iload_n 1, 1) := by decide +kernel
theorem dX11_bit_27 : decode cX11_bit 27 = .ok (.ifCond .eq 7, 3) := by decide +kernel
theorem dX11_bit_30 : decode cX11_bit 30 = .ok (.iconst 1, 1) := by decide +kernel
theorem dX11_bit_31 : decode cX11_bit 31 = .ok (.goto 4, 3) := by decide +kernel
theorem dX11_bit_34 : decode cX11_bit 34 = .ok (.iconst 0, 1) := by decide +kernel
theorem dX11_bit_35 : decode cX11_bit 35 = .ok (.invokevirtual 195, 3) := by decide +kernel
theorem dX11_bit_38 : decode cX11_bit 38 = .ok (.aload_n 0, 1) := by decide +kernel
theorem dX11_bit_39 : decode cX11_bit 39 = .ok (.getfield 104, 3) := by decide +kernel
theorem dX11_bit_42 : decode cX11_bit 42 = .ok (.ireturn, 1) := by decide +kernel
theorem dX11_octet_0 : decode cX11_octet 0 = .ok (.aload_n 0, 1) := by decide +kernel
theorem dX11_octet_1 : decode cX11_octet 1 = .ok (.iconst 0, 1) := by decide +kernel
theorem dX11_octet_2 : decode cX11_octet 2 = .ok (.putfield 77, 3) := by decide +kernel
theorem dX11_octet_5 : decode cX11_octet 5 = .ok (.aload_n 0, 1) := by decide +kernel
theorem dX11_octet_6 : decode cX11_octet 6 = .ok (.getfield 110, 3) := by decide +kernel
theorem dX11_octet_9 : decode cX11_octet 9 = .ok (.ifCond .ne 10, 3) := by decide +kernel
theorem dX11_octet_12 : decode cX11_octet 12 = .ok (.aload_n 0, 1) := by decide +kernel
theorem dX11_octet_13 : decode cX11_octet 13 = .ok (.getfield 107, 3) := by decide +kernel
theorem dX11_octet_16 : decode cX11_octet 16 = .ok (.ifCond .le 6, 3) := by decide +kernel
theorem dX11_octet_19 : decode cX11_octet 19 = .ok (.bipush (-4), 2) := by decide +kernel
theorem dX11_octet_21 : decode cX11_octet 21 = .ok (.ireturn, 1) := by decide +kernel
theorem dX11_octet_22 : decode cX11_octet 22 = .ok (.aload_n 0, 1) := by decide +kernel
theorem dX11_octet_23 : decode cX11_octet 23 = .ok (.invokevirtual 192, 3) := by decide +kernel
theorem dX11_octet_26 : decode cX11_octet 26 = .ok (.ifCond .eq 6, 3) := by decide +kernel
theorem dX11_octet_29 : decode cX11_octet 29 = .ok (.bipush (-3), 2) := by decide +kernel
theorem dX11_octet_31 : decode cX11_octet 31 = .ok (.ireturn, 1) := by decide +kernel
theorem dX11_octet_32 : decode cX11_octet 32 = .ok (.bipush 7, 2) := by decide +kernel
theorem dX11_octet_34 : decode cX11_octet 34 = .ok (.istore_n 2, 1) := by decide +kernel
theorem dX11_octet_35 : decode cX11_octet 35 = .ok (.iload_n 2, 1) := by decide +kernel
theorem dX11_octet_36 : decode cX11_octet 36 = .ok (.ifCond .lt 18, 3) := by decide +kernel
theorem dX11_octet_39 : decode cX11_octet 39 = .ok (.aload_n 0, 1) := by decide +kernel
theorem dX11_octet_40 : decode cX11_octet 40 = .ok (.iload_n 1, 1) := by decide +kernel
theorem dX11_octet_41 : decode cX11_octet 41 = .ok (.iload_n 2, 1) := by decide +kernel
theorem dX11_octet_42 : decode cX11_octet 42 = .ok (.ishr, 1) := by decide +kernel
theorem dX11_octet_43 : decode cX11_octet 43 = .ok (.iconst 1, 1) := by decide +kernel
theorem dX11_octet_44 : decode cX11_octet 44 = .ok (.iand, 1) := by decide +kernel
theorem dX11_octet_45 : decode cX11_octet 45 = .ok (.invokevirtual 195, 3) := by decide +kernel
theorem dX11_octet_48 : decode cX11_octet 48 = .ok (.iinc 2 (-1), 3) := by decide +kernel
theorem dX11_octet_51 : decode cX11_octet 51 = .ok (.goto (-16), 3) := by decide +kernel
theorem dX11_octet_54 : decode cX11_octet 54 = .ok (.aload_n 0, 1) := by decide +kernel
theorem dX11_octet_55 : decode cX11_octet 55 = .ok (.getfield 104, 3) := by decide +kernel
theorem dX11_octet_58 : decode cX11_octet 58 = .ok (.ireturn, 1) := by decide +kernel
theorem dX11_end_0 : decode cX11_end 0 = .ok (.aload_n 0, 1) := by decide +kernel
theorem dX11_end_1 : decode cX11_end 1 = .ok (.iconst 0, 1) := by decide +kernel
theorem dX11_end_2 : decode cX11_end 2 = .ok (.putfield 77, 3) := by decide +kernel
theorem dX11_end_5 : decode cX11_end 5 = .ok (.aload_n 0, 1) := by decide +kernel
theorem dX11_end_6 : decode cX11_end 6 = .ok (.getfield 110, 3) := by decide +kernel
theorem dX11_end_9 : decode cX11_end 9 = .ok (.ifCond .eq 6, 3) := by decide +kernel
theorem dX11_end_12 : decode cX11_end 12 = .ok (.bipush (-4), 2) := by decide +kernel
theorem dX11_end_14 : decode cX11_end 14 = .ok (.ireturn, 1) := by decide +kernel
theorem dX11_end_15 : decode cX11_end 15 = .ok (.bipush 24, 2) := by decide +kernel
theorem dX11_end_17 : decode cX11_end 17 = .ok (.istore_n 1, 1) := by decide +kernel
theorem dX11_end_18 : decode cX11_end 18 = .ok (.iload_n 1, 1) := by decide +kernel
theorem dX11_end_19 : decode cX11_end 19 = .ok (.ifCond .lt 41, 3) := by decide +kernel
theorem dX11_end_22 : decode cX11_end 22 = .ok (.aload_n 0, 1) := by decide +kernel
theorem dX11_end_23 : decode cX11_end 23 = .ok (.getfield 60, 3) := by decide +kernel
theorem dX11_end_26 : decode cX11_end 26 = .ok (.aload_n 0, 1) := by decide +kernel
theorem dX11_end_27 : decode cX11_end 27 = .ok (.getfield 104, 3) := by decide +kernel
theorem dX11_end_30 : decode cX11_end 30 = .ok (.aload_n 0, 1) := by decide +kernel
theorem dX11_end_31 : decode cX11_end 31 = .ok (.getfield 53, 3) := by decide +kernel
theorem dX11_end_34 : decode cX11_end 34 = .ok (.iconst 0, 1) := by decide +kernel
theorem dX11_end_35 : decode cX11_end 35 = .ok (.laload, 1) := by decide +kernel
theorem dX11_end_36 : decode cX11_end 36 = .ok (.iload_n 1, 1) := by decide +kernel
theorem dX11_end_37 : decode cX11_end 37 = .ok (.lshr, 1) := by decide +kernel
theorem dX11_end_38 : decode cX11_end 38 = .ok (.l2i, 1) := by decide +kernel
theorem dX11_end_39 : decode cX11_end 39 = .ok (.sipush 255, 3) := by decide +kernel
theorem dX11_end_42 : decode cX11_end 42 = .ok (.iand, 1) := by decide +kernel
theorem dX11_end_43 : decode cX11_end 43 = .ok (.iastore, 1) := by decide +kernel
theorem dX11_end_44 : decode cX11_end 44 = .ok (.aload_n 0, 1) := by decide +kernel
theorem dX11_end_45 : decode cX11_end 45 = .ok (.dup, 1) := by decide +kernel
theorem dX11_end_46 : decode cX11_end 46 = .ok (.getfield 104, 3) := by decide +kernel
theorem dX11_end_49 : decode cX11_end 49 = .ok (.iconst 1, 1) := by decide +kernel
theorem dX11_end_50 : decode cX11_end 50 = .ok (.iadd, 1) := by decide +kernel
theorem dX11_end_51 : decode cX11_end 51 = .ok (.putfield 104, 3) := by decide +kernel
theorem dX11_end_54 : decode cX11_end 54 = .ok (.iinc 1 (-8), 3) := by decide +kernel
theorem dX11_end_57 : decode cX11_end 57 = .ok (.goto (-39), 3) := by decide +kernel
theorem dX11_end_60 : decode cX11_end 60 = .ok (.aload_n 0, 1) := by decide +kernel
theorem dX11_end_61 : decode cX11_end 61 = .ok (.iconst 1, 1) := by decide +kernel
theorem dX11_end_62 : decode cX11_end 62 = .ok (.putfield 110, 3) := by decide +kernel
theorem dX11_end_65 : decode cX11_end 65 = .ok (.aload_n 0, 1) := by decide +kernel
theorem dX11_end_66 : decode cX11_end 66 = .ok (.invokevirtual 198, 3) := by decide +kernel
theorem dX11_end_69 : decode cX11_end 69 = .ok (.aload_n 0, 1) := by decide +kernel
theorem dX11_end_70 : decode cX11_end 70 = .ok (.getfield 104, 3) := by decide +kernel
theorem dX11_end_73 : decode cX11_end 73 = .ok (.ireturn, 1) := by decide +kernel
theorem dX11_nextOut_0 : decode cX11_nextOut 0 = .ok (.aload_n 0, 1) := by decide +kernel
theorem dX11_nextOut_1 : decode cX11_nextOut 1 = .ok (.getfield 114, 3) := by decide +kernel
theorem dX11_nextOut_4 : decode cX11_nextOut 4 = .ok (.aload_n 0, 1) := by decide +kernel
theorem dX11_nextOut_5 : decode cX11_nextOut 5 = .ok (.getfield 104, 3) := by decide +kernel
theorem dX11_nextOut_8 : decode cX11_nextOut 8 = .ok (.if_icmp .ge 15, 3) := by decide +kernel
theorem dX11_nextOut_11 : decode cX11_nextOut 11 = .ok (.aload_n 0, 1) := by decide +kernel
theorem dX11_nextOut_12 : decode cX11_nextOut 12 = .ok (.getfield 60, 3) := by decide +kernel
theorem dX11_nextOut_15 : decode cX11_nextOut 15 = .ok (.aload_n 0, 1) := by decide +kernel
theorem dX11_nextOut_16 : decode cX11_nextOut 16 = .ok (.getfield 114, 3) := by decide +kernel
theorem dX11_nextOut_19 : decode cX11_nextOut 19 = .ok (.iaload, 1) := by decide +kernel
theorem dX11_nextOut_20 : decode cX11_nextOut 20 = .ok (.goto 4, 3) := by decide +kernel
theorem dX11_nextOut_23 : decode cX11_nextOut 23 = .ok (.iconst 0, 1) := by decide +kernel
theorem dX11_nextOut_24 : decode cX11_nextOut 24 = .ok (.istore_n 1, 1) := by decide +kernel
theorem dX11_nextOut_25 : decode cX11_nextOut 25 = .ok (.aload_n 0, 1) := by decide +kernel
theorem dX11_nextOut_26 : decode cX11_nextOut 26 = .ok (.dup, 1) := by decide +kernel
theorem dX11_nextOut_27 : decode cX11_nextOut 27 = .ok (.getfield 114, 3) := by decide +kernel
theorem dX11_nextOut_30 : decode cX11_nextOut 30 = .ok (.iconst 1, 1) := by decide +kernel
theorem dX11_nextOut_31 : decode cX11_nextOut 31 = .ok (.iadd, 1) := by decide +kernel
theorem dX11_nextOut_32 : decode cX11_nextOut 32 = .ok (.putfield 114, 3) := by decide +kernel
theorem dX11_nextOut_35 : decode cX11_nextOut 35 = .ok (.iload_n 1, 1) := by decide +kernel
theorem dX11_nextOut_36 : decode cX11_nextOut 36 = .ok (.ireturn, 1) := by decide +kernel
theorem dX11_loadX_0 : decode cX11_loadX 0 = .ok (.aload_n 0, 1) := by decide +kernel
theorem dX11_loadX_1 : decode cX11_loadX 1 = .ok (.iconst 0, 1) := by decide +kernel
theorem dX11_loadX_2 : decode cX11_loadX 2 = .ok (.putfield 114, 3) := by decide +kernel
theorem dX11_loadX_5 : decode cX11_loadX 5 = .ok (.aload_n 0, 1) := by decide +kernel
theorem dX11_loadX_6 : decode cX11_loadX 6 = .ok (.lconst 0, 1) := by decide +kernel
theorem dX11_loadX_7 : decode cX11_loadX 7 = .ok (.putfield 201, 3) := by decide +kernel
theorem dX11_loadX_10 : decode cX11_loadX 10 = .ok (.iconst 0, 1) := by decide +kernel
theorem dX11_loadX_11 : decode cX11_loadX 11 = .ok (.istore_n 1, 1) := by decide +kernel
theorem dX11_loadX_12 : decode cX11_loadX 12 = .ok (.iload_n 1, 1) := by decide +kernel
theorem dX11_loadX_13 : decode cX11_loadX 13 = .ok (.iconst 4, 1) := by decide +kernel
theorem dX11_loadX_14 : decode cX11_loadX 14 = .ok (.if_icmp .ge 26, 3) := by decide +kernel
theorem dX11_loadX_17 : decode cX11_loadX 17 = .ok (.aload_n 0, 1) := by decide +kernel
theorem dX11_loadX_18 : decode cX11_loadX 18 = .ok (.aload_n 0, 1) := by decide +kernel
theorem dX11_loadX_19 : decode cX11_loadX 19 = .ok (.getfield 201, 3) := by decide +kernel
theorem dX11_loadX_22 : decode cX11_loadX 22 = .ok (.bipush 8, 2) := by decide +kernel
theorem dX11_loadX_24 : decode cX11_loadX 24 = .ok (.lshl, 1) := by decide +kernel
theorem dX11_loadX_25 : decode cX11_loadX 25 = .ok (.aload_n 0, 1) := by decide +kernel
theorem dX11_loadX_26 : decode cX11_loadX 26 = .ok (.invokevirtual 205, 3) := by decide +kernel
theorem dX11_loadX_29 : decode cX11_loadX 29 = .ok (.i2l, 1) := by decide +kernel
theorem dX11_loadX_30 : decode cX11_loadX 30 = .ok (.lor, 1) := by decide +kernel
theorem dX11_loadX_31 : decode cX11_loadX 31 = .ok (.putfield 201, 3) := by decide +kernel
theorem dX11_loadX_34 : decode cX11_loadX 34 = .ok (.iinc 1 1, 3) := by decide +kernel
theorem dX11_loadX_37 : decode cX11_loadX 37 = .ok (.goto (-25), 3) := by decide +kernel
theorem dX11_loadX_40 : decode cX11_loadX 40 = .ok (.return_, 1) := by decide +kernel
theorem dX11_get_0 : decode cX11_get 0 = .ok (.aload_n 0, 1) := by decide +kernel
theorem dX11_get_1 : decode cX11_get 1 = .ok (.iconst 0, 1) := by decide +kernel
theorem dX11_get_2 : decode cX11_get 2 = .ok (.putfield 77, 3) := by decide +kernel
theorem dX11_get_5 : decode cX11_get 5 = .ok (.aload_n 0, 1) := by decide +kernel
theorem dX11_get_6 : decode cX11_get 6 = .ok (.getfield 110, 3) := by decide +kernel
theorem dX11_get_9 : decode cX11_get 9 = .ok (.ifCond .ne 6, 3) := by decide +kernel
theorem dX11_get_12 : decode cX11_get 12 = .ok (.bipush (-4), 2) := by decide +kernel
theorem dX11_get_14 : decode cX11_get 14 = .ok (.ireturn, 1) := by decide +kernel
theorem dX11_get_15 : decode cX11_get 15 = .ok (.aload_n 0, 1) := by decide +kernel
theorem dX11_get_16 : decode cX11_get 16 = .ok (.getfield 26, 3) := by decide +kernel
theorem dX11_get_19 : decode cX11_get 19 = .ok (.iconst 1, 1) := by decide +kernel
theorem dX11_get_20 : decode cX11_get 20 = .ok (.iaload, 1) := by decide +kernel
theorem dX11_get_21 : decode cX11_get 21 = .ok (.aload_n 0, 1) := by decide +kernel
theorem dX11_get_22 : decode cX11_get 22 = .ok (.getfield 26, 3) := by decide +kernel
theorem dX11_get_25 : decode cX11_get 25 = .ok (.iconst 0, 1) := by decide +kernel
theorem dX11_get_26 : decode cX11_get 26 = .ok (.iaload, 1) := by decide +kernel
theorem dX11_get_27 : decode cX11_get 27 = .ok (.if_icmp .lt 6, 3) := by decide +kernel
theorem dX11_get_30 : decode cX11_get 30 = .ok (.bipush (-2), 2) := by decide +kernel
theorem dX11_get_32 : decode cX11_get 32 = .ok (.ireturn, 1) := by decide +kernel
theorem dX11_get_33 : decode cX11_get 33 = .ok (.iconst 0, 1) := by decide +kernel
theorem dX11_get_34 : decode cX11_get 34 = .ok (.istore_n 1, 1) := by decide +kernel
theorem dX11_get_35 : decode cX11_get 35 = .ok (.iload_n 1, 1) := by decide +kernel
theorem dX11_get_36 : decode cX11_get 36 = .ok (.bipush 8, 2) := by decide +kernel
theorem dX11_get_38 : decode cX11_get 38 = .ok (.if_icmp .ge 181, 3) := by decide +kernel
theorem dX11_get_41 : decode cX11_get 41 = .ok (.aload_n 0, 1) := by decide +kernel
theorem dX11_get_42 : decode cX11_get 42 = .ok (.iconst 1, 1) := by decide +kernel
theorem dX11_get_43 : decode cX11_get 43 = .ok (.invokevirtual 181, 3) := by decide +kernel
theorem dX11_get_46 : decode cX11_get 46 = .ok (.aload_n 0, 1) := by decide +kernel
theorem dX11_get_47 : decode cX11_get 47 = .ok (.getfield 53, 3) := by decide +kernel
theorem dX11_get_50 : decode cX11_get 50 = .ok (.iconst 1, 1) := by decide +kernel
theorem dX11_get_51 : decode cX11_get 51 = .ok (.laload, 1) := by decide +kernel
theorem dX11_get_52 : decode cX11_get 52 = .ok (.aload_n 0, 1) := by decide +kernel
theorem dX11_get_53 : decode cX11_get 53 = .ok (.getfield 57, 3) := by decide +kernel
theorem dX11_get_56 : decode cX11_get 56 = .ok (.iconst 1, 1) := by decide +kernel
theorem dX11_get_57 : decode cX11_get 57 = .ok (.laload, 1) := by decide +kernel
theorem dX11_get_58 : decode cX11_get 58 = .ok (.aload_n 0, 1) := by decide +kernel
theorem dX11_get_59 : decode cX11_get 59 = .ok (.getfield 53, 3) := by decide +kernel
theorem dX11_get_62 : decode cX11_get 62 = .ok (.iconst 1, 1) := by decide +kernel
theorem dX11_get_63 : decode cX11_get 63 = .ok (.laload, 1) := by decide +kernel
theorem dX11_get_64 : decode cX11_get 64 = .ok (.lsub, 1) := by decide +kernel
theorem dX11_get_65 : decode cX11_get 65 = .ok (.ldc2_w 184, 3) := by decide +kernel
theorem dX11_get_68 : decode cX11_get 68 = .ok (.ldiv, 1) := by decide +kernel
theorem dX11_get_69 : decode cX11_get 69 = .ok (.aload_n 0, 1) := by decide +kernel
theorem dX11_get_70 : decode cX11_get 70 = .ok (.getfield 170, 3) := by decide +kernel
theorem dX11_get_73 : decode cX11_get 73 = .ok (.i2l, 1) := by decide +kernel
theorem dX11_get_74 : decode cX11_get 74 = .ok (.lmul, 1) := by decide +kernel
theorem dX11_get_75 : decode cX11_get 75 = .ok (.ladd, 1) := by decide +kernel
theorem dX11_get_76 : decode cX11_get 76 = .ok (.lstore_n 2, 1) := by decide +kernel
theorem dX11_get_77 : decode cX11_get 77 = .ok (.aload_n 0, 1) := by decide +kernel
theorem dX11_get_78 : decode cX11_get 78 = .ok (.getfield 201, 3) := by decide +kernel
theorem dX11_get_81 : decode cX11_get 81 = .ok (.lload_n 2, 1) := by decide +kernel
theorem dX11_get_82 : decode cX11_get 82 = .ok (.lcmp, 1) := by decide +kernel
theorem dX11_get_83 : decode cX11_get 83 = .ok (.ifCond .gt 7, 3) := by decide +kernel
theorem dX11_get_86 : decode cX11_get 86 = .ok (.iconst 1, 1) := by decide +kernel
theorem dX11_get_87 : decode cX11_get 87 = .ok (.goto 4, 3) := by decide +kernel
theorem dX11_get_90 : decode cX11_get 90 = .ok (.iconst 0, 1) := by decide +kernel
theorem dX11_get_91 : decode cX11_get 91 = .ok (.istore 4, 2) := by decide +kernel
theorem dX11_get_93 : decode cX11_get 93 = .ok (.iload 4, 2) := by decide +kernel
theorem dX11_get_95 : decode cX11_get 95 = .ok (.iconst 1, 1) := by decide +kernel
theorem dX11_get_96 : decode cX11_get 96 = .ok (.if_icmp .ne 13, 3) := by decide +kernel
theorem dX11_get_99 : decode cX11_get 99 = .ok (.aload_n 0, 1) := by decide +kernel
theorem dX11_get_100 : decode cX11_get 100 = .ok (.getfield 57, 3) := by decide +kernel
theorem dX11_get_103 : decode cX11_get 103 = .ok (.iconst 1, 1) := by decide +kernel
theorem dX11_get_104 : decode cX11_get 104 = .ok (.lload_n 2, 1) := by decide +kernel
theorem dX11_get_105 : decode cX11_get 105 = .ok (.lastore, 1) := by decide +kernel
theorem dX11_get_106 : decode cX11_get 106 = .ok (.goto 12, 3) := by decide +kernel
theorem dX11_get_109 : decode cX11_get 109 = .ok (.aload_n 0, 1) := by decide +kernel
theorem dX11_get_110 : decode cX11_get 110 = .ok (.getfield 53, 3) := by decide +kernel
theorem dX11_get_113 : decode cX11_get 113 = .ok (.iconst 1, 1) := by decide +kernel
theorem dX11_get_114 : decode cX11_get 114 = .ok (.lload_n 2, 1) := by decide +kernel
theorem dX11_get_115 : decode cX11_get 115 = .ok (.lconst 1, 1) := by decide +kernel
theorem dX11_get_116 : decode cX11_get 116 = .ok (.ladd, 1) := by decide +kernel
theorem dX11_get_117 : decode cX11_get 117 = .ok (.lastore, 1) := by decide +kernel
theorem dX11_get_118 : decode cX11_get 118 = .ok (.aload_n 0, 1) := by decide +kernel
theorem dX11_get_119 : decode cX11_get 119 = .ok (.getfield 53, 3) := by decide +kernel
theorem dX11_get_122 : decode cX11_get 122 = .ok (.iconst 1, 1) := by decide +kernel
theorem dX11_get_123 : decode cX11_get 123 = .ok (.laload, 1) := by decide +kernel
theorem dX11_get_124 : decode cX11_get 124 = .ok (.bipush 24, 2) := by decide +kernel
theorem dX11_get_126 : decode cX11_get 126 = .ok (.lshr, 1) := by decide +kernel
theorem dX11_get_127 : decode cX11_get 127 = .ok (.aload_n 0, 1) := by decide +kernel
theorem dX11_get_128 : decode cX11_get 128 = .ok (.getfield 57, 3) := by decide +kernel
theorem dX11_get_131 : decode cX11_get 131 = .ok (.iconst 1, 1) := by decide +kernel
theorem dX11_get_132 : decode cX11_get 132 = .ok (.laload, 1) := by decide +kernel
theorem dX11_get_133 : decode cX11_get 133 = .ok (.bipush 24, 2) := by decide +kernel
theorem dX11_get_135 : decode cX11_get 135 = .ok (.lshr, 1) := by decide +kernel
theorem dX11_get_136 : decode cX11_get 136 = .ok (.lcmp, 1) := by decide +kernel
theorem dX11_get_137 : decode cX11_get 137 = .ok (.ifCond .ne 69, 3) := by decide +kernel
theorem dX11_get_140 : decode cX11_get 140 = .ok (.aload_n 0, 1) := by decide +kernel
theorem dX11_get_141 : decode cX11_get 141 = .ok (.getfield 53, 3) := by decide +kernel
theorem dX11_get_144 : decode cX11_get 144 = .ok (.iconst 1, 1) := by decide +kernel
theorem dX11_get_145 : decode cX11_get 145 = .ok (.aload_n 0, 1) := by decide +kernel
theorem dX11_get_146 : decode cX11_get 146 = .ok (.getfield 53, 3) := by decide +kernel
theorem dX11_get_149 : decode cX11_get 149 = .ok (.iconst 1, 1) := by decide +kernel
theorem dX11_get_150 : decode cX11_get 150 = .ok (.laload, 1) := by decide +kernel
theorem dX11_get_151 : decode cX11_get 151 = .ok (.bipush 8, 2) := by decide +kernel
theorem dX11_get_153 : decode cX11_get 153 = .ok (.lshl, 1) := by decide +kernel
theorem dX11_get_154 : decode cX11_get 154 = .ok (.ldc2_w 94, 3) := by decide +kernel
theorem dX11_get_157 : decode cX11_get 157 = .ok (.land, 1) := by decide +kernel
theorem dX11_get_158 : decode cX11_get 158 = .ok (.lastore, 1) := by decide +kernel
theorem dX11_get_159 : decode cX11_get 159 = .ok (.aload_n 0, 1) := by decide +kernel
theorem dX11_get_160 : decode cX11_get 160 = .ok (.getfield 57, 3) := by decide +kernel
theorem dX11_get_163 : decode cX11_get 163 = .ok (.iconst 1, 1) := by decide +kernel
theorem dX11_get_164 : decode cX11_get 164 = .ok (.aload_n 0, 1) := by decide +kernel
theorem dX11_get_165 : decode cX11_get 165 = .ok (.getfield 57, 3) := by decide +kernel
theorem dX11_get_168 : decode cX11_get 168 = .ok (.iconst 1, 1) := by decide +kernel
theorem dX11_get_169 : decode cX11_get 169 = .ok (.laload, 1) := by decide +kernel
theorem dX11_get_170 : decode cX11_get 170 = .ok (.bipush 8, 2) := by decide +kernel
theorem dX11_get_172 : decode cX11_get 172 = .ok (.lshl, 1) := by decide +kernel
theorem dX11_get_173 : decode cX11_get 173 = .ok (.ldc2_w 94, 3) := by decide +kernel
theorem dX11_get_176 : decode cX11_get 176 = .ok (.land, 1) := by decide +kernel
theorem dX11_get_177 : decode cX11_get 177 = .ok (.ldc2_w 186, 3) := by decide +kernel
theorem dX11_get_180 : decode cX11_get 180 = .ok (.lor, 1) := by decide +kernel
theorem dX11_get_181 : decode cX11_get 181 = .ok (.lastore, 1) := by decide +kernel
theorem dX11_get_182 : decode cX11_get 182 = .ok (.aload_n 0, 1) := by decide +kernel
theorem dX11_get_183 : decode cX11_get 183 = .ok (.aload_n 0, 1) := by decide +kernel
theorem dX11_get_184 : decode cX11_get 184 = .ok (.getfield 201, 3) := by decide +kernel
theorem dX11_get_187 : decode cX11_get 187 = .ok (.bipush 8, 2) := by decide +kernel
theorem dX11_get_189 : decode cX11_get 189 = .ok (.lshl, 1) := by decide +kernel
theorem dX11_get_190 : decode cX11_get 190 = .ok (.ldc2_w 94, 3) := by decide +kernel
theorem dX11_get_193 : decode cX11_get 193 = .ok (.land, 1) := by decide +kernel
theorem dX11_get_194 : decode cX11_get 194 = .ok (.aload_n 0, 1) := by decide +kernel
theorem dX11_get_195 : decode cX11_get 195 = .ok (.invokevirtual 205, 3) := by decide +kernel
theorem dX11_get_198 : decode cX11_get 198 = .ok (.i2l, 1) := by decide +kernel
theorem dX11_get_199 : decode cX11_get 199 = .ok (.lor, 1) := by decide +kernel
theorem dX11_get_200 : decode cX11_get 200 = .ok (.putfield 201, 3) := by decide +kernel
theorem dX11_get_203 : decode cX11_get 203 = .ok (.goto (-85), 3) := by decide +kernel
theorem dX11_get_206 : decode cX11_get 206 = .ok (.aload_n 0, 1) := by decide +kernel
theorem dX11_get_207 : decode cX11_get 207 = .ok (.iconst 1, 1) := by decide +kernel
theorem dX11_get_208 : decode cX11_get 208 = .ok (.iload 4, 2) := by decide +kernel
theorem dX11_get_210 : decode cX11_get 210 = .ok (.invokevirtual 188, 3) := by decide +kernel
theorem dX11_get_213 : decode cX11_get 213 = .ok (.iinc 1 1, 3) := by decide +kernel
theorem dX11_get_216 : decode cX11_get 216 = .ok (.goto (-181), 3) := by decide +kernel
theorem dX11_get_219 : decode cX11_get 219 = .ok (.aload_n 0, 1) := by decide +kernel
theorem dX11_get_220 : decode cX11_get 220 = .ok (.iconst 1, 1) := by decide +kernel
theorem dX11_get_221 : decode cX11_get 221 = .ok (.iconst 1, 1) := by decide +kernel
theorem dX11_get_222 : decode cX11_get 222 = .ok (.invokevirtual 121, 3) := by decide +kernel
theorem dX11_get_225 : decode cX11_get 225 = .ok (.ireturn, 1) := by decide +kernel
theorem dX11_again_0 : decode cX11_again 0 = .ok (.aload_n 0, 1) := by decide +kernel
theorem dX11_again_1 : decode cX11_again 1 = .ok (.iconst 0, 1) := by decide +kernel
theorem dX11_again_2 : decode cX11_again 2 = .ok (.putfield 77, 3) := by decide +kernel
theorem dX11_again_5 : decode cX11_again 5 = .ok (.aload_n 0, 1) := by decide +kernel
theorem dX11_again_6 : decode cX11_again 6 = .ok (.getfield 26, 3) := by decide +kernel
theorem dX11_again_9 : decode cX11_again 9 = .ok (.iconst 1, 1) := by decide +kernel
theorem dX11_again_10 : decode cX11_again 10 = .ok (.iaload, 1) := by decide +kernel
theorem dX11_again_11 : decode cX11_again 11 = .ok (.istore_n 1, 1) := by decide +kernel
theorem dX11_again_12 : decode cX11_again 12 = .ok (.aload_n 0, 1) := by decide +kernel
theorem dX11_again_13 : decode cX11_again 13 = .ok (.iconst 1, 1) := by decide +kernel
theorem dX11_again_14 : decode cX11_again 14 = .ok (.invokevirtual 100, 3) := by decide +kernel
theorem dX11_again_17 : decode cX11_again 17 = .ok (.aload_n 0, 1) := by decide +kernel
theorem dX11_again_18 : decode cX11_again 18 = .ok (.invokevirtual 198, 3) := by decide +kernel
theorem dX11_again_21 : decode cX11_again 21 = .ok (.iload_n 1, 1) := by decide +kernel
theorem dX11_again_22 : decode cX11_again 22 = .ok (.ireturn, 1) := by decide +kernel
theorem dX11_clear_0 : decode cX11_clear 0 = .ok (.aload_n 0, 1) := by decide +kernel
theorem dX11_clear_1 : decode cX11_clear 1 = .ok (.iconst 0, 1) := by decide +kernel
theorem dX11_clear_2 : decode cX11_clear 2 = .ok (.putfield 77, 3) := by decide +kernel
theorem dX11_clear_5 : decode cX11_clear 5 = .ok (.aload_n 0, 1) := by decide +kernel
theorem dX11_clear_6 : decode cX11_clear 6 = .ok (.invokevirtual 74, 3) := by decide +kernel
theorem dX11_clear_9 : decode cX11_clear 9 = .ok (.iconst 1, 1) := by decide +kernel
theorem dX11_clear_10 : decode cX11_clear 10 = .ok (.ireturn, 1) := by decide +kernel
theorem dX11_out_0 : decode cX11_out 0 = .ok (.aload_n 0, 1) := by decide +kernel
theorem dX11_out_1 : decode cX11_out 1 = .ok (.iconst 0, 1) := by decide +kernel
theorem dX11_out_2 : decode cX11_out 2 = .ok (.putfield 77, 3) := by decide +kernel
theorem dX11_out_5 : decode cX11_out 5 = .ok (.iload_n 1, 1) := by decide +kernel
theorem dX11_out_6 : decode cX11_out 6 = .ok (.ifCond .lt 11, 3) := by decide +kernel
theorem dX11_out_9 : decode cX11_out 9 = .ok (.iload_n 1, 1) := by decide +kernel
theorem dX11_out_10 : decode cX11_out 10 = .ok (.aload_n 0, 1) := by decide +kernel
theorem dX11_out_11 : decode cX11_out 11 = .ok (.getfield 104, 3) := by decide +kernel
theorem dX11_out_14 : decode cX11_out 14 = .ok (.if_icmp .lt 7, 3) := by decide +kernel
theorem dX11_out_17 : decode cX11_out 17 = .ok (.iconst (-1), 1) := by decide +kernel
theorem dX11_out_18 : decode cX11_out 18 = .ok (.goto 9, 3) := by decide +kernel
theorem dX11_out_21 : decode cX11_out 21 = .ok (.aload_n 0, 1) := by decide +kernel
theorem dX11_out_22 : decode cX11_out 22 = .ok (.getfield 60, 3) := by decide +kernel
theorem dX11_out_25 : decode cX11_out 25 = .ok (.iload_n 1, 1) := by decide +kernel
theorem dX11_out_26 : decode cX11_out 26 = .ok (.iaload, 1) := by decide +kernel
theorem dX11_out_27 : decode cX11_out 27 = .ok (.ireturn, 1) := by decide +kernel
theorem dX11_spoil_0 : decode cX11_spoil 0 = .ok (.aload_n 0, 1) := by decide +kernel
theorem dX11_spoil_1 : decode cX11_spoil 1 = .ok (.iconst 0, 1) := by decide +kernel
theorem dX11_spoil_2 : decode cX11_spoil 2 = .ok (.putfield 77, 3) := by decide +kernel
theorem dX11_spoil_5 : decode cX11_spoil 5 = .ok (.iload_n 1, 1) := by decide +kernel
theorem dX11_spoil_6 : decode cX11_spoil 6 = .ok (.ifCond .lt 23, 3) := by decide +kernel
theorem dX11_spoil_9 : decode cX11_spoil 9 = .ok (.iload_n 1, 1) := by decide +kernel
theorem dX11_spoil_10 : decode cX11_spoil 10 = .ok (.aload_n 0, 1) := by decide +kernel
theorem dX11_spoil_11 : decode cX11_spoil 11 = .ok (.getfield 104, 3) := by decide +kernel
theorem dX11_spoil_14 : decode cX11_spoil 14 = .ok (.if_icmp .ge 15, 3) := by decide +kernel
theorem dX11_spoil_17 : decode cX11_spoil 17 = .ok (.iload_n 2, 1) := by decide +kernel
theorem dX11_spoil_18 : decode cX11_spoil 18 = .ok (.iconst 1, 1) := by decide +kernel
theorem dX11_spoil_19 : decode cX11_spoil 19 = .ok (.if_icmp .lt 10, 3) := by decide +kernel
theorem dX11_spoil_22 : decode cX11_spoil 22 = .ok (.iload_n 2, 1) := by decide +kernel
theorem dX11_spoil_23 : decode cX11_spoil 23 = .ok (.sipush 255, 3) := by decide +kernel
theorem dX11_spoil_26 : decode cX11_spoil 26 = .ok (.if_icmp .le 5, 3) := by decide +kernel
theorem dX11_spoil_29 : decode cX11_spoil 29 = .ok (.iconst (-1), 1) := by decide +kernel
theorem dX11_spoil_30 : decode cX11_spoil 30 = .ok (.ireturn, 1) := by decide +kernel
theorem dX11_spoil_31 : decode cX11_spoil 31 = .ok (.aload_n 0, 1) := by decide +kernel
theorem dX11_spoil_32 : decode cX11_spoil 32 = .ok (.getfield 60, 3) := by decide +kernel
theorem dX11_spoil_35 : decode cX11_spoil 35 = .ok (.iload_n 1, 1) := by decide +kernel
theorem dX11_spoil_36 : decode cX11_spoil 36 = .ok (.dup2, 1) := by decide +kernel
theorem dX11_spoil_37 : decode cX11_spoil 37 = .ok (.iaload, 1) := by decide +kernel
theorem dX11_spoil_38 : decode cX11_spoil 38 = .ok (.iload_n 2, 1) := by decide +kernel
theorem dX11_spoil_39 : decode cX11_spoil 39 = .ok (.ixor, 1) := by decide +kernel
theorem dX11_spoil_40 : decode cX11_spoil 40 = .ok (.iastore, 1) := by decide +kernel
theorem dX11_spoil_41 : decode cX11_spoil 41 = .ok (.aload_n 0, 1) := by decide +kernel
theorem dX11_spoil_42 : decode cX11_spoil 42 = .ok (.getfield 60, 3) := by decide +kernel
theorem dX11_spoil_45 : decode cX11_spoil 45 = .ok (.iload_n 1, 1) := by decide +kernel
theorem dX11_spoil_46 : decode cX11_spoil 46 = .ok (.iaload, 1) := by decide +kernel
theorem dX11_spoil_47 : decode cX11_spoil 47 = .ok (.ireturn, 1) := by decide +kernel
theorem dX11_isSide_0 : decode cX11_isSide 0 = .ok (.iload_n 0, 1) := by decide +kernel
theorem dX11_isSide_1 : decode cX11_isSide 1 = .ok (.ifCond .lt 12, 3) := by decide +kernel
theorem dX11_isSide_4 : decode cX11_isSide 4 = .ok (.iload_n 0, 1) := by decide +kernel
theorem dX11_isSide_5 : decode cX11_isSide 5 = .ok (.iconst 1, 1) := by decide +kernel
theorem dX11_isSide_6 : decode cX11_isSide 6 = .ok (.if_icmp .gt 7, 3) := by decide +kernel
theorem dX11_isSide_9 : decode cX11_isSide 9 = .ok (.iconst 1, 1) := by decide +kernel
theorem dX11_isSide_10 : decode cX11_isSide 10 = .ok (.goto 4, 3) := by decide +kernel
theorem dX11_isSide_13 : decode cX11_isSide 13 = .ok (.iconst 0, 1) := by decide +kernel
theorem dX11_isSide_14 : decode cX11_isSide 14 = .ok (.ireturn, 1) := by decide +kernel
theorem dX11_chance_0 : decode cX11_chance 0 = .ok (.aload_n 0, 1) := by decide +kernel
theorem dX11_chance_1 : decode cX11_chance 1 = .ok (.iconst 0, 1) := by decide +kernel
theorem dX11_chance_2 : decode cX11_chance 2 = .ok (.putfield 77, 3) := by decide +kernel
theorem dX11_chance_5 : decode cX11_chance 5 = .ok (.iload_n 1, 1) := by decide +kernel
theorem dX11_chance_6 : decode cX11_chance 6 = .ok (.invokestatic 209, 3) := by decide +kernel
theorem dX11_chance_9 : decode cX11_chance 9 = .ok (.ifCond .ne 5, 3) := by decide +kernel
theorem dX11_chance_12 : decode cX11_chance 12 = .ok (.iconst (-1), 1) := by decide +kernel
theorem dX11_chance_13 : decode cX11_chance 13 = .ok (.ireturn, 1) := by decide +kernel
theorem dX11_chance_14 : decode cX11_chance 14 = .ok (.aload_n 0, 1) := by decide +kernel
theorem dX11_chance_15 : decode cX11_chance 15 = .ok (.iload_n 1, 1) := by decide +kernel
theorem dX11_chance_16 : decode cX11_chance 16 = .ok (.invokevirtual 181, 3) := by decide +kernel
theorem dX11_chance_19 : decode cX11_chance 19 = .ok (.aload_n 0, 1) := by decide +kernel
theorem dX11_chance_20 : decode cX11_chance 20 = .ok (.getfield 170, 3) := by decide +kernel
theorem dX11_chance_23 : decode cX11_chance 23 = .ok (.ireturn, 1) := by decide +kernel
theorem dX11_input_0 : decode cX11_input 0 = .ok (.aload_n 0, 1) := by decide +kernel
theorem dX11_input_1 : decode cX11_input 1 = .ok (.iconst 0, 1) := by decide +kernel
theorem dX11_input_2 : decode cX11_input 2 = .ok (.putfield 77, 3) := by decide +kernel
theorem dX11_input_5 : decode cX11_input 5 = .ok (.iload_n 1, 1) := by decide +kernel
theorem dX11_input_6 : decode cX11_input 6 = .ok (.invokestatic 209, 3) := by decide +kernel
theorem dX11_input_9 : decode cX11_input 9 = .ok (.ifCond .eq 15, 3) := by decide +kernel
theorem dX11_input_12 : decode cX11_input 12 = .ok (.iload_n 2, 1) := by decide +kernel
theorem dX11_input_13 : decode cX11_input 13 = .ok (.ifCond .lt 11, 3) := by decide +kernel
theorem dX11_input_16 : decode cX11_input 16 = .ok (.iload_n 2, 1) := by decide +kernel
theorem dX11_input_17 : decode cX11_input 17 = .ok (.aload_n 0, 1) := by decide +kernel
theorem dX11_input_18 : decode cX11_input 18 = .ok (.getfield 91, 3) := by decide +kernel
theorem dX11_input_21 : decode cX11_input 21 = .ok (.if_icmp .lt 9, 3) := by decide +kernel
theorem dX11_input_24 : decode cX11_input 24 = .ok (.sipush (-9999), 3) := by decide +kernel
theorem dX11_input_27 : decode cX11_input 27 = .ok (.goto 9, 3) := by decide +kernel
theorem dX11_input_30 : decode cX11_input 30 = .ok (.aload_n 0, 1) := by decide +kernel
theorem dX11_input_31 : decode cX11_input 31 = .ok (.iload_n 1, 1) := by decide +kernel
theorem dX11_input_32 : decode cX11_input 32 = .ok (.iload_n 2, 1) := by decide +kernel
theorem dX11_input_33 : decode cX11_input 33 = .ok (.invokevirtual 145, 3) := by decide +kernel
theorem dX11_input_36 : decode cX11_input 36 = .ok (.ireturn, 1) := by decide +kernel
theorem dX11_weight_0 : decode cX11_weight 0 = .ok (.aload_n 0, 1) := by decide +kernel
theorem dX11_weight_1 : decode cX11_weight 1 = .ok (.iconst 0, 1) := by decide +kernel
theorem dX11_weight_2 : decode cX11_weight 2 = .ok (.putfield 77, 3) := by decide +kernel
theorem dX11_weight_5 : decode cX11_weight 5 = .ok (.iload_n 1, 1) := by decide +kernel
theorem dX11_weight_6 : decode cX11_weight 6 = .ok (.invokestatic 209, 3) := by decide +kernel
theorem dX11_weight_9 : decode cX11_weight 9 = .ok (.ifCond .eq 41, 3) := by decide +kernel
theorem dX11_weight_12 : decode cX11_weight 12 = .ok (.iload_n 2, 1) := by decide +kernel
theorem dX11_weight_13 : decode cX11_weight 13 = .ok (.ifCond .lt 37, 3) := by decide +kernel
theorem dX11_weight_16 : decode cX11_weight 16 = .ok (.iload_n 2, 1) := by decide +kernel
theorem dX11_weight_17 : decode cX11_weight 17 = .ok (.iconst 1, 1) := by decide +kernel
theorem dX11_weight_18 : decode cX11_weight 18 = .ok (.if_icmp .gt 32, 3) := by decide +kernel
theorem dX11_weight_21 : decode cX11_weight 21 = .ok (.iload_n 3, 1) := by decide +kernel
theorem dX11_weight_22 : decode cX11_weight 22 = .ok (.ifCond .lt 28, 3) := by decide +kernel
theorem dX11_weight_25 : decode cX11_weight 25 = .ok (.iload_n 3, 1) := by decide +kernel
theorem dX11_weight_26 : decode cX11_weight 26 = .ok (.sipush 255, 3) := by decide +kernel
theorem dX11_weight_29 : decode cX11_weight 29 = .ok (.if_icmp .gt 21, 3) := by decide +kernel
theorem dX11_weight_32 : decode cX11_weight 32 = .ok (.iload 4, 2) := by decide +kernel
theorem dX11_weight_34 : decode cX11_weight 34 = .ok (.ifCond .lt 16, 3) := by decide +kernel
theorem dX11_weight_37 : decode cX11_weight 37 = .ok (.iload 4, 2) := by decide +kernel
theorem dX11_weight_39 : decode cX11_weight 39 = .ok (.aload_n 0, 1) := by decide +kernel
theorem dX11_weight_40 : decode cX11_weight 40 = .ok (.getfield 91, 3) := by decide +kernel
theorem dX11_weight_43 : decode cX11_weight 43 = .ok (.if_icmp .gt 7, 3) := by decide +kernel
theorem dX11_weight_46 : decode cX11_weight 46 = .ok (.iconst 1, 1) := by decide +kernel
theorem dX11_weight_47 : decode cX11_weight 47 = .ok (.goto 4, 3) := by decide +kernel
theorem dX11_weight_50 : decode cX11_weight 50 = .ok (.iconst 0, 1) := by decide +kernel
theorem dX11_weight_51 : decode cX11_weight 51 = .ok (.istore 5, 2) := by decide +kernel
theorem dX11_weight_53 : decode cX11_weight 53 = .ok (.iload 5, 2) := by decide +kernel
theorem dX11_weight_55 : decode cX11_weight 55 = .ok (.ifCond .eq 19, 3) := by decide +kernel
theorem dX11_weight_58 : decode cX11_weight 58 = .ok (.aload_n 0, 1) := by decide +kernel
theorem dX11_weight_59 : decode cX11_weight 59 = .ok (.getfield 47, 3) := by decide +kernel
theorem dX11_weight_62 : decode cX11_weight 62 = .ok (.iload_n 1, 1) := by decide +kernel
theorem dX11_weight_63 : decode cX11_weight 63 = .ok (.iload_n 2, 1) := by decide +kernel
theorem dX11_weight_64 : decode cX11_weight 64 = .ok (.iload_n 3, 1) := by decide +kernel
theorem dX11_weight_65 : decode cX11_weight 65 = .ok (.iload 4, 2) := by decide +kernel
theorem dX11_weight_67 : decode cX11_weight 67 = .ok (.invokestatic 87, 3) := by decide +kernel
theorem dX11_weight_70 : decode cX11_weight 70 = .ok (.iaload, 1) := by decide +kernel
theorem dX11_weight_71 : decode cX11_weight 71 = .ok (.goto 5, 3) := by decide +kernel
theorem dX11_weight_74 : decode cX11_weight 74 = .ok (.ldc 212, 2) := by decide +kernel
theorem dX11_weight_76 : decode cX11_weight 76 = .ok (.ireturn, 1) := by decide +kernel
theorem dX11_slot_0 : decode cX11_slot 0 = .ok (.aload_n 0, 1) := by decide +kernel
theorem dX11_slot_1 : decode cX11_slot 1 = .ok (.iconst 0, 1) := by decide +kernel
theorem dX11_slot_2 : decode cX11_slot 2 = .ok (.putfield 77, 3) := by decide +kernel
theorem dX11_slot_5 : decode cX11_slot 5 = .ok (.iload_n 1, 1) := by decide +kernel
theorem dX11_slot_6 : decode cX11_slot 6 = .ok (.invokestatic 209, 3) := by decide +kernel
theorem dX11_slot_9 : decode cX11_slot 9 = .ok (.ifCond .ne 5, 3) := by decide +kernel
theorem dX11_slot_12 : decode cX11_slot 12 = .ok (.iconst (-1), 1) := by decide +kernel
theorem dX11_slot_13 : decode cX11_slot 13 = .ok (.ireturn, 1) := by decide +kernel
theorem dX11_slot_14 : decode cX11_slot 14 = .ok (.aload_n 0, 1) := by decide +kernel
theorem dX11_slot_15 : decode cX11_slot 15 = .ok (.iload_n 2, 1) := by decide +kernel
theorem dX11_slot_16 : decode cX11_slot 16 = .ok (.ifCond .lt 13, 3) := by decide +kernel
theorem dX11_slot_19 : decode cX11_slot 19 = .ok (.iload_n 2, 1) := by decide +kernel
theorem dX11_slot_20 : decode cX11_slot 20 = .ok (.iconst 1, 1) := by decide +kernel
theorem dX11_slot_21 : decode cX11_slot 21 = .ok (.aload_n 0, 1) := by decide +kernel
theorem dX11_slot_22 : decode cX11_slot 22 = .ok (.getfield 66, 3) := by decide +kernel
theorem dX11_slot_25 : decode cX11_slot 25 = .ok (.ishl, 1) := by decide +kernel
theorem dX11_slot_26 : decode cX11_slot 26 = .ok (.if_icmp .lt 7, 3) := by decide +kernel
theorem dX11_slot_29 : decode cX11_slot 29 = .ok (.iconst 1, 1) := by decide +kernel
theorem dX11_slot_30 : decode cX11_slot 30 = .ok (.goto 4, 3) := by decide +kernel
theorem dX11_slot_33 : decode cX11_slot 33 = .ok (.iconst 0, 1) := by decide +kernel
theorem dX11_slot_34 : decode cX11_slot 34 = .ok (.putfield 77, 3) := by decide +kernel
theorem dX11_slot_37 : decode cX11_slot 37 = .ok (.aload_n 0, 1) := by decide +kernel
theorem dX11_slot_38 : decode cX11_slot 38 = .ok (.getfield 77, 3) := by decide +kernel
theorem dX11_slot_41 : decode cX11_slot 41 = .ok (.ifCond .le 7, 3) := by decide +kernel
theorem dX11_slot_44 : decode cX11_slot 44 = .ok (.iconst 0, 1) := by decide +kernel
theorem dX11_slot_45 : decode cX11_slot 45 = .ok (.goto 15, 3) := by decide +kernel
theorem dX11_slot_48 : decode cX11_slot 48 = .ok (.aload_n 0, 1) := by decide +kernel
theorem dX11_slot_49 : decode cX11_slot 49 = .ok (.getfield 41, 3) := by decide +kernel
theorem dX11_slot_52 : decode cX11_slot 52 = .ok (.sipush 4096, 3) := by decide +kernel
theorem dX11_slot_55 : decode cX11_slot 55 = .ok (.iload_n 1, 1) := by decide +kernel
theorem dX11_slot_56 : decode cX11_slot 56 = .ok (.imul, 1) := by decide +kernel
theorem dX11_slot_57 : decode cX11_slot 57 = .ok (.iload_n 2, 1) := by decide +kernel
theorem dX11_slot_58 : decode cX11_slot 58 = .ok (.iadd, 1) := by decide +kernel
theorem dX11_slot_59 : decode cX11_slot 59 = .ok (.iaload, 1) := by decide +kernel
theorem dX11_slot_60 : decode cX11_slot 60 = .ok (.ireturn, 1) := by decide +kernel
theorem dX11_seen_0 : decode cX11_seen 0 = .ok (.aload_n 0, 1) := by decide +kernel
theorem dX11_seen_1 : decode cX11_seen 1 = .ok (.iconst 0, 1) := by decide +kernel
theorem dX11_seen_2 : decode cX11_seen 2 = .ok (.putfield 77, 3) := by decide +kernel
theorem dX11_seen_5 : decode cX11_seen 5 = .ok (.iload_n 1, 1) := by decide +kernel
theorem dX11_seen_6 : decode cX11_seen 6 = .ok (.invokestatic 209, 3) := by decide +kernel
theorem dX11_seen_9 : decode cX11_seen 9 = .ok (.ifCond .eq 17, 3) := by decide +kernel
theorem dX11_seen_12 : decode cX11_seen 12 = .ok (.iload_n 2, 1) := by decide +kernel
theorem dX11_seen_13 : decode cX11_seen 13 = .ok (.ifCond .lt 13, 3) := by decide +kernel
theorem dX11_seen_16 : decode cX11_seen 16 = .ok (.iload_n 2, 1) := by decide +kernel
theorem dX11_seen_17 : decode cX11_seen 17 = .ok (.iconst 1, 1) := by decide +kernel
theorem dX11_seen_18 : decode cX11_seen 18 = .ok (.aload_n 0, 1) := by decide +kernel
theorem dX11_seen_19 : decode cX11_seen 19 = .ok (.getfield 66, 3) := by decide +kernel
theorem dX11_seen_22 : decode cX11_seen 22 = .ok (.ishl, 1) := by decide +kernel
theorem dX11_seen_23 : decode cX11_seen 23 = .ok (.if_icmp .lt 7, 3) := by decide +kernel
theorem dX11_seen_26 : decode cX11_seen 26 = .ok (.iconst (-1), 1) := by decide +kernel
theorem dX11_seen_27 : decode cX11_seen 27 = .ok (.goto 15, 3) := by decide +kernel
theorem dX11_seen_30 : decode cX11_seen 30 = .ok (.aload_n 0, 1) := by decide +kernel
theorem dX11_seen_31 : decode cX11_seen 31 = .ok (.getfield 44, 3) := by decide +kernel
theorem dX11_seen_34 : decode cX11_seen 34 = .ok (.sipush 4096, 3) := by decide +kernel
theorem dX11_seen_37 : decode cX11_seen 37 = .ok (.iload_n 1, 1) := by decide +kernel
theorem dX11_seen_38 : decode cX11_seen 38 = .ok (.imul, 1) := by decide +kernel
theorem dX11_seen_39 : decode cX11_seen 39 = .ok (.iload_n 2, 1) := by decide +kernel
theorem dX11_seen_40 : decode cX11_seen 40 = .ok (.iadd, 1) := by decide +kernel
theorem dX11_seen_41 : decode cX11_seen 41 = .ok (.iaload, 1) := by decide +kernel
theorem dX11_seen_42 : decode cX11_seen 42 = .ok (.ireturn, 1) := by decide +kernel
theorem dX11_cell_0 : decode cX11_cell 0 = .ok (.aload_n 0, 1) := by decide +kernel
theorem dX11_cell_1 : decode cX11_cell 1 = .ok (.iconst 0, 1) := by decide +kernel
theorem dX11_cell_2 : decode cX11_cell 2 = .ok (.putfield 77, 3) := by decide +kernel
theorem dX11_cell_5 : decode cX11_cell 5 = .ok (.iload_n 1, 1) := by decide +kernel
theorem dX11_cell_6 : decode cX11_cell 6 = .ok (.invokestatic 209, 3) := by decide +kernel
theorem dX11_cell_9 : decode cX11_cell 9 = .ok (.ifCond .eq 24, 3) := by decide +kernel
theorem dX11_cell_12 : decode cX11_cell 12 = .ok (.iload_n 2, 1) := by decide +kernel
theorem dX11_cell_13 : decode cX11_cell 13 = .ok (.ifCond .lt 20, 3) := by decide +kernel
theorem dX11_cell_16 : decode cX11_cell 16 = .ok (.iload_n 2, 1) := by decide +kernel
theorem dX11_cell_17 : decode cX11_cell 17 = .ok (.sipush 255, 3) := by decide +kernel
theorem dX11_cell_20 : decode cX11_cell 20 = .ok (.if_icmp .gt 13, 3) := by decide +kernel
theorem dX11_cell_23 : decode cX11_cell 23 = .ok (.iload_n 3, 1) := by decide +kernel
theorem dX11_cell_24 : decode cX11_cell 24 = .ok (.ifCond .lt 9, 3) := by decide +kernel
theorem dX11_cell_27 : decode cX11_cell 27 = .ok (.iload_n 3, 1) := by decide +kernel
theorem dX11_cell_28 : decode cX11_cell 28 = .ok (.bipush 32, 2) := by decide +kernel
theorem dX11_cell_30 : decode cX11_cell 30 = .ok (.if_icmp .le 6, 3) := by decide +kernel
theorem dX11_cell_33 : decode cX11_cell 33 = .ok (.ldc 213, 2) := by decide +kernel
theorem dX11_cell_35 : decode cX11_cell 35 = .ok (.ireturn, 1) := by decide +kernel
theorem dX11_cell_36 : decode cX11_cell 36 = .ok (.aload_n 0, 1) := by decide +kernel
theorem dX11_cell_37 : decode cX11_cell 37 = .ok (.getfield 50, 3) := by decide +kernel
theorem dX11_cell_40 : decode cX11_cell 40 = .ok (.sipush 8448, 3) := by decide +kernel
theorem dX11_cell_43 : decode cX11_cell 43 = .ok (.iload_n 1, 1) := by decide +kernel
theorem dX11_cell_44 : decode cX11_cell 44 = .ok (.imul, 1) := by decide +kernel
theorem dX11_cell_45 : decode cX11_cell 45 = .ok (.bipush 33, 2) := by decide +kernel
theorem dX11_cell_47 : decode cX11_cell 47 = .ok (.iload_n 2, 1) := by decide +kernel
theorem dX11_cell_48 : decode cX11_cell 48 = .ok (.imul, 1) := by decide +kernel
theorem dX11_cell_49 : decode cX11_cell 49 = .ok (.iadd, 1) := by decide +kernel
theorem dX11_cell_50 : decode cX11_cell 50 = .ok (.iload_n 3, 1) := by decide +kernel
theorem dX11_cell_51 : decode cX11_cell 51 = .ok (.iadd, 1) := by decide +kernel
theorem dX11_cell_52 : decode cX11_cell 52 = .ok (.iaload, 1) := by decide +kernel
theorem dX11_cell_53 : decode cX11_cell 53 = .ok (.istore 4, 2) := by decide +kernel
theorem dX11_cell_55 : decode cX11_cell 55 = .ok (.iload 4, 2) := by decide +kernel
theorem dX11_cell_57 : decode cX11_cell 57 = .ok (.sipush 32767, 3) := by decide +kernel
theorem dX11_cell_60 : decode cX11_cell 60 = .ok (.if_icmp .le 11, 3) := by decide +kernel
theorem dX11_cell_63 : decode cX11_cell 63 = .ok (.iload 4, 2) := by decide +kernel
theorem dX11_cell_65 : decode cX11_cell 65 = .ok (.ldc 176, 2) := by decide +kernel
theorem dX11_cell_67 : decode cX11_cell 67 = .ok (.isub, 1) := by decide +kernel
theorem dX11_cell_68 : decode cX11_cell 68 = .ok (.goto 5, 3) := by decide +kernel
theorem dX11_cell_71 : decode cX11_cell 71 = .ok (.iload 4, 2) := by decide +kernel
theorem dX11_cell_73 : decode cX11_cell 73 = .ok (.ireturn, 1) := by decide +kernel
theorem dX11_equal_0 : decode cX11_equal 0 = .ok (.aload_n 0, 1) := by decide +kernel
theorem dX11_equal_1 : decode cX11_equal 1 = .ok (.iconst 0, 1) := by decide +kernel
theorem dX11_equal_2 : decode cX11_equal 2 = .ok (.putfield 77, 3) := by decide +kernel
theorem dX11_equal_5 : decode cX11_equal 5 = .ok (.aload_n 0, 1) := by decide +kernel
theorem dX11_equal_6 : decode cX11_equal 6 = .ok (.getfield 26, 3) := by decide +kernel
theorem dX11_equal_9 : decode cX11_equal 9 = .ok (.iconst 0, 1) := by decide +kernel
theorem dX11_equal_10 : decode cX11_equal 10 = .ok (.iaload, 1) := by decide +kernel
theorem dX11_equal_11 : decode cX11_equal 11 = .ok (.aload_n 0, 1) := by decide +kernel
theorem dX11_equal_12 : decode cX11_equal 12 = .ok (.getfield 26, 3) := by decide +kernel
theorem dX11_equal_15 : decode cX11_equal 15 = .ok (.iconst 1, 1) := by decide +kernel
theorem dX11_equal_16 : decode cX11_equal 16 = .ok (.iaload, 1) := by decide +kernel
theorem dX11_equal_17 : decode cX11_equal 17 = .ok (.if_icmp .ne 22, 3) := by decide +kernel
theorem dX11_equal_20 : decode cX11_equal 20 = .ok (.aload_n 0, 1) := by decide +kernel
theorem dX11_equal_21 : decode cX11_equal 21 = .ok (.getfield 29, 3) := by decide +kernel
theorem dX11_equal_24 : decode cX11_equal 24 = .ok (.iconst 0, 1) := by decide +kernel
theorem dX11_equal_25 : decode cX11_equal 25 = .ok (.iaload, 1) := by decide +kernel
theorem dX11_equal_26 : decode cX11_equal 26 = .ok (.aload_n 0, 1) := by decide +kernel
theorem dX11_equal_27 : decode cX11_equal 27 = .ok (.getfield 29, 3) := by decide +kernel
theorem dX11_equal_30 : decode cX11_equal 30 = .ok (.iconst 1, 1) := by decide +kernel
theorem dX11_equal_31 : decode cX11_equal 31 = .ok (.iaload, 1) := by decide +kernel
theorem dX11_equal_32 : decode cX11_equal 32 = .ok (.if_icmp .ne 7, 3) := by decide +kernel
theorem dX11_equal_35 : decode cX11_equal 35 = .ok (.iconst 1, 1) := by decide +kernel
theorem dX11_equal_36 : decode cX11_equal 36 = .ok (.goto 4, 3) := by decide +kernel
theorem dX11_equal_39 : decode cX11_equal 39 = .ok (.iconst 0, 1) := by decide +kernel
theorem dX11_equal_40 : decode cX11_equal 40 = .ok (.istore_n 1, 1) := by decide +kernel
theorem dX11_equal_41 : decode cX11_equal 41 = .ok (.iconst 0, 1) := by decide +kernel
theorem dX11_equal_42 : decode cX11_equal 42 = .ok (.istore_n 2, 1) := by decide +kernel
theorem dX11_equal_43 : decode cX11_equal 43 = .ok (.iload_n 2, 1) := by decide +kernel
theorem dX11_equal_44 : decode cX11_equal 44 = .ok (.aload_n 0, 1) := by decide +kernel
theorem dX11_equal_45 : decode cX11_equal 45 = .ok (.getfield 26, 3) := by decide +kernel
theorem dX11_equal_48 : decode cX11_equal 48 = .ok (.iconst 0, 1) := by decide +kernel
theorem dX11_equal_49 : decode cX11_equal 49 = .ok (.iaload, 1) := by decide +kernel
theorem dX11_equal_50 : decode cX11_equal 50 = .ok (.if_icmp .ge 38, 3) := by decide +kernel
theorem dX11_equal_53 : decode cX11_equal 53 = .ok (.iload_n 1, 1) := by decide +kernel
theorem dX11_equal_54 : decode cX11_equal 54 = .ok (.ifCond .eq 34, 3) := by decide +kernel
theorem dX11_equal_57 : decode cX11_equal 57 = .ok (.aload_n 0, 1) := by decide +kernel
theorem dX11_equal_58 : decode cX11_equal 58 = .ok (.getfield 23, 3) := by decide +kernel
theorem dX11_equal_61 : decode cX11_equal 61 = .ok (.iload_n 2, 1) := by decide +kernel
theorem dX11_equal_62 : decode cX11_equal 62 = .ok (.iaload, 1) := by decide +kernel
theorem dX11_equal_63 : decode cX11_equal 63 = .ok (.aload_n 0, 1) := by decide +kernel
theorem dX11_equal_64 : decode cX11_equal 64 = .ok (.getfield 23, 3) := by decide +kernel
theorem dX11_equal_67 : decode cX11_equal 67 = .ok (.sipush 2050, 3) := by decide +kernel
theorem dX11_equal_70 : decode cX11_equal 70 = .ok (.iload_n 2, 1) := by decide +kernel
theorem dX11_equal_71 : decode cX11_equal 71 = .ok (.iadd, 1) := by decide +kernel
theorem dX11_equal_72 : decode cX11_equal 72 = .ok (.iaload, 1) := by decide +kernel
theorem dX11_equal_73 : decode cX11_equal 73 = .ok (.if_icmp .ne 7, 3) := by decide +kernel
theorem dX11_equal_76 : decode cX11_equal 76 = .ok (.iconst 1, 1) := by decide +kernel
theorem dX11_equal_77 : decode cX11_equal 77 = .ok (.goto 4, 3) := by decide +kernel
theorem dX11_equal_80 : decode cX11_equal 80 = .ok (.iconst 0, 1) := by decide +kernel
theorem dX11_equal_81 : decode cX11_equal 81 = .ok (.istore_n 1, 1) := by decide +kernel
theorem dX11_equal_82 : decode cX11_equal 82 = .ok (.iinc 2 1, 3) := by decide +kernel
theorem dX11_equal_85 : decode cX11_equal 85 = .ok (.goto (-42), 3) := by decide +kernel
theorem dX11_equal_88 : decode cX11_equal 88 = .ok (.iconst 0, 1) := by decide +kernel
theorem dX11_equal_89 : decode cX11_equal 89 = .ok (.istore_n 2, 1) := by decide +kernel
theorem dX11_equal_90 : decode cX11_equal 90 = .ok (.iload_n 2, 1) := by decide +kernel
theorem dX11_equal_91 : decode cX11_equal 91 = .ok (.sipush 4096, 3) := by decide +kernel
theorem dX11_equal_94 : decode cX11_equal 94 = .ok (.if_icmp .ge 57, 3) := by decide +kernel
theorem dX11_equal_97 : decode cX11_equal 97 = .ok (.iload_n 1, 1) := by decide +kernel
theorem dX11_equal_98 : decode cX11_equal 98 = .ok (.ifCond .eq 53, 3) := by decide +kernel
theorem dX11_equal_101 : decode cX11_equal 101 = .ok (.aload_n 0, 1) := by decide +kernel
theorem dX11_equal_102 : decode cX11_equal 102 = .ok (.getfield 41, 3) := by decide +kernel
theorem dX11_equal_105 : decode cX11_equal 105 = .ok (.iload_n 2, 1) := by decide +kernel
theorem dX11_equal_106 : decode cX11_equal 106 = .ok (.iaload, 1) := by decide +kernel
theorem dX11_equal_107 : decode cX11_equal 107 = .ok (.aload_n 0, 1) := by decide +kernel
theorem dX11_equal_108 : decode cX11_equal 108 = .ok (.getfield 41, 3) := by decide +kernel
theorem dX11_equal_111 : decode cX11_equal 111 = .ok (.sipush 4096, 3) := by decide +kernel
theorem dX11_equal_114 : decode cX11_equal 114 = .ok (.iload_n 2, 1) := by decide +kernel
theorem dX11_equal_115 : decode cX11_equal 115 = .ok (.iadd, 1) := by decide +kernel
theorem dX11_equal_116 : decode cX11_equal 116 = .ok (.iaload, 1) := by decide +kernel
theorem dX11_equal_117 : decode cX11_equal 117 = .ok (.if_icmp .ne 26, 3) := by decide +kernel
theorem dX11_equal_120 : decode cX11_equal 120 = .ok (.aload_n 0, 1) := by decide +kernel
theorem dX11_equal_121 : decode cX11_equal 121 = .ok (.getfield 44, 3) := by decide +kernel
theorem dX11_equal_124 : decode cX11_equal 124 = .ok (.iload_n 2, 1) := by decide +kernel
theorem dX11_equal_125 : decode cX11_equal 125 = .ok (.iaload, 1) := by decide +kernel
theorem dX11_equal_126 : decode cX11_equal 126 = .ok (.aload_n 0, 1) := by decide +kernel
theorem dX11_equal_127 : decode cX11_equal 127 = .ok (.getfield 44, 3) := by decide +kernel
theorem dX11_equal_130 : decode cX11_equal 130 = .ok (.sipush 4096, 3) := by decide +kernel
theorem dX11_equal_133 : decode cX11_equal 133 = .ok (.iload_n 2, 1) := by decide +kernel
theorem dX11_equal_134 : decode cX11_equal 134 = .ok (.iadd, 1) := by decide +kernel
theorem dX11_equal_135 : decode cX11_equal 135 = .ok (.iaload, 1) := by decide +kernel
theorem dX11_equal_136 : decode cX11_equal 136 = .ok (.if_icmp .ne 7, 3) := by decide +kernel
theorem dX11_equal_139 : decode cX11_equal 139 = .ok (.iconst 1, 1) := by decide +kernel
theorem dX11_equal_140 : decode cX11_equal 140 = .ok (.goto 4, 3) := by decide +kernel
theorem dX11_equal_143 : decode cX11_equal 143 = .ok (.iconst 0, 1) := by decide +kernel
theorem dX11_equal_144 : decode cX11_equal 144 = .ok (.istore_n 1, 1) := by decide +kernel
theorem dX11_equal_145 : decode cX11_equal 145 = .ok (.iinc 2 1, 3) := by decide +kernel
theorem dX11_equal_148 : decode cX11_equal 148 = .ok (.goto (-58), 3) := by decide +kernel
theorem dX11_equal_151 : decode cX11_equal 151 = .ok (.iconst 0, 1) := by decide +kernel
theorem dX11_equal_152 : decode cX11_equal 152 = .ok (.istore_n 2, 1) := by decide +kernel
theorem dX11_equal_153 : decode cX11_equal 153 = .ok (.iload_n 2, 1) := by decide +kernel
theorem dX11_equal_154 : decode cX11_equal 154 = .ok (.sipush 4608, 3) := by decide +kernel
theorem dX11_equal_157 : decode cX11_equal 157 = .ok (.if_icmp .ge 38, 3) := by decide +kernel
theorem dX11_equal_160 : decode cX11_equal 160 = .ok (.iload_n 1, 1) := by decide +kernel
theorem dX11_equal_161 : decode cX11_equal 161 = .ok (.ifCond .eq 34, 3) := by decide +kernel
theorem dX11_equal_164 : decode cX11_equal 164 = .ok (.aload_n 0, 1) := by decide +kernel
theorem dX11_equal_165 : decode cX11_equal 165 = .ok (.getfield 47, 3) := by decide +kernel
theorem dX11_equal_168 : decode cX11_equal 168 = .ok (.iload_n 2, 1) := by decide +kernel
theorem dX11_equal_169 : decode cX11_equal 169 = .ok (.iaload, 1) := by decide +kernel
theorem dX11_equal_170 : decode cX11_equal 170 = .ok (.aload_n 0, 1) := by decide +kernel
theorem dX11_equal_171 : decode cX11_equal 171 = .ok (.getfield 47, 3) := by decide +kernel
theorem dX11_equal_174 : decode cX11_equal 174 = .ok (.sipush 4608, 3) := by decide +kernel
theorem dX11_equal_177 : decode cX11_equal 177 = .ok (.iload_n 2, 1) := by decide +kernel
theorem dX11_equal_178 : decode cX11_equal 178 = .ok (.iadd, 1) := by decide +kernel
theorem dX11_equal_179 : decode cX11_equal 179 = .ok (.iaload, 1) := by decide +kernel
theorem dX11_equal_180 : decode cX11_equal 180 = .ok (.if_icmp .ne 7, 3) := by decide +kernel
theorem dX11_equal_183 : decode cX11_equal 183 = .ok (.iconst 1, 1) := by decide +kernel
theorem dX11_equal_184 : decode cX11_equal 184 = .ok (.goto 4, 3) := by decide +kernel
theorem dX11_equal_187 : decode cX11_equal 187 = .ok (.iconst 0, 1) := by decide +kernel
theorem dX11_equal_188 : decode cX11_equal 188 = .ok (.istore_n 1, 1) := by decide +kernel
theorem dX11_equal_189 : decode cX11_equal 189 = .ok (.iinc 2 1, 3) := by decide +kernel
theorem dX11_equal_192 : decode cX11_equal 192 = .ok (.goto (-39), 3) := by decide +kernel
theorem dX11_equal_195 : decode cX11_equal 195 = .ok (.iconst 0, 1) := by decide +kernel
theorem dX11_equal_196 : decode cX11_equal 196 = .ok (.istore_n 2, 1) := by decide +kernel
theorem dX11_equal_197 : decode cX11_equal 197 = .ok (.iload_n 2, 1) := by decide +kernel
theorem dX11_equal_198 : decode cX11_equal 198 = .ok (.sipush 8448, 3) := by decide +kernel
theorem dX11_equal_201 : decode cX11_equal 201 = .ok (.if_icmp .ge 38, 3) := by decide +kernel
theorem dX11_equal_204 : decode cX11_equal 204 = .ok (.iload_n 1, 1) := by decide +kernel
theorem dX11_equal_205 : decode cX11_equal 205 = .ok (.ifCond .eq 34, 3) := by decide +kernel
theorem dX11_equal_208 : decode cX11_equal 208 = .ok (.aload_n 0, 1) := by decide +kernel
theorem dX11_equal_209 : decode cX11_equal 209 = .ok (.getfield 50, 3) := by decide +kernel
theorem dX11_equal_212 : decode cX11_equal 212 = .ok (.iload_n 2, 1) := by decide +kernel
theorem dX11_equal_213 : decode cX11_equal 213 = .ok (.iaload, 1) := by decide +kernel
theorem dX11_equal_214 : decode cX11_equal 214 = .ok (.aload_n 0, 1) := by decide +kernel
theorem dX11_equal_215 : decode cX11_equal 215 = .ok (.getfield 50, 3) := by decide +kernel
theorem dX11_equal_218 : decode cX11_equal 218 = .ok (.sipush 8448, 3) := by decide +kernel
theorem dX11_equal_221 : decode cX11_equal 221 = .ok (.iload_n 2, 1) := by decide +kernel
theorem dX11_equal_222 : decode cX11_equal 222 = .ok (.iadd, 1) := by decide +kernel
theorem dX11_equal_223 : decode cX11_equal 223 = .ok (.iaload, 1) := by decide +kernel
theorem dX11_equal_224 : decode cX11_equal 224 = .ok (.if_icmp .ne 7, 3) := by decide +kernel
theorem dX11_equal_227 : decode cX11_equal 227 = .ok (.iconst 1, 1) := by decide +kernel
theorem dX11_equal_228 : decode cX11_equal 228 = .ok (.goto 4, 3) := by decide +kernel
theorem dX11_equal_231 : decode cX11_equal 231 = .ok (.iconst 0, 1) := by decide +kernel
theorem dX11_equal_232 : decode cX11_equal 232 = .ok (.istore_n 1, 1) := by decide +kernel
theorem dX11_equal_233 : decode cX11_equal 233 = .ok (.iinc 2 1, 3) := by decide +kernel
theorem dX11_equal_236 : decode cX11_equal 236 = .ok (.goto (-39), 3) := by decide +kernel
theorem dX11_equal_239 : decode cX11_equal 239 = .ok (.iload_n 1, 1) := by decide +kernel
theorem dX11_equal_240 : decode cX11_equal 240 = .ok (.ifCond .eq 7, 3) := by decide +kernel
theorem dX11_equal_243 : decode cX11_equal 243 = .ok (.iconst 1, 1) := by decide +kernel
theorem dX11_equal_244 : decode cX11_equal 244 = .ok (.goto 4, 3) := by decide +kernel
theorem dX11_equal_247 : decode cX11_equal 247 = .ok (.iconst 0, 1) := by decide +kernel
theorem dX11_equal_248 : decode cX11_equal 248 = .ok (.ireturn, 1) := by decide +kernel
theorem dX11_count_0 : decode cX11_count 0 = .ok (.aload_n 0, 1) := by decide +kernel
theorem dX11_count_1 : decode cX11_count 1 = .ok (.iconst 0, 1) := by decide +kernel
theorem dX11_count_2 : decode cX11_count 2 = .ok (.putfield 77, 3) := by decide +kernel
theorem dX11_count_5 : decode cX11_count 5 = .ok (.iload_n 1, 1) := by decide +kernel
theorem dX11_count_6 : decode cX11_count 6 = .ok (.tableswitch 100 0 7 #[46, 51, 58, 63, 68, 75, 82, 95], 46) := by decide +kernel
theorem dX11_count_52 : decode cX11_count 52 = .ok (.aload_n 0, 1) := by decide +kernel
theorem dX11_count_53 : decode cX11_count 53 = .ok (.getfield 91, 3) := by decide +kernel
theorem dX11_count_56 : decode cX11_count 56 = .ok (.ireturn, 1) := by decide +kernel
theorem dX11_count_57 : decode cX11_count 57 = .ok (.aload_n 0, 1) := by decide +kernel
theorem dX11_count_58 : decode cX11_count 58 = .ok (.getfield 26, 3) := by decide +kernel
theorem dX11_count_61 : decode cX11_count 61 = .ok (.iconst 0, 1) := by decide +kernel
theorem dX11_count_62 : decode cX11_count 62 = .ok (.iaload, 1) := by decide +kernel
theorem dX11_count_63 : decode cX11_count 63 = .ok (.ireturn, 1) := by decide +kernel
theorem dX11_count_64 : decode cX11_count 64 = .ok (.aload_n 0, 1) := by decide +kernel
theorem dX11_count_65 : decode cX11_count 65 = .ok (.getfield 107, 3) := by decide +kernel
theorem dX11_count_68 : decode cX11_count 68 = .ok (.ireturn, 1) := by decide +kernel
theorem dX11_count_69 : decode cX11_count 69 = .ok (.aload_n 0, 1) := by decide +kernel
theorem dX11_count_70 : decode cX11_count 70 = .ok (.getfield 104, 3) := by decide +kernel
theorem dX11_count_73 : decode cX11_count 73 = .ok (.ireturn, 1) := by decide +kernel
theorem dX11_count_74 : decode cX11_count 74 = .ok (.aload_n 0, 1) := by decide +kernel
theorem dX11_count_75 : decode cX11_count 75 = .ok (.getfield 26, 3) := by decide +kernel
theorem dX11_count_78 : decode cX11_count 78 = .ok (.iconst 1, 1) := by decide +kernel
theorem dX11_count_79 : decode cX11_count 79 = .ok (.iaload, 1) := by decide +kernel
theorem dX11_count_80 : decode cX11_count 80 = .ok (.ireturn, 1) := by decide +kernel
theorem dX11_count_81 : decode cX11_count 81 = .ok (.iconst 1, 1) := by decide +kernel
theorem dX11_count_82 : decode cX11_count 82 = .ok (.aload_n 0, 1) := by decide +kernel
theorem dX11_count_83 : decode cX11_count 83 = .ok (.getfield 66, 3) := by decide +kernel
theorem dX11_count_86 : decode cX11_count 86 = .ok (.ishl, 1) := by decide +kernel
theorem dX11_count_87 : decode cX11_count 87 = .ok (.ireturn, 1) := by decide +kernel
theorem dX11_count_88 : decode cX11_count 88 = .ok (.aload_n 0, 1) := by decide +kernel
theorem dX11_count_89 : decode cX11_count 89 = .ok (.getfield 110, 3) := by decide +kernel
theorem dX11_count_92 : decode cX11_count 92 = .ok (.ifCond .eq 7, 3) := by decide +kernel
theorem dX11_count_95 : decode cX11_count 95 = .ok (.iconst 1, 1) := by decide +kernel
theorem dX11_count_96 : decode cX11_count 96 = .ok (.goto 4, 3) := by decide +kernel
theorem dX11_count_99 : decode cX11_count 99 = .ok (.iconst 0, 1) := by decide +kernel
theorem dX11_count_100 : decode cX11_count 100 = .ok (.ireturn, 1) := by decide +kernel
theorem dX11_count_101 : decode cX11_count 101 = .ok (.aload_n 0, 1) := by decide +kernel
theorem dX11_count_102 : decode cX11_count 102 = .ok (.invokevirtual 214, 3) := by decide +kernel
theorem dX11_count_105 : decode cX11_count 105 = .ok (.ireturn, 1) := by decide +kernel
theorem dX11_count_106 : decode cX11_count 106 = .ok (.iconst (-1), 1) := by decide +kernel
theorem dX11_count_107 : decode cX11_count 107 = .ok (.ireturn, 1) := by decide +kernel
theorem dX11_firstLength_0 : decode cX11_firstLength 0 = .ok (.iconst 0, 1) := by decide +kernel
theorem dX11_firstLength_1 : decode cX11_firstLength 1 = .ok (.istore_n 1, 1) := by decide +kernel
theorem dX11_firstLength_2 : decode cX11_firstLength 2 = .ok (.iload_n 1, 1) := by decide +kernel
theorem dX11_firstLength_3 : decode cX11_firstLength 3 = .ok (.aload_n 0, 1) := by decide +kernel
theorem dX11_firstLength_4 : decode cX11_firstLength 4 = .ok (.getfield 91, 3) := by decide +kernel
theorem dX11_firstLength_7 : decode cX11_firstLength 7 = .ok (.if_icmp .ge 26, 3) := by decide +kernel
theorem dX11_firstLength_10 : decode cX11_firstLength 10 = .ok (.aload_n 0, 1) := by decide +kernel
theorem dX11_firstLength_11 : decode cX11_firstLength 11 = .ok (.getfield 13, 3) := by decide +kernel
theorem dX11_firstLength_14 : decode cX11_firstLength 14 = .ok (.iload_n 1, 1) := by decide +kernel
theorem dX11_firstLength_15 : decode cX11_firstLength 15 = .ok (.iaload, 1) := by decide +kernel
theorem dX11_firstLength_16 : decode cX11_firstLength 16 = .ok (.iconst 4, 1) := by decide +kernel
theorem dX11_firstLength_17 : decode cX11_firstLength 17 = .ok (.if_icmp .ne 10, 3) := by decide +kernel
theorem dX11_firstLength_20 : decode cX11_firstLength 20 = .ok (.aload_n 0, 1) := by decide +kernel
theorem dX11_firstLength_21 : decode cX11_firstLength 21 = .ok (.getfield 38, 3) := by decide +kernel
theorem dX11_firstLength_24 : decode cX11_firstLength 24 = .ok (.iload_n 1, 1) := by decide +kernel
theorem dX11_firstLength_25 : decode cX11_firstLength 25 = .ok (.iaload, 1) := by decide +kernel
theorem dX11_firstLength_26 : decode cX11_firstLength 26 = .ok (.ireturn, 1) := by decide +kernel
theorem dX11_firstLength_27 : decode cX11_firstLength 27 = .ok (.iinc 1 1, 3) := by decide +kernel
theorem dX11_firstLength_30 : decode cX11_firstLength 30 = .ok (.goto (-28), 3) := by decide +kernel
theorem dX11_firstLength_33 : decode cX11_firstLength 33 = .ok (.iconst 0, 1) := by decide +kernel
theorem dX11_firstLength_34 : decode cX11_firstLength 34 = .ok (.ireturn, 1) := by decide +kernel
end
section
theorem dL_cell_0 : decode cL_cell 0 = .ok (.iload_n 1, 1) := by decide +kernel
theorem dL_cell_1 : decode cL_cell 1 = .ok (.aload_n 0, 1) := by decide +kernel
theorem dL_cell_2 : decode cL_cell 2 = .ok (.arraylength, 1) := by decide +kernel
theorem dL_cell_3 : decode cL_cell 3 = .ok (.if_icmp .ge 9, 3) := by decide +kernel
theorem dL_cell_6 : decode cL_cell 6 = .ok (.aload_n 0, 1) := by decide +kernel
theorem dL_cell_7 : decode cL_cell 7 = .ok (.iload_n 1, 1) := by decide +kernel
theorem dL_cell_8 : decode cL_cell 8 = .ok (.iaload, 1) := by decide +kernel
theorem dL_cell_9 : decode cL_cell 9 = .ok (.goto 4, 3) := by decide +kernel
theorem dL_cell_12 : decode cL_cell 12 = .ok (.iconst 0, 1) := by decide +kernel
theorem dL_cell_13 : decode cL_cell 13 = .ok (.ireturn, 1) := by decide +kernel
theorem dL_slot_0 : decode cL_slot 0 = .ok (.aload_n 3, 1) := by decide +kernel
theorem dL_slot_1 : decode cL_slot 1 = .ok (.iconst 0, 1) := by decide +kernel
theorem dL_slot_2 : decode cL_slot 2 = .ok (.aload_n 0, 1) := by decide +kernel
theorem dL_slot_3 : decode cL_slot 3 = .ok (.iload_n 1, 1) := by decide +kernel
theorem dL_slot_4 : decode cL_slot 4 = .ok (.iload_n 2, 1) := by decide +kernel
theorem dL_slot_5 : decode cL_slot 5 = .ok (.invokevirtual 7, 3) := by decide +kernel
theorem dL_slot_8 : decode cL_slot 8 = .ok (.i2l, 1) := by decide +kernel
theorem dL_slot_9 : decode cL_slot 9 = .ok (.lastore, 1) := by decide +kernel
theorem dL_slot_10 : decode cL_slot 10 = .ok (.goto 7, 3) := by decide +kernel
theorem dL_slot_13 : decode cL_slot 13 = .ok (.astore 4, 2) := by decide +kernel
theorem dL_slot_15 : decode cL_slot 15 = .ok (.iconst 1, 1) := by decide +kernel
theorem dL_slot_16 : decode cL_slot 16 = .ok (.ireturn, 1) := by decide +kernel
theorem dL_slot_17 : decode cL_slot 17 = .ok (.iconst 0, 1) := by decide +kernel
theorem dL_slot_18 : decode cL_slot 18 = .ok (.ireturn, 1) := by decide +kernel
theorem dL_law_0 : decode cL_law 0 = .ok (.new 8, 3) := by decide +kernel
theorem dL_law_3 : decode cL_law 3 = .ok (.dup, 1) := by decide +kernel
theorem dL_law_4 : decode cL_law 4 = .ok (.aload_n 0, 1) := by decide +kernel
theorem dL_law_5 : decode cL_law 5 = .ok (.iconst 0, 1) := by decide +kernel
theorem dL_law_6 : decode cL_law 6 = .ok (.invokestatic 15, 3) := by decide +kernel
theorem dL_law_9 : decode cL_law 9 = .ok (.invokespecial 21, 3) := by decide +kernel
theorem dL_law_12 : decode cL_law 12 = .ok (.astore_n 1, 1) := by decide +kernel
theorem dL_law_13 : decode cL_law 13 = .ok (.new 24, 3) := by decide +kernel
theorem dL_law_16 : decode cL_law 16 = .ok (.dup, 1) := by decide +kernel
theorem dL_law_17 : decode cL_law 17 = .ok (.aload_n 0, 1) := by decide +kernel
theorem dL_law_18 : decode cL_law 18 = .ok (.iconst 0, 1) := by decide +kernel
theorem dL_law_19 : decode cL_law 19 = .ok (.invokestatic 15, 3) := by decide +kernel
theorem dL_law_22 : decode cL_law 22 = .ok (.invokespecial 26, 3) := by decide +kernel
theorem dL_law_25 : decode cL_law 25 = .ok (.astore_n 2, 1) := by decide +kernel
theorem dL_law_26 : decode cL_law 26 = .ok (.iconst 1, 1) := by decide +kernel
theorem dL_law_27 : decode cL_law 27 = .ok (.newarray .long, 2) := by decide +kernel
theorem dL_law_29 : decode cL_law 29 = .ok (.astore_n 3, 1) := by decide +kernel
theorem dL_law_30 : decode cL_law 30 = .ok (.iconst 1, 1) := by decide +kernel
theorem dL_law_31 : decode cL_law 31 = .ok (.istore 4, 2) := by decide +kernel
theorem dL_law_33 : decode cL_law 33 = .ok (.iload 4, 2) := by decide +kernel
theorem dL_law_35 : decode cL_law 35 = .ok (.aload_n 0, 1) := by decide +kernel
theorem dL_law_36 : decode cL_law 36 = .ok (.arraylength, 1) := by decide +kernel
theorem dL_law_37 : decode cL_law 37 = .ok (.iconst 5, 1) := by decide +kernel
theorem dL_law_38 : decode cL_law 38 = .ok (.isub, 1) := by decide +kernel
theorem dL_law_39 : decode cL_law 39 = .ok (.if_icmp .gt 718, 3) := by decide +kernel
theorem dL_law_42 : decode cL_law 42 = .ok (.aload_n 0, 1) := by decide +kernel
theorem dL_law_43 : decode cL_law 43 = .ok (.iload 4, 2) := by decide +kernel
theorem dL_law_45 : decode cL_law 45 = .ok (.iaload, 1) := by decide +kernel
theorem dL_law_46 : decode cL_law 46 = .ok (.bipush 31, 2) := by decide +kernel
theorem dL_law_48 : decode cL_law 48 = .ok (.iand, 1) := by decide +kernel
theorem dL_law_49 : decode cL_law 49 = .ok (.tableswitch 702 0 19 #[95, 132, 157, 198, 223, 236, 249, 262, 275, 300, 337, 362, 399, 460, 528, 565, 614, 639, 664, 677], 95) := by decide +kernel
theorem dL_law_144 : decode cL_law 144 = .ok (.aload_n 1, 1) := by decide +kernel
theorem dL_law_145 : decode cL_law 145 = .ok (.aload_n 0, 1) := by decide +kernel
theorem dL_law_146 : decode cL_law 146 = .ok (.iload 4, 2) := by decide +kernel
theorem dL_law_148 : decode cL_law 148 = .ok (.iconst 1, 1) := by decide +kernel
theorem dL_law_149 : decode cL_law 149 = .ok (.iadd, 1) := by decide +kernel
theorem dL_law_150 : decode cL_law 150 = .ok (.iaload, 1) := by decide +kernel
theorem dL_law_151 : decode cL_law 151 = .ok (.aload_n 0, 1) := by decide +kernel
theorem dL_law_152 : decode cL_law 152 = .ok (.iload 4, 2) := by decide +kernel
theorem dL_law_154 : decode cL_law 154 = .ok (.iconst 2, 1) := by decide +kernel
theorem dL_law_155 : decode cL_law 155 = .ok (.iadd, 1) := by decide +kernel
theorem dL_law_156 : decode cL_law 156 = .ok (.iaload, 1) := by decide +kernel
theorem dL_law_157 : decode cL_law 157 = .ok (.invokevirtual 27, 3) := by decide +kernel
theorem dL_law_160 : decode cL_law 160 = .ok (.aload_n 2, 1) := by decide +kernel
theorem dL_law_161 : decode cL_law 161 = .ok (.aload_n 0, 1) := by decide +kernel
theorem dL_law_162 : decode cL_law 162 = .ok (.iload 4, 2) := by decide +kernel
theorem dL_law_164 : decode cL_law 164 = .ok (.iconst 1, 1) := by decide +kernel
theorem dL_law_165 : decode cL_law 165 = .ok (.iadd, 1) := by decide +kernel
theorem dL_law_166 : decode cL_law 166 = .ok (.iaload, 1) := by decide +kernel
theorem dL_law_167 : decode cL_law 167 = .ok (.aload_n 0, 1) := by decide +kernel
theorem dL_law_168 : decode cL_law 168 = .ok (.iload 4, 2) := by decide +kernel
theorem dL_law_170 : decode cL_law 170 = .ok (.iconst 2, 1) := by decide +kernel
theorem dL_law_171 : decode cL_law 171 = .ok (.iadd, 1) := by decide +kernel
theorem dL_law_172 : decode cL_law 172 = .ok (.iaload, 1) := by decide +kernel
theorem dL_law_173 : decode cL_law 173 = .ok (.invokevirtual 30, 3) := by decide +kernel
theorem dL_law_176 : decode cL_law 176 = .ok (.if_icmp .eq 575, 3) := by decide +kernel
theorem dL_law_179 : decode cL_law 179 = .ok (.iconst 0, 1) := by decide +kernel
theorem dL_law_180 : decode cL_law 180 = .ok (.ireturn, 1) := by decide +kernel
theorem dL_law_181 : decode cL_law 181 = .ok (.aload_n 1, 1) := by decide +kernel
theorem dL_law_182 : decode cL_law 182 = .ok (.aload_n 0, 1) := by decide +kernel
theorem dL_law_183 : decode cL_law 183 = .ok (.iload 4, 2) := by decide +kernel
theorem dL_law_185 : decode cL_law 185 = .ok (.iconst 1, 1) := by decide +kernel
theorem dL_law_186 : decode cL_law 186 = .ok (.iadd, 1) := by decide +kernel
theorem dL_law_187 : decode cL_law 187 = .ok (.iaload, 1) := by decide +kernel
theorem dL_law_188 : decode cL_law 188 = .ok (.invokevirtual 31, 3) := by decide +kernel
theorem dL_law_191 : decode cL_law 191 = .ok (.aload_n 2, 1) := by decide +kernel
theorem dL_law_192 : decode cL_law 192 = .ok (.aload_n 0, 1) := by decide +kernel
theorem dL_law_193 : decode cL_law 193 = .ok (.iload 4, 2) := by decide +kernel
theorem dL_law_195 : decode cL_law 195 = .ok (.iconst 1, 1) := by decide +kernel
theorem dL_law_196 : decode cL_law 196 = .ok (.iadd, 1) := by decide +kernel
theorem dL_law_197 : decode cL_law 197 = .ok (.iaload, 1) := by decide +kernel
theorem dL_law_198 : decode cL_law 198 = .ok (.invokevirtual 35, 3) := by decide +kernel
theorem dL_law_201 : decode cL_law 201 = .ok (.if_icmp .eq 550, 3) := by decide +kernel
theorem dL_law_204 : decode cL_law 204 = .ok (.iconst 0, 1) := by decide +kernel
theorem dL_law_205 : decode cL_law 205 = .ok (.ireturn, 1) := by decide +kernel
theorem dL_law_206 : decode cL_law 206 = .ok (.aload_n 1, 1) := by decide +kernel
theorem dL_law_207 : decode cL_law 207 = .ok (.aload_n 0, 1) := by decide +kernel
theorem dL_law_208 : decode cL_law 208 = .ok (.iload 4, 2) := by decide +kernel
theorem dL_law_210 : decode cL_law 210 = .ok (.iconst 1, 1) := by decide +kernel
theorem dL_law_211 : decode cL_law 211 = .ok (.iadd, 1) := by decide +kernel
theorem dL_law_212 : decode cL_law 212 = .ok (.iaload, 1) := by decide +kernel
theorem dL_law_213 : decode cL_law 213 = .ok (.ifCond .eq 7, 3) := by decide +kernel
theorem dL_law_216 : decode cL_law 216 = .ok (.iconst 1, 1) := by decide +kernel
theorem dL_law_217 : decode cL_law 217 = .ok (.goto 4, 3) := by decide +kernel
theorem dL_law_220 : decode cL_law 220 = .ok (.iconst 0, 1) := by decide +kernel
theorem dL_law_221 : decode cL_law 221 = .ok (.invokevirtual 36, 3) := by decide +kernel
theorem dL_law_224 : decode cL_law 224 = .ok (.aload_n 2, 1) := by decide +kernel
theorem dL_law_225 : decode cL_law 225 = .ok (.aload_n 0, 1) := by decide +kernel
theorem dL_law_226 : decode cL_law 226 = .ok (.iload 4, 2) := by decide +kernel
theorem dL_law_228 : decode cL_law 228 = .ok (.iconst 1, 1) := by decide +kernel
theorem dL_law_229 : decode cL_law 229 = .ok (.iadd, 1) := by decide +kernel
theorem dL_law_230 : decode cL_law 230 = .ok (.iaload, 1) := by decide +kernel
theorem dL_law_231 : decode cL_law 231 = .ok (.ifCond .eq 7, 3) := by decide +kernel
theorem dL_law_234 : decode cL_law 234 = .ok (.iconst 1, 1) := by decide +kernel
theorem dL_law_235 : decode cL_law 235 = .ok (.goto 4, 3) := by decide +kernel
theorem dL_law_238 : decode cL_law 238 = .ok (.iconst 0, 1) := by decide +kernel
theorem dL_law_239 : decode cL_law 239 = .ok (.invokevirtual 40, 3) := by decide +kernel
theorem dL_law_242 : decode cL_law 242 = .ok (.if_icmp .eq 509, 3) := by decide +kernel
theorem dL_law_245 : decode cL_law 245 = .ok (.iconst 0, 1) := by decide +kernel
theorem dL_law_246 : decode cL_law 246 = .ok (.ireturn, 1) := by decide +kernel
theorem dL_law_247 : decode cL_law 247 = .ok (.aload_n 1, 1) := by decide +kernel
theorem dL_law_248 : decode cL_law 248 = .ok (.aload_n 0, 1) := by decide +kernel
theorem dL_law_249 : decode cL_law 249 = .ok (.iload 4, 2) := by decide +kernel
theorem dL_law_251 : decode cL_law 251 = .ok (.iconst 1, 1) := by decide +kernel
theorem dL_law_252 : decode cL_law 252 = .ok (.iadd, 1) := by decide +kernel
theorem dL_law_253 : decode cL_law 253 = .ok (.iaload, 1) := by decide +kernel
theorem dL_law_254 : decode cL_law 254 = .ok (.invokevirtual 41, 3) := by decide +kernel
theorem dL_law_257 : decode cL_law 257 = .ok (.aload_n 2, 1) := by decide +kernel
theorem dL_law_258 : decode cL_law 258 = .ok (.aload_n 0, 1) := by decide +kernel
theorem dL_law_259 : decode cL_law 259 = .ok (.iload 4, 2) := by decide +kernel
theorem dL_law_261 : decode cL_law 261 = .ok (.iconst 1, 1) := by decide +kernel
theorem dL_law_262 : decode cL_law 262 = .ok (.iadd, 1) := by decide +kernel
theorem dL_law_263 : decode cL_law 263 = .ok (.iaload, 1) := by decide +kernel
theorem dL_law_264 : decode cL_law 264 = .ok (.invokevirtual 44, 3) := by decide +kernel
theorem dL_law_267 : decode cL_law 267 = .ok (.if_icmp .eq 484, 3) := by decide +kernel
theorem dL_law_270 : decode cL_law 270 = .ok (.iconst 0, 1) := by decide +kernel
theorem dL_law_271 : decode cL_law 271 = .ok (.ireturn, 1) := by decide +kernel
theorem dL_law_272 : decode cL_law 272 = .ok (.aload_n 1, 1) := by decide +kernel
theorem dL_law_273 : decode cL_law 273 = .ok (.invokevirtual 45, 3) := by decide +kernel
theorem dL_law_276 : decode cL_law 276 = .ok (.aload_n 2, 1) := by decide +kernel
theorem dL_law_277 : decode cL_law 277 = .ok (.invokevirtual 49, 3) := by decide +kernel
theorem dL_law_280 : decode cL_law 280 = .ok (.if_icmp .eq 471, 3) := by decide +kernel
theorem dL_law_283 : decode cL_law 283 = .ok (.iconst 0, 1) := by decide +kernel
theorem dL_law_284 : decode cL_law 284 = .ok (.ireturn, 1) := by decide +kernel
theorem dL_law_285 : decode cL_law 285 = .ok (.aload_n 1, 1) := by decide +kernel
theorem dL_law_286 : decode cL_law 286 = .ok (.invokevirtual 50, 3) := by decide +kernel
theorem dL_law_289 : decode cL_law 289 = .ok (.aload_n 2, 1) := by decide +kernel
theorem dL_law_290 : decode cL_law 290 = .ok (.invokevirtual 53, 3) := by decide +kernel
theorem dL_law_293 : decode cL_law 293 = .ok (.if_icmp .eq 458, 3) := by decide +kernel
theorem dL_law_296 : decode cL_law 296 = .ok (.iconst 0, 1) := by decide +kernel
theorem dL_law_297 : decode cL_law 297 = .ok (.ireturn, 1) := by decide +kernel
theorem dL_law_298 : decode cL_law 298 = .ok (.aload_n 1, 1) := by decide +kernel
theorem dL_law_299 : decode cL_law 299 = .ok (.invokevirtual 54, 3) := by decide +kernel
theorem dL_law_302 : decode cL_law 302 = .ok (.aload_n 2, 1) := by decide +kernel
theorem dL_law_303 : decode cL_law 303 = .ok (.invokevirtual 57, 3) := by decide +kernel
theorem dL_law_306 : decode cL_law 306 = .ok (.if_icmp .eq 445, 3) := by decide +kernel
theorem dL_law_309 : decode cL_law 309 = .ok (.iconst 0, 1) := by decide +kernel
theorem dL_law_310 : decode cL_law 310 = .ok (.ireturn, 1) := by decide +kernel
theorem dL_law_311 : decode cL_law 311 = .ok (.aload_n 1, 1) := by decide +kernel
theorem dL_law_312 : decode cL_law 312 = .ok (.invokevirtual 58, 3) := by decide +kernel
theorem dL_law_315 : decode cL_law 315 = .ok (.aload_n 2, 1) := by decide +kernel
theorem dL_law_316 : decode cL_law 316 = .ok (.invokevirtual 61, 3) := by decide +kernel
theorem dL_law_319 : decode cL_law 319 = .ok (.if_icmp .eq 432, 3) := by decide +kernel
theorem dL_law_322 : decode cL_law 322 = .ok (.iconst 0, 1) := by decide +kernel
theorem dL_law_323 : decode cL_law 323 = .ok (.ireturn, 1) := by decide +kernel
theorem dL_law_324 : decode cL_law 324 = .ok (.aload_n 1, 1) := by decide +kernel
theorem dL_law_325 : decode cL_law 325 = .ok (.aload_n 0, 1) := by decide +kernel
theorem dL_law_326 : decode cL_law 326 = .ok (.iload 4, 2) := by decide +kernel
theorem dL_law_328 : decode cL_law 328 = .ok (.iconst 1, 1) := by decide +kernel
theorem dL_law_329 : decode cL_law 329 = .ok (.iadd, 1) := by decide +kernel
theorem dL_law_330 : decode cL_law 330 = .ok (.iaload, 1) := by decide +kernel
theorem dL_law_331 : decode cL_law 331 = .ok (.invokevirtual 62, 3) := by decide +kernel
theorem dL_law_334 : decode cL_law 334 = .ok (.aload_n 2, 1) := by decide +kernel
theorem dL_law_335 : decode cL_law 335 = .ok (.aload_n 0, 1) := by decide +kernel
theorem dL_law_336 : decode cL_law 336 = .ok (.iload 4, 2) := by decide +kernel
theorem dL_law_338 : decode cL_law 338 = .ok (.iconst 1, 1) := by decide +kernel
theorem dL_law_339 : decode cL_law 339 = .ok (.iadd, 1) := by decide +kernel
theorem dL_law_340 : decode cL_law 340 = .ok (.iaload, 1) := by decide +kernel
theorem dL_law_341 : decode cL_law 341 = .ok (.invokevirtual 65, 3) := by decide +kernel
theorem dL_law_344 : decode cL_law 344 = .ok (.if_icmp .eq 407, 3) := by decide +kernel
theorem dL_law_347 : decode cL_law 347 = .ok (.iconst 0, 1) := by decide +kernel
theorem dL_law_348 : decode cL_law 348 = .ok (.ireturn, 1) := by decide +kernel
theorem dL_law_349 : decode cL_law 349 = .ok (.aload_n 1, 1) := by decide +kernel
theorem dL_law_350 : decode cL_law 350 = .ok (.aload_n 0, 1) := by decide +kernel
theorem dL_law_351 : decode cL_law 351 = .ok (.iload 4, 2) := by decide +kernel
theorem dL_law_353 : decode cL_law 353 = .ok (.iconst 1, 1) := by decide +kernel
theorem dL_law_354 : decode cL_law 354 = .ok (.iadd, 1) := by decide +kernel
theorem dL_law_355 : decode cL_law 355 = .ok (.iaload, 1) := by decide +kernel
theorem dL_law_356 : decode cL_law 356 = .ok (.aload_n 0, 1) := by decide +kernel
theorem dL_law_357 : decode cL_law 357 = .ok (.iload 4, 2) := by decide +kernel
theorem dL_law_359 : decode cL_law 359 = .ok (.iconst 2, 1) := by decide +kernel
theorem dL_law_360 : decode cL_law 360 = .ok (.iadd, 1) := by decide +kernel
theorem dL_law_361 : decode cL_law 361 = .ok (.iaload, 1) := by decide +kernel
theorem dL_law_362 : decode cL_law 362 = .ok (.invokevirtual 66, 3) := by decide +kernel
theorem dL_law_365 : decode cL_law 365 = .ok (.aload_n 2, 1) := by decide +kernel
theorem dL_law_366 : decode cL_law 366 = .ok (.aload_n 0, 1) := by decide +kernel
theorem dL_law_367 : decode cL_law 367 = .ok (.iload 4, 2) := by decide +kernel
theorem dL_law_369 : decode cL_law 369 = .ok (.iconst 1, 1) := by decide +kernel
theorem dL_law_370 : decode cL_law 370 = .ok (.iadd, 1) := by decide +kernel
theorem dL_law_371 : decode cL_law 371 = .ok (.iaload, 1) := by decide +kernel
theorem dL_law_372 : decode cL_law 372 = .ok (.aload_n 0, 1) := by decide +kernel
theorem dL_law_373 : decode cL_law 373 = .ok (.iload 4, 2) := by decide +kernel
theorem dL_law_375 : decode cL_law 375 = .ok (.iconst 2, 1) := by decide +kernel
theorem dL_law_376 : decode cL_law 376 = .ok (.iadd, 1) := by decide +kernel
theorem dL_law_377 : decode cL_law 377 = .ok (.iaload, 1) := by decide +kernel
theorem dL_law_378 : decode cL_law 378 = .ok (.invokevirtual 69, 3) := by decide +kernel
theorem dL_law_381 : decode cL_law 381 = .ok (.if_icmp .eq 370, 3) := by decide +kernel
theorem dL_law_384 : decode cL_law 384 = .ok (.iconst 0, 1) := by decide +kernel
theorem dL_law_385 : decode cL_law 385 = .ok (.ireturn, 1) := by decide +kernel
theorem dL_law_386 : decode cL_law 386 = .ok (.aload_n 1, 1) := by decide +kernel
theorem dL_law_387 : decode cL_law 387 = .ok (.aload_n 0, 1) := by decide +kernel
theorem dL_law_388 : decode cL_law 388 = .ok (.iload 4, 2) := by decide +kernel
theorem dL_law_390 : decode cL_law 390 = .ok (.iconst 1, 1) := by decide +kernel
theorem dL_law_391 : decode cL_law 391 = .ok (.iadd, 1) := by decide +kernel
theorem dL_law_392 : decode cL_law 392 = .ok (.iaload, 1) := by decide +kernel
theorem dL_law_393 : decode cL_law 393 = .ok (.invokevirtual 70, 3) := by decide +kernel
theorem dL_law_396 : decode cL_law 396 = .ok (.aload_n 2, 1) := by decide +kernel
theorem dL_law_397 : decode cL_law 397 = .ok (.aload_n 0, 1) := by decide +kernel
theorem dL_law_398 : decode cL_law 398 = .ok (.iload 4, 2) := by decide +kernel
theorem dL_law_400 : decode cL_law 400 = .ok (.iconst 1, 1) := by decide +kernel
theorem dL_law_401 : decode cL_law 401 = .ok (.iadd, 1) := by decide +kernel
theorem dL_law_402 : decode cL_law 402 = .ok (.iaload, 1) := by decide +kernel
theorem dL_law_403 : decode cL_law 403 = .ok (.invokevirtual 73, 3) := by decide +kernel
theorem dL_law_406 : decode cL_law 406 = .ok (.if_icmp .eq 345, 3) := by decide +kernel
theorem dL_law_409 : decode cL_law 409 = .ok (.iconst 0, 1) := by decide +kernel
theorem dL_law_410 : decode cL_law 410 = .ok (.ireturn, 1) := by decide +kernel
theorem dL_law_411 : decode cL_law 411 = .ok (.aload_n 1, 1) := by decide +kernel
theorem dL_law_412 : decode cL_law 412 = .ok (.aload_n 0, 1) := by decide +kernel
theorem dL_law_413 : decode cL_law 413 = .ok (.iload 4, 2) := by decide +kernel
theorem dL_law_415 : decode cL_law 415 = .ok (.iconst 1, 1) := by decide +kernel
theorem dL_law_416 : decode cL_law 416 = .ok (.iadd, 1) := by decide +kernel
theorem dL_law_417 : decode cL_law 417 = .ok (.iaload, 1) := by decide +kernel
theorem dL_law_418 : decode cL_law 418 = .ok (.aload_n 0, 1) := by decide +kernel
theorem dL_law_419 : decode cL_law 419 = .ok (.iload 4, 2) := by decide +kernel
theorem dL_law_421 : decode cL_law 421 = .ok (.iconst 2, 1) := by decide +kernel
theorem dL_law_422 : decode cL_law 422 = .ok (.iadd, 1) := by decide +kernel
theorem dL_law_423 : decode cL_law 423 = .ok (.iaload, 1) := by decide +kernel
theorem dL_law_424 : decode cL_law 424 = .ok (.invokevirtual 74, 3) := by decide +kernel
theorem dL_law_427 : decode cL_law 427 = .ok (.aload_n 2, 1) := by decide +kernel
theorem dL_law_428 : decode cL_law 428 = .ok (.aload_n 0, 1) := by decide +kernel
theorem dL_law_429 : decode cL_law 429 = .ok (.iload 4, 2) := by decide +kernel
theorem dL_law_431 : decode cL_law 431 = .ok (.iconst 1, 1) := by decide +kernel
theorem dL_law_432 : decode cL_law 432 = .ok (.iadd, 1) := by decide +kernel
theorem dL_law_433 : decode cL_law 433 = .ok (.iaload, 1) := by decide +kernel
theorem dL_law_434 : decode cL_law 434 = .ok (.aload_n 0, 1) := by decide +kernel
theorem dL_law_435 : decode cL_law 435 = .ok (.iload 4, 2) := by decide +kernel
theorem dL_law_437 : decode cL_law 437 = .ok (.iconst 2, 1) := by decide +kernel
theorem dL_law_438 : decode cL_law 438 = .ok (.iadd, 1) := by decide +kernel
theorem dL_law_439 : decode cL_law 439 = .ok (.iaload, 1) := by decide +kernel
theorem dL_law_440 : decode cL_law 440 = .ok (.invokevirtual 77, 3) := by decide +kernel
theorem dL_law_443 : decode cL_law 443 = .ok (.if_icmp .eq 308, 3) := by decide +kernel
theorem dL_law_446 : decode cL_law 446 = .ok (.iconst 0, 1) := by decide +kernel
theorem dL_law_447 : decode cL_law 447 = .ok (.ireturn, 1) := by decide +kernel
theorem dL_law_448 : decode cL_law 448 = .ok (.aload_n 1, 1) := by decide +kernel
theorem dL_law_449 : decode cL_law 449 = .ok (.aload_n 0, 1) := by decide +kernel
theorem dL_law_450 : decode cL_law 450 = .ok (.iload 4, 2) := by decide +kernel
theorem dL_law_452 : decode cL_law 452 = .ok (.iconst 1, 1) := by decide +kernel
theorem dL_law_453 : decode cL_law 453 = .ok (.iadd, 1) := by decide +kernel
theorem dL_law_454 : decode cL_law 454 = .ok (.iaload, 1) := by decide +kernel
theorem dL_law_455 : decode cL_law 455 = .ok (.aload_n 0, 1) := by decide +kernel
theorem dL_law_456 : decode cL_law 456 = .ok (.iload 4, 2) := by decide +kernel
theorem dL_law_458 : decode cL_law 458 = .ok (.iconst 2, 1) := by decide +kernel
theorem dL_law_459 : decode cL_law 459 = .ok (.iadd, 1) := by decide +kernel
theorem dL_law_460 : decode cL_law 460 = .ok (.iaload, 1) := by decide +kernel
theorem dL_law_461 : decode cL_law 461 = .ok (.aload_n 0, 1) := by decide +kernel
theorem dL_law_462 : decode cL_law 462 = .ok (.iload 4, 2) := by decide +kernel
theorem dL_law_464 : decode cL_law 464 = .ok (.iconst 3, 1) := by decide +kernel
theorem dL_law_465 : decode cL_law 465 = .ok (.iadd, 1) := by decide +kernel
theorem dL_law_466 : decode cL_law 466 = .ok (.iaload, 1) := by decide +kernel
theorem dL_law_467 : decode cL_law 467 = .ok (.aload_n 0, 1) := by decide +kernel
theorem dL_law_468 : decode cL_law 468 = .ok (.iload 4, 2) := by decide +kernel
theorem dL_law_470 : decode cL_law 470 = .ok (.iconst 4, 1) := by decide +kernel
theorem dL_law_471 : decode cL_law 471 = .ok (.iadd, 1) := by decide +kernel
theorem dL_law_472 : decode cL_law 472 = .ok (.iaload, 1) := by decide +kernel
theorem dL_law_473 : decode cL_law 473 = .ok (.invokevirtual 78, 3) := by decide +kernel
theorem dL_law_476 : decode cL_law 476 = .ok (.aload_n 2, 1) := by decide +kernel
theorem dL_law_477 : decode cL_law 477 = .ok (.aload_n 0, 1) := by decide +kernel
theorem dL_law_478 : decode cL_law 478 = .ok (.iload 4, 2) := by decide +kernel
theorem dL_law_480 : decode cL_law 480 = .ok (.iconst 1, 1) := by decide +kernel
theorem dL_law_481 : decode cL_law 481 = .ok (.iadd, 1) := by decide +kernel
theorem dL_law_482 : decode cL_law 482 = .ok (.iaload, 1) := by decide +kernel
theorem dL_law_483 : decode cL_law 483 = .ok (.aload_n 0, 1) := by decide +kernel
theorem dL_law_484 : decode cL_law 484 = .ok (.iload 4, 2) := by decide +kernel
theorem dL_law_486 : decode cL_law 486 = .ok (.iconst 2, 1) := by decide +kernel
theorem dL_law_487 : decode cL_law 487 = .ok (.iadd, 1) := by decide +kernel
theorem dL_law_488 : decode cL_law 488 = .ok (.iaload, 1) := by decide +kernel
theorem dL_law_489 : decode cL_law 489 = .ok (.aload_n 0, 1) := by decide +kernel
theorem dL_law_490 : decode cL_law 490 = .ok (.iload 4, 2) := by decide +kernel
theorem dL_law_492 : decode cL_law 492 = .ok (.iconst 3, 1) := by decide +kernel
theorem dL_law_493 : decode cL_law 493 = .ok (.iadd, 1) := by decide +kernel
theorem dL_law_494 : decode cL_law 494 = .ok (.iaload, 1) := by decide +kernel
theorem dL_law_495 : decode cL_law 495 = .ok (.aload_n 0, 1) := by decide +kernel
theorem dL_law_496 : decode cL_law 496 = .ok (.iload 4, 2) := by decide +kernel
theorem dL_law_498 : decode cL_law 498 = .ok (.iconst 4, 1) := by decide +kernel
theorem dL_law_499 : decode cL_law 499 = .ok (.iadd, 1) := by decide +kernel
theorem dL_law_500 : decode cL_law 500 = .ok (.iaload, 1) := by decide +kernel
theorem dL_law_501 : decode cL_law 501 = .ok (.invokevirtual 82, 3) := by decide +kernel
theorem dL_law_504 : decode cL_law 504 = .ok (.if_icmp .eq 247, 3) := by decide +kernel
theorem dL_law_507 : decode cL_law 507 = .ok (.iconst 0, 1) := by decide +kernel
theorem dL_law_508 : decode cL_law 508 = .ok (.ireturn, 1) := by decide +kernel
theorem dL_law_509 : decode cL_law 509 = .ok (.aload_n 1, 1) := by decide +kernel
theorem dL_law_510 : decode cL_law 510 = .ok (.aload_n 0, 1) := by decide +kernel
theorem dL_law_511 : decode cL_law 511 = .ok (.iload 4, 2) := by decide +kernel
theorem dL_law_513 : decode cL_law 513 = .ok (.iconst 1, 1) := by decide +kernel
theorem dL_law_514 : decode cL_law 514 = .ok (.iadd, 1) := by decide +kernel
theorem dL_law_515 : decode cL_law 515 = .ok (.iaload, 1) := by decide +kernel
theorem dL_law_516 : decode cL_law 516 = .ok (.aload_n 0, 1) := by decide +kernel
theorem dL_law_517 : decode cL_law 517 = .ok (.iload 4, 2) := by decide +kernel
theorem dL_law_519 : decode cL_law 519 = .ok (.iconst 2, 1) := by decide +kernel
theorem dL_law_520 : decode cL_law 520 = .ok (.iadd, 1) := by decide +kernel
theorem dL_law_521 : decode cL_law 521 = .ok (.iaload, 1) := by decide +kernel
theorem dL_law_522 : decode cL_law 522 = .ok (.aload_n 3, 1) := by decide +kernel
theorem dL_law_523 : decode cL_law 523 = .ok (.invokestatic 83, 3) := by decide +kernel
theorem dL_law_526 : decode cL_law 526 = .ok (.istore 5, 2) := by decide +kernel
theorem dL_law_528 : decode cL_law 528 = .ok (.aload_n 2, 1) := by decide +kernel
theorem dL_law_529 : decode cL_law 529 = .ok (.aload_n 0, 1) := by decide +kernel
theorem dL_law_530 : decode cL_law 530 = .ok (.iload 4, 2) := by decide +kernel
theorem dL_law_532 : decode cL_law 532 = .ok (.iconst 1, 1) := by decide +kernel
theorem dL_law_533 : decode cL_law 533 = .ok (.iadd, 1) := by decide +kernel
theorem dL_law_534 : decode cL_law 534 = .ok (.iaload, 1) := by decide +kernel
theorem dL_law_535 : decode cL_law 535 = .ok (.aload_n 0, 1) := by decide +kernel
theorem dL_law_536 : decode cL_law 536 = .ok (.iload 4, 2) := by decide +kernel
theorem dL_law_538 : decode cL_law 538 = .ok (.iconst 2, 1) := by decide +kernel
theorem dL_law_539 : decode cL_law 539 = .ok (.iadd, 1) := by decide +kernel
theorem dL_law_540 : decode cL_law 540 = .ok (.iaload, 1) := by decide +kernel
theorem dL_law_541 : decode cL_law 541 = .ok (.invokevirtual 86, 3) := by decide +kernel
theorem dL_law_544 : decode cL_law 544 = .ok (.istore 6, 2) := by decide +kernel
theorem dL_law_546 : decode cL_law 546 = .ok (.aload_n 2, 1) := by decide +kernel
theorem dL_law_547 : decode cL_law 547 = .ok (.invokevirtual 87, 3) := by decide +kernel
theorem dL_law_550 : decode cL_law 550 = .ok (.iload 5, 2) := by decide +kernel
theorem dL_law_552 : decode cL_law 552 = .ok (.if_icmp .eq 5, 3) := by decide +kernel
theorem dL_law_555 : decode cL_law 555 = .ok (.iconst 0, 1) := by decide +kernel
theorem dL_law_556 : decode cL_law 556 = .ok (.ireturn, 1) := by decide +kernel
theorem dL_law_557 : decode cL_law 557 = .ok (.iload 5, 2) := by decide +kernel
theorem dL_law_559 : decode cL_law 559 = .ok (.ifCond .ne 15, 3) := by decide +kernel
theorem dL_law_562 : decode cL_law 562 = .ok (.aload_n 3, 1) := by decide +kernel
theorem dL_law_563 : decode cL_law 563 = .ok (.iconst 0, 1) := by decide +kernel
theorem dL_law_564 : decode cL_law 564 = .ok (.laload, 1) := by decide +kernel
theorem dL_law_565 : decode cL_law 565 = .ok (.iload 6, 2) := by decide +kernel
theorem dL_law_567 : decode cL_law 567 = .ok (.i2l, 1) := by decide +kernel
theorem dL_law_568 : decode cL_law 568 = .ok (.lcmp, 1) := by decide +kernel
theorem dL_law_569 : decode cL_law 569 = .ok (.ifCond .eq 5, 3) := by decide +kernel
theorem dL_law_572 : decode cL_law 572 = .ok (.iconst 0, 1) := by decide +kernel
theorem dL_law_573 : decode cL_law 573 = .ok (.ireturn, 1) := by decide +kernel
theorem dL_law_574 : decode cL_law 574 = .ok (.goto 177, 3) := by decide +kernel
theorem dL_law_577 : decode cL_law 577 = .ok (.aload_n 1, 1) := by decide +kernel
theorem dL_law_578 : decode cL_law 578 = .ok (.aload_n 0, 1) := by decide +kernel
theorem dL_law_579 : decode cL_law 579 = .ok (.iload 4, 2) := by decide +kernel
theorem dL_law_581 : decode cL_law 581 = .ok (.iconst 1, 1) := by decide +kernel
theorem dL_law_582 : decode cL_law 582 = .ok (.iadd, 1) := by decide +kernel
theorem dL_law_583 : decode cL_law 583 = .ok (.iaload, 1) := by decide +kernel
theorem dL_law_584 : decode cL_law 584 = .ok (.aload_n 0, 1) := by decide +kernel
theorem dL_law_585 : decode cL_law 585 = .ok (.iload 4, 2) := by decide +kernel
theorem dL_law_587 : decode cL_law 587 = .ok (.iconst 2, 1) := by decide +kernel
theorem dL_law_588 : decode cL_law 588 = .ok (.iadd, 1) := by decide +kernel
theorem dL_law_589 : decode cL_law 589 = .ok (.iaload, 1) := by decide +kernel
theorem dL_law_590 : decode cL_law 590 = .ok (.invokevirtual 90, 3) := by decide +kernel
theorem dL_law_593 : decode cL_law 593 = .ok (.aload_n 2, 1) := by decide +kernel
theorem dL_law_594 : decode cL_law 594 = .ok (.aload_n 0, 1) := by decide +kernel
theorem dL_law_595 : decode cL_law 595 = .ok (.iload 4, 2) := by decide +kernel
theorem dL_law_597 : decode cL_law 597 = .ok (.iconst 1, 1) := by decide +kernel
theorem dL_law_598 : decode cL_law 598 = .ok (.iadd, 1) := by decide +kernel
theorem dL_law_599 : decode cL_law 599 = .ok (.iaload, 1) := by decide +kernel
theorem dL_law_600 : decode cL_law 600 = .ok (.aload_n 0, 1) := by decide +kernel
theorem dL_law_601 : decode cL_law 601 = .ok (.iload 4, 2) := by decide +kernel
theorem dL_law_603 : decode cL_law 603 = .ok (.iconst 2, 1) := by decide +kernel
theorem dL_law_604 : decode cL_law 604 = .ok (.iadd, 1) := by decide +kernel
theorem dL_law_605 : decode cL_law 605 = .ok (.iaload, 1) := by decide +kernel
theorem dL_law_606 : decode cL_law 606 = .ok (.invokevirtual 93, 3) := by decide +kernel
theorem dL_law_609 : decode cL_law 609 = .ok (.if_icmp .eq 142, 3) := by decide +kernel
theorem dL_law_612 : decode cL_law 612 = .ok (.iconst 0, 1) := by decide +kernel
theorem dL_law_613 : decode cL_law 613 = .ok (.ireturn, 1) := by decide +kernel
theorem dL_law_614 : decode cL_law 614 = .ok (.aload_n 1, 1) := by decide +kernel
theorem dL_law_615 : decode cL_law 615 = .ok (.aload_n 0, 1) := by decide +kernel
theorem dL_law_616 : decode cL_law 616 = .ok (.iload 4, 2) := by decide +kernel
theorem dL_law_618 : decode cL_law 618 = .ok (.iconst 1, 1) := by decide +kernel
theorem dL_law_619 : decode cL_law 619 = .ok (.iadd, 1) := by decide +kernel
theorem dL_law_620 : decode cL_law 620 = .ok (.iaload, 1) := by decide +kernel
theorem dL_law_621 : decode cL_law 621 = .ok (.aload_n 0, 1) := by decide +kernel
theorem dL_law_622 : decode cL_law 622 = .ok (.iload 4, 2) := by decide +kernel
theorem dL_law_624 : decode cL_law 624 = .ok (.iconst 2, 1) := by decide +kernel
theorem dL_law_625 : decode cL_law 625 = .ok (.iadd, 1) := by decide +kernel
theorem dL_law_626 : decode cL_law 626 = .ok (.iaload, 1) := by decide +kernel
theorem dL_law_627 : decode cL_law 627 = .ok (.aload_n 0, 1) := by decide +kernel
theorem dL_law_628 : decode cL_law 628 = .ok (.iload 4, 2) := by decide +kernel
theorem dL_law_630 : decode cL_law 630 = .ok (.iconst 3, 1) := by decide +kernel
theorem dL_law_631 : decode cL_law 631 = .ok (.iadd, 1) := by decide +kernel
theorem dL_law_632 : decode cL_law 632 = .ok (.iaload, 1) := by decide +kernel
theorem dL_law_633 : decode cL_law 633 = .ok (.invokevirtual 94, 3) := by decide +kernel
theorem dL_law_636 : decode cL_law 636 = .ok (.aload_n 2, 1) := by decide +kernel
theorem dL_law_637 : decode cL_law 637 = .ok (.aload_n 0, 1) := by decide +kernel
theorem dL_law_638 : decode cL_law 638 = .ok (.iload 4, 2) := by decide +kernel
theorem dL_law_640 : decode cL_law 640 = .ok (.iconst 1, 1) := by decide +kernel
theorem dL_law_641 : decode cL_law 641 = .ok (.iadd, 1) := by decide +kernel
theorem dL_law_642 : decode cL_law 642 = .ok (.iaload, 1) := by decide +kernel
theorem dL_law_643 : decode cL_law 643 = .ok (.aload_n 0, 1) := by decide +kernel
theorem dL_law_644 : decode cL_law 644 = .ok (.iload 4, 2) := by decide +kernel
theorem dL_law_646 : decode cL_law 646 = .ok (.iconst 2, 1) := by decide +kernel
theorem dL_law_647 : decode cL_law 647 = .ok (.iadd, 1) := by decide +kernel
theorem dL_law_648 : decode cL_law 648 = .ok (.iaload, 1) := by decide +kernel
theorem dL_law_649 : decode cL_law 649 = .ok (.aload_n 0, 1) := by decide +kernel
theorem dL_law_650 : decode cL_law 650 = .ok (.iload 4, 2) := by decide +kernel
theorem dL_law_652 : decode cL_law 652 = .ok (.iconst 3, 1) := by decide +kernel
theorem dL_law_653 : decode cL_law 653 = .ok (.iadd, 1) := by decide +kernel
theorem dL_law_654 : decode cL_law 654 = .ok (.iaload, 1) := by decide +kernel
theorem dL_law_655 : decode cL_law 655 = .ok (.invokevirtual 97, 3) := by decide +kernel
theorem dL_law_658 : decode cL_law 658 = .ok (.if_icmp .eq 93, 3) := by decide +kernel
theorem dL_law_661 : decode cL_law 661 = .ok (.iconst 0, 1) := by decide +kernel
theorem dL_law_662 : decode cL_law 662 = .ok (.ireturn, 1) := by decide +kernel
theorem dL_law_663 : decode cL_law 663 = .ok (.aload_n 1, 1) := by decide +kernel
theorem dL_law_664 : decode cL_law 664 = .ok (.aload_n 0, 1) := by decide +kernel
theorem dL_law_665 : decode cL_law 665 = .ok (.iload 4, 2) := by decide +kernel
theorem dL_law_667 : decode cL_law 667 = .ok (.iconst 1, 1) := by decide +kernel
theorem dL_law_668 : decode cL_law 668 = .ok (.iadd, 1) := by decide +kernel
theorem dL_law_669 : decode cL_law 669 = .ok (.iaload, 1) := by decide +kernel
theorem dL_law_670 : decode cL_law 670 = .ok (.invokevirtual 98, 3) := by decide +kernel
theorem dL_law_673 : decode cL_law 673 = .ok (.aload_n 2, 1) := by decide +kernel
theorem dL_law_674 : decode cL_law 674 = .ok (.aload_n 0, 1) := by decide +kernel
theorem dL_law_675 : decode cL_law 675 = .ok (.iload 4, 2) := by decide +kernel
theorem dL_law_677 : decode cL_law 677 = .ok (.iconst 1, 1) := by decide +kernel
theorem dL_law_678 : decode cL_law 678 = .ok (.iadd, 1) := by decide +kernel
theorem dL_law_679 : decode cL_law 679 = .ok (.iaload, 1) := by decide +kernel
theorem dL_law_680 : decode cL_law 680 = .ok (.invokevirtual 101, 3) := by decide +kernel
theorem dL_law_683 : decode cL_law 683 = .ok (.if_icmp .eq 68, 3) := by decide +kernel
theorem dL_law_686 : decode cL_law 686 = .ok (.iconst 0, 1) := by decide +kernel
theorem dL_law_687 : decode cL_law 687 = .ok (.ireturn, 1) := by decide +kernel
theorem dL_law_688 : decode cL_law 688 = .ok (.aload_n 1, 1) := by decide +kernel
theorem dL_law_689 : decode cL_law 689 = .ok (.aload_n 0, 1) := by decide +kernel
theorem dL_law_690 : decode cL_law 690 = .ok (.iload 4, 2) := by decide +kernel
theorem dL_law_692 : decode cL_law 692 = .ok (.iconst 1, 1) := by decide +kernel
theorem dL_law_693 : decode cL_law 693 = .ok (.iadd, 1) := by decide +kernel
theorem dL_law_694 : decode cL_law 694 = .ok (.iaload, 1) := by decide +kernel
theorem dL_law_695 : decode cL_law 695 = .ok (.invokevirtual 102, 3) := by decide +kernel
theorem dL_law_698 : decode cL_law 698 = .ok (.aload_n 2, 1) := by decide +kernel
theorem dL_law_699 : decode cL_law 699 = .ok (.aload_n 0, 1) := by decide +kernel
theorem dL_law_700 : decode cL_law 700 = .ok (.iload 4, 2) := by decide +kernel
theorem dL_law_702 : decode cL_law 702 = .ok (.iconst 1, 1) := by decide +kernel
theorem dL_law_703 : decode cL_law 703 = .ok (.iadd, 1) := by decide +kernel
theorem dL_law_704 : decode cL_law 704 = .ok (.iaload, 1) := by decide +kernel
theorem dL_law_705 : decode cL_law 705 = .ok (.invokevirtual 105, 3) := by decide +kernel
theorem dL_law_708 : decode cL_law 708 = .ok (.if_icmp .eq 43, 3) := by decide +kernel
theorem dL_law_711 : decode cL_law 711 = .ok (.iconst 0, 1) := by decide +kernel
theorem dL_law_712 : decode cL_law 712 = .ok (.ireturn, 1) := by decide +kernel
theorem dL_law_713 : decode cL_law 713 = .ok (.aload_n 1, 1) := by decide +kernel
theorem dL_law_714 : decode cL_law 714 = .ok (.invokevirtual 106, 3) := by decide +kernel
theorem dL_law_717 : decode cL_law 717 = .ok (.aload_n 2, 1) := by decide +kernel
theorem dL_law_718 : decode cL_law 718 = .ok (.invokevirtual 109, 3) := by decide +kernel
theorem dL_law_721 : decode cL_law 721 = .ok (.if_icmp .eq 30, 3) := by decide +kernel
theorem dL_law_724 : decode cL_law 724 = .ok (.iconst 0, 1) := by decide +kernel
theorem dL_law_725 : decode cL_law 725 = .ok (.ireturn, 1) := by decide +kernel
theorem dL_law_726 : decode cL_law 726 = .ok (.aload_n 1, 1) := by decide +kernel
theorem dL_law_727 : decode cL_law 727 = .ok (.aload_n 0, 1) := by decide +kernel
theorem dL_law_728 : decode cL_law 728 = .ok (.iload 4, 2) := by decide +kernel
theorem dL_law_730 : decode cL_law 730 = .ok (.iconst 1, 1) := by decide +kernel
theorem dL_law_731 : decode cL_law 731 = .ok (.iadd, 1) := by decide +kernel
theorem dL_law_732 : decode cL_law 732 = .ok (.iaload, 1) := by decide +kernel
theorem dL_law_733 : decode cL_law 733 = .ok (.invokevirtual 110, 3) := by decide +kernel
theorem dL_law_736 : decode cL_law 736 = .ok (.aload_n 2, 1) := by decide +kernel
theorem dL_law_737 : decode cL_law 737 = .ok (.aload_n 0, 1) := by decide +kernel
theorem dL_law_738 : decode cL_law 738 = .ok (.iload 4, 2) := by decide +kernel
theorem dL_law_740 : decode cL_law 740 = .ok (.iconst 1, 1) := by decide +kernel
theorem dL_law_741 : decode cL_law 741 = .ok (.iadd, 1) := by decide +kernel
theorem dL_law_742 : decode cL_law 742 = .ok (.iaload, 1) := by decide +kernel
theorem dL_law_743 : decode cL_law 743 = .ok (.invokevirtual 113, 3) := by decide +kernel
theorem dL_law_746 : decode cL_law 746 = .ok (.if_icmp .eq 5, 3) := by decide +kernel
theorem dL_law_749 : decode cL_law 749 = .ok (.iconst 0, 1) := by decide +kernel
theorem dL_law_750 : decode cL_law 750 = .ok (.ireturn, 1) := by decide +kernel
theorem dL_law_751 : decode cL_law 751 = .ok (.iinc 4 5, 3) := by decide +kernel
theorem dL_law_754 : decode cL_law 754 = .ok (.goto (-721), 3) := by decide +kernel
theorem dL_law_757 : decode cL_law 757 = .ok (.iconst 1, 1) := by decide +kernel
theorem dL_law_758 : decode cL_law 758 = .ok (.ireturn, 1) := by decide +kernel
end
section
/-! the layer of this claim: contracts whose worlds are lists of cells, one frame rule, rows for fields, arrays, calls, ends -/
abbrev GT : Type := va_G × (Nat → ClassId) × (Nat → Nat)
abbrev tysG (g : GT) : List (ClassId × FieldType) := [(g.2.1 0, .int), (g.2.1 1, .long), (g.2.1 2, .boolean), (g.2.1 3, .object "ContextMix$Match")]
def curveT : Nat → Int32 := fun j => [1, 2, 3, 6, 10, 16, 27, 45, 73, 120, 194, 310, 488, 747, 1101, 1546, 2047, 2549, 2994, 3348, 3607, 3785, 3901, 3975, 4022, 4050, 4068, 4079, 4085, 4089, 4092, 4093, 4094].getD j 0
def SP (g : GT) (A : Nat → Prop) (U : State) (H : Heap) : Prop :=
  (va_Z RX5 "CURVE" "[I" (.ref (g.2.2 0)) A U H ∧ va_T .int (g.2.2 0) 33 (fun j => .int (curveT j)) A U H) ∧ va_Z RX11 "T" "[I" (.ref (g.2.2 1)) A U H ∧ va_T .int (g.2.2 1) 33 (fun j => .int (curveT j)) A U H
theorem SP.moved {g : GT} {A : Nat → Prop} {u U : State} {H : Heap} (hvm : u.vm.Alike U.vm) (h : SP g A u H) : SP g A U H := ⟨⟨h.1.1.moved hvm, h.1.2.moved hvm⟩, h.2.1.moved hvm, h.2.2.moved hvm⟩
theorem SP.kept {g : GT} {A : Nat → Prop} {U : State} {H H1 : Heap} (h : SP g A U H) (hq : ∀ a : Nat, a < H.size → ¬ A a → H1[a]? = H[a]?) : SP g A U H1 := ⟨⟨h.1.1.kept hq, h.1.2.kept hq⟩, h.2.1.kept hq, h.2.2.kept hq⟩
theorem SP.narrow {g : GT} {A B : Nat → Prop} {U : State} {H : Heap} (h : SP g A U H) (hAB : ∀ q, B q → A q) : SP g B U H := ⟨⟨h.1.1.narrow hAB, h.1.2.narrow hAB⟩, h.2.1.narrow hAB, h.2.2.narrow hAB⟩
def NWF : List (String × Nat × String × String × String × String) := [("ContextMix$Side", 84, "ContextMix$Predictors", "kinds", "[I", "ContextMix"), ("ContextMix$Side", 87, "ContextMix$Predictors", "ns", "[I", "ContextMix"), ("ContextMix$Side", 106, "ContextMix$Predictors", "offs", "[Z", "ContextMix"), ("ContextMix$Side", 79, "ContextMix$Predictors", "size", "I", "ContextMix"), ("ContextMix", 152, "ContextMix$Predictors", "size", "I", "ContextMix"), ("ContextMix$Match", 33, "ContextMix$History", "size", "I", "ContextMix"), ("ContextMix", 115, "ContextMix$History", "size", "I", "ContextMix"), ("ContextMix$Match", 46, "ContextMix$History", "node", "I", "ContextMix"), ("ContextMix$Side", 117, "ContextMix$History", "node", "I", "ContextMix"), ("ContextMix$Match", 43, "ContextMix$History", "bitsGoing", "I", "ContextMix"), ("ContextMix", 99, "ContextMix$History", "bitsGoing", "I", "ContextMix"), ("ContextMix$Side", 167, "ContextMix$Mixer", "weights", "[I", "ContextMix"), ("ContextMix$Side", 174, "ContextMix$Corrections", "cells", "[I", "ContextMix"), ("ContextMix$Side", 114, "ContextMix$Slots", "chances", "[I", "ContextMix"), ("ContextMix", 170, "ContextMix$Slots", "chances", "[I", "ContextMix"), ("ContextMix", 174, "ContextMix$Slots", "counts", "[I", "ContextMix"), ("ContextMix$Side", 72, "ContextMix$Match", "length", "I", "ContextMix"), ("ContextMix", 64, "ContextMix$Side", "history", "LContextMix$History;", "ContextMix"), ("ContextMix", 156, "ContextMix$Side", "slots", "LContextMix$Slots;", "ContextMix"), ("ContextMix", 145, "ContextMix$Side", "byNode", "LContextMix$Mixer;", "ContextMix"), ("ContextMix", 149, "ContextMix$Side", "byLatest", "LContextMix$Mixer;", "ContextMix"), ("ContextMix", 182, "ContextMix$Side", "corrections", "LContextMix$Corrections;", "ContextMix"), ("ContextMix", 95, "ContextMix$Output", "size", "I", "ContextMix")]
def NWM : List (String × Nat × MethodName × String) := [("ContextMix", 22, ⟨"ContextMix$Predictors", "<init>", "()V"⟩, "ContextMix"), ("ContextMix$Side", 11, ⟨"ContextMix$History", "<init>", "()V"⟩, "ContextMix"), ("ContextMix$Side", 65, ⟨"ContextMix$Match", "<init>", "()V"⟩, "ContextMix"), ("ContextMix", 41, ⟨"ContextMix$Output", "<init>", "()V"⟩, "ContextMix"), ("ContextMix", 48, ⟨"ContextMix$Coder", "<init>", "()V"⟩, "ContextMix")]
def NS (U : State) : Prop := (∀ q ∈ NWF, va_Nw (.fieldLinkNest q.1 q.2.1 q.2.2.1 q.2.2.2.1 q.2.2.2.2.1 q.2.2.2.2.2) U) ∧ ∀ q ∈ NWM, va_Nw (.methodLinkNest q.1 q.2.1 q.2.2.1 q.2.2.2) U
theorem NS.warm {s U : State} (hW : s.WarmedH U.vm) (h : NS s) : NS U := ⟨fun q hq => (h.1 q hq).warmF hW, fun q hq => (h.2 q hq).warmM hW⟩
theorem NS.same {s U : State} (hW : s.vm = U.vm) (h : NS s) : NS U := ⟨fun q hq => (h.1 q hq).same rfl hW, fun q hq => (h.2 q hq).same rfl hW⟩
def PreG (g : GT) (L : va_W) (sz : Nat) (U : State) : Prop := U.heap.size = sz ∧ va_P g.1 vwCl L U.heap ∧ va_K g.1 vwCl (tysG g) U ∧ va_D (fun _ => True) L ∧ SP g (va_A L sz) U U.heap ∧ NS U
def QG {S : Type} (g : GT) (A : Nat → Prop) (rv : S → Option Value) (L' : S → va_W) : Array Value → State → Outcome → State → Prop := fun _ st oc t =>
  (∃ u : S, oc = .returned (rv u) ∧ va_P g.1 vwCl (L' u) t.heap ∧ va_K g.1 vwCl (tysG g) t ∧ va_D A (L' u)) ∧ va_F A st t
/-- the contract: from a world L, with these arguments, the method returns rv, and its world is L' -/
def OM {S : Type} (l : Launch) (g : GT) (y : MethodName) (cc : ByteArray) (nL : Nat) (ret : Option FieldType) (rm : Room) (av : List Value) (L : va_W) (rv : S → Option Value) (L' : S → va_W) : Prop :=
  ∀ sz, Met l y (.code y cc nL ret :: GW) rm (va_Pc av (PreG g L sz)) (QG g (va_A L sz) rv L') rm.cells rm.slots (va_A L sz)
def Cx (p : Program) (s : State) (m : MethodId) (meth : Method) (c : Code) (args : Array Value) (cc : ByteArray) (ret : Option FieldType) (nL : Nat) (own : String) (g : GT) (A : Nat → Prop) : Prop :=
  p.tables.exec = Jvm.exec ∧ c.code = cc ∧ c.maxLocals = nL ∧ s.vm.findClass own = some m.cls ∧ (∀ w ∈ GW, w.before args s = true) ∧ meth.sig.returnType = ret ∧ meth.locks = false ∧ va_K g.1 vwCl (tysG g) s ∧ SP g A s s.heap ∧ NS s ∧ ∀ q, s.heap.size ≤ q → A q
def Wd (g : GT) (A : Nat → Prop) (s : State) (L : va_W) (H : Heap) (locs : List Loc) : Prop := va_P g.1 vwCl L H ∧ va_D A L ∧ va_S A s.heap H locs
section
variable {p : Program} {l : Launch} {e : Env} {R : Room} {s : State} {m : MethodId} {args : Array Value} {below : List Frame} {meth : Method} {c : Code} {H : Heap} {locs : List Loc} {cells slots : Nat} {Q : State → Prop} {cc : ByteArray} {ret : Option FieldType} {nL : Nat} {own : String} {g : GT} {A : Nat → Prop} {L : va_W} {pc : Nat} {ls : Array Slot} {rest : List Value} {a : Nat}
theorem Cx.x (C : Cx p s m meth c args cc ret nL own g A) : p.tables.exec = Jvm.exec := C.1
theorem Cx.b (C : Cx p s m meth c args cc ret nL own g A) : c.code = cc := C.2.1
theorem Cx.ml (C : Cx p s m meth c args cc ret nL own g A) : c.maxLocals = nL := C.2.2.1
theorem Cx.ow (C : Cx p s m meth c args cc ret nL own g A) : s.vm.findClass own = some m.cls := C.2.2.2.1
theorem Cx.ts (C : Cx p s m meth c args cc ret nL own g A) : ∀ w ∈ GW, w.before args s = true := C.2.2.2.2.1
theorem Cx.r (C : Cx p s m meth c args cc ret nL own g A) : meth.sig.returnType = ret := C.2.2.2.2.2.1
theorem Cx.lk (C : Cx p s m meth c args cc ret nL own g A) : meth.locks = false := C.2.2.2.2.2.2.1
theorem Cx.K (C : Cx p s m meth c args cc ret nL own g A) : va_K g.1 vwCl (tysG g) s := C.2.2.2.2.2.2.2.1
theorem Cx.sp (C : Cx p s m meth c args cc ret nL own g A) : SP g A s s.heap := C.2.2.2.2.2.2.2.2.1
theorem Cx.ns (C : Cx p s m meth c args cc ret nL own g A) : NS s := C.2.2.2.2.2.2.2.2.2.1
theorem Cx.fA (C : Cx p s m meth c args cc ret nL own g A) : ∀ q, s.heap.size ≤ q → A q := C.2.2.2.2.2.2.2.2.2.2
theorem blindG {g : GT} {av : List Value} {L : va_W} {sz : Nat} : FrameBlind (va_Pc av (PreG g L sz)) := by
  intro a U g1 mk q
  obtain ⟨q0, q1, qP, qK, qD, qS, qN⟩ := q
  exact ⟨q0, q1, qP, va_K.moved (u := U) (U := U.calling g1 mk a) (Vm.Alike.refl U.vm) qK, qD, SP.moved (u := U) (U := U.calling g1 mk a) (Vm.Alike.refl U.vm) qS, NS.same (s := U) (U := U.calling g1 mk a) rfl qN⟩
/-- a method's beginning -/
theorem OM.start {S : Type} {y : MethodName} {rm : Room} {av : List Value} {rv : S → Option Value} {L' : S → va_W} (hy : plainName y.cls = true) (hn : (lg_sl av).length ≤ nL)
    (body : ∀ (p : Program) (e : Env) (s : State) (m : MethodId) (below : List Frame) (meth : Method) (c : Code) (A : Nat → Prop) (ls : Array Slot), Cx p s m meth c av.toArray cc ret nL y.cls g A → meth.name = y.name → lv_has ls nL (lv_args 0 av) → Wd g A s L s.heap [] →
      W p l e rm s m av.toArray below meth c s.heap [] 0 0 (MQ below (QG g A rv L') av.toArray s rm.cells rm.slots A) (F0 m 0 ls [])) : OM l g y cc nL ret rm av L rv L' := by
  intro sz
  refine Met.ofW (cc := cc) (maxL := nL) (ret := ret) hy rfl ?_
  intro p e s m args below meth c s₁ B hml hv
  obtain ⟨rfl, hsz, hP, hK, hD0, hSP, hNS⟩ := hv
  have hts := atoms_spec (ws := (.code y cc nL ret :: GW)) B.pre
  subst hsz
  have hl := lv_entry av (n := nL) hn
  rw [lg_entry_eq]
  exact body p e s m below meth c (va_A L s.heap.size) _ ⟨B.exec, B.bytes, hml, findClass_of_methodNamed B.named, fun w h => hts w (List.mem_cons_of_mem _ h), B.returns, B.notSynchronized, hK, hSP, hNS, fun q h => Or.inr h⟩ (name_of_methodNamed B.named B.method).1 hl ⟨hP, hD0.self, va_S.rf⟩
/-- ends -/
theorem r_iret {S : Type} {rv : S → Option Value} {L' : S → va_W} {v : Int32} (C : Cx p s m meth c args cc (some .int) nL own g A) (u : S) (hT : Wd g A s (L' u) H locs) (hv : rv u = some (.int v)) (hdg : decode cc pc = .ok (.ireturn, 1)) : W p l e R s m args below meth c H locs cells slots (MQ below (QG g A rv L') args s cells slots A) (F0 m pc ls [.int v]) :=
  W.iret C.x C.b C.r (fun t ht hW => ⟨⟨u, by rw [hv], by rw [ht]; exact hT.1, va_K.moved hW.alike C.K, hT.2.1⟩, hT.2.2.F ht⟩) hT.2.2.2.2 hdg C.lk
theorem r_zret {S : Type} {rv : S → Option Value} {L' : S → va_W} {v : Int32} (C : Cx p s m meth c args cc (some .boolean) nL own g A) (u : S) (hT : Wd g A s (L' u) H locs) (hv : rv u = some (.int v)) (hn : v = 0 ∨ v = 1) (hdg : decode cc pc = .ok (.ireturn, 1)) : W p l e R s m args below meth c H locs cells slots (MQ below (QG g A rv L') args s cells slots A) (F0 m pc ls [.int v]) :=
  W.zret C.x C.b C.r (by rcases hn with rfl | rfl <;> rfl) (fun t ht hW => ⟨⟨u, by rw [hv], by rw [ht]; exact hT.1, va_K.moved hW.alike C.K, hT.2.1⟩, hT.2.2.F ht⟩) hT.2.2.2.2 hdg C.lk
theorem r_lret {S : Type} {rv : S → Option Value} {L' : S → va_W} {v : Int64} (C : Cx p s m meth c args cc (some .long) nL own g A) (u : S) (hT : Wd g A s (L' u) H locs) (hv : rv u = some (.long v)) (hdg : decode cc pc = .ok (.lreturn, 1)) : W p l e R s m args below meth c H locs cells slots (MQ below (QG g A rv L') args s cells slots A) (F0 m pc ls [.long v]) :=
  W.lret C.x C.b C.r (fun t ht hW => ⟨⟨u, by rw [hv], by rw [ht]; exact hT.1, va_K.moved hW.alike C.K, hT.2.1⟩, hT.2.2.F ht⟩) hT.2.2.2.2 hdg C.lk
theorem r_vret {S : Type} {rv : S → Option Value} {L' : S → va_W} (C : Cx p s m meth c args cc none nL own g A) (u : S) (hT : Wd g A s (L' u) H locs) (hv : rv u = none) (hdg : decode cc pc = .ok (.return_, 1)) : W p l e R s m args below meth c H locs cells slots (MQ below (QG g A rv L') args s cells slots A) (F0 m pc ls []) :=
  W.vret C.x C.b C.r (fun t ht hW => ⟨⟨u, by rw [hv], by rw [ht]; exact hT.1, va_K.moved hW.alike C.K, hT.2.1⟩, hT.2.2.F ht⟩) hT.2.2.2.2 hdg C.lk
theorem r_aret {S : Type} {rv : S → Option Value} {L' : S → va_W} {n : String} {v : Value} (C : Cx p s m meth c args cc (some (.object n)) nL own g A) (u : S) (hT : Wd g A s (L' u) H locs) (hv : rv u = some v) (hn : v = .null ∨ ∃ a, v = .ref a) (hdg : decode cc pc = .ok (.areturn, 1)) : W p l e R s m args below meth c H locs cells slots (MQ below (QG g A rv L') args s cells slots A) (F0 m pc ls [v]) :=
  W.aret C.x C.b C.r (Or.inl ⟨n, rfl⟩) hn (fun t ht hW => ⟨⟨u, by rw [hv], by rw [ht]; exact hT.1, va_K.moved hW.alike C.K, hT.2.1⟩, hT.2.2.F ht⟩) hT.2.2.2.2 hdg C.lk
/-- fields -/
theorem r_get (C : Cx p s m meth c args cc ret nL own g A) (hT : Wd g A s L H locs) {X : String} {T : u_T} {N ci index q0 : Nat} {fs : List Value} (he : L[q0]? = some (a, .inr (ci, fs))) (hc : vwCl[ci]? = some (X, T, N)) (hin : ∀ w ∈ u_ws X T N, w ∈ GW) (k : Nat) (hk : k < N) (hl : Cond.fieldLink own index (T k).1 (T k).2.1 (T k).2.2.1 ∈ GW) {v : Value} (hv : fs[k]? = some v) (hdg : decode cc pc = .ok (.getfield index, 3))
    (kk : W p l e R s m args below meth c H locs cells slots Q (F0 m (pc + 3) ls (v :: rest))) : W p l e R s m args below meth c H locs cells slots Q (F0 m pc ls (.ref a :: rest)) :=
  va_get C.x C.b C.ts hin C.ow C.K hT.1 q0 he hc k hk (C.ts _ hl) (fun _ h => h) hv hdg kk
theorem r_getN (C : Cx p s m meth c args cc ret nL own g A) (hT : Wd g A s L H locs) {X host : String} {T : u_T} {N ci index q0 : Nat} {fs : List Value} (he : L[q0]? = some (a, .inr (ci, fs))) (hc : vwCl[ci]? = some (X, T, N)) (hin : ∀ w ∈ u_ws X T N, w ∈ GW) (k : Nat) (hk : k < N) (hl : (own, index, (T k).1, (T k).2.1, (T k).2.2.1, host) ∈ NWF) {v : Value} (hv : fs[k]? = some v) (hdg : decode cc pc = .ok (.getfield index, 3))
    (kk : W p l e R s m args below meth c H locs cells slots Q (F0 m (pc + 3) ls (v :: rest))) : W p l e R s m args below meth c H locs cells slots Q (F0 m pc ls (.ref a :: rest)) :=
  va_getN (host := host) C.x C.b C.ts hin C.ow C.K hT.1 q0 he hc k hk ((C.ns.1 _ hl).use rfl) (fun _ h => h) hv hdg kk
theorem r_put (C : Cx p s m meth c args cc ret nL own g A) (hT : Wd g A s L H locs) {X : String} {T : u_T} {N ci index q0 : Nat} {fs : List Value} (he : L[q0]? = some (a, .inr (ci, fs))) (hc : vwCl[ci]? = some (X, T, N)) (hin : ∀ w ∈ u_ws X T N, w ∈ GW) (ty0 : Nat → FieldType) (hty : ∀ k, k < N → parseFieldDescriptor (T k).2.2.1 = some (ty0 k)) (hnm : ∀ a, a < N → ∀ b, b < N → a ≠ b → (T a).2.1 ≠ (T b).2.1) (k : Nat) (hk : k < N) (hl : Cond.fieldLink own index (T k).1 (T k).2.1 (T k).2.2.1 ∈ GW) (hfin : (T k).2.2.2 = false) {ty : FieldType} {v : Value} (hd : parseFieldDescriptor (T k).2.2.1 = some ty) (hn : narrow ty v = v) (hfit : fits ty v = true) (hlen : k < fs.length) (hdg : decode cc pc = .ok (.putfield index, 3))
    (kk : ∀ (H1 : Heap) (locs1 : List Loc), Wd g A s (L.set q0 (a, .inr (ci, fs.set k v))) H1 locs1 → W p l e R s m args below meth c H1 locs1 cells slots Q (F0 m (pc + 3) ls rest)) : W p l e R s m args below meth c H locs cells slots Q (F0 m pc ls (v :: .ref a :: rest)) :=
  va_put C.x C.b C.ts hin ty0 hty hnm C.ow C.K hT.1 hT.2.1 hT.2.2 q0 he hc k hk (C.ts _ hl) (fun _ h => h) hfin hd hn hfit hlen hdg (fun H1 locs1 h1 h2 h3 => kk H1 locs1 ⟨h1, h2, h3⟩)
theorem r_putN (C : Cx p s m meth c args cc ret nL own g A) (hT : Wd g A s L H locs) {X host : String} {T : u_T} {N ci index q0 : Nat} {fs : List Value} (he : L[q0]? = some (a, .inr (ci, fs))) (hc : vwCl[ci]? = some (X, T, N)) (hin : ∀ w ∈ u_ws X T N, w ∈ GW) (ty0 : Nat → FieldType) (hty : ∀ k, k < N → parseFieldDescriptor (T k).2.2.1 = some (ty0 k)) (hnm : ∀ a, a < N → ∀ b, b < N → a ≠ b → (T a).2.1 ≠ (T b).2.1) (k : Nat) (hk : k < N) (hl : (own, index, (T k).1, (T k).2.1, (T k).2.2.1, host) ∈ NWF) (hfin : (T k).2.2.2 = false) {ty : FieldType} {v : Value} (hd : parseFieldDescriptor (T k).2.2.1 = some ty) (hn : narrow ty v = v) (hfit : fits ty v = true) (hlen : k < fs.length) (hdg : decode cc pc = .ok (.putfield index, 3))
    (kk : ∀ (H1 : Heap) (locs1 : List Loc), Wd g A s (L.set q0 (a, .inr (ci, fs.set k v))) H1 locs1 → W p l e R s m args below meth c H1 locs1 cells slots Q (F0 m (pc + 3) ls rest)) : W p l e R s m args below meth c H locs cells slots Q (F0 m pc ls (v :: .ref a :: rest)) :=
  va_putN (host := host) C.x C.b C.ts hin ty0 hty hnm C.ow C.K hT.1 hT.2.1 hT.2.2 q0 he hc k hk ((C.ns.1 _ hl).use rfl) (fun _ h => h) hfin hd hn hfit hlen hdg (fun H1 locs1 h1 h2 h3 => kk H1 locs1 ⟨h1, h2, h3⟩)
theorem r_putF (C : Cx p s m meth c args cc ret nL own g A) (hin2 : meth.name = "<init>") (hT : Wd g A s L H locs) {X : String} {T : u_T} {N ci index q0 : Nat} {fs : List Value} (he : L[q0]? = some (a, .inr (ci, fs))) (hc : vwCl[ci]? = some (X, T, N)) (hin : ∀ w ∈ u_ws X T N, w ∈ GW) (ty0 : Nat → FieldType) (hty : ∀ k, k < N → parseFieldDescriptor (T k).2.2.1 = some (ty0 k)) (hnm : ∀ a, a < N → ∀ b, b < N → a ≠ b → (T a).2.1 ≠ (T b).2.1) (k : Nat) (hk : k < N) (hl : Cond.fieldLink own index (T k).1 (T k).2.1 (T k).2.2.1 ∈ GW) (hfin : (T k).2.2.2 = true) (hdecl : (T k).1 = own) {ty : FieldType} {v : Value} (hd : parseFieldDescriptor (T k).2.2.1 = some ty) (hn : narrow ty v = v) (hfit : fits ty v = true) (hlen : k < fs.length) (hdg : decode cc pc = .ok (.putfield index, 3))
    (kk : ∀ (H1 : Heap) (locs1 : List Loc), Wd g A s (L.set q0 (a, .inr (ci, fs.set k v))) H1 locs1 → W p l e R s m args below meth c H1 locs1 cells slots Q (F0 m (pc + 3) ls rest)) : W p l e R s m args below meth c H locs cells slots Q (F0 m pc ls (v :: .ref a :: rest)) :=
  va_putF C.x C.b C.ts hin ty0 hty hnm C.ow C.K hT.1 hT.2.1 hT.2.2 q0 he hc k hk (C.ts _ hl) (fun _ h => h) hfin hin2 hdecl hd hn hfit hlen hdg (fun H1 locs1 h1 h2 h3 => kk H1 locs1 ⟨h1, h2, h3⟩)
/-- arrays, by a place that is a number -/
theorem r_iald (C : Cx p s m meth c args cc ret nL own g A) (hT : Wd g A s L H locs) {q0 n : Nat} {f : Nat → Int32} (he : L[q0]? = some (a, .inl (g.2.1 0, n, .inl f))) {i : Int32} (k : Nat) (hi : i = nI k) (hk : k < n) (hn : n < 2 ^ 31) (hdg : decode cc pc = .ok (.iaload, 1))
    (kk : W p l e R s m args below meth c H locs cells slots Q (F0 m (pc + 1) ls (.int (f k) :: rest))) : W p l e R s m args below meth c H locs cells slots Q (F0 m pc ls (.int i :: .ref a :: rest)) := by
  subst hi
  refine va_iald C.x C.b C.K hT.1 q0 0 he rfl (vp_in_nI hk hn) hdg ?_
  rw [nI_clamp (by omega)]; exact kk
theorem r_iast (C : Cx p s m meth c args cc ret nL own g A) (hT : Wd g A s L H locs) {q0 n : Nat} {f : Nat → Int32} (he : L[q0]? = some (a, .inl (g.2.1 0, n, .inl f))) {i x : Int32} (k : Nat) (hi : i = nI k) (hk : k < n) (hn : n < 2 ^ 31) (hdg : decode cc pc = .ok (.iastore, 1))
    (kk : ∀ (H1 : Heap) (locs1 : List Loc), Wd g A s (L.set q0 (a, .inl (g.2.1 0, n, .inl (upd f k x)))) H1 locs1 → W p l e R s m args below meth c H1 locs1 cells slots Q (F0 m (pc + 1) ls rest)) : W p l e R s m args below meth c H locs cells slots Q (F0 m pc ls (.int x :: .int i :: .ref a :: rest)) := by
  subst hi
  refine va_iast C.x C.b C.K hT.1 hT.2.1 hT.2.2 q0 0 he rfl (vp_in_nI hk hn) hdg ?_
  rw [nI_clamp (by omega)]; exact fun H1 locs1 h1 h2 h3 => kk H1 locs1 ⟨h1, h2, h3⟩
theorem r_lald (C : Cx p s m meth c args cc ret nL own g A) (hT : Wd g A s L H locs) {q0 n : Nat} {f : Nat → Int64} (he : L[q0]? = some (a, .inl (g.2.1 1, n, .inr (.inl f)))) {i : Int32} (k : Nat) (hi : i = nI k) (hk : k < n) (hn : n < 2 ^ 31) (hdg : decode cc pc = .ok (.laload, 1))
    (kk : W p l e R s m args below meth c H locs cells slots Q (F0 m (pc + 1) ls (.long (f k) :: rest))) : W p l e R s m args below meth c H locs cells slots Q (F0 m pc ls (.int i :: .ref a :: rest)) := by
  subst hi
  refine va_lald C.x C.b C.K hT.1 q0 1 he rfl (vp_in_nI hk hn) hdg ?_
  rw [nI_clamp (by omega)]; exact kk
theorem r_last (C : Cx p s m meth c args cc ret nL own g A) (hT : Wd g A s L H locs) {q0 n : Nat} {f : Nat → Int64} (he : L[q0]? = some (a, .inl (g.2.1 1, n, .inr (.inl f)))) {i : Int32} {x : Int64} (k : Nat) (hi : i = nI k) (hk : k < n) (hn : n < 2 ^ 31) (hdg : decode cc pc = .ok (.lastore, 1))
    (kk : ∀ (H1 : Heap) (locs1 : List Loc), Wd g A s (L.set q0 (a, .inl (g.2.1 1, n, .inr (.inl (vp_updL f k x))))) H1 locs1 → W p l e R s m args below meth c H1 locs1 cells slots Q (F0 m (pc + 1) ls rest)) : W p l e R s m args below meth c H locs cells slots Q (F0 m pc ls (.long x :: .int i :: .ref a :: rest)) := by
  subst hi
  refine va_last C.x C.b C.K hT.1 hT.2.1 hT.2.2 q0 1 he rfl (vp_in_nI hk hn) hdg ?_
  rw [nI_clamp (by omega)]; exact fun H1 locs1 h1 h2 h3 => kk H1 locs1 ⟨h1, h2, h3⟩
theorem r_zald (C : Cx p s m meth c args cc ret nL own g A) (hT : Wd g A s L H locs) {q0 n : Nat} {f : Nat → Int32} (he : L[q0]? = some (a, .inl (g.2.1 2, n, .inl f))) {i : Int32} (k : Nat) (hi : i = nI k) (hk : k < n) (hn : n < 2 ^ 31) (hdg : decode cc pc = .ok (.baload, 1))
    (kk : W p l e R s m args below meth c H locs cells slots Q (F0 m (pc + 1) ls (.int (f k) :: rest))) : W p l e R s m args below meth c H locs cells slots Q (F0 m pc ls (.int i :: .ref a :: rest)) := by
  subst hi
  refine va_zald C.x C.b C.K hT.1 q0 2 he rfl (vp_in_nI hk hn) hdg ?_
  rw [nI_clamp (by omega)]; exact kk
theorem r_aald (C : Cx p s m meth c args cc ret nL own g A) (hT : Wd g A s L H locs) {q0 n : Nat} {f : Nat → Option Nat} (he : L[q0]? = some (a, .inl (g.2.1 3, n, .inr (.inr (.inr (.inr f)))))) {i : Int32} (k : Nat) (hi : i = nI k) (hk : k < n) (hn : n < 2 ^ 31) {b : Nat} (hb : f k = some b) (hdg : decode cc pc = .ok (.aaload, 1))
    (kk : W p l e R s m args below meth c H locs cells slots Q (F0 m (pc + 1) ls (.ref b :: rest))) : W p l e R s m args below meth c H locs cells slots Q (F0 m pc ls (.int i :: .ref a :: rest)) := by
  subst hi
  refine va_aldq C.x C.b C.K hT.1 q0 3 he rfl (vp_in_nI hk hn) hdg ?_
  rw [nI_clamp (by omega), hb]; exact kk
theorem r_alen (C : Cx p s m meth c args cc ret nL own g A) (hT : Wd g A s L H locs) {q0 : Nat} (t0 : Nat) {cA : ClassId} {x : vp_A} (he : L[q0]? = some (a, .inl (cA, x))) {ty : FieldType} (ht : (tysG g)[t0]? = some (cA, ty)) (hdg : decode cc pc = .ok (.arraylength, 1))
    (kk : W p l e R s m args below meth c H locs cells slots Q (F0 m (pc + 1) ls (.int (nI x.1) :: rest))) : W p l e R s m args below meth c H locs cells slots Q (F0 m pc ls (.ref a :: rest)) :=
  va_alen C.x C.b C.K hT.1 q0 t0 he ht rfl hdg kk
end
/-- the frame rule: the callee's cells, by their places, put back -/
def setL : va_W → List Nat → va_W → va_W
  | L, j :: js, e :: l => setL (L.set j e) js l
  | L, _, _ => L
theorem setL_fst : ∀ (js : List Nat) (L lc l : va_W), js.map (fun i => L[i]?) = lc.map some → l.map Prod.fst = lc.map Prod.fst → va_nd js = true → (setL L js l).map Prod.fst = L.map Prod.fst
  | [], L, lc, l, _, _, _ => by cases l <;> rfl
  | j :: js, L, [], l, h, _, _ => by cases h
  | j :: js, L, c :: lc, [], _, h, _ => by cases h
  | j :: js, L, c :: lc, e :: l, h, h1, hn => by
    have hn2 : j ∉ js ∧ va_nd js = true := by
      have := hn
      simp only [va_nd, Bool.and_eq_true, decide_eq_true_eq] at this
      exact this
    simp only [List.map_cons, List.cons.injEq] at h h1
    have hL : (L.set j e).map Prod.fst = L.map Prod.fst := by
      rw [List.map_set, h1.1]
      have := h.1
      apply List.ext_getElem?
      intro i
      by_cases hij : j = i
      · subst hij
        have hlt := (List.getElem?_eq_some_iff.mp this).1
        rw [List.getElem?_set_self (by simpa using hlt), List.getElem?_map, this]
        rfl
      · rw [List.getElem?_set_ne hij]
    have h2 : js.map (fun i => (L.set j e)[i]?) = lc.map some := by
      rw [← h.2]
      apply List.map_congr_left
      intro i hi
      exact List.getElem?_set_ne (fun (q : j = i) => hn2.1 (by rw [q]; exact hi))
    show (setL (L.set j e) js l).map Prod.fst = _
    rw [setL_fst js (L.set j e) lc l h2 h1.2 hn2.2, hL]
theorem setL_mem : ∀ (js : List Nat) (L l : va_W) (i : Nat) (q : Nat × va_E), js.length = l.length → (setL L js l)[i]? = some q → (∃ k : Nat, l[k]? = some q) ∨ (i ∉ js ∧ L[i]? = some q)
  | [], L, l, i, q, _, h => Or.inr ⟨List.not_mem_nil, by cases l <;> exact h⟩
  | j :: js, L, [], i, q, h, _ => by cases h
  | j :: js, L, e :: l, i, q, hlen, h => by
    rcases setL_mem js (L.set j e) l i q (by simpa using hlen) h with ⟨k, hk⟩ | ⟨h1, h2⟩
    · exact Or.inl ⟨k + 1, by simpa using hk⟩
    · by_cases hij : j = i
      · subst hij
        by_cases hlt : j < L.length
        · rw [List.getElem?_set_self hlt] at h2
          exact Or.inl ⟨0, h2⟩
        · rw [List.getElem?_eq_none (by simp; omega)] at h2
          cases h2
      · rw [List.getElem?_set_ne hij] at h2
        exact Or.inr ⟨by simp only [List.mem_cons, not_or]; exact ⟨fun q => hij q.symm, h1⟩, h2⟩
theorem va_D.fst {A : Nat → Prop} {L L1 : va_W} (h : L1.map Prod.fst = L.map Prod.fst) (hD : va_D A L) : va_D A L1 := by
  have key : ∀ (k : Nat) (q : Nat × va_E), L1[k]? = some q → ∃ q0, L[k]? = some q0 ∧ q0.1 = q.1 := by
    intro k q hk
    have h1 : (L1.map Prod.fst)[k]? = some q.1 := by rw [List.getElem?_map, hk]; rfl
    rw [h, List.getElem?_map] at h1
    cases h2 : L[k]? with
    | none => rw [h2] at h1; cases h1
    | some q0 => rw [h2] at h1; exact ⟨q0, rfl, Option.some.inj h1⟩
  refine ⟨fun i j p q hp hq hpq => ?_, fun k q hk => ?_⟩
  · obtain ⟨p0, a1, a2⟩ := key i p hp
    obtain ⟨q0, b1, b2⟩ := key j q hq
    exact hD.1 i j p0 q0 a1 b1 (by rw [a2, b2, hpq])
  · obtain ⟨q0, a1, a2⟩ := key k q hk
    rw [← a2]; exact hD.2 k q0 a1
theorem fj {A : Nat → Prop} {D : va_G} {cl : List vw_C} {L lc l1 l2 : va_W} {js : List Nat} {H H1 : Heap} (hP : va_P D cl L H) (hD : va_D A L) (hjs : js.map (fun i => L[i]?) = lc.map some) (hnd : va_nd js = true) (h1 : l1.map Prod.fst = lc.map Prod.fst) (hP1 : va_P D cl (l1 ++ l2) H1) (hD1 : va_D (va_A lc H.size) (l1 ++ l2))
    (hk : ∀ q : Nat, q < H.size → ¬ va_A lc H.size q → H1[q]? = H[q]?) (hF : ∀ q, va_A lc H.size q → A q) : va_P D cl (setL L js l1 ++ l2) H1 ∧ va_D A (setL L js l1 ++ l2) := by
  have hlen : js.length = l1.length := by
    have a1 := congrArg List.length hjs
    have a2 := congrArg List.length h1
    simp only [List.length_map] at a1 a2
    omega
  have at' : ∀ (k : Nat) (q : Nat × va_E), lc[k]? = some q → ∃ i, js[k]? = some i ∧ L[i]? = some q := by
    intro k q hq
    have h1 : (js.map (fun i => L[i]?))[k]? = some (some q) := by rw [hjs, List.getElem?_map, hq]; rfl
    rw [List.getElem?_map] at h1
    cases hi : js[k]? with
    | none => rw [hi] at h1; cases h1
    | some i => rw [hi] at h1; exact ⟨i, rfl, Option.some.inj h1⟩
  have old : ∀ (i : Nat) (q : Nat × va_E), L[i]? = some q → i ∉ js → ¬ va_A lc H.size q.1 := by
    intro i q hq hi h
    rcases h with ⟨k2, e, h⟩ | h
    · obtain ⟨j, h3, h4⟩ := at' k2 (q.1, e) h
      have hij := hD.1 i j q (q.1, e) hq h4 rfl
      exact hi (hij ▸ List.mem_of_getElem? h3)
    · have := (hP i q hq).lt; omega
  have hfst := setL_fst js L lc l1 hjs h1 hnd
  have new : ∀ (k : Nat) (q : Nat × va_E), l2[k]? = some q → H.size ≤ q.1 := by
    intro k q hq
    have hq2 : (l1 ++ l2)[l1.length + k]? = some q := by rw [List.getElem?_append_right (by omega), Nat.add_sub_cancel_left]; exact hq
    rcases hD1.2 _ q hq2 with ⟨k2, e, h⟩ | h
    · have h3 : (l1.map Prod.fst)[k2]? = some q.1 := by rw [h1, List.getElem?_map, h]; rfl
      rw [List.getElem?_map] at h3
      cases h4 : l1[k2]? with
      | none => rw [h4] at h3; cases h3
      | some q0 =>
        rw [h4] at h3
        have h5 : (l1 ++ l2)[k2]? = some q0 := by rw [List.getElem?_append_left (List.getElem?_eq_some_iff.mp h4).1]; exact h4
        have := hD1.1 k2 (l1.length + k) q0 q h5 hq2 (Option.some.inj h3)
        have := (List.getElem?_eq_some_iff.mp h4).1
        omega
    · exact h
  refine ⟨va_P.app (fun i q hq => ?_) (fun k q hq => hP1 (l1.length + k) q (by rw [List.getElem?_append_right (by omega), Nat.add_sub_cancel_left]; exact hq)), va_D.app (va_D.fst hfst hD) ⟨fun i j x y hx hy hxy => ?_, fun k q hq => ?_⟩ (fun i j x y hx hy hxy => ?_)⟩
  · rcases setL_mem js L l1 i q hlen hq with ⟨k, h2⟩ | ⟨h2, h3⟩
    · exact hP1 k q (by rw [List.getElem?_append_left (List.getElem?_eq_some_iff.mp h2).1]; exact h2)
    · exact (hP i q h3).kept (hk q.1 ((hP i q h3).lt) (old i q h3 h2))
  · have := hD1.1 (l1.length + i) (l1.length + j) x y (by rw [List.getElem?_append_right (by omega), Nat.add_sub_cancel_left]; exact hx) (by rw [List.getElem?_append_right (by omega), Nat.add_sub_cancel_left]; exact hy) hxy
    omega
  · exact hF _ (hD1.2 (l1.length + k) q (by rw [List.getElem?_append_right (by omega), Nat.add_sub_cancel_left]; exact hq))
  · have h3 : ((setL L js l1).map Prod.fst)[i]? = some x.1 := by rw [List.getElem?_map, hx]; rfl
    rw [hfst, List.getElem?_map] at h3
    cases h4 : L[i]? with
    | none => rw [h4] at h3; cases h3
    | some x0 =>
      rw [h4] at h3
      have a1 : x0.1 = x.1 := Option.some.inj h3
      have a2 := (hP i x0 h4).lt
      have a3 := new j y hy
      rw [a1, hxy] at a2
      omega
end
section
section
variable {p : Program} {l : Launch} {e : Env} {R : Room} {s : State} {m : MethodId} {args : Array Value} {below : List Frame} {meth : Method} {c : Code} {H : Heap} {locs : List Loc} {cells slots : Nat} {Q : State → Prop} {cc : ByteArray} {ret : Option FieldType} {nL : Nat} {own : String} {g : GT} {A : Nat → Prop} {L : va_W} {pc : Nat} {ls : Array Slot} {rest : List Value} {a : Nat}
theorem gw_code {y : MethodName} {bytes : ByteArray} {nl : Nat} {rt : Option FieldType} (k5 : Cond.code y bytes nl rt ∈ GW) : GoodIn GW (Cond.code y bytes nl rt :: GW) := fun w h => (List.mem_cons.mp h).elim (fun e => by rw [e]; exact ⟨k5, gw_good k5⟩) (fun h => ⟨h, gw_good h⟩)
theorem pick {L lc : va_W} {js : List Nat} (hjs : js.map (fun i => L[i]?) = lc.map some) (k : Nat) (q : Nat × va_E) (hq : lc[k]? = some q) : ∃ i, js[k]? = some i ∧ L[i]? = some q := by
  have h1 : (js.map (fun i => L[i]?))[k]? = some (some q) := by rw [hjs, List.getElem?_map, hq]; rfl
  rw [List.getElem?_map] at h1
  cases hi : js[k]? with
  | none => rw [hi] at h1; cases h1
  | some i => rw [hi] at h1; exact ⟨i, rfl, Option.some.inj h1⟩
theorem preG (C : Cx p s m meth c args cc ret nL own g A) (hT : Wd g A s L H locs) {lc : va_W} {js : List Nat} (hjs : js.map (fun i => L[i]?) = lc.map some) (hnd : va_nd js = true) (U : State) (hU : U.heap = H) (hW : s.WarmedH U.vm) : PreG g lc H.size U := by
  have hF := va_free hT.2.1 hT.2.2 C.fA js hjs
  refine ⟨by rw [hU], fun k q hq => ?_, va_K.moved hW.alike C.K, (hT.2.1.sub js hnd hjs).weaken (fun _ _ _ _ => trivial), ?_, NS.warm hW C.ns⟩
  · obtain ⟨i, -, h⟩ := pick hjs k q hq
    rw [hU]; exact hT.1 i q h
  · rw [hU]; exact (SP.moved hW.alike (C.sp.kept hT.2.2.2.1)).narrow hF
theorem r_call {S : Type} {rv : S → Option Value} {L1 L2 : S → va_W} {lc : va_W} {js : List Nat} {mc ms : Nat} {st0 : List Value} {aa : Array Value} (C : Cx p s m meth c args cc ret nL own g A) (hT : Wd g A s L H locs) (hr : va_Run p l e R s m args below meth c H locs cells slots mc ms (F0 m pc ls st0) rest (QG g (va_A lc H.size) rv (fun u => L1 u ++ L2 u) aa) (va_A lc H.size))
    (hjs : js.map (fun i => L[i]?) = lc.map some) (hnd : va_nd js = true) (h1 : ∀ u, (L1 u).map Prod.fst = lc.map Prod.fst)
    (kk : ∀ (u : S) (H1 : Heap) (locs1 : List Loc), Wd g A s (setL L js (L1 u) ++ L2 u) H1 locs1 → W p l e R s m args below meth c H1 locs1 (cells + mc) (slots + ms) Q (F0 m (pc + 3) ls ((rv u).toList ++ rest))) : W p l e R s m args below meth c H locs cells slots Q (F0 m pc ls st0) := by
  have hF := va_free hT.2.1 hT.2.2 C.fA js hjs
  have hS := hT.2.2
  intro T hTT X
  obtain ⟨v, st₀, t, T', LL, h0, X', hL, e1, e2, ⟨⟨u, hv, hb, hK1, hD1⟩, hz, hk⟩, st⟩ := hr T hTT X
  cases hv
  rw [h0] at hz hk
  have hk' : ∀ q : Nat, q < H.size → ¬ va_A lc H.size q → T'.heap[q]? = H[q]? := fun q h1 h2 => by rw [e1]; exact hk q h1 h2
  obtain ⟨hPn, hDn⟩ := fj hT.1 hT.2.1 hjs hnd (h1 u) (by rw [e1]; exact hb) hD1 hk' hF
  obtain ⟨t2, a1, b1⟩ := kk u T'.heap (locs ++ LL) ⟨hPn, hDn, Nat.le_trans hS.1 (by rw [e1]; exact hz), fun q h1 h2 => by rw [e1, hk q (Nat.lt_of_lt_of_le h1 hS.1) (fun z => h2 (hF q z))]; exact hS.2.1 q h1 h2, fun q hq => by
      rcases List.mem_append.mp hq with h | h
      · exact hS.2.2 q h
      · exact hF _ (hL q h)⟩ T' rfl X'
  exact ⟨t2, st t2 a1, b1⟩
theorem r_call0 {S : Type} {rv : S → Option Value} {L1 : S → va_W} {lc : va_W} {js : List Nat} {mc ms : Nat} {st0 : List Value} {aa : Array Value} (C : Cx p s m meth c args cc ret nL own g A) (hT : Wd g A s L H locs) (hr : va_Run p l e R s m args below meth c H locs cells slots mc ms (F0 m pc ls st0) rest (QG g (va_A lc H.size) rv L1 aa) (va_A lc H.size))
    (hjs : js.map (fun i => L[i]?) = lc.map some) (hnd : va_nd js = true) (h1 : ∀ u, (L1 u).map Prod.fst = lc.map Prod.fst)
    (kk : ∀ (u : S) (H1 : Heap) (locs1 : List Loc), Wd g A s (setL L js (L1 u)) H1 locs1 → W p l e R s m args below meth c H1 locs1 (cells + mc) (slots + ms) Q (F0 m (pc + 3) ls ((rv u).toList ++ rest))) : W p l e R s m args below meth c H locs cells slots Q (F0 m pc ls st0) := by
  have hL : L1 = fun u => L1 u ++ [] := by funext u; rw [List.append_nil]
  rw [hL] at hr
  refine r_call (L2 := fun _ => []) C hT hr hjs hnd h1 (fun u H1 locs1 h => kk u H1 locs1 ?_)
  rw [List.append_nil] at h; exact h
abbrev dsc (y : MethodName) (n : Nat) : Prop := y.cls ≠ "java/lang/invoke/MethodHandle" ∧ y.cls ≠ "java/lang/invoke/VarHandle" ∧ (parseMethodDescriptor y.desc).map (fun d => d.parameters.length) = some n
theorem runV {S : Type} {rv : S → Option Value} {L1 : S → va_W} {lc : va_W} {js : List Nat} {y : MethodName} {bytes : ByteArray} {nl n index ci q1 : Nat} {rt : Option FieldType} {rm : Room} {b : Nat} {As : List Value} {st0 : List Value} {T : u_T} {N : Nat} {fs : List Value} (C : Cx p s m meth c args cc ret nL own g A) (hT : Wd g A s L H locs) (hM : OM l g y bytes nl rt rm (.ref b :: As) lc rv L1) (hjs : js.map (fun i => L[i]?) = lc.map some) (hnd : va_nd js = true)
    (k1 : Cond.methodLink own index y ∈ GW) (k2 : Cond.instanceMethod y ∈ GW) (k3 : Cond.selects y.cls y y ∈ GW) (k4 : Cond.initialized y.cls ∈ GW) (k5 : Cond.code y bytes nl rt ∈ GW) (hd : dsc y n) (hn : As.length = n) (hrec : lc[q1]? = some (b, .inr (ci, fs))) (hci : vwCl[ci]? = some (y.cls, T, N)) (hst : st0 = As.reverse ++ .ref b :: rest) (hw : (rest.map fun v => v.category).sum ≤ 8) (hls : ls.size = nL)
    (hR : rm.frames + 1 ≤ R.frames ∧ 8 + (nl + 11) + rm.locals ≤ R.locals) (hcs : cells + rm.cells ≤ R.cells ∧ slots + rm.slots ≤ R.slots) (hdg : decode cc pc = .ok (.invokevirtual index, 3)) :
    va_Run p l e R s m args below meth c H locs cells slots rm.cells rm.slots (F0 m pc ls st0) rest (QG g (va_A lc H.size) rv L1 (Value.ref b :: As).toArray) (va_A lc H.size) := by
  refine va_runV (C := y.cls) (n := n) (rest := rest) ⟨C.x, C.b, C.ml, C.ow, C.ts⟩ (hM H.size) ⟨callB_of n C.ts (gw_code k5) rfl rfl rfl (C.ts _ k4) (C.ts _ k1) hd hR, C.ts _ k2, C.ts _ k3⟩ ⟨blindG, ?_, fun U hU hW => ⟨rfl, preG C hT hjs hnd U hU hW⟩⟩ rfl hn hls hst (lv_room hw) hdg hcs
  obtain ⟨i, -, h⟩ := pick hjs q1 _ hrec
  exact va_recv C.K hT.1 hci h
theorem runS {S : Type} {rv : S → Option Value} {L1 : S → va_W} {lc : va_W} {js : List Nat} {y : MethodName} {bytes : ByteArray} {nl n index : Nat} {rt : Option FieldType} {rm : Room} {As : List Value} {st0 : List Value} (C : Cx p s m meth c args cc ret nL own g A) (hT : Wd g A s L H locs) (hM : OM l g y bytes nl rt rm As lc rv L1) (hjs : js.map (fun i => L[i]?) = lc.map some) (hnd : va_nd js = true)
    (k1 : Cond.methodLink own index y ∈ GW) (k2 : Cond.static y ∈ GW) (k4 : Cond.initialized y.cls ∈ GW) (k5 : Cond.code y bytes nl rt ∈ GW) (hd : dsc y n) (hn : As.length = n) (hst : st0 = As.reverse ++ rest) (hw : (rest.map fun v => v.category).sum ≤ 8) (hls : ls.size = nL)
    (hR : rm.frames + 1 ≤ R.frames ∧ 8 + (nl + 11) + rm.locals ≤ R.locals) (hcs : cells + rm.cells ≤ R.cells ∧ slots + rm.slots ≤ R.slots) (hdg : decode cc pc = .ok (.invokestatic index, 3)) :
    va_Run p l e R s m args below meth c H locs cells slots rm.cells rm.slots (F0 m pc ls st0) rest (QG g (va_A lc H.size) rv L1 As.toArray) (va_A lc H.size) :=
  va_runS (n := n) (rest := rest) ⟨C.x, C.b, C.ml, C.ow, C.ts⟩ (hM H.size) ⟨callB_of n C.ts (gw_code k5) rfl rfl rfl (C.ts _ k4) (C.ts _ k1) hd hR, C.ts _ k2⟩ ⟨blindG, fun U hU hW => ⟨rfl, preG C hT hjs hnd U hU hW⟩⟩ rfl hn hls hst (lv_room hw) hdg hcs
theorem runI {S : Type} {rv : S → Option Value} {L1 : S → va_W} {lc : va_W} {js : List Nat} {y : MethodName} {bytes : ByteArray} {nl n index : Nat} {rm : Room} {b : Nat} {As : List Value} {st0 : List Value} (C : Cx p s m meth c args cc ret nL own g A) (hT : Wd g A s L H locs) (hM : OM l g y bytes nl none rm (.ref b :: As) lc rv L1) (hjs : js.map (fun i => L[i]?) = lc.map some) (hnd : va_nd js = true)
    (k1 : Cond.methodLink own index y ∈ GW) (k2 : Cond.instanceMethod y ∈ GW) (k4 : Cond.initialized y.cls ∈ GW) (k5 : Cond.code y bytes nl none ∈ GW) (hy : y.name = "<init>") (hd : dsc y n) (hn : As.length = n) (hst : st0 = As.reverse ++ .ref b :: rest) (hw : (rest.map fun v => v.category).sum ≤ 8) (hls : ls.size = nL)
    (hR : rm.frames + 1 ≤ R.frames ∧ 8 + (nl + 11) + rm.locals ≤ R.locals) (hcs : cells + rm.cells ≤ R.cells ∧ slots + rm.slots ≤ R.slots) (hdg : decode cc pc = .ok (.invokespecial index, 3)) :
    va_Run p l e R s m args below meth c H locs cells slots rm.cells rm.slots (F0 m pc ls st0) rest (QG g (va_A lc H.size) rv L1 (Value.ref b :: As).toArray) (va_A lc H.size) :=
  va_runI (n := n) (rest := rest) ⟨C.x, C.b, C.ml, C.ow, C.ts⟩ (hM H.size) ⟨callB_of n C.ts (gw_code k5) rfl rfl rfl (C.ts _ k4) (C.ts _ k1) hd hR, hy, C.ts _ k2⟩ ⟨blindG, fun U hU hW => ⟨rfl, preG C hT hjs hnd U hU hW⟩⟩ rfl hn hls hst (lv_room hw) hdg hcs
theorem runIN {S : Type} {rv : S → Option Value} {L1 : S → va_W} {lc : va_W} {js : List Nat} {y : MethodName} {host : String} {bytes : ByteArray} {nl n index : Nat} {rm : Room} {b : Nat} {As : List Value} {st0 : List Value} (C : Cx p s m meth c args cc ret nL own g A) (hT : Wd g A s L H locs) (hM : OM l g y bytes nl none rm (.ref b :: As) lc rv L1) (hjs : js.map (fun i => L[i]?) = lc.map some) (hnd : va_nd js = true)
    (k1 : (own, index, y, host) ∈ NWM) (k2 : Cond.instanceMethod y ∈ GW) (k4 : Cond.initialized y.cls ∈ GW) (k5 : Cond.code y bytes nl none ∈ GW) (hy : y.name = "<init>") (hd : dsc y n) (hn : As.length = n) (hst : st0 = As.reverse ++ .ref b :: rest) (hw : (rest.map fun v => v.category).sum ≤ 8) (hls : ls.size = nL)
    (hR : rm.frames + 1 ≤ R.frames ∧ 8 + (nl + 11) + rm.locals ≤ R.locals) (hcs : cells + rm.cells ≤ R.cells ∧ slots + rm.slots ≤ R.slots) (hdg : decode cc pc = .ok (.invokespecial index, 3)) :
    va_Run p l e R s m args below meth c H locs cells slots rm.cells rm.slots (F0 m pc ls st0) rest (QG g (va_A lc H.size) rv L1 (Value.ref b :: As).toArray) (va_A lc H.size) :=
  va_runIN (n := n) (rest := rest) ⟨C.x, C.b, C.ml, C.ow, C.ts⟩ (hM H.size) ⟨va_cnB n C.ts (gw_code k5) rfl rfl rfl (C.ns.2 _ k1) (C.ts _ k4) hd hR, hy, C.ts _ k2⟩ ⟨blindG, fun U hU hW => ⟨rfl, preG C hT hjs hnd U hU hW⟩⟩ rfl hn hls hst (lv_room hw) hdg hcs
/-- new objects and arrays -/
theorem r_new (C : Cx p s m meth c args cc ret nL own g A) (hT : Wd g A s L H locs) {X : String} {T : u_T} {N ci index : Nat} (hc : vwCl[ci]? = some (X, T, N)) (hin : ∀ w ∈ u_ws X T N, w ∈ GW) (ty : Nat → FieldType) (hty : ∀ k, k < N → parseFieldDescriptor (T k).2.2.1 = some (ty k)) (k1 : Cond.classLink own index X ∈ GW) (k2 : Cond.instantiable X N ∈ GW) (k3 : Cond.initialized X ∈ GW) {fs : List Value} (hfs : ∀ j, j < N → defaultValue (ty j) = vp_V fs j) (hcells : cells + 1 ≤ R.cells) (hslots : slots + N ≤ R.slots) (hdg : decode cc pc = .ok (.new index, 3))
    (kk : ∀ (q : Nat) (H1 : Heap), Wd g A s (L ++ [(q, .inr (ci, fs))]) H1 locs → W p l e R s m args below meth c H1 locs (cells + 1) (slots + N) Q (F0 m (pc + 3) ls (.ref q :: rest))) : W p l e R s m args below meth c H locs cells slots Q (F0 m pc ls rest) :=
  va_new C.x C.b C.ts hin ty hty C.ow (C.ts _ k1) (C.ts _ k2) (C.ts _ k3) C.K hT.1 hT.2.1 hT.2.2 C.fA hc hfs hcells hslots hdg (fun q H1 h1 h2 h3 => kk q H1 ⟨h1, h2, h3⟩)
theorem fcls {s : State} {x y : ClassId} {n : String} (h1 : s.vm.findClass n = some x) (h2 : s.vm.findClass n = some y) : x = y := Option.some.inj (h1.symm.trans h2)
theorem r_newi (C : Cx p s m meth c args cc ret nL own g A) (hT : Wd g A s L H locs) (k1 : Cond.arrayClass .int ∈ GW) {n : Int32} {N : Nat} (hn : n = nI N) (hN : N < 2 ^ 26) (hcells : cells + 1 ≤ R.cells) (hslots : slots + N ≤ R.slots) (hdg : decode cc pc = .ok (.newarray .int, 2))
    (kk : ∀ (q : Nat) (H1 : Heap), Wd g A s (L ++ [(q, .inl (g.2.1 0, N, .inl (fun _ => 0)))]) H1 locs → W p l e R s m args below meth c H1 locs (cells + 1) (slots + N) Q (F0 m (pc + 2) ls (.ref q :: rest))) : W p l e R s m args below meth c H locs cells slots Q (F0 m pc ls (.int n :: rest)) := by
  subst hn
  refine va_newa (atype := .int) (ty := .int) (N' := N) (a0 := (N, .inl (fun _ => 0))) C.x C.b (C.ts _ k1) rfl C.K hT.1 hT.2.1 hT.2.2 C.fA (fun cA => rfl) (nI_pos (by omega)) (nI_clamp (by omega)) (by show N * 4 ≤ _; omega) hcells hslots hdg (fun q cA H1 h0 h1 h2 h3 => ?_)
  have e1 := (h0.2 4 (cA, .int) rfl).2
  have e2 := (h0.2 0 (g.2.1 0, .int) rfl).2
  have e3 : cA = g.2.1 0 := fcls e1 e2
  subst e3
  exact kk q H1 ⟨h1, h2, h3⟩
theorem r_newl (C : Cx p s m meth c args cc ret nL own g A) (hT : Wd g A s L H locs) (k1 : Cond.arrayClass .long ∈ GW) {n : Int32} {N : Nat} (hn : n = nI N) (hN : N < 2 ^ 26) (hcells : cells + 1 ≤ R.cells) (hslots : slots + N ≤ R.slots) (hdg : decode cc pc = .ok (.newarray .long, 2))
    (kk : ∀ (q : Nat) (H1 : Heap), Wd g A s (L ++ [(q, .inl (g.2.1 1, N, .inr (.inl (fun _ => 0))))]) H1 locs → W p l e R s m args below meth c H1 locs (cells + 1) (slots + N) Q (F0 m (pc + 2) ls (.ref q :: rest))) : W p l e R s m args below meth c H locs cells slots Q (F0 m pc ls (.int n :: rest)) := by
  subst hn
  refine va_newa (atype := .long) (ty := .long) (N' := N) (a0 := (N, .inr (.inl (fun _ => 0)))) C.x C.b (C.ts _ k1) rfl C.K hT.1 hT.2.1 hT.2.2 C.fA (fun cA => rfl) (nI_pos (by omega)) (nI_clamp (by omega)) (by show N * 8 ≤ _; omega) hcells hslots hdg (fun q cA H1 h0 h1 h2 h3 => ?_)
  have e1 := (h0.2 4 (cA, .long) rfl).2
  have e2 := (h0.2 1 (g.2.1 1, .long) rfl).2
  have e3 : cA = g.2.1 1 := fcls e1 e2
  subst e3
  exact kk q H1 ⟨h1, h2, h3⟩
theorem r_newz (C : Cx p s m meth c args cc ret nL own g A) (hT : Wd g A s L H locs) (k1 : Cond.arrayClass .boolean ∈ GW) {n : Int32} {N : Nat} (hn : n = nI N) (hN : N < 2 ^ 26) (hcells : cells + 1 ≤ R.cells) (hslots : slots + N ≤ R.slots) (hdg : decode cc pc = .ok (.newarray .boolean, 2))
    (kk : ∀ (q : Nat) (H1 : Heap), Wd g A s (L ++ [(q, .inl (g.2.1 2, N, .inl (fun _ => 0)))]) H1 locs → W p l e R s m args below meth c H1 locs (cells + 1) (slots + N) Q (F0 m (pc + 2) ls (.ref q :: rest))) : W p l e R s m args below meth c H locs cells slots Q (F0 m pc ls (.int n :: rest)) := by
  subst hn
  refine va_newa (atype := .boolean) (ty := .boolean) (N' := N) (a0 := (N, .inl (fun _ => 0))) C.x C.b (C.ts _ k1) rfl C.K hT.1 hT.2.1 hT.2.2 C.fA (fun cA => rfl) (nI_pos (by omega)) (nI_clamp (by omega)) (by show N * 1 ≤ _; omega) hcells hslots hdg (fun q cA H1 h0 h1 h2 h3 => ?_)
  have e1 := (h0.2 4 (cA, .boolean) rfl).2
  have e2 := (h0.2 2 (g.2.1 2, .boolean) rfl).2
  have e3 : cA = g.2.1 2 := fcls e1 e2
  subst e3
  exact kk q H1 ⟨h1, h2, h3⟩
end
end
section
section
variable {p : Program} {l : Launch} {e : Env} {R : Room} {s : State} {m : MethodId} {args : Array Value} {below : List Frame} {meth : Method} {c : Code} {H : Heap} {locs : List Loc} {cells slots : Nat} {Q : State → Prop} {cc : ByteArray} {ret : Option FieldType} {nL : Nat} {g : GT} {A : Nat → Prop} {L : va_W} {pc : Nat} {ls : Array Slot} {rest : List Value} {a : Nat}
theorem gX0_11 (C : Cx p s m meth c args cc ret nL RX0 g A) (hT : Wd g A s L H locs) {q0 : Nat} {v0 v1 : Value} (he : L[q0]? = some (a, .inr (0, [v0, v1]))) (hdg : decode cc pc = .ok (.getfield 11, 3)) (kk : W p l e R s m args below meth c H locs cells slots Q (F0 m (pc + 3) ls (v1 :: rest))) : W p l e R s m args below meth c H locs cells slots Q (F0 m pc ls (.ref a :: rest)) :=
  r_get C hT he rfl inX0 1 (by decide) k247 rfl hdg kk
theorem pX0_11 (C : Cx p s m meth c args cc ret nL RX0 g A) (hT : Wd g A s L H locs) {q0 : Nat} {v0 v1 : Value} (he : L[q0]? = some (a, .inr (0, [v0, v1]))) {x : Int64} (hdg : decode cc pc = .ok (.putfield 11, 3)) (kk : ∀ (H1 : Heap) (locs1 : List Loc), Wd g A s (L.set q0 (a, .inr (0, [v0, .long x]))) H1 locs1 → W p l e R s m args below meth c H1 locs1 cells slots Q (F0 m (pc + 3) ls rest)) : W p l e R s m args below meth c H locs cells slots Q (F0 m pc ls (.long x :: .ref a :: rest)) :=
  r_put C hT he rfl inX0 tyX0 tyX0_ok nmX0 1 (by decide) k247 rfl (ty := .long) (by decide +kernel) rfl rfl (Nat.le_of_ble_eq_true rfl) hdg kk
theorem gX0_15 (C : Cx p s m meth c args cc ret nL RX0 g A) (hT : Wd g A s L H locs) {q0 : Nat} {v0 v1 : Value} (he : L[q0]? = some (a, .inr (0, [v0, v1]))) (hdg : decode cc pc = .ok (.getfield 15, 3)) (kk : W p l e R s m args below meth c H locs cells slots Q (F0 m (pc + 3) ls (v0 :: rest))) : W p l e R s m args below meth c H locs cells slots Q (F0 m pc ls (.ref a :: rest)) :=
  r_get C hT he rfl inX0 0 (by decide) k246 rfl hdg kk
theorem pX0_15 (C : Cx p s m meth c args cc ret nL RX0 g A) (hT : Wd g A s L H locs) {q0 : Nat} {v0 v1 : Value} (he : L[q0]? = some (a, .inr (0, [v0, v1]))) {x : Int64} (hdg : decode cc pc = .ok (.putfield 15, 3)) (kk : ∀ (H1 : Heap) (locs1 : List Loc), Wd g A s (L.set q0 (a, .inr (0, [.long x, v1]))) H1 locs1 → W p l e R s m args below meth c H1 locs1 cells slots Q (F0 m (pc + 3) ls rest)) : W p l e R s m args below meth c H locs cells slots Q (F0 m pc ls (.long x :: .ref a :: rest)) :=
  r_put C hT he rfl inX0 tyX0 tyX0_ok nmX0 0 (by decide) k246 rfl (ty := .long) (by decide +kernel) rfl rfl (Nat.le_of_ble_eq_true rfl) hdg kk
theorem gX1_9 (C : Cx p s m meth c args cc ret nL RX1 g A) (hT : Wd g A s L H locs) {q0 : Nat} {v0 v1 : Value} (he : L[q0]? = some (a, .inr (1, [v0, v1]))) (hdg : decode cc pc = .ok (.getfield 9, 3)) (kk : W p l e R s m args below meth c H locs cells slots Q (F0 m (pc + 3) ls (v0 :: rest))) : W p l e R s m args below meth c H locs cells slots Q (F0 m pc ls (.ref a :: rest)) :=
  r_get C hT he rfl inX1 0 (by decide) k147 rfl hdg kk
theorem pX1_9 (C : Cx p s m meth c args cc ret nL RX1 g A) (hin : meth.name = "<init>") (hT : Wd g A s L H locs) {q0 : Nat} {v0 v1 : Value} (he : L[q0]? = some (a, .inr (1, [v0, v1]))) {x : Nat} (hdg : decode cc pc = .ok (.putfield 9, 3)) (kk : ∀ (H1 : Heap) (locs1 : List Loc), Wd g A s (L.set q0 (a, .inr (1, [.ref x, v1]))) H1 locs1 → W p l e R s m args below meth c H1 locs1 cells slots Q (F0 m (pc + 3) ls rest)) : W p l e R s m args below meth c H locs cells slots Q (F0 m pc ls (.ref x :: .ref a :: rest)) :=
  r_putF C hin hT he rfl inX1 tyX1 tyX1_ok nmX1 0 (by decide) k147 rfl rfl (ty := (.array .int)) (by decide +kernel) rfl rfl (Nat.le_of_ble_eq_true rfl) hdg kk
theorem gX1_37 (C : Cx p s m meth c args cc ret nL RX1 g A) (hT : Wd g A s L H locs) {q0 : Nat} {v0 v1 : Value} (he : L[q0]? = some (a, .inr (1, [v0, v1]))) (hdg : decode cc pc = .ok (.getfield 37, 3)) (kk : W p l e R s m args below meth c H locs cells slots Q (F0 m (pc + 3) ls (v1 :: rest))) : W p l e R s m args below meth c H locs cells slots Q (F0 m pc ls (.ref a :: rest)) :=
  r_get C hT he rfl inX1 1 (by decide) k149 rfl hdg kk
theorem pX1_37 (C : Cx p s m meth c args cc ret nL RX1 g A) (hT : Wd g A s L H locs) {q0 : Nat} {v0 v1 : Value} (he : L[q0]? = some (a, .inr (1, [v0, v1]))) {x : Int32} (hdg : decode cc pc = .ok (.putfield 37, 3)) (kk : ∀ (H1 : Heap) (locs1 : List Loc), Wd g A s (L.set q0 (a, .inr (1, [v0, .int x]))) H1 locs1 → W p l e R s m args below meth c H1 locs1 cells slots Q (F0 m (pc + 3) ls rest)) : W p l e R s m args below meth c H locs cells slots Q (F0 m pc ls (.int x :: .ref a :: rest)) :=
  r_put C hT he rfl inX1 tyX1 tyX1_ok nmX1 1 (by decide) k149 rfl (ty := .int) (by decide +kernel) rfl rfl (Nat.le_of_ble_eq_true rfl) hdg kk
theorem gX10_16 (C : Cx p s m meth c args cc ret nL RX10 g A) (hT : Wd g A s L H locs) {q0 : Nat} {v0 v1 v2 v3 v4 v5 v6 v7 v8 v9 : Value} (he : L[q0]? = some (a, .inr (10, [v0, v1, v2, v3, v4, v5, v6, v7, v8, v9]))) (hdg : decode cc pc = .ok (.getfield 16, 3)) (kk : W p l e R s m args below meth c H locs cells slots Q (F0 m (pc + 3) ls (v0 :: rest))) : W p l e R s m args below meth c H locs cells slots Q (F0 m pc ls (.ref a :: rest)) :=
  r_get C hT he rfl inX10 0 (by decide) k253 rfl hdg kk
theorem pX10_16 (C : Cx p s m meth c args cc ret nL RX10 g A) (hin : meth.name = "<init>") (hT : Wd g A s L H locs) {q0 : Nat} {v0 v1 v2 v3 v4 v5 v6 v7 v8 v9 : Value} (he : L[q0]? = some (a, .inr (10, [v0, v1, v2, v3, v4, v5, v6, v7, v8, v9]))) {x : Nat} (hdg : decode cc pc = .ok (.putfield 16, 3)) (kk : ∀ (H1 : Heap) (locs1 : List Loc), Wd g A s (L.set q0 (a, .inr (10, [.ref x, v1, v2, v3, v4, v5, v6, v7, v8, v9]))) H1 locs1 → W p l e R s m args below meth c H1 locs1 cells slots Q (F0 m (pc + 3) ls rest)) : W p l e R s m args below meth c H locs cells slots Q (F0 m pc ls (.ref x :: .ref a :: rest)) :=
  r_putF C hin hT he rfl inX10 tyX10 tyX10_ok nmX10 0 (by decide) k253 rfl rfl (ty := (.object "ContextMix$Numbers")) (by decide +kernel) rfl rfl (Nat.le_of_ble_eq_true rfl) hdg kk
theorem gX10_23 (C : Cx p s m meth c args cc ret nL RX10 g A) (hT : Wd g A s L H locs) {q0 : Nat} {v0 v1 v2 v3 v4 v5 v6 v7 v8 v9 : Value} (he : L[q0]? = some (a, .inr (10, [v0, v1, v2, v3, v4, v5, v6, v7, v8, v9]))) (hdg : decode cc pc = .ok (.getfield 23, 3)) (kk : W p l e R s m args below meth c H locs cells slots Q (F0 m (pc + 3) ls (v1 :: rest))) : W p l e R s m args below meth c H locs cells slots Q (F0 m pc ls (.ref a :: rest)) :=
  r_get C hT he rfl inX10 1 (by decide) k254 rfl hdg kk
theorem pX10_23 (C : Cx p s m meth c args cc ret nL RX10 g A) (hin : meth.name = "<init>") (hT : Wd g A s L H locs) {q0 : Nat} {v0 v1 v2 v3 v4 v5 v6 v7 v8 v9 : Value} (he : L[q0]? = some (a, .inr (10, [v0, v1, v2, v3, v4, v5, v6, v7, v8, v9]))) {x : Nat} (hdg : decode cc pc = .ok (.putfield 23, 3)) (kk : ∀ (H1 : Heap) (locs1 : List Loc), Wd g A s (L.set q0 (a, .inr (10, [v0, .ref x, v2, v3, v4, v5, v6, v7, v8, v9]))) H1 locs1 → W p l e R s m args below meth c H1 locs1 cells slots Q (F0 m (pc + 3) ls rest)) : W p l e R s m args below meth c H locs cells slots Q (F0 m pc ls (.ref x :: .ref a :: rest)) :=
  r_putF C hin hT he rfl inX10 tyX10 tyX10_ok nmX10 1 (by decide) k254 rfl rfl (ty := (.object "ContextMix$Predictors")) (by decide +kernel) rfl rfl (Nat.le_of_ble_eq_true rfl) hdg kk
theorem gX10_32 (C : Cx p s m meth c args cc ret nL RX10 g A) (hT : Wd g A s L H locs) {q0 : Nat} {v0 v1 v2 v3 v4 v5 v6 v7 v8 v9 : Value} (he : L[q0]? = some (a, .inr (10, [v0, v1, v2, v3, v4, v5, v6, v7, v8, v9]))) (hdg : decode cc pc = .ok (.getfield 32, 3)) (kk : W p l e R s m args below meth c H locs cells slots Q (F0 m (pc + 3) ls (v2 :: rest))) : W p l e R s m args below meth c H locs cells slots Q (F0 m pc ls (.ref a :: rest)) :=
  r_get C hT he rfl inX10 2 (by decide) k255 rfl hdg kk
theorem pX10_32 (C : Cx p s m meth c args cc ret nL RX10 g A) (hin : meth.name = "<init>") (hT : Wd g A s L H locs) {q0 : Nat} {v0 v1 v2 v3 v4 v5 v6 v7 v8 v9 : Value} (he : L[q0]? = some (a, .inr (10, [v0, v1, v2, v3, v4, v5, v6, v7, v8, v9]))) {x : Nat} (hdg : decode cc pc = .ok (.putfield 32, 3)) (kk : ∀ (H1 : Heap) (locs1 : List Loc), Wd g A s (L.set q0 (a, .inr (10, [v0, v1, .ref x, v3, v4, v5, v6, v7, v8, v9]))) H1 locs1 → W p l e R s m args below meth c H1 locs1 cells slots Q (F0 m (pc + 3) ls rest)) : W p l e R s m args below meth c H locs cells slots Q (F0 m pc ls (.ref x :: .ref a :: rest)) :=
  r_putF C hin hT he rfl inX10 tyX10 tyX10_ok nmX10 2 (by decide) k255 rfl rfl (ty := (.object "ContextMix$Side")) (by decide +kernel) rfl rfl (Nat.le_of_ble_eq_true rfl) hdg kk
theorem gX10_36 (C : Cx p s m meth c args cc ret nL RX10 g A) (hT : Wd g A s L H locs) {q0 : Nat} {v0 v1 v2 v3 v4 v5 v6 v7 v8 v9 : Value} (he : L[q0]? = some (a, .inr (10, [v0, v1, v2, v3, v4, v5, v6, v7, v8, v9]))) (hdg : decode cc pc = .ok (.getfield 36, 3)) (kk : W p l e R s m args below meth c H locs cells slots Q (F0 m (pc + 3) ls (v3 :: rest))) : W p l e R s m args below meth c H locs cells slots Q (F0 m pc ls (.ref a :: rest)) :=
  r_get C hT he rfl inX10 3 (by decide) k256 rfl hdg kk
theorem pX10_36 (C : Cx p s m meth c args cc ret nL RX10 g A) (hin : meth.name = "<init>") (hT : Wd g A s L H locs) {q0 : Nat} {v0 v1 v2 v3 v4 v5 v6 v7 v8 v9 : Value} (he : L[q0]? = some (a, .inr (10, [v0, v1, v2, v3, v4, v5, v6, v7, v8, v9]))) {x : Nat} (hdg : decode cc pc = .ok (.putfield 36, 3)) (kk : ∀ (H1 : Heap) (locs1 : List Loc), Wd g A s (L.set q0 (a, .inr (10, [v0, v1, v2, .ref x, v4, v5, v6, v7, v8, v9]))) H1 locs1 → W p l e R s m args below meth c H1 locs1 cells slots Q (F0 m (pc + 3) ls rest)) : W p l e R s m args below meth c H locs cells slots Q (F0 m pc ls (.ref x :: .ref a :: rest)) :=
  r_putF C hin hT he rfl inX10 tyX10 tyX10_ok nmX10 3 (by decide) k256 rfl rfl (ty := (.object "ContextMix$Side")) (by decide +kernel) rfl rfl (Nat.le_of_ble_eq_true rfl) hdg kk
theorem gX10_42 (C : Cx p s m meth c args cc ret nL RX10 g A) (hT : Wd g A s L H locs) {q0 : Nat} {v0 v1 v2 v3 v4 v5 v6 v7 v8 v9 : Value} (he : L[q0]? = some (a, .inr (10, [v0, v1, v2, v3, v4, v5, v6, v7, v8, v9]))) (hdg : decode cc pc = .ok (.getfield 42, 3)) (kk : W p l e R s m args below meth c H locs cells slots Q (F0 m (pc + 3) ls (v4 :: rest))) : W p l e R s m args below meth c H locs cells slots Q (F0 m pc ls (.ref a :: rest)) :=
  r_get C hT he rfl inX10 4 (by decide) k257 rfl hdg kk
theorem pX10_42 (C : Cx p s m meth c args cc ret nL RX10 g A) (hin : meth.name = "<init>") (hT : Wd g A s L H locs) {q0 : Nat} {v0 v1 v2 v3 v4 v5 v6 v7 v8 v9 : Value} (he : L[q0]? = some (a, .inr (10, [v0, v1, v2, v3, v4, v5, v6, v7, v8, v9]))) {x : Nat} (hdg : decode cc pc = .ok (.putfield 42, 3)) (kk : ∀ (H1 : Heap) (locs1 : List Loc), Wd g A s (L.set q0 (a, .inr (10, [v0, v1, v2, v3, .ref x, v5, v6, v7, v8, v9]))) H1 locs1 → W p l e R s m args below meth c H1 locs1 cells slots Q (F0 m (pc + 3) ls rest)) : W p l e R s m args below meth c H locs cells slots Q (F0 m pc ls (.ref x :: .ref a :: rest)) :=
  r_putF C hin hT he rfl inX10 tyX10 tyX10_ok nmX10 4 (by decide) k257 rfl rfl (ty := (.object "ContextMix$Output")) (by decide +kernel) rfl rfl (Nat.le_of_ble_eq_true rfl) hdg kk
theorem gX10_49 (C : Cx p s m meth c args cc ret nL RX10 g A) (hT : Wd g A s L H locs) {q0 : Nat} {v0 v1 v2 v3 v4 v5 v6 v7 v8 v9 : Value} (he : L[q0]? = some (a, .inr (10, [v0, v1, v2, v3, v4, v5, v6, v7, v8, v9]))) (hdg : decode cc pc = .ok (.getfield 49, 3)) (kk : W p l e R s m args below meth c H locs cells slots Q (F0 m (pc + 3) ls (v5 :: rest))) : W p l e R s m args below meth c H locs cells slots Q (F0 m pc ls (.ref a :: rest)) :=
  r_get C hT he rfl inX10 5 (by decide) k258 rfl hdg kk
theorem pX10_49 (C : Cx p s m meth c args cc ret nL RX10 g A) (hin : meth.name = "<init>") (hT : Wd g A s L H locs) {q0 : Nat} {v0 v1 v2 v3 v4 v5 v6 v7 v8 v9 : Value} (he : L[q0]? = some (a, .inr (10, [v0, v1, v2, v3, v4, v5, v6, v7, v8, v9]))) {x : Nat} (hdg : decode cc pc = .ok (.putfield 49, 3)) (kk : ∀ (H1 : Heap) (locs1 : List Loc), Wd g A s (L.set q0 (a, .inr (10, [v0, v1, v2, v3, v4, .ref x, v6, v7, v8, v9]))) H1 locs1 → W p l e R s m args below meth c H1 locs1 cells slots Q (F0 m (pc + 3) ls rest)) : W p l e R s m args below meth c H locs cells slots Q (F0 m pc ls (.ref x :: .ref a :: rest)) :=
  r_putF C hin hT he rfl inX10 tyX10 tyX10_ok nmX10 5 (by decide) k258 rfl rfl (ty := (.object "ContextMix$Coder")) (by decide +kernel) rfl rfl (Nat.le_of_ble_eq_true rfl) hdg kk
theorem gX10_53 (C : Cx p s m meth c args cc ret nL RX10 g A) (hT : Wd g A s L H locs) {q0 : Nat} {v0 v1 v2 v3 v4 v5 v6 v7 v8 v9 : Value} (he : L[q0]? = some (a, .inr (10, [v0, v1, v2, v3, v4, v5, v6, v7, v8, v9]))) (hdg : decode cc pc = .ok (.getfield 53, 3)) (kk : W p l e R s m args below meth c H locs cells slots Q (F0 m (pc + 3) ls (v6 :: rest))) : W p l e R s m args below meth c H locs cells slots Q (F0 m pc ls (.ref a :: rest)) :=
  r_get C hT he rfl inX10 6 (by decide) k259 rfl hdg kk
theorem pX10_53 (C : Cx p s m meth c args cc ret nL RX10 g A) (hin : meth.name = "<init>") (hT : Wd g A s L H locs) {q0 : Nat} {v0 v1 v2 v3 v4 v5 v6 v7 v8 v9 : Value} (he : L[q0]? = some (a, .inr (10, [v0, v1, v2, v3, v4, v5, v6, v7, v8, v9]))) {x : Nat} (hdg : decode cc pc = .ok (.putfield 53, 3)) (kk : ∀ (H1 : Heap) (locs1 : List Loc), Wd g A s (L.set q0 (a, .inr (10, [v0, v1, v2, v3, v4, v5, .ref x, v7, v8, v9]))) H1 locs1 → W p l e R s m args below meth c H1 locs1 cells slots Q (F0 m (pc + 3) ls rest)) : W p l e R s m args below meth c H locs cells slots Q (F0 m pc ls (.ref x :: .ref a :: rest)) :=
  r_putF C hin hT he rfl inX10 tyX10 tyX10_ok nmX10 6 (by decide) k259 rfl rfl (ty := (.object "ContextMix$Coder")) (by decide +kernel) rfl rfl (Nat.le_of_ble_eq_true rfl) hdg kk
theorem gX10_60 (C : Cx p s m meth c args cc ret nL RX10 g A) (hT : Wd g A s L H locs) {q0 : Nat} {v0 v1 v2 v3 v4 v5 v6 v7 v8 v9 : Value} (he : L[q0]? = some (a, .inr (10, [v0, v1, v2, v3, v4, v5, v6, v7, v8, v9]))) (hdg : decode cc pc = .ok (.getfield 60, 3)) (kk : W p l e R s m args below meth c H locs cells slots Q (F0 m (pc + 3) ls (v9 :: rest))) : W p l e R s m args below meth c H locs cells slots Q (F0 m pc ls (.ref a :: rest)) :=
  r_get C hT he rfl inX10 9 (by decide) k262 rfl hdg kk
theorem pX10_60 (C : Cx p s m meth c args cc ret nL RX10 g A) (hT : Wd g A s L H locs) {q0 : Nat} {v0 v1 v2 v3 v4 v5 v6 v7 v8 v9 : Value} (he : L[q0]? = some (a, .inr (10, [v0, v1, v2, v3, v4, v5, v6, v7, v8, v9]))) {x : Int32} (hz : x = 0 ∨ x = 1) (hdg : decode cc pc = .ok (.putfield 60, 3)) (kk : ∀ (H1 : Heap) (locs1 : List Loc), Wd g A s (L.set q0 (a, .inr (10, [v0, v1, v2, v3, v4, v5, v6, v7, v8, .int x]))) H1 locs1 → W p l e R s m args below meth c H1 locs1 cells slots Q (F0 m (pc + 3) ls rest)) : W p l e R s m args below meth c H locs cells slots Q (F0 m pc ls (.int x :: .ref a :: rest)) :=
  r_put C hT he rfl inX10 tyX10 tyX10_ok nmX10 9 (by decide) k262 rfl (ty := .boolean) (by decide +kernel) (by rcases hz with rfl | rfl <;> rfl) (by rcases hz with rfl | rfl <;> rfl) (Nat.le_of_ble_eq_true rfl) hdg kk
theorem gX10_64 (C : Cx p s m meth c args cc ret nL RX10 g A) (hT : Wd g A s L H locs) {q0 : Nat} {v0 v1 v2 v3 v4 v5 v6 v7 v8 v9 : Value} (he : L[q0]? = some (a, .inr (8, [v0, v1, v2, v3, v4, v5, v6, v7, v8, v9]))) (hdg : decode cc pc = .ok (.getfield 64, 3)) (kk : W p l e R s m args below meth c H locs cells slots Q (F0 m (pc + 3) ls (v2 :: rest))) : W p l e R s m args below meth c H locs cells slots Q (F0 m pc ls (.ref a :: rest)) :=
  r_getN (host := "ContextMix") C hT he rfl inX8 2 (by decide) (List.mem_of_getElem? (i := 17) rfl) rfl hdg kk
theorem gX10_95 (C : Cx p s m meth c args cc ret nL RX10 g A) (hT : Wd g A s L H locs) {q0 : Nat} {v0 v1 : Value} (he : L[q0]? = some (a, .inr (6, [v0, v1]))) (hdg : decode cc pc = .ok (.getfield 95, 3)) (kk : W p l e R s m args below meth c H locs cells slots Q (F0 m (pc + 3) ls (v1 :: rest))) : W p l e R s m args below meth c H locs cells slots Q (F0 m pc ls (.ref a :: rest)) :=
  r_getN (host := "ContextMix") C hT he rfl inX6 1 (by decide) (List.mem_of_getElem? (i := 22) rfl) rfl hdg kk
theorem pX10_95 (C : Cx p s m meth c args cc ret nL RX10 g A) (hT : Wd g A s L H locs) {q0 : Nat} {v0 v1 : Value} (he : L[q0]? = some (a, .inr (6, [v0, v1]))) {x : Int32} (hdg : decode cc pc = .ok (.putfield 95, 3)) (kk : ∀ (H1 : Heap) (locs1 : List Loc), Wd g A s (L.set q0 (a, .inr (6, [v0, .int x]))) H1 locs1 → W p l e R s m args below meth c H1 locs1 cells slots Q (F0 m (pc + 3) ls rest)) : W p l e R s m args below meth c H locs cells slots Q (F0 m pc ls (.int x :: .ref a :: rest)) :=
  r_putN (host := "ContextMix") C hT he rfl inX6 tyX6 tyX6_ok nmX6 1 (by decide) (List.mem_of_getElem? (i := 22) rfl) rfl (ty := .int) (by decide +kernel) rfl rfl (Nat.le_of_ble_eq_true rfl) hdg kk
theorem gX10_99 (C : Cx p s m meth c args cc ret nL RX10 g A) (hT : Wd g A s L H locs) {q0 : Nat} {v0 v1 v2 v3 : Value} (he : L[q0]? = some (a, .inr (2, [v0, v1, v2, v3]))) (hdg : decode cc pc = .ok (.getfield 99, 3)) (kk : W p l e R s m args below meth c H locs cells slots Q (F0 m (pc + 3) ls (v3 :: rest))) : W p l e R s m args below meth c H locs cells slots Q (F0 m pc ls (.ref a :: rest)) :=
  r_getN (host := "ContextMix") C hT he rfl inX2 3 (by decide) (List.mem_of_getElem? (i := 10) rfl) rfl hdg kk
theorem gX10_115 (C : Cx p s m meth c args cc ret nL RX10 g A) (hT : Wd g A s L H locs) {q0 : Nat} {v0 v1 v2 v3 : Value} (he : L[q0]? = some (a, .inr (2, [v0, v1, v2, v3]))) (hdg : decode cc pc = .ok (.getfield 115, 3)) (kk : W p l e R s m args below meth c H locs cells slots Q (F0 m (pc + 3) ls (v1 :: rest))) : W p l e R s m args below meth c H locs cells slots Q (F0 m pc ls (.ref a :: rest)) :=
  r_getN (host := "ContextMix") C hT he rfl inX2 1 (by decide) (List.mem_of_getElem? (i := 6) rfl) rfl hdg kk
theorem gX10_145 (C : Cx p s m meth c args cc ret nL RX10 g A) (hT : Wd g A s L H locs) {q0 : Nat} {v0 v1 v2 v3 v4 v5 v6 v7 v8 v9 : Value} (he : L[q0]? = some (a, .inr (8, [v0, v1, v2, v3, v4, v5, v6, v7, v8, v9]))) (hdg : decode cc pc = .ok (.getfield 145, 3)) (kk : W p l e R s m args below meth c H locs cells slots Q (F0 m (pc + 3) ls (v4 :: rest))) : W p l e R s m args below meth c H locs cells slots Q (F0 m pc ls (.ref a :: rest)) :=
  r_getN (host := "ContextMix") C hT he rfl inX8 4 (by decide) (List.mem_of_getElem? (i := 19) rfl) rfl hdg kk
theorem gX10_149 (C : Cx p s m meth c args cc ret nL RX10 g A) (hT : Wd g A s L H locs) {q0 : Nat} {v0 v1 v2 v3 v4 v5 v6 v7 v8 v9 : Value} (he : L[q0]? = some (a, .inr (8, [v0, v1, v2, v3, v4, v5, v6, v7, v8, v9]))) (hdg : decode cc pc = .ok (.getfield 149, 3)) (kk : W p l e R s m args below meth c H locs cells slots Q (F0 m (pc + 3) ls (v5 :: rest))) : W p l e R s m args below meth c H locs cells slots Q (F0 m pc ls (.ref a :: rest)) :=
  r_getN (host := "ContextMix") C hT he rfl inX8 5 (by decide) (List.mem_of_getElem? (i := 20) rfl) rfl hdg kk
theorem gX10_152 (C : Cx p s m meth c args cc ret nL RX10 g A) (hT : Wd g A s L H locs) {q0 : Nat} {v0 v1 v2 v3 : Value} (he : L[q0]? = some (a, .inr (7, [v0, v1, v2, v3]))) (hdg : decode cc pc = .ok (.getfield 152, 3)) (kk : W p l e R s m args below meth c H locs cells slots Q (F0 m (pc + 3) ls (v3 :: rest))) : W p l e R s m args below meth c H locs cells slots Q (F0 m pc ls (.ref a :: rest)) :=
  r_getN (host := "ContextMix") C hT he rfl inX7 3 (by decide) (List.mem_of_getElem? (i := 4) rfl) rfl hdg kk
theorem gX10_156 (C : Cx p s m meth c args cc ret nL RX10 g A) (hT : Wd g A s L H locs) {q0 : Nat} {v0 v1 v2 v3 v4 v5 v6 v7 v8 v9 : Value} (he : L[q0]? = some (a, .inr (8, [v0, v1, v2, v3, v4, v5, v6, v7, v8, v9]))) (hdg : decode cc pc = .ok (.getfield 156, 3)) (kk : W p l e R s m args below meth c H locs cells slots Q (F0 m (pc + 3) ls (v3 :: rest))) : W p l e R s m args below meth c H locs cells slots Q (F0 m pc ls (.ref a :: rest)) :=
  r_getN (host := "ContextMix") C hT he rfl inX8 3 (by decide) (List.mem_of_getElem? (i := 18) rfl) rfl hdg kk
theorem gX10_170 (C : Cx p s m meth c args cc ret nL RX10 g A) (hT : Wd g A s L H locs) {q0 : Nat} {v0 v1 : Value} (he : L[q0]? = some (a, .inr (9, [v0, v1]))) (hdg : decode cc pc = .ok (.getfield 170, 3)) (kk : W p l e R s m args below meth c H locs cells slots Q (F0 m (pc + 3) ls (v0 :: rest))) : W p l e R s m args below meth c H locs cells slots Q (F0 m pc ls (.ref a :: rest)) :=
  r_getN (host := "ContextMix") C hT he rfl inX9 0 (by decide) (List.mem_of_getElem? (i := 14) rfl) rfl hdg kk
theorem gX10_174 (C : Cx p s m meth c args cc ret nL RX10 g A) (hT : Wd g A s L H locs) {q0 : Nat} {v0 v1 : Value} (he : L[q0]? = some (a, .inr (9, [v0, v1]))) (hdg : decode cc pc = .ok (.getfield 174, 3)) (kk : W p l e R s m args below meth c H locs cells slots Q (F0 m (pc + 3) ls (v1 :: rest))) : W p l e R s m args below meth c H locs cells slots Q (F0 m pc ls (.ref a :: rest)) :=
  r_getN (host := "ContextMix") C hT he rfl inX9 1 (by decide) (List.mem_of_getElem? (i := 15) rfl) rfl hdg kk
theorem gX10_182 (C : Cx p s m meth c args cc ret nL RX10 g A) (hT : Wd g A s L H locs) {q0 : Nat} {v0 v1 v2 v3 v4 v5 v6 v7 v8 v9 : Value} (he : L[q0]? = some (a, .inr (8, [v0, v1, v2, v3, v4, v5, v6, v7, v8, v9]))) (hdg : decode cc pc = .ok (.getfield 182, 3)) (kk : W p l e R s m args below meth c H locs cells slots Q (F0 m (pc + 3) ls (v6 :: rest))) : W p l e R s m args below meth c H locs cells slots Q (F0 m pc ls (.ref a :: rest)) :=
  r_getN (host := "ContextMix") C hT he rfl inX8 6 (by decide) (List.mem_of_getElem? (i := 21) rfl) rfl hdg kk
theorem gX10_217 (C : Cx p s m meth c args cc ret nL RX10 g A) (hT : Wd g A s L H locs) {q0 : Nat} {v0 v1 v2 v3 v4 v5 v6 v7 v8 v9 : Value} (he : L[q0]? = some (a, .inr (10, [v0, v1, v2, v3, v4, v5, v6, v7, v8, v9]))) (hdg : decode cc pc = .ok (.getfield 217, 3)) (kk : W p l e R s m args below meth c H locs cells slots Q (F0 m (pc + 3) ls (v7 :: rest))) : W p l e R s m args below meth c H locs cells slots Q (F0 m pc ls (.ref a :: rest)) :=
  r_get C hT he rfl inX10 7 (by decide) k260 rfl hdg kk
theorem pX10_217 (C : Cx p s m meth c args cc ret nL RX10 g A) (hT : Wd g A s L H locs) {q0 : Nat} {v0 v1 v2 v3 v4 v5 v6 v7 v8 v9 : Value} (he : L[q0]? = some (a, .inr (10, [v0, v1, v2, v3, v4, v5, v6, v7, v8, v9]))) {x : Int64} (hdg : decode cc pc = .ok (.putfield 217, 3)) (kk : ∀ (H1 : Heap) (locs1 : List Loc), Wd g A s (L.set q0 (a, .inr (10, [v0, v1, v2, v3, v4, v5, v6, .long x, v8, v9]))) H1 locs1 → W p l e R s m args below meth c H1 locs1 cells slots Q (F0 m (pc + 3) ls rest)) : W p l e R s m args below meth c H locs cells slots Q (F0 m pc ls (.long x :: .ref a :: rest)) :=
  r_put C hT he rfl inX10 tyX10 tyX10_ok nmX10 7 (by decide) k260 rfl (ty := .long) (by decide +kernel) rfl rfl (Nat.le_of_ble_eq_true rfl) hdg kk
theorem gX10_224 (C : Cx p s m meth c args cc ret nL RX10 g A) (hT : Wd g A s L H locs) {q0 : Nat} {v0 v1 v2 v3 v4 v5 v6 v7 v8 v9 : Value} (he : L[q0]? = some (a, .inr (10, [v0, v1, v2, v3, v4, v5, v6, v7, v8, v9]))) (hdg : decode cc pc = .ok (.getfield 224, 3)) (kk : W p l e R s m args below meth c H locs cells slots Q (F0 m (pc + 3) ls (v8 :: rest))) : W p l e R s m args below meth c H locs cells slots Q (F0 m pc ls (.ref a :: rest)) :=
  r_get C hT he rfl inX10 8 (by decide) k261 rfl hdg kk
theorem pX10_224 (C : Cx p s m meth c args cc ret nL RX10 g A) (hT : Wd g A s L H locs) {q0 : Nat} {v0 v1 v2 v3 v4 v5 v6 v7 v8 v9 : Value} (he : L[q0]? = some (a, .inr (10, [v0, v1, v2, v3, v4, v5, v6, v7, v8, v9]))) {x : Int32} (hdg : decode cc pc = .ok (.putfield 224, 3)) (kk : ∀ (H1 : Heap) (locs1 : List Loc), Wd g A s (L.set q0 (a, .inr (10, [v0, v1, v2, v3, v4, v5, v6, v7, .int x, v9]))) H1 locs1 → W p l e R s m args below meth c H1 locs1 cells slots Q (F0 m (pc + 3) ls rest)) : W p l e R s m args below meth c H locs cells slots Q (F0 m pc ls (.int x :: .ref a :: rest)) :=
  r_put C hT he rfl inX10 tyX10 tyX10_ok nmX10 8 (by decide) k261 rfl (ty := .int) (by decide +kernel) rfl rfl (Nat.le_of_ble_eq_true rfl) hdg kk
theorem gX11_7 (C : Cx p s m meth c args cc ret nL RX11 g A) (hT : Wd g A s L H locs) {q0 : Nat} {v0 v1 v2 v3 v4 v5 v6 v7 v8 v9 v10 v11 v12 v13 v14 v15 v16 v17 v18 v19 v20 v21 v22 v23 v24 v25 v26 v27 v28 v29 v30 v31 : Value} (he : L[q0]? = some (a, .inr (11, [v0, v1, v2, v3, v4, v5, v6, v7, v8, v9, v10, v11, v12, v13, v14, v15, v16, v17, v18, v19, v20, v21, v22, v23, v24, v25, v26, v27, v28, v29, v30, v31]))) (hdg : decode cc pc = .ok (.getfield 7, 3)) (kk : W p l e R s m args below meth c H locs cells slots Q (F0 m (pc + 3) ls (v1 :: rest))) : W p l e R s m args below meth c H locs cells slots Q (F0 m pc ls (.ref a :: rest)) :=
  r_get C hT he rfl inX11 1 (by decide) k778 rfl hdg kk
theorem pX11_7 (C : Cx p s m meth c args cc ret nL RX11 g A) (hin : meth.name = "<init>") (hT : Wd g A s L H locs) {q0 : Nat} {v0 v1 v2 v3 v4 v5 v6 v7 v8 v9 v10 v11 v12 v13 v14 v15 v16 v17 v18 v19 v20 v21 v22 v23 v24 v25 v26 v27 v28 v29 v30 v31 : Value} (he : L[q0]? = some (a, .inr (11, [v0, v1, v2, v3, v4, v5, v6, v7, v8, v9, v10, v11, v12, v13, v14, v15, v16, v17, v18, v19, v20, v21, v22, v23, v24, v25, v26, v27, v28, v29, v30, v31]))) {x : Nat} (hdg : decode cc pc = .ok (.putfield 7, 3)) (kk : ∀ (H1 : Heap) (locs1 : List Loc), Wd g A s (L.set q0 (a, .inr (11, [v0, .ref x, v2, v3, v4, v5, v6, v7, v8, v9, v10, v11, v12, v13, v14, v15, v16, v17, v18, v19, v20, v21, v22, v23, v24, v25, v26, v27, v28, v29, v30, v31]))) H1 locs1 → W p l e R s m args below meth c H1 locs1 cells slots Q (F0 m (pc + 3) ls rest)) : W p l e R s m args below meth c H locs cells slots Q (F0 m pc ls (.ref x :: .ref a :: rest)) :=
  r_putF C hin hT he rfl inX11 tyX11 tyX11_ok nmX11 1 (by decide) k778 rfl rfl (ty := (.array .int)) (by decide +kernel) rfl rfl (Nat.le_of_ble_eq_true rfl) hdg kk
theorem gX11_13 (C : Cx p s m meth c args cc ret nL RX11 g A) (hT : Wd g A s L H locs) {q0 : Nat} {v0 v1 v2 v3 v4 v5 v6 v7 v8 v9 v10 v11 v12 v13 v14 v15 v16 v17 v18 v19 v20 v21 v22 v23 v24 v25 v26 v27 v28 v29 v30 v31 : Value} (he : L[q0]? = some (a, .inr (11, [v0, v1, v2, v3, v4, v5, v6, v7, v8, v9, v10, v11, v12, v13, v14, v15, v16, v17, v18, v19, v20, v21, v22, v23, v24, v25, v26, v27, v28, v29, v30, v31]))) (hdg : decode cc pc = .ok (.getfield 13, 3)) (kk : W p l e R s m args below meth c H locs cells slots Q (F0 m (pc + 3) ls (v4 :: rest))) : W p l e R s m args below meth c H locs cells slots Q (F0 m pc ls (.ref a :: rest)) :=
  r_get C hT he rfl inX11 4 (by decide) k781 rfl hdg kk
theorem pX11_13 (C : Cx p s m meth c args cc ret nL RX11 g A) (hin : meth.name = "<init>") (hT : Wd g A s L H locs) {q0 : Nat} {v0 v1 v2 v3 v4 v5 v6 v7 v8 v9 v10 v11 v12 v13 v14 v15 v16 v17 v18 v19 v20 v21 v22 v23 v24 v25 v26 v27 v28 v29 v30 v31 : Value} (he : L[q0]? = some (a, .inr (11, [v0, v1, v2, v3, v4, v5, v6, v7, v8, v9, v10, v11, v12, v13, v14, v15, v16, v17, v18, v19, v20, v21, v22, v23, v24, v25, v26, v27, v28, v29, v30, v31]))) {x : Nat} (hdg : decode cc pc = .ok (.putfield 13, 3)) (kk : ∀ (H1 : Heap) (locs1 : List Loc), Wd g A s (L.set q0 (a, .inr (11, [v0, v1, v2, v3, .ref x, v5, v6, v7, v8, v9, v10, v11, v12, v13, v14, v15, v16, v17, v18, v19, v20, v21, v22, v23, v24, v25, v26, v27, v28, v29, v30, v31]))) H1 locs1 → W p l e R s m args below meth c H1 locs1 cells slots Q (F0 m (pc + 3) ls rest)) : W p l e R s m args below meth c H locs cells slots Q (F0 m pc ls (.ref x :: .ref a :: rest)) :=
  r_putF C hin hT he rfl inX11 tyX11 tyX11_ok nmX11 4 (by decide) k781 rfl rfl (ty := (.array .int)) (by decide +kernel) rfl rfl (Nat.le_of_ble_eq_true rfl) hdg kk
theorem gX11_16 (C : Cx p s m meth c args cc ret nL RX11 g A) (hT : Wd g A s L H locs) {q0 : Nat} {v0 v1 v2 v3 v4 v5 v6 v7 v8 v9 v10 v11 v12 v13 v14 v15 v16 v17 v18 v19 v20 v21 v22 v23 v24 v25 v26 v27 v28 v29 v30 v31 : Value} (he : L[q0]? = some (a, .inr (11, [v0, v1, v2, v3, v4, v5, v6, v7, v8, v9, v10, v11, v12, v13, v14, v15, v16, v17, v18, v19, v20, v21, v22, v23, v24, v25, v26, v27, v28, v29, v30, v31]))) (hdg : decode cc pc = .ok (.getfield 16, 3)) (kk : W p l e R s m args below meth c H locs cells slots Q (F0 m (pc + 3) ls (v5 :: rest))) : W p l e R s m args below meth c H locs cells slots Q (F0 m pc ls (.ref a :: rest)) :=
  r_get C hT he rfl inX11 5 (by decide) k782 rfl hdg kk
theorem pX11_16 (C : Cx p s m meth c args cc ret nL RX11 g A) (hin : meth.name = "<init>") (hT : Wd g A s L H locs) {q0 : Nat} {v0 v1 v2 v3 v4 v5 v6 v7 v8 v9 v10 v11 v12 v13 v14 v15 v16 v17 v18 v19 v20 v21 v22 v23 v24 v25 v26 v27 v28 v29 v30 v31 : Value} (he : L[q0]? = some (a, .inr (11, [v0, v1, v2, v3, v4, v5, v6, v7, v8, v9, v10, v11, v12, v13, v14, v15, v16, v17, v18, v19, v20, v21, v22, v23, v24, v25, v26, v27, v28, v29, v30, v31]))) {x : Nat} (hdg : decode cc pc = .ok (.putfield 16, 3)) (kk : ∀ (H1 : Heap) (locs1 : List Loc), Wd g A s (L.set q0 (a, .inr (11, [v0, v1, v2, v3, v4, .ref x, v6, v7, v8, v9, v10, v11, v12, v13, v14, v15, v16, v17, v18, v19, v20, v21, v22, v23, v24, v25, v26, v27, v28, v29, v30, v31]))) H1 locs1 → W p l e R s m args below meth c H1 locs1 cells slots Q (F0 m (pc + 3) ls rest)) : W p l e R s m args below meth c H locs cells slots Q (F0 m pc ls (.ref x :: .ref a :: rest)) :=
  r_putF C hin hT he rfl inX11 tyX11 tyX11_ok nmX11 5 (by decide) k782 rfl rfl (ty := (.array .int)) (by decide +kernel) rfl rfl (Nat.le_of_ble_eq_true rfl) hdg kk
theorem gX11_19 (C : Cx p s m meth c args cc ret nL RX11 g A) (hT : Wd g A s L H locs) {q0 : Nat} {v0 v1 v2 v3 v4 v5 v6 v7 v8 v9 v10 v11 v12 v13 v14 v15 v16 v17 v18 v19 v20 v21 v22 v23 v24 v25 v26 v27 v28 v29 v30 v31 : Value} (he : L[q0]? = some (a, .inr (11, [v0, v1, v2, v3, v4, v5, v6, v7, v8, v9, v10, v11, v12, v13, v14, v15, v16, v17, v18, v19, v20, v21, v22, v23, v24, v25, v26, v27, v28, v29, v30, v31]))) (hdg : decode cc pc = .ok (.getfield 19, 3)) (kk : W p l e R s m args below meth c H locs cells slots Q (F0 m (pc + 3) ls (v6 :: rest))) : W p l e R s m args below meth c H locs cells slots Q (F0 m pc ls (.ref a :: rest)) :=
  r_get C hT he rfl inX11 6 (by decide) k783 rfl hdg kk
theorem pX11_19 (C : Cx p s m meth c args cc ret nL RX11 g A) (hin : meth.name = "<init>") (hT : Wd g A s L H locs) {q0 : Nat} {v0 v1 v2 v3 v4 v5 v6 v7 v8 v9 v10 v11 v12 v13 v14 v15 v16 v17 v18 v19 v20 v21 v22 v23 v24 v25 v26 v27 v28 v29 v30 v31 : Value} (he : L[q0]? = some (a, .inr (11, [v0, v1, v2, v3, v4, v5, v6, v7, v8, v9, v10, v11, v12, v13, v14, v15, v16, v17, v18, v19, v20, v21, v22, v23, v24, v25, v26, v27, v28, v29, v30, v31]))) {x : Nat} (hdg : decode cc pc = .ok (.putfield 19, 3)) (kk : ∀ (H1 : Heap) (locs1 : List Loc), Wd g A s (L.set q0 (a, .inr (11, [v0, v1, v2, v3, v4, v5, .ref x, v7, v8, v9, v10, v11, v12, v13, v14, v15, v16, v17, v18, v19, v20, v21, v22, v23, v24, v25, v26, v27, v28, v29, v30, v31]))) H1 locs1 → W p l e R s m args below meth c H1 locs1 cells slots Q (F0 m (pc + 3) ls rest)) : W p l e R s m args below meth c H locs cells slots Q (F0 m pc ls (.ref x :: .ref a :: rest)) :=
  r_putF C hin hT he rfl inX11 tyX11 tyX11_ok nmX11 6 (by decide) k783 rfl rfl (ty := (.array .boolean)) (by decide +kernel) rfl rfl (Nat.le_of_ble_eq_true rfl) hdg kk
theorem gX11_23 (C : Cx p s m meth c args cc ret nL RX11 g A) (hT : Wd g A s L H locs) {q0 : Nat} {v0 v1 v2 v3 v4 v5 v6 v7 v8 v9 v10 v11 v12 v13 v14 v15 v16 v17 v18 v19 v20 v21 v22 v23 v24 v25 v26 v27 v28 v29 v30 v31 : Value} (he : L[q0]? = some (a, .inr (11, [v0, v1, v2, v3, v4, v5, v6, v7, v8, v9, v10, v11, v12, v13, v14, v15, v16, v17, v18, v19, v20, v21, v22, v23, v24, v25, v26, v27, v28, v29, v30, v31]))) (hdg : decode cc pc = .ok (.getfield 23, 3)) (kk : W p l e R s m args below meth c H locs cells slots Q (F0 m (pc + 3) ls (v7 :: rest))) : W p l e R s m args below meth c H locs cells slots Q (F0 m pc ls (.ref a :: rest)) :=
  r_get C hT he rfl inX11 7 (by decide) k784 rfl hdg kk
theorem pX11_23 (C : Cx p s m meth c args cc ret nL RX11 g A) (hin : meth.name = "<init>") (hT : Wd g A s L H locs) {q0 : Nat} {v0 v1 v2 v3 v4 v5 v6 v7 v8 v9 v10 v11 v12 v13 v14 v15 v16 v17 v18 v19 v20 v21 v22 v23 v24 v25 v26 v27 v28 v29 v30 v31 : Value} (he : L[q0]? = some (a, .inr (11, [v0, v1, v2, v3, v4, v5, v6, v7, v8, v9, v10, v11, v12, v13, v14, v15, v16, v17, v18, v19, v20, v21, v22, v23, v24, v25, v26, v27, v28, v29, v30, v31]))) {x : Nat} (hdg : decode cc pc = .ok (.putfield 23, 3)) (kk : ∀ (H1 : Heap) (locs1 : List Loc), Wd g A s (L.set q0 (a, .inr (11, [v0, v1, v2, v3, v4, v5, v6, .ref x, v8, v9, v10, v11, v12, v13, v14, v15, v16, v17, v18, v19, v20, v21, v22, v23, v24, v25, v26, v27, v28, v29, v30, v31]))) H1 locs1 → W p l e R s m args below meth c H1 locs1 cells slots Q (F0 m (pc + 3) ls rest)) : W p l e R s m args below meth c H locs cells slots Q (F0 m pc ls (.ref x :: .ref a :: rest)) :=
  r_putF C hin hT he rfl inX11 tyX11 tyX11_ok nmX11 7 (by decide) k784 rfl rfl (ty := (.array .int)) (by decide +kernel) rfl rfl (Nat.le_of_ble_eq_true rfl) hdg kk
theorem gX11_26 (C : Cx p s m meth c args cc ret nL RX11 g A) (hT : Wd g A s L H locs) {q0 : Nat} {v0 v1 v2 v3 v4 v5 v6 v7 v8 v9 v10 v11 v12 v13 v14 v15 v16 v17 v18 v19 v20 v21 v22 v23 v24 v25 v26 v27 v28 v29 v30 v31 : Value} (he : L[q0]? = some (a, .inr (11, [v0, v1, v2, v3, v4, v5, v6, v7, v8, v9, v10, v11, v12, v13, v14, v15, v16, v17, v18, v19, v20, v21, v22, v23, v24, v25, v26, v27, v28, v29, v30, v31]))) (hdg : decode cc pc = .ok (.getfield 26, 3)) (kk : W p l e R s m args below meth c H locs cells slots Q (F0 m (pc + 3) ls (v8 :: rest))) : W p l e R s m args below meth c H locs cells slots Q (F0 m pc ls (.ref a :: rest)) :=
  r_get C hT he rfl inX11 8 (by decide) k785 rfl hdg kk
theorem pX11_26 (C : Cx p s m meth c args cc ret nL RX11 g A) (hin : meth.name = "<init>") (hT : Wd g A s L H locs) {q0 : Nat} {v0 v1 v2 v3 v4 v5 v6 v7 v8 v9 v10 v11 v12 v13 v14 v15 v16 v17 v18 v19 v20 v21 v22 v23 v24 v25 v26 v27 v28 v29 v30 v31 : Value} (he : L[q0]? = some (a, .inr (11, [v0, v1, v2, v3, v4, v5, v6, v7, v8, v9, v10, v11, v12, v13, v14, v15, v16, v17, v18, v19, v20, v21, v22, v23, v24, v25, v26, v27, v28, v29, v30, v31]))) {x : Nat} (hdg : decode cc pc = .ok (.putfield 26, 3)) (kk : ∀ (H1 : Heap) (locs1 : List Loc), Wd g A s (L.set q0 (a, .inr (11, [v0, v1, v2, v3, v4, v5, v6, v7, .ref x, v9, v10, v11, v12, v13, v14, v15, v16, v17, v18, v19, v20, v21, v22, v23, v24, v25, v26, v27, v28, v29, v30, v31]))) H1 locs1 → W p l e R s m args below meth c H1 locs1 cells slots Q (F0 m (pc + 3) ls rest)) : W p l e R s m args below meth c H locs cells slots Q (F0 m pc ls (.ref x :: .ref a :: rest)) :=
  r_putF C hin hT he rfl inX11 tyX11 tyX11_ok nmX11 8 (by decide) k785 rfl rfl (ty := (.array .int)) (by decide +kernel) rfl rfl (Nat.le_of_ble_eq_true rfl) hdg kk
theorem gX11_29 (C : Cx p s m meth c args cc ret nL RX11 g A) (hT : Wd g A s L H locs) {q0 : Nat} {v0 v1 v2 v3 v4 v5 v6 v7 v8 v9 v10 v11 v12 v13 v14 v15 v16 v17 v18 v19 v20 v21 v22 v23 v24 v25 v26 v27 v28 v29 v30 v31 : Value} (he : L[q0]? = some (a, .inr (11, [v0, v1, v2, v3, v4, v5, v6, v7, v8, v9, v10, v11, v12, v13, v14, v15, v16, v17, v18, v19, v20, v21, v22, v23, v24, v25, v26, v27, v28, v29, v30, v31]))) (hdg : decode cc pc = .ok (.getfield 29, 3)) (kk : W p l e R s m args below meth c H locs cells slots Q (F0 m (pc + 3) ls (v9 :: rest))) : W p l e R s m args below meth c H locs cells slots Q (F0 m pc ls (.ref a :: rest)) :=
  r_get C hT he rfl inX11 9 (by decide) k786 rfl hdg kk
theorem pX11_29 (C : Cx p s m meth c args cc ret nL RX11 g A) (hin : meth.name = "<init>") (hT : Wd g A s L H locs) {q0 : Nat} {v0 v1 v2 v3 v4 v5 v6 v7 v8 v9 v10 v11 v12 v13 v14 v15 v16 v17 v18 v19 v20 v21 v22 v23 v24 v25 v26 v27 v28 v29 v30 v31 : Value} (he : L[q0]? = some (a, .inr (11, [v0, v1, v2, v3, v4, v5, v6, v7, v8, v9, v10, v11, v12, v13, v14, v15, v16, v17, v18, v19, v20, v21, v22, v23, v24, v25, v26, v27, v28, v29, v30, v31]))) {x : Nat} (hdg : decode cc pc = .ok (.putfield 29, 3)) (kk : ∀ (H1 : Heap) (locs1 : List Loc), Wd g A s (L.set q0 (a, .inr (11, [v0, v1, v2, v3, v4, v5, v6, v7, v8, .ref x, v10, v11, v12, v13, v14, v15, v16, v17, v18, v19, v20, v21, v22, v23, v24, v25, v26, v27, v28, v29, v30, v31]))) H1 locs1 → W p l e R s m args below meth c H1 locs1 cells slots Q (F0 m (pc + 3) ls rest)) : W p l e R s m args below meth c H locs cells slots Q (F0 m pc ls (.ref x :: .ref a :: rest)) :=
  r_putF C hin hT he rfl inX11 tyX11 tyX11_ok nmX11 9 (by decide) k786 rfl rfl (ty := (.array .int)) (by decide +kernel) rfl rfl (Nat.le_of_ble_eq_true rfl) hdg kk
theorem gX11_32 (C : Cx p s m meth c args cc ret nL RX11 g A) (hT : Wd g A s L H locs) {q0 : Nat} {v0 v1 v2 v3 v4 v5 v6 v7 v8 v9 v10 v11 v12 v13 v14 v15 v16 v17 v18 v19 v20 v21 v22 v23 v24 v25 v26 v27 v28 v29 v30 v31 : Value} (he : L[q0]? = some (a, .inr (11, [v0, v1, v2, v3, v4, v5, v6, v7, v8, v9, v10, v11, v12, v13, v14, v15, v16, v17, v18, v19, v20, v21, v22, v23, v24, v25, v26, v27, v28, v29, v30, v31]))) (hdg : decode cc pc = .ok (.getfield 32, 3)) (kk : W p l e R s m args below meth c H locs cells slots Q (F0 m (pc + 3) ls (v10 :: rest))) : W p l e R s m args below meth c H locs cells slots Q (F0 m pc ls (.ref a :: rest)) :=
  r_get C hT he rfl inX11 10 (by decide) k787 rfl hdg kk
theorem pX11_32 (C : Cx p s m meth c args cc ret nL RX11 g A) (hin : meth.name = "<init>") (hT : Wd g A s L H locs) {q0 : Nat} {v0 v1 v2 v3 v4 v5 v6 v7 v8 v9 v10 v11 v12 v13 v14 v15 v16 v17 v18 v19 v20 v21 v22 v23 v24 v25 v26 v27 v28 v29 v30 v31 : Value} (he : L[q0]? = some (a, .inr (11, [v0, v1, v2, v3, v4, v5, v6, v7, v8, v9, v10, v11, v12, v13, v14, v15, v16, v17, v18, v19, v20, v21, v22, v23, v24, v25, v26, v27, v28, v29, v30, v31]))) {x : Nat} (hdg : decode cc pc = .ok (.putfield 32, 3)) (kk : ∀ (H1 : Heap) (locs1 : List Loc), Wd g A s (L.set q0 (a, .inr (11, [v0, v1, v2, v3, v4, v5, v6, v7, v8, v9, .ref x, v11, v12, v13, v14, v15, v16, v17, v18, v19, v20, v21, v22, v23, v24, v25, v26, v27, v28, v29, v30, v31]))) H1 locs1 → W p l e R s m args below meth c H1 locs1 cells slots Q (F0 m (pc + 3) ls rest)) : W p l e R s m args below meth c H locs cells slots Q (F0 m pc ls (.ref x :: .ref a :: rest)) :=
  r_putF C hin hT he rfl inX11 tyX11 tyX11_ok nmX11 10 (by decide) k787 rfl rfl (ty := (.array .int)) (by decide +kernel) rfl rfl (Nat.le_of_ble_eq_true rfl) hdg kk
theorem gX11_35 (C : Cx p s m meth c args cc ret nL RX11 g A) (hT : Wd g A s L H locs) {q0 : Nat} {v0 v1 v2 v3 v4 v5 v6 v7 v8 v9 v10 v11 v12 v13 v14 v15 v16 v17 v18 v19 v20 v21 v22 v23 v24 v25 v26 v27 v28 v29 v30 v31 : Value} (he : L[q0]? = some (a, .inr (11, [v0, v1, v2, v3, v4, v5, v6, v7, v8, v9, v10, v11, v12, v13, v14, v15, v16, v17, v18, v19, v20, v21, v22, v23, v24, v25, v26, v27, v28, v29, v30, v31]))) (hdg : decode cc pc = .ok (.getfield 35, 3)) (kk : W p l e R s m args below meth c H locs cells slots Q (F0 m (pc + 3) ls (v11 :: rest))) : W p l e R s m args below meth c H locs cells slots Q (F0 m pc ls (.ref a :: rest)) :=
  r_get C hT he rfl inX11 11 (by decide) k788 rfl hdg kk
theorem pX11_35 (C : Cx p s m meth c args cc ret nL RX11 g A) (hin : meth.name = "<init>") (hT : Wd g A s L H locs) {q0 : Nat} {v0 v1 v2 v3 v4 v5 v6 v7 v8 v9 v10 v11 v12 v13 v14 v15 v16 v17 v18 v19 v20 v21 v22 v23 v24 v25 v26 v27 v28 v29 v30 v31 : Value} (he : L[q0]? = some (a, .inr (11, [v0, v1, v2, v3, v4, v5, v6, v7, v8, v9, v10, v11, v12, v13, v14, v15, v16, v17, v18, v19, v20, v21, v22, v23, v24, v25, v26, v27, v28, v29, v30, v31]))) {x : Nat} (hdg : decode cc pc = .ok (.putfield 35, 3)) (kk : ∀ (H1 : Heap) (locs1 : List Loc), Wd g A s (L.set q0 (a, .inr (11, [v0, v1, v2, v3, v4, v5, v6, v7, v8, v9, v10, .ref x, v12, v13, v14, v15, v16, v17, v18, v19, v20, v21, v22, v23, v24, v25, v26, v27, v28, v29, v30, v31]))) H1 locs1 → W p l e R s m args below meth c H1 locs1 cells slots Q (F0 m (pc + 3) ls rest)) : W p l e R s m args below meth c H locs cells slots Q (F0 m pc ls (.ref x :: .ref a :: rest)) :=
  r_putF C hin hT he rfl inX11 tyX11 tyX11_ok nmX11 11 (by decide) k788 rfl rfl (ty := (.array .int)) (by decide +kernel) rfl rfl (Nat.le_of_ble_eq_true rfl) hdg kk
theorem gX11_38 (C : Cx p s m meth c args cc ret nL RX11 g A) (hT : Wd g A s L H locs) {q0 : Nat} {v0 v1 v2 v3 v4 v5 v6 v7 v8 v9 v10 v11 v12 v13 v14 v15 v16 v17 v18 v19 v20 v21 v22 v23 v24 v25 v26 v27 v28 v29 v30 v31 : Value} (he : L[q0]? = some (a, .inr (11, [v0, v1, v2, v3, v4, v5, v6, v7, v8, v9, v10, v11, v12, v13, v14, v15, v16, v17, v18, v19, v20, v21, v22, v23, v24, v25, v26, v27, v28, v29, v30, v31]))) (hdg : decode cc pc = .ok (.getfield 38, 3)) (kk : W p l e R s m args below meth c H locs cells slots Q (F0 m (pc + 3) ls (v12 :: rest))) : W p l e R s m args below meth c H locs cells slots Q (F0 m pc ls (.ref a :: rest)) :=
  r_get C hT he rfl inX11 12 (by decide) k789 rfl hdg kk
theorem pX11_38 (C : Cx p s m meth c args cc ret nL RX11 g A) (hin : meth.name = "<init>") (hT : Wd g A s L H locs) {q0 : Nat} {v0 v1 v2 v3 v4 v5 v6 v7 v8 v9 v10 v11 v12 v13 v14 v15 v16 v17 v18 v19 v20 v21 v22 v23 v24 v25 v26 v27 v28 v29 v30 v31 : Value} (he : L[q0]? = some (a, .inr (11, [v0, v1, v2, v3, v4, v5, v6, v7, v8, v9, v10, v11, v12, v13, v14, v15, v16, v17, v18, v19, v20, v21, v22, v23, v24, v25, v26, v27, v28, v29, v30, v31]))) {x : Nat} (hdg : decode cc pc = .ok (.putfield 38, 3)) (kk : ∀ (H1 : Heap) (locs1 : List Loc), Wd g A s (L.set q0 (a, .inr (11, [v0, v1, v2, v3, v4, v5, v6, v7, v8, v9, v10, v11, .ref x, v13, v14, v15, v16, v17, v18, v19, v20, v21, v22, v23, v24, v25, v26, v27, v28, v29, v30, v31]))) H1 locs1 → W p l e R s m args below meth c H1 locs1 cells slots Q (F0 m (pc + 3) ls rest)) : W p l e R s m args below meth c H locs cells slots Q (F0 m pc ls (.ref x :: .ref a :: rest)) :=
  r_putF C hin hT he rfl inX11 tyX11 tyX11_ok nmX11 12 (by decide) k789 rfl rfl (ty := (.array .int)) (by decide +kernel) rfl rfl (Nat.le_of_ble_eq_true rfl) hdg kk
theorem gX11_41 (C : Cx p s m meth c args cc ret nL RX11 g A) (hT : Wd g A s L H locs) {q0 : Nat} {v0 v1 v2 v3 v4 v5 v6 v7 v8 v9 v10 v11 v12 v13 v14 v15 v16 v17 v18 v19 v20 v21 v22 v23 v24 v25 v26 v27 v28 v29 v30 v31 : Value} (he : L[q0]? = some (a, .inr (11, [v0, v1, v2, v3, v4, v5, v6, v7, v8, v9, v10, v11, v12, v13, v14, v15, v16, v17, v18, v19, v20, v21, v22, v23, v24, v25, v26, v27, v28, v29, v30, v31]))) (hdg : decode cc pc = .ok (.getfield 41, 3)) (kk : W p l e R s m args below meth c H locs cells slots Q (F0 m (pc + 3) ls (v13 :: rest))) : W p l e R s m args below meth c H locs cells slots Q (F0 m pc ls (.ref a :: rest)) :=
  r_get C hT he rfl inX11 13 (by decide) k790 rfl hdg kk
theorem pX11_41 (C : Cx p s m meth c args cc ret nL RX11 g A) (hin : meth.name = "<init>") (hT : Wd g A s L H locs) {q0 : Nat} {v0 v1 v2 v3 v4 v5 v6 v7 v8 v9 v10 v11 v12 v13 v14 v15 v16 v17 v18 v19 v20 v21 v22 v23 v24 v25 v26 v27 v28 v29 v30 v31 : Value} (he : L[q0]? = some (a, .inr (11, [v0, v1, v2, v3, v4, v5, v6, v7, v8, v9, v10, v11, v12, v13, v14, v15, v16, v17, v18, v19, v20, v21, v22, v23, v24, v25, v26, v27, v28, v29, v30, v31]))) {x : Nat} (hdg : decode cc pc = .ok (.putfield 41, 3)) (kk : ∀ (H1 : Heap) (locs1 : List Loc), Wd g A s (L.set q0 (a, .inr (11, [v0, v1, v2, v3, v4, v5, v6, v7, v8, v9, v10, v11, v12, .ref x, v14, v15, v16, v17, v18, v19, v20, v21, v22, v23, v24, v25, v26, v27, v28, v29, v30, v31]))) H1 locs1 → W p l e R s m args below meth c H1 locs1 cells slots Q (F0 m (pc + 3) ls rest)) : W p l e R s m args below meth c H locs cells slots Q (F0 m pc ls (.ref x :: .ref a :: rest)) :=
  r_putF C hin hT he rfl inX11 tyX11 tyX11_ok nmX11 13 (by decide) k790 rfl rfl (ty := (.array .int)) (by decide +kernel) rfl rfl (Nat.le_of_ble_eq_true rfl) hdg kk
theorem gX11_44 (C : Cx p s m meth c args cc ret nL RX11 g A) (hT : Wd g A s L H locs) {q0 : Nat} {v0 v1 v2 v3 v4 v5 v6 v7 v8 v9 v10 v11 v12 v13 v14 v15 v16 v17 v18 v19 v20 v21 v22 v23 v24 v25 v26 v27 v28 v29 v30 v31 : Value} (he : L[q0]? = some (a, .inr (11, [v0, v1, v2, v3, v4, v5, v6, v7, v8, v9, v10, v11, v12, v13, v14, v15, v16, v17, v18, v19, v20, v21, v22, v23, v24, v25, v26, v27, v28, v29, v30, v31]))) (hdg : decode cc pc = .ok (.getfield 44, 3)) (kk : W p l e R s m args below meth c H locs cells slots Q (F0 m (pc + 3) ls (v14 :: rest))) : W p l e R s m args below meth c H locs cells slots Q (F0 m pc ls (.ref a :: rest)) :=
  r_get C hT he rfl inX11 14 (by decide) k791 rfl hdg kk
theorem pX11_44 (C : Cx p s m meth c args cc ret nL RX11 g A) (hin : meth.name = "<init>") (hT : Wd g A s L H locs) {q0 : Nat} {v0 v1 v2 v3 v4 v5 v6 v7 v8 v9 v10 v11 v12 v13 v14 v15 v16 v17 v18 v19 v20 v21 v22 v23 v24 v25 v26 v27 v28 v29 v30 v31 : Value} (he : L[q0]? = some (a, .inr (11, [v0, v1, v2, v3, v4, v5, v6, v7, v8, v9, v10, v11, v12, v13, v14, v15, v16, v17, v18, v19, v20, v21, v22, v23, v24, v25, v26, v27, v28, v29, v30, v31]))) {x : Nat} (hdg : decode cc pc = .ok (.putfield 44, 3)) (kk : ∀ (H1 : Heap) (locs1 : List Loc), Wd g A s (L.set q0 (a, .inr (11, [v0, v1, v2, v3, v4, v5, v6, v7, v8, v9, v10, v11, v12, v13, .ref x, v15, v16, v17, v18, v19, v20, v21, v22, v23, v24, v25, v26, v27, v28, v29, v30, v31]))) H1 locs1 → W p l e R s m args below meth c H1 locs1 cells slots Q (F0 m (pc + 3) ls rest)) : W p l e R s m args below meth c H locs cells slots Q (F0 m pc ls (.ref x :: .ref a :: rest)) :=
  r_putF C hin hT he rfl inX11 tyX11 tyX11_ok nmX11 14 (by decide) k791 rfl rfl (ty := (.array .int)) (by decide +kernel) rfl rfl (Nat.le_of_ble_eq_true rfl) hdg kk
theorem gX11_47 (C : Cx p s m meth c args cc ret nL RX11 g A) (hT : Wd g A s L H locs) {q0 : Nat} {v0 v1 v2 v3 v4 v5 v6 v7 v8 v9 v10 v11 v12 v13 v14 v15 v16 v17 v18 v19 v20 v21 v22 v23 v24 v25 v26 v27 v28 v29 v30 v31 : Value} (he : L[q0]? = some (a, .inr (11, [v0, v1, v2, v3, v4, v5, v6, v7, v8, v9, v10, v11, v12, v13, v14, v15, v16, v17, v18, v19, v20, v21, v22, v23, v24, v25, v26, v27, v28, v29, v30, v31]))) (hdg : decode cc pc = .ok (.getfield 47, 3)) (kk : W p l e R s m args below meth c H locs cells slots Q (F0 m (pc + 3) ls (v15 :: rest))) : W p l e R s m args below meth c H locs cells slots Q (F0 m pc ls (.ref a :: rest)) :=
  r_get C hT he rfl inX11 15 (by decide) k792 rfl hdg kk
theorem pX11_47 (C : Cx p s m meth c args cc ret nL RX11 g A) (hin : meth.name = "<init>") (hT : Wd g A s L H locs) {q0 : Nat} {v0 v1 v2 v3 v4 v5 v6 v7 v8 v9 v10 v11 v12 v13 v14 v15 v16 v17 v18 v19 v20 v21 v22 v23 v24 v25 v26 v27 v28 v29 v30 v31 : Value} (he : L[q0]? = some (a, .inr (11, [v0, v1, v2, v3, v4, v5, v6, v7, v8, v9, v10, v11, v12, v13, v14, v15, v16, v17, v18, v19, v20, v21, v22, v23, v24, v25, v26, v27, v28, v29, v30, v31]))) {x : Nat} (hdg : decode cc pc = .ok (.putfield 47, 3)) (kk : ∀ (H1 : Heap) (locs1 : List Loc), Wd g A s (L.set q0 (a, .inr (11, [v0, v1, v2, v3, v4, v5, v6, v7, v8, v9, v10, v11, v12, v13, v14, .ref x, v16, v17, v18, v19, v20, v21, v22, v23, v24, v25, v26, v27, v28, v29, v30, v31]))) H1 locs1 → W p l e R s m args below meth c H1 locs1 cells slots Q (F0 m (pc + 3) ls rest)) : W p l e R s m args below meth c H locs cells slots Q (F0 m pc ls (.ref x :: .ref a :: rest)) :=
  r_putF C hin hT he rfl inX11 tyX11 tyX11_ok nmX11 15 (by decide) k792 rfl rfl (ty := (.array .int)) (by decide +kernel) rfl rfl (Nat.le_of_ble_eq_true rfl) hdg kk
theorem gX11_50 (C : Cx p s m meth c args cc ret nL RX11 g A) (hT : Wd g A s L H locs) {q0 : Nat} {v0 v1 v2 v3 v4 v5 v6 v7 v8 v9 v10 v11 v12 v13 v14 v15 v16 v17 v18 v19 v20 v21 v22 v23 v24 v25 v26 v27 v28 v29 v30 v31 : Value} (he : L[q0]? = some (a, .inr (11, [v0, v1, v2, v3, v4, v5, v6, v7, v8, v9, v10, v11, v12, v13, v14, v15, v16, v17, v18, v19, v20, v21, v22, v23, v24, v25, v26, v27, v28, v29, v30, v31]))) (hdg : decode cc pc = .ok (.getfield 50, 3)) (kk : W p l e R s m args below meth c H locs cells slots Q (F0 m (pc + 3) ls (v16 :: rest))) : W p l e R s m args below meth c H locs cells slots Q (F0 m pc ls (.ref a :: rest)) :=
  r_get C hT he rfl inX11 16 (by decide) k793 rfl hdg kk
theorem pX11_50 (C : Cx p s m meth c args cc ret nL RX11 g A) (hin : meth.name = "<init>") (hT : Wd g A s L H locs) {q0 : Nat} {v0 v1 v2 v3 v4 v5 v6 v7 v8 v9 v10 v11 v12 v13 v14 v15 v16 v17 v18 v19 v20 v21 v22 v23 v24 v25 v26 v27 v28 v29 v30 v31 : Value} (he : L[q0]? = some (a, .inr (11, [v0, v1, v2, v3, v4, v5, v6, v7, v8, v9, v10, v11, v12, v13, v14, v15, v16, v17, v18, v19, v20, v21, v22, v23, v24, v25, v26, v27, v28, v29, v30, v31]))) {x : Nat} (hdg : decode cc pc = .ok (.putfield 50, 3)) (kk : ∀ (H1 : Heap) (locs1 : List Loc), Wd g A s (L.set q0 (a, .inr (11, [v0, v1, v2, v3, v4, v5, v6, v7, v8, v9, v10, v11, v12, v13, v14, v15, .ref x, v17, v18, v19, v20, v21, v22, v23, v24, v25, v26, v27, v28, v29, v30, v31]))) H1 locs1 → W p l e R s m args below meth c H1 locs1 cells slots Q (F0 m (pc + 3) ls rest)) : W p l e R s m args below meth c H locs cells slots Q (F0 m pc ls (.ref x :: .ref a :: rest)) :=
  r_putF C hin hT he rfl inX11 tyX11 tyX11_ok nmX11 16 (by decide) k793 rfl rfl (ty := (.array .int)) (by decide +kernel) rfl rfl (Nat.le_of_ble_eq_true rfl) hdg kk
theorem gX11_53 (C : Cx p s m meth c args cc ret nL RX11 g A) (hT : Wd g A s L H locs) {q0 : Nat} {v0 v1 v2 v3 v4 v5 v6 v7 v8 v9 v10 v11 v12 v13 v14 v15 v16 v17 v18 v19 v20 v21 v22 v23 v24 v25 v26 v27 v28 v29 v30 v31 : Value} (he : L[q0]? = some (a, .inr (11, [v0, v1, v2, v3, v4, v5, v6, v7, v8, v9, v10, v11, v12, v13, v14, v15, v16, v17, v18, v19, v20, v21, v22, v23, v24, v25, v26, v27, v28, v29, v30, v31]))) (hdg : decode cc pc = .ok (.getfield 53, 3)) (kk : W p l e R s m args below meth c H locs cells slots Q (F0 m (pc + 3) ls (v17 :: rest))) : W p l e R s m args below meth c H locs cells slots Q (F0 m pc ls (.ref a :: rest)) :=
  r_get C hT he rfl inX11 17 (by decide) k794 rfl hdg kk
theorem pX11_53 (C : Cx p s m meth c args cc ret nL RX11 g A) (hin : meth.name = "<init>") (hT : Wd g A s L H locs) {q0 : Nat} {v0 v1 v2 v3 v4 v5 v6 v7 v8 v9 v10 v11 v12 v13 v14 v15 v16 v17 v18 v19 v20 v21 v22 v23 v24 v25 v26 v27 v28 v29 v30 v31 : Value} (he : L[q0]? = some (a, .inr (11, [v0, v1, v2, v3, v4, v5, v6, v7, v8, v9, v10, v11, v12, v13, v14, v15, v16, v17, v18, v19, v20, v21, v22, v23, v24, v25, v26, v27, v28, v29, v30, v31]))) {x : Nat} (hdg : decode cc pc = .ok (.putfield 53, 3)) (kk : ∀ (H1 : Heap) (locs1 : List Loc), Wd g A s (L.set q0 (a, .inr (11, [v0, v1, v2, v3, v4, v5, v6, v7, v8, v9, v10, v11, v12, v13, v14, v15, v16, .ref x, v18, v19, v20, v21, v22, v23, v24, v25, v26, v27, v28, v29, v30, v31]))) H1 locs1 → W p l e R s m args below meth c H1 locs1 cells slots Q (F0 m (pc + 3) ls rest)) : W p l e R s m args below meth c H locs cells slots Q (F0 m pc ls (.ref x :: .ref a :: rest)) :=
  r_putF C hin hT he rfl inX11 tyX11 tyX11_ok nmX11 17 (by decide) k794 rfl rfl (ty := (.array .long)) (by decide +kernel) rfl rfl (Nat.le_of_ble_eq_true rfl) hdg kk
theorem gX11_57 (C : Cx p s m meth c args cc ret nL RX11 g A) (hT : Wd g A s L H locs) {q0 : Nat} {v0 v1 v2 v3 v4 v5 v6 v7 v8 v9 v10 v11 v12 v13 v14 v15 v16 v17 v18 v19 v20 v21 v22 v23 v24 v25 v26 v27 v28 v29 v30 v31 : Value} (he : L[q0]? = some (a, .inr (11, [v0, v1, v2, v3, v4, v5, v6, v7, v8, v9, v10, v11, v12, v13, v14, v15, v16, v17, v18, v19, v20, v21, v22, v23, v24, v25, v26, v27, v28, v29, v30, v31]))) (hdg : decode cc pc = .ok (.getfield 57, 3)) (kk : W p l e R s m args below meth c H locs cells slots Q (F0 m (pc + 3) ls (v18 :: rest))) : W p l e R s m args below meth c H locs cells slots Q (F0 m pc ls (.ref a :: rest)) :=
  r_get C hT he rfl inX11 18 (by decide) k795 rfl hdg kk
theorem pX11_57 (C : Cx p s m meth c args cc ret nL RX11 g A) (hin : meth.name = "<init>") (hT : Wd g A s L H locs) {q0 : Nat} {v0 v1 v2 v3 v4 v5 v6 v7 v8 v9 v10 v11 v12 v13 v14 v15 v16 v17 v18 v19 v20 v21 v22 v23 v24 v25 v26 v27 v28 v29 v30 v31 : Value} (he : L[q0]? = some (a, .inr (11, [v0, v1, v2, v3, v4, v5, v6, v7, v8, v9, v10, v11, v12, v13, v14, v15, v16, v17, v18, v19, v20, v21, v22, v23, v24, v25, v26, v27, v28, v29, v30, v31]))) {x : Nat} (hdg : decode cc pc = .ok (.putfield 57, 3)) (kk : ∀ (H1 : Heap) (locs1 : List Loc), Wd g A s (L.set q0 (a, .inr (11, [v0, v1, v2, v3, v4, v5, v6, v7, v8, v9, v10, v11, v12, v13, v14, v15, v16, v17, .ref x, v19, v20, v21, v22, v23, v24, v25, v26, v27, v28, v29, v30, v31]))) H1 locs1 → W p l e R s m args below meth c H1 locs1 cells slots Q (F0 m (pc + 3) ls rest)) : W p l e R s m args below meth c H locs cells slots Q (F0 m pc ls (.ref x :: .ref a :: rest)) :=
  r_putF C hin hT he rfl inX11 tyX11 tyX11_ok nmX11 18 (by decide) k795 rfl rfl (ty := (.array .long)) (by decide +kernel) rfl rfl (Nat.le_of_ble_eq_true rfl) hdg kk
theorem gX11_60 (C : Cx p s m meth c args cc ret nL RX11 g A) (hT : Wd g A s L H locs) {q0 : Nat} {v0 v1 v2 v3 v4 v5 v6 v7 v8 v9 v10 v11 v12 v13 v14 v15 v16 v17 v18 v19 v20 v21 v22 v23 v24 v25 v26 v27 v28 v29 v30 v31 : Value} (he : L[q0]? = some (a, .inr (11, [v0, v1, v2, v3, v4, v5, v6, v7, v8, v9, v10, v11, v12, v13, v14, v15, v16, v17, v18, v19, v20, v21, v22, v23, v24, v25, v26, v27, v28, v29, v30, v31]))) (hdg : decode cc pc = .ok (.getfield 60, 3)) (kk : W p l e R s m args below meth c H locs cells slots Q (F0 m (pc + 3) ls (v19 :: rest))) : W p l e R s m args below meth c H locs cells slots Q (F0 m pc ls (.ref a :: rest)) :=
  r_get C hT he rfl inX11 19 (by decide) k796 rfl hdg kk
theorem pX11_60 (C : Cx p s m meth c args cc ret nL RX11 g A) (hin : meth.name = "<init>") (hT : Wd g A s L H locs) {q0 : Nat} {v0 v1 v2 v3 v4 v5 v6 v7 v8 v9 v10 v11 v12 v13 v14 v15 v16 v17 v18 v19 v20 v21 v22 v23 v24 v25 v26 v27 v28 v29 v30 v31 : Value} (he : L[q0]? = some (a, .inr (11, [v0, v1, v2, v3, v4, v5, v6, v7, v8, v9, v10, v11, v12, v13, v14, v15, v16, v17, v18, v19, v20, v21, v22, v23, v24, v25, v26, v27, v28, v29, v30, v31]))) {x : Nat} (hdg : decode cc pc = .ok (.putfield 60, 3)) (kk : ∀ (H1 : Heap) (locs1 : List Loc), Wd g A s (L.set q0 (a, .inr (11, [v0, v1, v2, v3, v4, v5, v6, v7, v8, v9, v10, v11, v12, v13, v14, v15, v16, v17, v18, .ref x, v20, v21, v22, v23, v24, v25, v26, v27, v28, v29, v30, v31]))) H1 locs1 → W p l e R s m args below meth c H1 locs1 cells slots Q (F0 m (pc + 3) ls rest)) : W p l e R s m args below meth c H locs cells slots Q (F0 m pc ls (.ref x :: .ref a :: rest)) :=
  r_putF C hin hT he rfl inX11 tyX11 tyX11_ok nmX11 19 (by decide) k796 rfl rfl (ty := (.array .int)) (by decide +kernel) rfl rfl (Nat.le_of_ble_eq_true rfl) hdg kk
theorem gX11_63 (C : Cx p s m meth c args cc ret nL RX11 g A) (hT : Wd g A s L H locs) {q0 : Nat} {v0 v1 v2 v3 v4 v5 v6 v7 v8 v9 v10 v11 v12 v13 v14 v15 v16 v17 v18 v19 v20 v21 v22 v23 v24 v25 v26 v27 v28 v29 v30 v31 : Value} (he : L[q0]? = some (a, .inr (11, [v0, v1, v2, v3, v4, v5, v6, v7, v8, v9, v10, v11, v12, v13, v14, v15, v16, v17, v18, v19, v20, v21, v22, v23, v24, v25, v26, v27, v28, v29, v30, v31]))) (hdg : decode cc pc = .ok (.getfield 63, 3)) (kk : W p l e R s m args below meth c H locs cells slots Q (F0 m (pc + 3) ls (v25 :: rest))) : W p l e R s m args below meth c H locs cells slots Q (F0 m pc ls (.ref a :: rest)) :=
  r_get C hT he rfl inX11 25 (by decide) k802 rfl hdg kk
theorem pX11_63 (C : Cx p s m meth c args cc ret nL RX11 g A) (hin : meth.name = "<init>") (hT : Wd g A s L H locs) {q0 : Nat} {v0 v1 v2 v3 v4 v5 v6 v7 v8 v9 v10 v11 v12 v13 v14 v15 v16 v17 v18 v19 v20 v21 v22 v23 v24 v25 v26 v27 v28 v29 v30 v31 : Value} (he : L[q0]? = some (a, .inr (11, [v0, v1, v2, v3, v4, v5, v6, v7, v8, v9, v10, v11, v12, v13, v14, v15, v16, v17, v18, v19, v20, v21, v22, v23, v24, v25, v26, v27, v28, v29, v30, v31]))) {x : Nat} (hdg : decode cc pc = .ok (.putfield 63, 3)) (kk : ∀ (H1 : Heap) (locs1 : List Loc), Wd g A s (L.set q0 (a, .inr (11, [v0, v1, v2, v3, v4, v5, v6, v7, v8, v9, v10, v11, v12, v13, v14, v15, v16, v17, v18, v19, v20, v21, v22, v23, v24, .ref x, v26, v27, v28, v29, v30, v31]))) H1 locs1 → W p l e R s m args below meth c H1 locs1 cells slots Q (F0 m (pc + 3) ls rest)) : W p l e R s m args below meth c H locs cells slots Q (F0 m pc ls (.ref x :: .ref a :: rest)) :=
  r_putF C hin hT he rfl inX11 tyX11 tyX11_ok nmX11 25 (by decide) k802 rfl rfl (ty := (.array .int)) (by decide +kernel) rfl rfl (Nat.le_of_ble_eq_true rfl) hdg kk
theorem gX11_66 (C : Cx p s m meth c args cc ret nL RX11 g A) (hT : Wd g A s L H locs) {q0 : Nat} {v0 v1 v2 v3 v4 v5 v6 v7 v8 v9 v10 v11 v12 v13 v14 v15 v16 v17 v18 v19 v20 v21 v22 v23 v24 v25 v26 v27 v28 v29 v30 v31 : Value} (he : L[q0]? = some (a, .inr (11, [v0, v1, v2, v3, v4, v5, v6, v7, v8, v9, v10, v11, v12, v13, v14, v15, v16, v17, v18, v19, v20, v21, v22, v23, v24, v25, v26, v27, v28, v29, v30, v31]))) (hdg : decode cc pc = .ok (.getfield 66, 3)) (kk : W p l e R s m args below meth c H locs cells slots Q (F0 m (pc + 3) ls (v0 :: rest))) : W p l e R s m args below meth c H locs cells slots Q (F0 m pc ls (.ref a :: rest)) :=
  r_get C hT he rfl inX11 0 (by decide) k777 rfl hdg kk
theorem pX11_66 (C : Cx p s m meth c args cc ret nL RX11 g A) (hin : meth.name = "<init>") (hT : Wd g A s L H locs) {q0 : Nat} {v0 v1 v2 v3 v4 v5 v6 v7 v8 v9 v10 v11 v12 v13 v14 v15 v16 v17 v18 v19 v20 v21 v22 v23 v24 v25 v26 v27 v28 v29 v30 v31 : Value} (he : L[q0]? = some (a, .inr (11, [v0, v1, v2, v3, v4, v5, v6, v7, v8, v9, v10, v11, v12, v13, v14, v15, v16, v17, v18, v19, v20, v21, v22, v23, v24, v25, v26, v27, v28, v29, v30, v31]))) {x : Int32} (hdg : decode cc pc = .ok (.putfield 66, 3)) (kk : ∀ (H1 : Heap) (locs1 : List Loc), Wd g A s (L.set q0 (a, .inr (11, [.int x, v1, v2, v3, v4, v5, v6, v7, v8, v9, v10, v11, v12, v13, v14, v15, v16, v17, v18, v19, v20, v21, v22, v23, v24, v25, v26, v27, v28, v29, v30, v31]))) H1 locs1 → W p l e R s m args below meth c H1 locs1 cells slots Q (F0 m (pc + 3) ls rest)) : W p l e R s m args below meth c H locs cells slots Q (F0 m pc ls (.int x :: .ref a :: rest)) :=
  r_putF C hin hT he rfl inX11 tyX11 tyX11_ok nmX11 0 (by decide) k777 rfl rfl (ty := .int) (by decide +kernel) rfl rfl (Nat.le_of_ble_eq_true rfl) hdg kk
theorem gX11_77 (C : Cx p s m meth c args cc ret nL RX11 g A) (hT : Wd g A s L H locs) {q0 : Nat} {v0 v1 v2 v3 v4 v5 v6 v7 v8 v9 v10 v11 v12 v13 v14 v15 v16 v17 v18 v19 v20 v21 v22 v23 v24 v25 v26 v27 v28 v29 v30 v31 : Value} (he : L[q0]? = some (a, .inr (11, [v0, v1, v2, v3, v4, v5, v6, v7, v8, v9, v10, v11, v12, v13, v14, v15, v16, v17, v18, v19, v20, v21, v22, v23, v24, v25, v26, v27, v28, v29, v30, v31]))) (hdg : decode cc pc = .ok (.getfield 77, 3)) (kk : W p l e R s m args below meth c H locs cells slots Q (F0 m (pc + 3) ls (v2 :: rest))) : W p l e R s m args below meth c H locs cells slots Q (F0 m pc ls (.ref a :: rest)) :=
  r_get C hT he rfl inX11 2 (by decide) k779 rfl hdg kk
theorem pX11_77 (C : Cx p s m meth c args cc ret nL RX11 g A) (hT : Wd g A s L H locs) {q0 : Nat} {v0 v1 v2 v3 v4 v5 v6 v7 v8 v9 v10 v11 v12 v13 v14 v15 v16 v17 v18 v19 v20 v21 v22 v23 v24 v25 v26 v27 v28 v29 v30 v31 : Value} (he : L[q0]? = some (a, .inr (11, [v0, v1, v2, v3, v4, v5, v6, v7, v8, v9, v10, v11, v12, v13, v14, v15, v16, v17, v18, v19, v20, v21, v22, v23, v24, v25, v26, v27, v28, v29, v30, v31]))) {x : Int32} (hdg : decode cc pc = .ok (.putfield 77, 3)) (kk : ∀ (H1 : Heap) (locs1 : List Loc), Wd g A s (L.set q0 (a, .inr (11, [v0, v1, .int x, v3, v4, v5, v6, v7, v8, v9, v10, v11, v12, v13, v14, v15, v16, v17, v18, v19, v20, v21, v22, v23, v24, v25, v26, v27, v28, v29, v30, v31]))) H1 locs1 → W p l e R s m args below meth c H1 locs1 cells slots Q (F0 m (pc + 3) ls rest)) : W p l e R s m args below meth c H locs cells slots Q (F0 m pc ls (.int x :: .ref a :: rest)) :=
  r_put C hT he rfl inX11 tyX11 tyX11_ok nmX11 2 (by decide) k779 rfl (ty := .int) (by decide +kernel) rfl rfl (Nat.le_of_ble_eq_true rfl) hdg kk
theorem gX11_91 (C : Cx p s m meth c args cc ret nL RX11 g A) (hT : Wd g A s L H locs) {q0 : Nat} {v0 v1 v2 v3 v4 v5 v6 v7 v8 v9 v10 v11 v12 v13 v14 v15 v16 v17 v18 v19 v20 v21 v22 v23 v24 v25 v26 v27 v28 v29 v30 v31 : Value} (he : L[q0]? = some (a, .inr (11, [v0, v1, v2, v3, v4, v5, v6, v7, v8, v9, v10, v11, v12, v13, v14, v15, v16, v17, v18, v19, v20, v21, v22, v23, v24, v25, v26, v27, v28, v29, v30, v31]))) (hdg : decode cc pc = .ok (.getfield 91, 3)) (kk : W p l e R s m args below meth c H locs cells slots Q (F0 m (pc + 3) ls (v3 :: rest))) : W p l e R s m args below meth c H locs cells slots Q (F0 m pc ls (.ref a :: rest)) :=
  r_get C hT he rfl inX11 3 (by decide) k780 rfl hdg kk
theorem pX11_91 (C : Cx p s m meth c args cc ret nL RX11 g A) (hT : Wd g A s L H locs) {q0 : Nat} {v0 v1 v2 v3 v4 v5 v6 v7 v8 v9 v10 v11 v12 v13 v14 v15 v16 v17 v18 v19 v20 v21 v22 v23 v24 v25 v26 v27 v28 v29 v30 v31 : Value} (he : L[q0]? = some (a, .inr (11, [v0, v1, v2, v3, v4, v5, v6, v7, v8, v9, v10, v11, v12, v13, v14, v15, v16, v17, v18, v19, v20, v21, v22, v23, v24, v25, v26, v27, v28, v29, v30, v31]))) {x : Int32} (hdg : decode cc pc = .ok (.putfield 91, 3)) (kk : ∀ (H1 : Heap) (locs1 : List Loc), Wd g A s (L.set q0 (a, .inr (11, [v0, v1, v2, .int x, v4, v5, v6, v7, v8, v9, v10, v11, v12, v13, v14, v15, v16, v17, v18, v19, v20, v21, v22, v23, v24, v25, v26, v27, v28, v29, v30, v31]))) H1 locs1 → W p l e R s m args below meth c H1 locs1 cells slots Q (F0 m (pc + 3) ls rest)) : W p l e R s m args below meth c H locs cells slots Q (F0 m pc ls (.int x :: .ref a :: rest)) :=
  r_put C hT he rfl inX11 tyX11 tyX11_ok nmX11 3 (by decide) k780 rfl (ty := .int) (by decide +kernel) rfl rfl (Nat.le_of_ble_eq_true rfl) hdg kk
theorem gX11_104 (C : Cx p s m meth c args cc ret nL RX11 g A) (hT : Wd g A s L H locs) {q0 : Nat} {v0 v1 v2 v3 v4 v5 v6 v7 v8 v9 v10 v11 v12 v13 v14 v15 v16 v17 v18 v19 v20 v21 v22 v23 v24 v25 v26 v27 v28 v29 v30 v31 : Value} (he : L[q0]? = some (a, .inr (11, [v0, v1, v2, v3, v4, v5, v6, v7, v8, v9, v10, v11, v12, v13, v14, v15, v16, v17, v18, v19, v20, v21, v22, v23, v24, v25, v26, v27, v28, v29, v30, v31]))) (hdg : decode cc pc = .ok (.getfield 104, 3)) (kk : W p l e R s m args below meth c H locs cells slots Q (F0 m (pc + 3) ls (v20 :: rest))) : W p l e R s m args below meth c H locs cells slots Q (F0 m pc ls (.ref a :: rest)) :=
  r_get C hT he rfl inX11 20 (by decide) k797 rfl hdg kk
theorem pX11_104 (C : Cx p s m meth c args cc ret nL RX11 g A) (hT : Wd g A s L H locs) {q0 : Nat} {v0 v1 v2 v3 v4 v5 v6 v7 v8 v9 v10 v11 v12 v13 v14 v15 v16 v17 v18 v19 v20 v21 v22 v23 v24 v25 v26 v27 v28 v29 v30 v31 : Value} (he : L[q0]? = some (a, .inr (11, [v0, v1, v2, v3, v4, v5, v6, v7, v8, v9, v10, v11, v12, v13, v14, v15, v16, v17, v18, v19, v20, v21, v22, v23, v24, v25, v26, v27, v28, v29, v30, v31]))) {x : Int32} (hdg : decode cc pc = .ok (.putfield 104, 3)) (kk : ∀ (H1 : Heap) (locs1 : List Loc), Wd g A s (L.set q0 (a, .inr (11, [v0, v1, v2, v3, v4, v5, v6, v7, v8, v9, v10, v11, v12, v13, v14, v15, v16, v17, v18, v19, .int x, v21, v22, v23, v24, v25, v26, v27, v28, v29, v30, v31]))) H1 locs1 → W p l e R s m args below meth c H1 locs1 cells slots Q (F0 m (pc + 3) ls rest)) : W p l e R s m args below meth c H locs cells slots Q (F0 m pc ls (.int x :: .ref a :: rest)) :=
  r_put C hT he rfl inX11 tyX11 tyX11_ok nmX11 20 (by decide) k797 rfl (ty := .int) (by decide +kernel) rfl rfl (Nat.le_of_ble_eq_true rfl) hdg kk
theorem gX11_107 (C : Cx p s m meth c args cc ret nL RX11 g A) (hT : Wd g A s L H locs) {q0 : Nat} {v0 v1 v2 v3 v4 v5 v6 v7 v8 v9 v10 v11 v12 v13 v14 v15 v16 v17 v18 v19 v20 v21 v22 v23 v24 v25 v26 v27 v28 v29 v30 v31 : Value} (he : L[q0]? = some (a, .inr (11, [v0, v1, v2, v3, v4, v5, v6, v7, v8, v9, v10, v11, v12, v13, v14, v15, v16, v17, v18, v19, v20, v21, v22, v23, v24, v25, v26, v27, v28, v29, v30, v31]))) (hdg : decode cc pc = .ok (.getfield 107, 3)) (kk : W p l e R s m args below meth c H locs cells slots Q (F0 m (pc + 3) ls (v21 :: rest))) : W p l e R s m args below meth c H locs cells slots Q (F0 m pc ls (.ref a :: rest)) :=
  r_get C hT he rfl inX11 21 (by decide) k798 rfl hdg kk
theorem pX11_107 (C : Cx p s m meth c args cc ret nL RX11 g A) (hT : Wd g A s L H locs) {q0 : Nat} {v0 v1 v2 v3 v4 v5 v6 v7 v8 v9 v10 v11 v12 v13 v14 v15 v16 v17 v18 v19 v20 v21 v22 v23 v24 v25 v26 v27 v28 v29 v30 v31 : Value} (he : L[q0]? = some (a, .inr (11, [v0, v1, v2, v3, v4, v5, v6, v7, v8, v9, v10, v11, v12, v13, v14, v15, v16, v17, v18, v19, v20, v21, v22, v23, v24, v25, v26, v27, v28, v29, v30, v31]))) {x : Int32} (hdg : decode cc pc = .ok (.putfield 107, 3)) (kk : ∀ (H1 : Heap) (locs1 : List Loc), Wd g A s (L.set q0 (a, .inr (11, [v0, v1, v2, v3, v4, v5, v6, v7, v8, v9, v10, v11, v12, v13, v14, v15, v16, v17, v18, v19, v20, .int x, v22, v23, v24, v25, v26, v27, v28, v29, v30, v31]))) H1 locs1 → W p l e R s m args below meth c H1 locs1 cells slots Q (F0 m (pc + 3) ls rest)) : W p l e R s m args below meth c H locs cells slots Q (F0 m pc ls (.int x :: .ref a :: rest)) :=
  r_put C hT he rfl inX11 tyX11 tyX11_ok nmX11 21 (by decide) k798 rfl (ty := .int) (by decide +kernel) rfl rfl (Nat.le_of_ble_eq_true rfl) hdg kk
theorem gX11_110 (C : Cx p s m meth c args cc ret nL RX11 g A) (hT : Wd g A s L H locs) {q0 : Nat} {v0 v1 v2 v3 v4 v5 v6 v7 v8 v9 v10 v11 v12 v13 v14 v15 v16 v17 v18 v19 v20 v21 v22 v23 v24 v25 v26 v27 v28 v29 v30 v31 : Value} (he : L[q0]? = some (a, .inr (11, [v0, v1, v2, v3, v4, v5, v6, v7, v8, v9, v10, v11, v12, v13, v14, v15, v16, v17, v18, v19, v20, v21, v22, v23, v24, v25, v26, v27, v28, v29, v30, v31]))) (hdg : decode cc pc = .ok (.getfield 110, 3)) (kk : W p l e R s m args below meth c H locs cells slots Q (F0 m (pc + 3) ls (v22 :: rest))) : W p l e R s m args below meth c H locs cells slots Q (F0 m pc ls (.ref a :: rest)) :=
  r_get C hT he rfl inX11 22 (by decide) k799 rfl hdg kk
theorem pX11_110 (C : Cx p s m meth c args cc ret nL RX11 g A) (hT : Wd g A s L H locs) {q0 : Nat} {v0 v1 v2 v3 v4 v5 v6 v7 v8 v9 v10 v11 v12 v13 v14 v15 v16 v17 v18 v19 v20 v21 v22 v23 v24 v25 v26 v27 v28 v29 v30 v31 : Value} (he : L[q0]? = some (a, .inr (11, [v0, v1, v2, v3, v4, v5, v6, v7, v8, v9, v10, v11, v12, v13, v14, v15, v16, v17, v18, v19, v20, v21, v22, v23, v24, v25, v26, v27, v28, v29, v30, v31]))) {x : Int32} (hz : x = 0 ∨ x = 1) (hdg : decode cc pc = .ok (.putfield 110, 3)) (kk : ∀ (H1 : Heap) (locs1 : List Loc), Wd g A s (L.set q0 (a, .inr (11, [v0, v1, v2, v3, v4, v5, v6, v7, v8, v9, v10, v11, v12, v13, v14, v15, v16, v17, v18, v19, v20, v21, .int x, v23, v24, v25, v26, v27, v28, v29, v30, v31]))) H1 locs1 → W p l e R s m args below meth c H1 locs1 cells slots Q (F0 m (pc + 3) ls rest)) : W p l e R s m args below meth c H locs cells slots Q (F0 m pc ls (.int x :: .ref a :: rest)) :=
  r_put C hT he rfl inX11 tyX11 tyX11_ok nmX11 22 (by decide) k799 rfl (ty := .boolean) (by decide +kernel) (by rcases hz with rfl | rfl <;> rfl) (by rcases hz with rfl | rfl <;> rfl) (Nat.le_of_ble_eq_true rfl) hdg kk
theorem gX11_114 (C : Cx p s m meth c args cc ret nL RX11 g A) (hT : Wd g A s L H locs) {q0 : Nat} {v0 v1 v2 v3 v4 v5 v6 v7 v8 v9 v10 v11 v12 v13 v14 v15 v16 v17 v18 v19 v20 v21 v22 v23 v24 v25 v26 v27 v28 v29 v30 v31 : Value} (he : L[q0]? = some (a, .inr (11, [v0, v1, v2, v3, v4, v5, v6, v7, v8, v9, v10, v11, v12, v13, v14, v15, v16, v17, v18, v19, v20, v21, v22, v23, v24, v25, v26, v27, v28, v29, v30, v31]))) (hdg : decode cc pc = .ok (.getfield 114, 3)) (kk : W p l e R s m args below meth c H locs cells slots Q (F0 m (pc + 3) ls (v24 :: rest))) : W p l e R s m args below meth c H locs cells slots Q (F0 m pc ls (.ref a :: rest)) :=
  r_get C hT he rfl inX11 24 (by decide) k801 rfl hdg kk
theorem pX11_114 (C : Cx p s m meth c args cc ret nL RX11 g A) (hT : Wd g A s L H locs) {q0 : Nat} {v0 v1 v2 v3 v4 v5 v6 v7 v8 v9 v10 v11 v12 v13 v14 v15 v16 v17 v18 v19 v20 v21 v22 v23 v24 v25 v26 v27 v28 v29 v30 v31 : Value} (he : L[q0]? = some (a, .inr (11, [v0, v1, v2, v3, v4, v5, v6, v7, v8, v9, v10, v11, v12, v13, v14, v15, v16, v17, v18, v19, v20, v21, v22, v23, v24, v25, v26, v27, v28, v29, v30, v31]))) {x : Int32} (hdg : decode cc pc = .ok (.putfield 114, 3)) (kk : ∀ (H1 : Heap) (locs1 : List Loc), Wd g A s (L.set q0 (a, .inr (11, [v0, v1, v2, v3, v4, v5, v6, v7, v8, v9, v10, v11, v12, v13, v14, v15, v16, v17, v18, v19, v20, v21, v22, v23, .int x, v25, v26, v27, v28, v29, v30, v31]))) H1 locs1 → W p l e R s m args below meth c H1 locs1 cells slots Q (F0 m (pc + 3) ls rest)) : W p l e R s m args below meth c H locs cells slots Q (F0 m pc ls (.int x :: .ref a :: rest)) :=
  r_put C hT he rfl inX11 tyX11 tyX11_ok nmX11 24 (by decide) k801 rfl (ty := .int) (by decide +kernel) rfl rfl (Nat.le_of_ble_eq_true rfl) hdg kk
theorem gX11_148 (C : Cx p s m meth c args cc ret nL RX11 g A) (hT : Wd g A s L H locs) {q0 : Nat} {v0 v1 v2 v3 v4 v5 v6 v7 v8 v9 v10 v11 v12 v13 v14 v15 v16 v17 v18 v19 v20 v21 v22 v23 v24 v25 v26 v27 v28 v29 v30 v31 : Value} (he : L[q0]? = some (a, .inr (11, [v0, v1, v2, v3, v4, v5, v6, v7, v8, v9, v10, v11, v12, v13, v14, v15, v16, v17, v18, v19, v20, v21, v22, v23, v24, v25, v26, v27, v28, v29, v30, v31]))) (hdg : decode cc pc = .ok (.getfield 148, 3)) (kk : W p l e R s m args below meth c H locs cells slots Q (F0 m (pc + 3) ls (v28 :: rest))) : W p l e R s m args below meth c H locs cells slots Q (F0 m pc ls (.ref a :: rest)) :=
  r_get C hT he rfl inX11 28 (by decide) k805 rfl hdg kk
theorem pX11_148 (C : Cx p s m meth c args cc ret nL RX11 g A) (hT : Wd g A s L H locs) {q0 : Nat} {v0 v1 v2 v3 v4 v5 v6 v7 v8 v9 v10 v11 v12 v13 v14 v15 v16 v17 v18 v19 v20 v21 v22 v23 v24 v25 v26 v27 v28 v29 v30 v31 : Value} (he : L[q0]? = some (a, .inr (11, [v0, v1, v2, v3, v4, v5, v6, v7, v8, v9, v10, v11, v12, v13, v14, v15, v16, v17, v18, v19, v20, v21, v22, v23, v24, v25, v26, v27, v28, v29, v30, v31]))) {x : Int32} (hdg : decode cc pc = .ok (.putfield 148, 3)) (kk : ∀ (H1 : Heap) (locs1 : List Loc), Wd g A s (L.set q0 (a, .inr (11, [v0, v1, v2, v3, v4, v5, v6, v7, v8, v9, v10, v11, v12, v13, v14, v15, v16, v17, v18, v19, v20, v21, v22, v23, v24, v25, v26, v27, .int x, v29, v30, v31]))) H1 locs1 → W p l e R s m args below meth c H1 locs1 cells slots Q (F0 m (pc + 3) ls rest)) : W p l e R s m args below meth c H locs cells slots Q (F0 m pc ls (.int x :: .ref a :: rest)) :=
  r_put C hT he rfl inX11 tyX11 tyX11_ok nmX11 28 (by decide) k805 rfl (ty := .int) (by decide +kernel) rfl rfl (Nat.le_of_ble_eq_true rfl) hdg kk
theorem gX11_155 (C : Cx p s m meth c args cc ret nL RX11 g A) (hT : Wd g A s L H locs) {q0 : Nat} {v0 v1 v2 v3 v4 v5 v6 v7 v8 v9 v10 v11 v12 v13 v14 v15 v16 v17 v18 v19 v20 v21 v22 v23 v24 v25 v26 v27 v28 v29 v30 v31 : Value} (he : L[q0]? = some (a, .inr (11, [v0, v1, v2, v3, v4, v5, v6, v7, v8, v9, v10, v11, v12, v13, v14, v15, v16, v17, v18, v19, v20, v21, v22, v23, v24, v25, v26, v27, v28, v29, v30, v31]))) (hdg : decode cc pc = .ok (.getfield 155, 3)) (kk : W p l e R s m args below meth c H locs cells slots Q (F0 m (pc + 3) ls (v26 :: rest))) : W p l e R s m args below meth c H locs cells slots Q (F0 m pc ls (.ref a :: rest)) :=
  r_get C hT he rfl inX11 26 (by decide) k803 rfl hdg kk
theorem pX11_155 (C : Cx p s m meth c args cc ret nL RX11 g A) (hT : Wd g A s L H locs) {q0 : Nat} {v0 v1 v2 v3 v4 v5 v6 v7 v8 v9 v10 v11 v12 v13 v14 v15 v16 v17 v18 v19 v20 v21 v22 v23 v24 v25 v26 v27 v28 v29 v30 v31 : Value} (he : L[q0]? = some (a, .inr (11, [v0, v1, v2, v3, v4, v5, v6, v7, v8, v9, v10, v11, v12, v13, v14, v15, v16, v17, v18, v19, v20, v21, v22, v23, v24, v25, v26, v27, v28, v29, v30, v31]))) {x : Int32} (hdg : decode cc pc = .ok (.putfield 155, 3)) (kk : ∀ (H1 : Heap) (locs1 : List Loc), Wd g A s (L.set q0 (a, .inr (11, [v0, v1, v2, v3, v4, v5, v6, v7, v8, v9, v10, v11, v12, v13, v14, v15, v16, v17, v18, v19, v20, v21, v22, v23, v24, v25, .int x, v27, v28, v29, v30, v31]))) H1 locs1 → W p l e R s m args below meth c H1 locs1 cells slots Q (F0 m (pc + 3) ls rest)) : W p l e R s m args below meth c H locs cells slots Q (F0 m pc ls (.int x :: .ref a :: rest)) :=
  r_put C hT he rfl inX11 tyX11 tyX11_ok nmX11 26 (by decide) k803 rfl (ty := .int) (by decide +kernel) rfl rfl (Nat.le_of_ble_eq_true rfl) hdg kk
theorem gX11_158 (C : Cx p s m meth c args cc ret nL RX11 g A) (hT : Wd g A s L H locs) {q0 : Nat} {v0 v1 v2 v3 v4 v5 v6 v7 v8 v9 v10 v11 v12 v13 v14 v15 v16 v17 v18 v19 v20 v21 v22 v23 v24 v25 v26 v27 v28 v29 v30 v31 : Value} (he : L[q0]? = some (a, .inr (11, [v0, v1, v2, v3, v4, v5, v6, v7, v8, v9, v10, v11, v12, v13, v14, v15, v16, v17, v18, v19, v20, v21, v22, v23, v24, v25, v26, v27, v28, v29, v30, v31]))) (hdg : decode cc pc = .ok (.getfield 158, 3)) (kk : W p l e R s m args below meth c H locs cells slots Q (F0 m (pc + 3) ls (v27 :: rest))) : W p l e R s m args below meth c H locs cells slots Q (F0 m pc ls (.ref a :: rest)) :=
  r_get C hT he rfl inX11 27 (by decide) k804 rfl hdg kk
theorem pX11_158 (C : Cx p s m meth c args cc ret nL RX11 g A) (hT : Wd g A s L H locs) {q0 : Nat} {v0 v1 v2 v3 v4 v5 v6 v7 v8 v9 v10 v11 v12 v13 v14 v15 v16 v17 v18 v19 v20 v21 v22 v23 v24 v25 v26 v27 v28 v29 v30 v31 : Value} (he : L[q0]? = some (a, .inr (11, [v0, v1, v2, v3, v4, v5, v6, v7, v8, v9, v10, v11, v12, v13, v14, v15, v16, v17, v18, v19, v20, v21, v22, v23, v24, v25, v26, v27, v28, v29, v30, v31]))) {x : Int32} (hdg : decode cc pc = .ok (.putfield 158, 3)) (kk : ∀ (H1 : Heap) (locs1 : List Loc), Wd g A s (L.set q0 (a, .inr (11, [v0, v1, v2, v3, v4, v5, v6, v7, v8, v9, v10, v11, v12, v13, v14, v15, v16, v17, v18, v19, v20, v21, v22, v23, v24, v25, v26, .int x, v28, v29, v30, v31]))) H1 locs1 → W p l e R s m args below meth c H1 locs1 cells slots Q (F0 m (pc + 3) ls rest)) : W p l e R s m args below meth c H locs cells slots Q (F0 m pc ls (.int x :: .ref a :: rest)) :=
  r_put C hT he rfl inX11 tyX11 tyX11_ok nmX11 27 (by decide) k804 rfl (ty := .int) (by decide +kernel) rfl rfl (Nat.le_of_ble_eq_true rfl) hdg kk
theorem gX11_161 (C : Cx p s m meth c args cc ret nL RX11 g A) (hT : Wd g A s L H locs) {q0 : Nat} {v0 v1 v2 v3 v4 v5 v6 v7 v8 v9 v10 v11 v12 v13 v14 v15 v16 v17 v18 v19 v20 v21 v22 v23 v24 v25 v26 v27 v28 v29 v30 v31 : Value} (he : L[q0]? = some (a, .inr (11, [v0, v1, v2, v3, v4, v5, v6, v7, v8, v9, v10, v11, v12, v13, v14, v15, v16, v17, v18, v19, v20, v21, v22, v23, v24, v25, v26, v27, v28, v29, v30, v31]))) (hdg : decode cc pc = .ok (.getfield 161, 3)) (kk : W p l e R s m args below meth c H locs cells slots Q (F0 m (pc + 3) ls (v30 :: rest))) : W p l e R s m args below meth c H locs cells slots Q (F0 m pc ls (.ref a :: rest)) :=
  r_get C hT he rfl inX11 30 (by decide) k807 rfl hdg kk
theorem pX11_161 (C : Cx p s m meth c args cc ret nL RX11 g A) (hT : Wd g A s L H locs) {q0 : Nat} {v0 v1 v2 v3 v4 v5 v6 v7 v8 v9 v10 v11 v12 v13 v14 v15 v16 v17 v18 v19 v20 v21 v22 v23 v24 v25 v26 v27 v28 v29 v30 v31 : Value} (he : L[q0]? = some (a, .inr (11, [v0, v1, v2, v3, v4, v5, v6, v7, v8, v9, v10, v11, v12, v13, v14, v15, v16, v17, v18, v19, v20, v21, v22, v23, v24, v25, v26, v27, v28, v29, v30, v31]))) {x : Int32} (hdg : decode cc pc = .ok (.putfield 161, 3)) (kk : ∀ (H1 : Heap) (locs1 : List Loc), Wd g A s (L.set q0 (a, .inr (11, [v0, v1, v2, v3, v4, v5, v6, v7, v8, v9, v10, v11, v12, v13, v14, v15, v16, v17, v18, v19, v20, v21, v22, v23, v24, v25, v26, v27, v28, v29, .int x, v31]))) H1 locs1 → W p l e R s m args below meth c H1 locs1 cells slots Q (F0 m (pc + 3) ls rest)) : W p l e R s m args below meth c H locs cells slots Q (F0 m pc ls (.int x :: .ref a :: rest)) :=
  r_put C hT he rfl inX11 tyX11 tyX11_ok nmX11 30 (by decide) k807 rfl (ty := .int) (by decide +kernel) rfl rfl (Nat.le_of_ble_eq_true rfl) hdg kk
theorem gX11_164 (C : Cx p s m meth c args cc ret nL RX11 g A) (hT : Wd g A s L H locs) {q0 : Nat} {v0 v1 v2 v3 v4 v5 v6 v7 v8 v9 v10 v11 v12 v13 v14 v15 v16 v17 v18 v19 v20 v21 v22 v23 v24 v25 v26 v27 v28 v29 v30 v31 : Value} (he : L[q0]? = some (a, .inr (11, [v0, v1, v2, v3, v4, v5, v6, v7, v8, v9, v10, v11, v12, v13, v14, v15, v16, v17, v18, v19, v20, v21, v22, v23, v24, v25, v26, v27, v28, v29, v30, v31]))) (hdg : decode cc pc = .ok (.getfield 164, 3)) (kk : W p l e R s m args below meth c H locs cells slots Q (F0 m (pc + 3) ls (v29 :: rest))) : W p l e R s m args below meth c H locs cells slots Q (F0 m pc ls (.ref a :: rest)) :=
  r_get C hT he rfl inX11 29 (by decide) k806 rfl hdg kk
theorem pX11_164 (C : Cx p s m meth c args cc ret nL RX11 g A) (hT : Wd g A s L H locs) {q0 : Nat} {v0 v1 v2 v3 v4 v5 v6 v7 v8 v9 v10 v11 v12 v13 v14 v15 v16 v17 v18 v19 v20 v21 v22 v23 v24 v25 v26 v27 v28 v29 v30 v31 : Value} (he : L[q0]? = some (a, .inr (11, [v0, v1, v2, v3, v4, v5, v6, v7, v8, v9, v10, v11, v12, v13, v14, v15, v16, v17, v18, v19, v20, v21, v22, v23, v24, v25, v26, v27, v28, v29, v30, v31]))) {x : Int32} (hdg : decode cc pc = .ok (.putfield 164, 3)) (kk : ∀ (H1 : Heap) (locs1 : List Loc), Wd g A s (L.set q0 (a, .inr (11, [v0, v1, v2, v3, v4, v5, v6, v7, v8, v9, v10, v11, v12, v13, v14, v15, v16, v17, v18, v19, v20, v21, v22, v23, v24, v25, v26, v27, v28, .int x, v30, v31]))) H1 locs1 → W p l e R s m args below meth c H1 locs1 cells slots Q (F0 m (pc + 3) ls rest)) : W p l e R s m args below meth c H locs cells slots Q (F0 m pc ls (.int x :: .ref a :: rest)) :=
  r_put C hT he rfl inX11 tyX11 tyX11_ok nmX11 29 (by decide) k806 rfl (ty := .int) (by decide +kernel) rfl rfl (Nat.le_of_ble_eq_true rfl) hdg kk
theorem gX11_170 (C : Cx p s m meth c args cc ret nL RX11 g A) (hT : Wd g A s L H locs) {q0 : Nat} {v0 v1 v2 v3 v4 v5 v6 v7 v8 v9 v10 v11 v12 v13 v14 v15 v16 v17 v18 v19 v20 v21 v22 v23 v24 v25 v26 v27 v28 v29 v30 v31 : Value} (he : L[q0]? = some (a, .inr (11, [v0, v1, v2, v3, v4, v5, v6, v7, v8, v9, v10, v11, v12, v13, v14, v15, v16, v17, v18, v19, v20, v21, v22, v23, v24, v25, v26, v27, v28, v29, v30, v31]))) (hdg : decode cc pc = .ok (.getfield 170, 3)) (kk : W p l e R s m args below meth c H locs cells slots Q (F0 m (pc + 3) ls (v31 :: rest))) : W p l e R s m args below meth c H locs cells slots Q (F0 m pc ls (.ref a :: rest)) :=
  r_get C hT he rfl inX11 31 (by decide) k808 rfl hdg kk
theorem pX11_170 (C : Cx p s m meth c args cc ret nL RX11 g A) (hT : Wd g A s L H locs) {q0 : Nat} {v0 v1 v2 v3 v4 v5 v6 v7 v8 v9 v10 v11 v12 v13 v14 v15 v16 v17 v18 v19 v20 v21 v22 v23 v24 v25 v26 v27 v28 v29 v30 v31 : Value} (he : L[q0]? = some (a, .inr (11, [v0, v1, v2, v3, v4, v5, v6, v7, v8, v9, v10, v11, v12, v13, v14, v15, v16, v17, v18, v19, v20, v21, v22, v23, v24, v25, v26, v27, v28, v29, v30, v31]))) {x : Int32} (hdg : decode cc pc = .ok (.putfield 170, 3)) (kk : ∀ (H1 : Heap) (locs1 : List Loc), Wd g A s (L.set q0 (a, .inr (11, [v0, v1, v2, v3, v4, v5, v6, v7, v8, v9, v10, v11, v12, v13, v14, v15, v16, v17, v18, v19, v20, v21, v22, v23, v24, v25, v26, v27, v28, v29, v30, .int x]))) H1 locs1 → W p l e R s m args below meth c H1 locs1 cells slots Q (F0 m (pc + 3) ls rest)) : W p l e R s m args below meth c H locs cells slots Q (F0 m pc ls (.int x :: .ref a :: rest)) :=
  r_put C hT he rfl inX11 tyX11 tyX11_ok nmX11 31 (by decide) k808 rfl (ty := .int) (by decide +kernel) rfl rfl (Nat.le_of_ble_eq_true rfl) hdg kk
theorem gX11_201 (C : Cx p s m meth c args cc ret nL RX11 g A) (hT : Wd g A s L H locs) {q0 : Nat} {v0 v1 v2 v3 v4 v5 v6 v7 v8 v9 v10 v11 v12 v13 v14 v15 v16 v17 v18 v19 v20 v21 v22 v23 v24 v25 v26 v27 v28 v29 v30 v31 : Value} (he : L[q0]? = some (a, .inr (11, [v0, v1, v2, v3, v4, v5, v6, v7, v8, v9, v10, v11, v12, v13, v14, v15, v16, v17, v18, v19, v20, v21, v22, v23, v24, v25, v26, v27, v28, v29, v30, v31]))) (hdg : decode cc pc = .ok (.getfield 201, 3)) (kk : W p l e R s m args below meth c H locs cells slots Q (F0 m (pc + 3) ls (v23 :: rest))) : W p l e R s m args below meth c H locs cells slots Q (F0 m pc ls (.ref a :: rest)) :=
  r_get C hT he rfl inX11 23 (by decide) k800 rfl hdg kk
theorem pX11_201 (C : Cx p s m meth c args cc ret nL RX11 g A) (hT : Wd g A s L H locs) {q0 : Nat} {v0 v1 v2 v3 v4 v5 v6 v7 v8 v9 v10 v11 v12 v13 v14 v15 v16 v17 v18 v19 v20 v21 v22 v23 v24 v25 v26 v27 v28 v29 v30 v31 : Value} (he : L[q0]? = some (a, .inr (11, [v0, v1, v2, v3, v4, v5, v6, v7, v8, v9, v10, v11, v12, v13, v14, v15, v16, v17, v18, v19, v20, v21, v22, v23, v24, v25, v26, v27, v28, v29, v30, v31]))) {x : Int64} (hdg : decode cc pc = .ok (.putfield 201, 3)) (kk : ∀ (H1 : Heap) (locs1 : List Loc), Wd g A s (L.set q0 (a, .inr (11, [v0, v1, v2, v3, v4, v5, v6, v7, v8, v9, v10, v11, v12, v13, v14, v15, v16, v17, v18, v19, v20, v21, v22, .long x, v24, v25, v26, v27, v28, v29, v30, v31]))) H1 locs1 → W p l e R s m args below meth c H1 locs1 cells slots Q (F0 m (pc + 3) ls rest)) : W p l e R s m args below meth c H locs cells slots Q (F0 m pc ls (.long x :: .ref a :: rest)) :=
  r_put C hT he rfl inX11 tyX11 tyX11_ok nmX11 23 (by decide) k800 rfl (ty := .long) (by decide +kernel) rfl rfl (Nat.le_of_ble_eq_true rfl) hdg kk
theorem gX2_9 (C : Cx p s m meth c args cc ret nL RX2 g A) (hT : Wd g A s L H locs) {q0 : Nat} {v0 v1 v2 v3 : Value} (he : L[q0]? = some (a, .inr (2, [v0, v1, v2, v3]))) (hdg : decode cc pc = .ok (.getfield 9, 3)) (kk : W p l e R s m args below meth c H locs cells slots Q (F0 m (pc + 3) ls (v0 :: rest))) : W p l e R s m args below meth c H locs cells slots Q (F0 m pc ls (.ref a :: rest)) :=
  r_get C hT he rfl inX2 0 (by decide) k92 rfl hdg kk
theorem pX2_9 (C : Cx p s m meth c args cc ret nL RX2 g A) (hin : meth.name = "<init>") (hT : Wd g A s L H locs) {q0 : Nat} {v0 v1 v2 v3 : Value} (he : L[q0]? = some (a, .inr (2, [v0, v1, v2, v3]))) {x : Nat} (hdg : decode cc pc = .ok (.putfield 9, 3)) (kk : ∀ (H1 : Heap) (locs1 : List Loc), Wd g A s (L.set q0 (a, .inr (2, [.ref x, v1, v2, v3]))) H1 locs1 → W p l e R s m args below meth c H1 locs1 cells slots Q (F0 m (pc + 3) ls rest)) : W p l e R s m args below meth c H locs cells slots Q (F0 m pc ls (.ref x :: .ref a :: rest)) :=
  r_putF C hin hT he rfl inX2 tyX2 tyX2_ok nmX2 0 (by decide) k92 rfl rfl (ty := (.array .int)) (by decide +kernel) rfl rfl (Nat.le_of_ble_eq_true rfl) hdg kk
theorem gX2_15 (C : Cx p s m meth c args cc ret nL RX2 g A) (hT : Wd g A s L H locs) {q0 : Nat} {v0 v1 v2 v3 : Value} (he : L[q0]? = some (a, .inr (2, [v0, v1, v2, v3]))) (hdg : decode cc pc = .ok (.getfield 15, 3)) (kk : W p l e R s m args below meth c H locs cells slots Q (F0 m (pc + 3) ls (v2 :: rest))) : W p l e R s m args below meth c H locs cells slots Q (F0 m pc ls (.ref a :: rest)) :=
  r_get C hT he rfl inX2 2 (by decide) k96 rfl hdg kk
theorem pX2_15 (C : Cx p s m meth c args cc ret nL RX2 g A) (hT : Wd g A s L H locs) {q0 : Nat} {v0 v1 v2 v3 : Value} (he : L[q0]? = some (a, .inr (2, [v0, v1, v2, v3]))) {x : Int32} (hdg : decode cc pc = .ok (.putfield 15, 3)) (kk : ∀ (H1 : Heap) (locs1 : List Loc), Wd g A s (L.set q0 (a, .inr (2, [v0, v1, .int x, v3]))) H1 locs1 → W p l e R s m args below meth c H1 locs1 cells slots Q (F0 m (pc + 3) ls rest)) : W p l e R s m args below meth c H locs cells slots Q (F0 m pc ls (.int x :: .ref a :: rest)) :=
  r_put C hT he rfl inX2 tyX2 tyX2_ok nmX2 2 (by decide) k96 rfl (ty := .int) (by decide +kernel) rfl rfl (Nat.le_of_ble_eq_true rfl) hdg kk
theorem gX2_19 (C : Cx p s m meth c args cc ret nL RX2 g A) (hT : Wd g A s L H locs) {q0 : Nat} {v0 v1 v2 v3 : Value} (he : L[q0]? = some (a, .inr (2, [v0, v1, v2, v3]))) (hdg : decode cc pc = .ok (.getfield 19, 3)) (kk : W p l e R s m args below meth c H locs cells slots Q (F0 m (pc + 3) ls (v1 :: rest))) : W p l e R s m args below meth c H locs cells slots Q (F0 m pc ls (.ref a :: rest)) :=
  r_get C hT he rfl inX2 1 (by decide) k93 rfl hdg kk
theorem pX2_19 (C : Cx p s m meth c args cc ret nL RX2 g A) (hT : Wd g A s L H locs) {q0 : Nat} {v0 v1 v2 v3 : Value} (he : L[q0]? = some (a, .inr (2, [v0, v1, v2, v3]))) {x : Int32} (hdg : decode cc pc = .ok (.putfield 19, 3)) (kk : ∀ (H1 : Heap) (locs1 : List Loc), Wd g A s (L.set q0 (a, .inr (2, [v0, .int x, v2, v3]))) H1 locs1 → W p l e R s m args below meth c H1 locs1 cells slots Q (F0 m (pc + 3) ls rest)) : W p l e R s m args below meth c H locs cells slots Q (F0 m pc ls (.int x :: .ref a :: rest)) :=
  r_put C hT he rfl inX2 tyX2 tyX2_ok nmX2 1 (by decide) k93 rfl (ty := .int) (by decide +kernel) rfl rfl (Nat.le_of_ble_eq_true rfl) hdg kk
theorem gX2_22 (C : Cx p s m meth c args cc ret nL RX2 g A) (hT : Wd g A s L H locs) {q0 : Nat} {v0 v1 v2 v3 : Value} (he : L[q0]? = some (a, .inr (2, [v0, v1, v2, v3]))) (hdg : decode cc pc = .ok (.getfield 22, 3)) (kk : W p l e R s m args below meth c H locs cells slots Q (F0 m (pc + 3) ls (v3 :: rest))) : W p l e R s m args below meth c H locs cells slots Q (F0 m pc ls (.ref a :: rest)) :=
  r_get C hT he rfl inX2 3 (by decide) k99 rfl hdg kk
theorem pX2_22 (C : Cx p s m meth c args cc ret nL RX2 g A) (hT : Wd g A s L H locs) {q0 : Nat} {v0 v1 v2 v3 : Value} (he : L[q0]? = some (a, .inr (2, [v0, v1, v2, v3]))) {x : Int32} (hdg : decode cc pc = .ok (.putfield 22, 3)) (kk : ∀ (H1 : Heap) (locs1 : List Loc), Wd g A s (L.set q0 (a, .inr (2, [v0, v1, v2, .int x]))) H1 locs1 → W p l e R s m args below meth c H1 locs1 cells slots Q (F0 m (pc + 3) ls rest)) : W p l e R s m args below meth c H locs cells slots Q (F0 m pc ls (.int x :: .ref a :: rest)) :=
  r_put C hT he rfl inX2 tyX2 tyX2_ok nmX2 3 (by decide) k99 rfl (ty := .int) (by decide +kernel) rfl rfl (Nat.le_of_ble_eq_true rfl) hdg kk
theorem gX3_9 (C : Cx p s m meth c args cc ret nL RX3 g A) (hT : Wd g A s L H locs) {q0 : Nat} {v0 v1 : Value} (he : L[q0]? = some (a, .inr (3, [v0, v1]))) (hdg : decode cc pc = .ok (.getfield 9, 3)) (kk : W p l e R s m args below meth c H locs cells slots Q (F0 m (pc + 3) ls (v1 :: rest))) : W p l e R s m args below meth c H locs cells slots Q (F0 m pc ls (.ref a :: rest)) :=
  r_get C hT he rfl inX3 1 (by decide) k182 rfl hdg kk
theorem pX3_9 (C : Cx p s m meth c args cc ret nL RX3 g A) (hT : Wd g A s L H locs) {q0 : Nat} {v0 v1 : Value} (he : L[q0]? = some (a, .inr (3, [v0, v1]))) {x : Int32} (hdg : decode cc pc = .ok (.putfield 9, 3)) (kk : ∀ (H1 : Heap) (locs1 : List Loc), Wd g A s (L.set q0 (a, .inr (3, [v0, .int x]))) H1 locs1 → W p l e R s m args below meth c H1 locs1 cells slots Q (F0 m (pc + 3) ls rest)) : W p l e R s m args below meth c H locs cells slots Q (F0 m pc ls (.int x :: .ref a :: rest)) :=
  r_put C hT he rfl inX3 tyX3 tyX3_ok nmX3 1 (by decide) k182 rfl (ty := .int) (by decide +kernel) rfl rfl (Nat.le_of_ble_eq_true rfl) hdg kk
theorem gX3_15 (C : Cx p s m meth c args cc ret nL RX3 g A) (hT : Wd g A s L H locs) {q0 : Nat} {v0 v1 : Value} (he : L[q0]? = some (a, .inr (3, [v0, v1]))) (hdg : decode cc pc = .ok (.getfield 15, 3)) (kk : W p l e R s m args below meth c H locs cells slots Q (F0 m (pc + 3) ls (v0 :: rest))) : W p l e R s m args below meth c H locs cells slots Q (F0 m pc ls (.ref a :: rest)) :=
  r_get C hT he rfl inX3 0 (by decide) k181 rfl hdg kk
theorem pX3_15 (C : Cx p s m meth c args cc ret nL RX3 g A) (hT : Wd g A s L H locs) {q0 : Nat} {v0 v1 : Value} (he : L[q0]? = some (a, .inr (3, [v0, v1]))) {x : Int32} (hdg : decode cc pc = .ok (.putfield 15, 3)) (kk : ∀ (H1 : Heap) (locs1 : List Loc), Wd g A s (L.set q0 (a, .inr (3, [.int x, v1]))) H1 locs1 → W p l e R s m args below meth c H1 locs1 cells slots Q (F0 m (pc + 3) ls rest)) : W p l e R s m args below meth c H locs cells slots Q (F0 m pc ls (.int x :: .ref a :: rest)) :=
  r_put C hT he rfl inX3 tyX3 tyX3_ok nmX3 0 (by decide) k181 rfl (ty := .int) (by decide +kernel) rfl rfl (Nat.le_of_ble_eq_true rfl) hdg kk
theorem gX3_33 (C : Cx p s m meth c args cc ret nL RX3 g A) (hT : Wd g A s L H locs) {q0 : Nat} {v0 v1 v2 v3 : Value} (he : L[q0]? = some (a, .inr (2, [v0, v1, v2, v3]))) (hdg : decode cc pc = .ok (.getfield 33, 3)) (kk : W p l e R s m args below meth c H locs cells slots Q (F0 m (pc + 3) ls (v1 :: rest))) : W p l e R s m args below meth c H locs cells slots Q (F0 m pc ls (.ref a :: rest)) :=
  r_getN (host := "ContextMix") C hT he rfl inX2 1 (by decide) (List.mem_of_getElem? (i := 5) rfl) rfl hdg kk
theorem gX3_43 (C : Cx p s m meth c args cc ret nL RX3 g A) (hT : Wd g A s L H locs) {q0 : Nat} {v0 v1 v2 v3 : Value} (he : L[q0]? = some (a, .inr (2, [v0, v1, v2, v3]))) (hdg : decode cc pc = .ok (.getfield 43, 3)) (kk : W p l e R s m args below meth c H locs cells slots Q (F0 m (pc + 3) ls (v3 :: rest))) : W p l e R s m args below meth c H locs cells slots Q (F0 m pc ls (.ref a :: rest)) :=
  r_getN (host := "ContextMix") C hT he rfl inX2 3 (by decide) (List.mem_of_getElem? (i := 9) rfl) rfl hdg kk
theorem gX3_46 (C : Cx p s m meth c args cc ret nL RX3 g A) (hT : Wd g A s L H locs) {q0 : Nat} {v0 v1 v2 v3 : Value} (he : L[q0]? = some (a, .inr (2, [v0, v1, v2, v3]))) (hdg : decode cc pc = .ok (.getfield 46, 3)) (kk : W p l e R s m args below meth c H locs cells slots Q (F0 m (pc + 3) ls (v2 :: rest))) : W p l e R s m args below meth c H locs cells slots Q (F0 m pc ls (.ref a :: rest)) :=
  r_getN (host := "ContextMix") C hT he rfl inX2 2 (by decide) (List.mem_of_getElem? (i := 7) rfl) rfl hdg kk
theorem gX4_11 (C : Cx p s m meth c args cc ret nL RX4 g A) (hT : Wd g A s L H locs) {q0 : Nat} {v0 v1 v2 : Value} (he : L[q0]? = some (a, .inr (4, [v0, v1, v2]))) (hdg : decode cc pc = .ok (.getfield 11, 3)) (kk : W p l e R s m args below meth c H locs cells slots Q (F0 m (pc + 3) ls (v0 :: rest))) : W p l e R s m args below meth c H locs cells slots Q (F0 m pc ls (.ref a :: rest)) :=
  r_get C hT he rfl inX4 0 (by decide) k123 rfl hdg kk
theorem pX4_11 (C : Cx p s m meth c args cc ret nL RX4 g A) (hin : meth.name = "<init>") (hT : Wd g A s L H locs) {q0 : Nat} {v0 v1 v2 : Value} (he : L[q0]? = some (a, .inr (4, [v0, v1, v2]))) {x : Nat} (hdg : decode cc pc = .ok (.putfield 11, 3)) (kk : ∀ (H1 : Heap) (locs1 : List Loc), Wd g A s (L.set q0 (a, .inr (4, [.ref x, v1, v2]))) H1 locs1 → W p l e R s m args below meth c H1 locs1 cells slots Q (F0 m (pc + 3) ls rest)) : W p l e R s m args below meth c H locs cells slots Q (F0 m pc ls (.ref x :: .ref a :: rest)) :=
  r_putF C hin hT he rfl inX4 tyX4 tyX4_ok nmX4 0 (by decide) k123 rfl rfl (ty := (.array .int)) (by decide +kernel) rfl rfl (Nat.le_of_ble_eq_true rfl) hdg kk
theorem gX4_30 (C : Cx p s m meth c args cc ret nL RX4 g A) (hT : Wd g A s L H locs) {q0 : Nat} {v0 v1 v2 : Value} (he : L[q0]? = some (a, .inr (4, [v0, v1, v2]))) (hdg : decode cc pc = .ok (.getfield 30, 3)) (kk : W p l e R s m args below meth c H locs cells slots Q (F0 m (pc + 3) ls (v1 :: rest))) : W p l e R s m args below meth c H locs cells slots Q (F0 m pc ls (.ref a :: rest)) :=
  r_get C hT he rfl inX4 1 (by decide) k125 rfl hdg kk
theorem pX4_30 (C : Cx p s m meth c args cc ret nL RX4 g A) (hT : Wd g A s L H locs) {q0 : Nat} {v0 v1 v2 : Value} (he : L[q0]? = some (a, .inr (4, [v0, v1, v2]))) {x : Int32} (hdg : decode cc pc = .ok (.putfield 30, 3)) (kk : ∀ (H1 : Heap) (locs1 : List Loc), Wd g A s (L.set q0 (a, .inr (4, [v0, .int x, v2]))) H1 locs1 → W p l e R s m args below meth c H1 locs1 cells slots Q (F0 m (pc + 3) ls rest)) : W p l e R s m args below meth c H locs cells slots Q (F0 m pc ls (.int x :: .ref a :: rest)) :=
  r_put C hT he rfl inX4 tyX4 tyX4_ok nmX4 1 (by decide) k125 rfl (ty := .int) (by decide +kernel) rfl rfl (Nat.le_of_ble_eq_true rfl) hdg kk
theorem gX4_51 (C : Cx p s m meth c args cc ret nL RX4 g A) (hT : Wd g A s L H locs) {q0 : Nat} {v0 v1 v2 : Value} (he : L[q0]? = some (a, .inr (4, [v0, v1, v2]))) (hdg : decode cc pc = .ok (.getfield 51, 3)) (kk : W p l e R s m args below meth c H locs cells slots Q (F0 m (pc + 3) ls (v2 :: rest))) : W p l e R s m args below meth c H locs cells slots Q (F0 m pc ls (.ref a :: rest)) :=
  r_get C hT he rfl inX4 2 (by decide) k126 rfl hdg kk
theorem pX4_51 (C : Cx p s m meth c args cc ret nL RX4 g A) (hT : Wd g A s L H locs) {q0 : Nat} {v0 v1 v2 : Value} (he : L[q0]? = some (a, .inr (4, [v0, v1, v2]))) {x : Int32} (hdg : decode cc pc = .ok (.putfield 51, 3)) (kk : ∀ (H1 : Heap) (locs1 : List Loc), Wd g A s (L.set q0 (a, .inr (4, [v0, v1, .int x]))) H1 locs1 → W p l e R s m args below meth c H1 locs1 cells slots Q (F0 m (pc + 3) ls rest)) : W p l e R s m args below meth c H locs cells slots Q (F0 m pc ls (.int x :: .ref a :: rest)) :=
  r_put C hT he rfl inX4 tyX4 tyX4_ok nmX4 2 (by decide) k126 rfl (ty := .int) (by decide +kernel) rfl rfl (Nat.le_of_ble_eq_true rfl) hdg kk
theorem gX5_7 (C : Cx p s m meth c args cc ret nL RX5 g A) (hT : Wd g A s L H locs) {q0 : Nat} {v0 : Value} (he : L[q0]? = some (a, .inr (5, [v0]))) (hdg : decode cc pc = .ok (.getfield 7, 3)) (kk : W p l e R s m args below meth c H locs cells slots Q (F0 m (pc + 3) ls (v0 :: rest))) : W p l e R s m args below meth c H locs cells slots Q (F0 m pc ls (.ref a :: rest)) :=
  r_get C hT he rfl inX5 0 (by decide) k50 rfl hdg kk
theorem pX5_7 (C : Cx p s m meth c args cc ret nL RX5 g A) (hin : meth.name = "<init>") (hT : Wd g A s L H locs) {q0 : Nat} {v0 : Value} (he : L[q0]? = some (a, .inr (5, [v0]))) {x : Nat} (hdg : decode cc pc = .ok (.putfield 7, 3)) (kk : ∀ (H1 : Heap) (locs1 : List Loc), Wd g A s (L.set q0 (a, .inr (5, [.ref x]))) H1 locs1 → W p l e R s m args below meth c H1 locs1 cells slots Q (F0 m (pc + 3) ls rest)) : W p l e R s m args below meth c H locs cells slots Q (F0 m pc ls (.ref x :: .ref a :: rest)) :=
  r_putF C hin hT he rfl inX5 tyX5 tyX5_ok nmX5 0 (by decide) k50 rfl rfl (ty := (.array .int)) (by decide +kernel) rfl rfl (Nat.le_of_ble_eq_true rfl) hdg kk
theorem gX6_13 (C : Cx p s m meth c args cc ret nL RX6 g A) (hT : Wd g A s L H locs) {q0 : Nat} {v0 v1 : Value} (he : L[q0]? = some (a, .inr (6, [v0, v1]))) (hdg : decode cc pc = .ok (.getfield 13, 3)) (kk : W p l e R s m args below meth c H locs cells slots Q (F0 m (pc + 3) ls (v0 :: rest))) : W p l e R s m args below meth c H locs cells slots Q (F0 m pc ls (.ref a :: rest)) :=
  r_get C hT he rfl inX6 0 (by decide) k231 rfl hdg kk
theorem pX6_13 (C : Cx p s m meth c args cc ret nL RX6 g A) (hin : meth.name = "<init>") (hT : Wd g A s L H locs) {q0 : Nat} {v0 v1 : Value} (he : L[q0]? = some (a, .inr (6, [v0, v1]))) {x : Nat} (hdg : decode cc pc = .ok (.putfield 13, 3)) (kk : ∀ (H1 : Heap) (locs1 : List Loc), Wd g A s (L.set q0 (a, .inr (6, [.ref x, v1]))) H1 locs1 → W p l e R s m args below meth c H1 locs1 cells slots Q (F0 m (pc + 3) ls rest)) : W p l e R s m args below meth c H locs cells slots Q (F0 m pc ls (.ref x :: .ref a :: rest)) :=
  r_putF C hin hT he rfl inX6 tyX6 tyX6_ok nmX6 0 (by decide) k231 rfl rfl (ty := (.array .int)) (by decide +kernel) rfl rfl (Nat.le_of_ble_eq_true rfl) hdg kk
theorem gX6_17 (C : Cx p s m meth c args cc ret nL RX6 g A) (hT : Wd g A s L H locs) {q0 : Nat} {v0 v1 : Value} (he : L[q0]? = some (a, .inr (6, [v0, v1]))) (hdg : decode cc pc = .ok (.getfield 17, 3)) (kk : W p l e R s m args below meth c H locs cells slots Q (F0 m (pc + 3) ls (v1 :: rest))) : W p l e R s m args below meth c H locs cells slots Q (F0 m pc ls (.ref a :: rest)) :=
  r_get C hT he rfl inX6 1 (by decide) k232 rfl hdg kk
theorem pX6_17 (C : Cx p s m meth c args cc ret nL RX6 g A) (hT : Wd g A s L H locs) {q0 : Nat} {v0 v1 : Value} (he : L[q0]? = some (a, .inr (6, [v0, v1]))) {x : Int32} (hdg : decode cc pc = .ok (.putfield 17, 3)) (kk : ∀ (H1 : Heap) (locs1 : List Loc), Wd g A s (L.set q0 (a, .inr (6, [v0, .int x]))) H1 locs1 → W p l e R s m args below meth c H1 locs1 cells slots Q (F0 m (pc + 3) ls rest)) : W p l e R s m args below meth c H locs cells slots Q (F0 m pc ls (.int x :: .ref a :: rest)) :=
  r_put C hT he rfl inX6 tyX6 tyX6_ok nmX6 1 (by decide) k232 rfl (ty := .int) (by decide +kernel) rfl rfl (Nat.le_of_ble_eq_true rfl) hdg kk
theorem gX7_9 (C : Cx p s m meth c args cc ret nL RX7 g A) (hT : Wd g A s L H locs) {q0 : Nat} {v0 v1 v2 v3 : Value} (he : L[q0]? = some (a, .inr (7, [v0, v1, v2, v3]))) (hdg : decode cc pc = .ok (.getfield 9, 3)) (kk : W p l e R s m args below meth c H locs cells slots Q (F0 m (pc + 3) ls (v0 :: rest))) : W p l e R s m args below meth c H locs cells slots Q (F0 m pc ls (.ref a :: rest)) :=
  r_get C hT he rfl inX7 0 (by decide) k61 rfl hdg kk
theorem pX7_9 (C : Cx p s m meth c args cc ret nL RX7 g A) (hin : meth.name = "<init>") (hT : Wd g A s L H locs) {q0 : Nat} {v0 v1 v2 v3 : Value} (he : L[q0]? = some (a, .inr (7, [v0, v1, v2, v3]))) {x : Nat} (hdg : decode cc pc = .ok (.putfield 9, 3)) (kk : ∀ (H1 : Heap) (locs1 : List Loc), Wd g A s (L.set q0 (a, .inr (7, [.ref x, v1, v2, v3]))) H1 locs1 → W p l e R s m args below meth c H1 locs1 cells slots Q (F0 m (pc + 3) ls rest)) : W p l e R s m args below meth c H locs cells slots Q (F0 m pc ls (.ref x :: .ref a :: rest)) :=
  r_putF C hin hT he rfl inX7 tyX7 tyX7_ok nmX7 0 (by decide) k61 rfl rfl (ty := (.array .int)) (by decide +kernel) rfl rfl (Nat.le_of_ble_eq_true rfl) hdg kk
theorem gX7_15 (C : Cx p s m meth c args cc ret nL RX7 g A) (hT : Wd g A s L H locs) {q0 : Nat} {v0 v1 v2 v3 : Value} (he : L[q0]? = some (a, .inr (7, [v0, v1, v2, v3]))) (hdg : decode cc pc = .ok (.getfield 15, 3)) (kk : W p l e R s m args below meth c H locs cells slots Q (F0 m (pc + 3) ls (v1 :: rest))) : W p l e R s m args below meth c H locs cells slots Q (F0 m pc ls (.ref a :: rest)) :=
  r_get C hT he rfl inX7 1 (by decide) k63 rfl hdg kk
theorem pX7_15 (C : Cx p s m meth c args cc ret nL RX7 g A) (hin : meth.name = "<init>") (hT : Wd g A s L H locs) {q0 : Nat} {v0 v1 v2 v3 : Value} (he : L[q0]? = some (a, .inr (7, [v0, v1, v2, v3]))) {x : Nat} (hdg : decode cc pc = .ok (.putfield 15, 3)) (kk : ∀ (H1 : Heap) (locs1 : List Loc), Wd g A s (L.set q0 (a, .inr (7, [v0, .ref x, v2, v3]))) H1 locs1 → W p l e R s m args below meth c H1 locs1 cells slots Q (F0 m (pc + 3) ls rest)) : W p l e R s m args below meth c H locs cells slots Q (F0 m pc ls (.ref x :: .ref a :: rest)) :=
  r_putF C hin hT he rfl inX7 tyX7 tyX7_ok nmX7 1 (by decide) k63 rfl rfl (ty := (.array .int)) (by decide +kernel) rfl rfl (Nat.le_of_ble_eq_true rfl) hdg kk
theorem gX7_18 (C : Cx p s m meth c args cc ret nL RX7 g A) (hT : Wd g A s L H locs) {q0 : Nat} {v0 v1 v2 v3 : Value} (he : L[q0]? = some (a, .inr (7, [v0, v1, v2, v3]))) (hdg : decode cc pc = .ok (.getfield 18, 3)) (kk : W p l e R s m args below meth c H locs cells slots Q (F0 m (pc + 3) ls (v2 :: rest))) : W p l e R s m args below meth c H locs cells slots Q (F0 m pc ls (.ref a :: rest)) :=
  r_get C hT he rfl inX7 2 (by decide) k65 rfl hdg kk
theorem pX7_18 (C : Cx p s m meth c args cc ret nL RX7 g A) (hin : meth.name = "<init>") (hT : Wd g A s L H locs) {q0 : Nat} {v0 v1 v2 v3 : Value} (he : L[q0]? = some (a, .inr (7, [v0, v1, v2, v3]))) {x : Nat} (hdg : decode cc pc = .ok (.putfield 18, 3)) (kk : ∀ (H1 : Heap) (locs1 : List Loc), Wd g A s (L.set q0 (a, .inr (7, [v0, v1, .ref x, v3]))) H1 locs1 → W p l e R s m args below meth c H1 locs1 cells slots Q (F0 m (pc + 3) ls rest)) : W p l e R s m args below meth c H locs cells slots Q (F0 m pc ls (.ref x :: .ref a :: rest)) :=
  r_putF C hin hT he rfl inX7 tyX7 tyX7_ok nmX7 2 (by decide) k65 rfl rfl (ty := (.array .boolean)) (by decide +kernel) rfl rfl (Nat.le_of_ble_eq_true rfl) hdg kk
theorem gX7_22 (C : Cx p s m meth c args cc ret nL RX7 g A) (hT : Wd g A s L H locs) {q0 : Nat} {v0 v1 v2 v3 : Value} (he : L[q0]? = some (a, .inr (7, [v0, v1, v2, v3]))) (hdg : decode cc pc = .ok (.getfield 22, 3)) (kk : W p l e R s m args below meth c H locs cells slots Q (F0 m (pc + 3) ls (v3 :: rest))) : W p l e R s m args below meth c H locs cells slots Q (F0 m pc ls (.ref a :: rest)) :=
  r_get C hT he rfl inX7 3 (by decide) k67 rfl hdg kk
theorem pX7_22 (C : Cx p s m meth c args cc ret nL RX7 g A) (hT : Wd g A s L H locs) {q0 : Nat} {v0 v1 v2 v3 : Value} (he : L[q0]? = some (a, .inr (7, [v0, v1, v2, v3]))) {x : Int32} (hdg : decode cc pc = .ok (.putfield 22, 3)) (kk : ∀ (H1 : Heap) (locs1 : List Loc), Wd g A s (L.set q0 (a, .inr (7, [v0, v1, v2, .int x]))) H1 locs1 → W p l e R s m args below meth c H1 locs1 cells slots Q (F0 m (pc + 3) ls rest)) : W p l e R s m args below meth c H locs cells slots Q (F0 m pc ls (.int x :: .ref a :: rest)) :=
  r_put C hT he rfl inX7 tyX7 tyX7_ok nmX7 3 (by decide) k67 rfl (ty := .int) (by decide +kernel) rfl rfl (Nat.le_of_ble_eq_true rfl) hdg kk
theorem gX8_12 (C : Cx p s m meth c args cc ret nL RX8 g A) (hT : Wd g A s L H locs) {q0 : Nat} {v0 v1 v2 v3 v4 v5 v6 v7 v8 v9 : Value} (he : L[q0]? = some (a, .inr (8, [v0, v1, v2, v3, v4, v5, v6, v7, v8, v9]))) (hdg : decode cc pc = .ok (.getfield 12, 3)) (kk : W p l e R s m args below meth c H locs cells slots Q (F0 m (pc + 3) ls (v2 :: rest))) : W p l e R s m args below meth c H locs cells slots Q (F0 m pc ls (.ref a :: rest)) :=
  r_get C hT he rfl inX8 2 (by decide) k191 rfl hdg kk
theorem pX8_12 (C : Cx p s m meth c args cc ret nL RX8 g A) (hin : meth.name = "<init>") (hT : Wd g A s L H locs) {q0 : Nat} {v0 v1 v2 v3 v4 v5 v6 v7 v8 v9 : Value} (he : L[q0]? = some (a, .inr (8, [v0, v1, v2, v3, v4, v5, v6, v7, v8, v9]))) {x : Nat} (hdg : decode cc pc = .ok (.putfield 12, 3)) (kk : ∀ (H1 : Heap) (locs1 : List Loc), Wd g A s (L.set q0 (a, .inr (8, [v0, v1, .ref x, v3, v4, v5, v6, v7, v8, v9]))) H1 locs1 → W p l e R s m args below meth c H1 locs1 cells slots Q (F0 m (pc + 3) ls rest)) : W p l e R s m args below meth c H locs cells slots Q (F0 m pc ls (.ref x :: .ref a :: rest)) :=
  r_putF C hin hT he rfl inX8 tyX8 tyX8_ok nmX8 2 (by decide) k191 rfl rfl (ty := (.object "ContextMix$History")) (by decide +kernel) rfl rfl (Nat.le_of_ble_eq_true rfl) hdg kk
theorem gX8_21 (C : Cx p s m meth c args cc ret nL RX8 g A) (hT : Wd g A s L H locs) {q0 : Nat} {v0 v1 v2 v3 v4 v5 v6 v7 v8 v9 : Value} (he : L[q0]? = some (a, .inr (8, [v0, v1, v2, v3, v4, v5, v6, v7, v8, v9]))) (hdg : decode cc pc = .ok (.getfield 21, 3)) (kk : W p l e R s m args below meth c H locs cells slots Q (F0 m (pc + 3) ls (v4 :: rest))) : W p l e R s m args below meth c H locs cells slots Q (F0 m pc ls (.ref a :: rest)) :=
  r_get C hT he rfl inX8 4 (by decide) k195 rfl hdg kk
theorem pX8_21 (C : Cx p s m meth c args cc ret nL RX8 g A) (hin : meth.name = "<init>") (hT : Wd g A s L H locs) {q0 : Nat} {v0 v1 v2 v3 v4 v5 v6 v7 v8 v9 : Value} (he : L[q0]? = some (a, .inr (8, [v0, v1, v2, v3, v4, v5, v6, v7, v8, v9]))) {x : Nat} (hdg : decode cc pc = .ok (.putfield 21, 3)) (kk : ∀ (H1 : Heap) (locs1 : List Loc), Wd g A s (L.set q0 (a, .inr (8, [v0, v1, v2, v3, .ref x, v5, v6, v7, v8, v9]))) H1 locs1 → W p l e R s m args below meth c H1 locs1 cells slots Q (F0 m (pc + 3) ls rest)) : W p l e R s m args below meth c H locs cells slots Q (F0 m pc ls (.ref x :: .ref a :: rest)) :=
  r_putF C hin hT he rfl inX8 tyX8 tyX8_ok nmX8 4 (by decide) k195 rfl rfl (ty := (.object "ContextMix$Mixer")) (by decide +kernel) rfl rfl (Nat.le_of_ble_eq_true rfl) hdg kk
theorem gX8_25 (C : Cx p s m meth c args cc ret nL RX8 g A) (hT : Wd g A s L H locs) {q0 : Nat} {v0 v1 v2 v3 v4 v5 v6 v7 v8 v9 : Value} (he : L[q0]? = some (a, .inr (8, [v0, v1, v2, v3, v4, v5, v6, v7, v8, v9]))) (hdg : decode cc pc = .ok (.getfield 25, 3)) (kk : W p l e R s m args below meth c H locs cells slots Q (F0 m (pc + 3) ls (v5 :: rest))) : W p l e R s m args below meth c H locs cells slots Q (F0 m pc ls (.ref a :: rest)) :=
  r_get C hT he rfl inX8 5 (by decide) k197 rfl hdg kk
theorem pX8_25 (C : Cx p s m meth c args cc ret nL RX8 g A) (hin : meth.name = "<init>") (hT : Wd g A s L H locs) {q0 : Nat} {v0 v1 v2 v3 v4 v5 v6 v7 v8 v9 : Value} (he : L[q0]? = some (a, .inr (8, [v0, v1, v2, v3, v4, v5, v6, v7, v8, v9]))) {x : Nat} (hdg : decode cc pc = .ok (.putfield 25, 3)) (kk : ∀ (H1 : Heap) (locs1 : List Loc), Wd g A s (L.set q0 (a, .inr (8, [v0, v1, v2, v3, v4, .ref x, v6, v7, v8, v9]))) H1 locs1 → W p l e R s m args below meth c H1 locs1 cells slots Q (F0 m (pc + 3) ls rest)) : W p l e R s m args below meth c H locs cells slots Q (F0 m pc ls (.ref x :: .ref a :: rest)) :=
  r_putF C hin hT he rfl inX8 tyX8 tyX8_ok nmX8 5 (by decide) k197 rfl rfl (ty := (.object "ContextMix$Mixer")) (by decide +kernel) rfl rfl (Nat.le_of_ble_eq_true rfl) hdg kk
theorem gX8_31 (C : Cx p s m meth c args cc ret nL RX8 g A) (hT : Wd g A s L H locs) {q0 : Nat} {v0 v1 v2 v3 v4 v5 v6 v7 v8 v9 : Value} (he : L[q0]? = some (a, .inr (8, [v0, v1, v2, v3, v4, v5, v6, v7, v8, v9]))) (hdg : decode cc pc = .ok (.getfield 31, 3)) (kk : W p l e R s m args below meth c H locs cells slots Q (F0 m (pc + 3) ls (v6 :: rest))) : W p l e R s m args below meth c H locs cells slots Q (F0 m pc ls (.ref a :: rest)) :=
  r_get C hT he rfl inX8 6 (by decide) k199 rfl hdg kk
theorem pX8_31 (C : Cx p s m meth c args cc ret nL RX8 g A) (hin : meth.name = "<init>") (hT : Wd g A s L H locs) {q0 : Nat} {v0 v1 v2 v3 v4 v5 v6 v7 v8 v9 : Value} (he : L[q0]? = some (a, .inr (8, [v0, v1, v2, v3, v4, v5, v6, v7, v8, v9]))) {x : Nat} (hdg : decode cc pc = .ok (.putfield 31, 3)) (kk : ∀ (H1 : Heap) (locs1 : List Loc), Wd g A s (L.set q0 (a, .inr (8, [v0, v1, v2, v3, v4, v5, .ref x, v7, v8, v9]))) H1 locs1 → W p l e R s m args below meth c H1 locs1 cells slots Q (F0 m (pc + 3) ls rest)) : W p l e R s m args below meth c H locs cells slots Q (F0 m pc ls (.ref x :: .ref a :: rest)) :=
  r_putF C hin hT he rfl inX8 tyX8 tyX8_ok nmX8 6 (by decide) k199 rfl rfl (ty := (.object "ContextMix$Corrections")) (by decide +kernel) rfl rfl (Nat.le_of_ble_eq_true rfl) hdg kk
theorem gX8_37 (C : Cx p s m meth c args cc ret nL RX8 g A) (hT : Wd g A s L H locs) {q0 : Nat} {v0 v1 v2 v3 v4 v5 v6 v7 v8 v9 : Value} (he : L[q0]? = some (a, .inr (8, [v0, v1, v2, v3, v4, v5, v6, v7, v8, v9]))) (hdg : decode cc pc = .ok (.getfield 37, 3)) (kk : W p l e R s m args below meth c H locs cells slots Q (F0 m (pc + 3) ls (v7 :: rest))) : W p l e R s m args below meth c H locs cells slots Q (F0 m pc ls (.ref a :: rest)) :=
  r_get C hT he rfl inX8 7 (by decide) k201 rfl hdg kk
theorem pX8_37 (C : Cx p s m meth c args cc ret nL RX8 g A) (hin : meth.name = "<init>") (hT : Wd g A s L H locs) {q0 : Nat} {v0 v1 v2 v3 v4 v5 v6 v7 v8 v9 : Value} (he : L[q0]? = some (a, .inr (8, [v0, v1, v2, v3, v4, v5, v6, v7, v8, v9]))) {x : Nat} (hdg : decode cc pc = .ok (.putfield 37, 3)) (kk : ∀ (H1 : Heap) (locs1 : List Loc), Wd g A s (L.set q0 (a, .inr (8, [v0, v1, v2, v3, v4, v5, v6, .ref x, v8, v9]))) H1 locs1 → W p l e R s m args below meth c H1 locs1 cells slots Q (F0 m (pc + 3) ls rest)) : W p l e R s m args below meth c H locs cells slots Q (F0 m pc ls (.ref x :: .ref a :: rest)) :=
  r_putF C hin hT he rfl inX8 tyX8 tyX8_ok nmX8 7 (by decide) k201 rfl rfl (ty := (.array (.object "ContextMix$Match"))) (by decide +kernel) rfl rfl (Nat.le_of_ble_eq_true rfl) hdg kk
theorem gX8_41 (C : Cx p s m meth c args cc ret nL RX8 g A) (hT : Wd g A s L H locs) {q0 : Nat} {v0 v1 v2 v3 v4 v5 v6 v7 v8 v9 : Value} (he : L[q0]? = some (a, .inr (8, [v0, v1, v2, v3, v4, v5, v6, v7, v8, v9]))) (hdg : decode cc pc = .ok (.getfield 41, 3)) (kk : W p l e R s m args below meth c H locs cells slots Q (F0 m (pc + 3) ls (v8 :: rest))) : W p l e R s m args below meth c H locs cells slots Q (F0 m pc ls (.ref a :: rest)) :=
  r_get C hT he rfl inX8 8 (by decide) k202 rfl hdg kk
theorem pX8_41 (C : Cx p s m meth c args cc ret nL RX8 g A) (hin : meth.name = "<init>") (hT : Wd g A s L H locs) {q0 : Nat} {v0 v1 v2 v3 v4 v5 v6 v7 v8 v9 : Value} (he : L[q0]? = some (a, .inr (8, [v0, v1, v2, v3, v4, v5, v6, v7, v8, v9]))) {x : Nat} (hdg : decode cc pc = .ok (.putfield 41, 3)) (kk : ∀ (H1 : Heap) (locs1 : List Loc), Wd g A s (L.set q0 (a, .inr (8, [v0, v1, v2, v3, v4, v5, v6, v7, .ref x, v9]))) H1 locs1 → W p l e R s m args below meth c H1 locs1 cells slots Q (F0 m (pc + 3) ls rest)) : W p l e R s m args below meth c H locs cells slots Q (F0 m pc ls (.ref x :: .ref a :: rest)) :=
  r_putF C hin hT he rfl inX8 tyX8 tyX8_ok nmX8 8 (by decide) k202 rfl rfl (ty := (.array .int)) (by decide +kernel) rfl rfl (Nat.le_of_ble_eq_true rfl) hdg kk
theorem gX8_45 (C : Cx p s m meth c args cc ret nL RX8 g A) (hT : Wd g A s L H locs) {q0 : Nat} {v0 v1 v2 v3 v4 v5 v6 v7 v8 v9 : Value} (he : L[q0]? = some (a, .inr (8, [v0, v1, v2, v3, v4, v5, v6, v7, v8, v9]))) (hdg : decode cc pc = .ok (.getfield 45, 3)) (kk : W p l e R s m args below meth c H locs cells slots Q (F0 m (pc + 3) ls (v9 :: rest))) : W p l e R s m args below meth c H locs cells slots Q (F0 m pc ls (.ref a :: rest)) :=
  r_get C hT he rfl inX8 9 (by decide) k203 rfl hdg kk
theorem pX8_45 (C : Cx p s m meth c args cc ret nL RX8 g A) (hin : meth.name = "<init>") (hT : Wd g A s L H locs) {q0 : Nat} {v0 v1 v2 v3 v4 v5 v6 v7 v8 v9 : Value} (he : L[q0]? = some (a, .inr (8, [v0, v1, v2, v3, v4, v5, v6, v7, v8, v9]))) {x : Nat} (hdg : decode cc pc = .ok (.putfield 45, 3)) (kk : ∀ (H1 : Heap) (locs1 : List Loc), Wd g A s (L.set q0 (a, .inr (8, [v0, v1, v2, v3, v4, v5, v6, v7, v8, .ref x]))) H1 locs1 → W p l e R s m args below meth c H1 locs1 cells slots Q (F0 m (pc + 3) ls rest)) : W p l e R s m args below meth c H locs cells slots Q (F0 m pc ls (.ref x :: .ref a :: rest)) :=
  r_putF C hin hT he rfl inX8 tyX8 tyX8_ok nmX8 9 (by decide) k203 rfl rfl (ty := (.array .int)) (by decide +kernel) rfl rfl (Nat.le_of_ble_eq_true rfl) hdg kk
theorem gX8_48 (C : Cx p s m meth c args cc ret nL RX8 g A) (hT : Wd g A s L H locs) {q0 : Nat} {v0 v1 v2 v3 v4 v5 v6 v7 v8 v9 : Value} (he : L[q0]? = some (a, .inr (8, [v0, v1, v2, v3, v4, v5, v6, v7, v8, v9]))) (hdg : decode cc pc = .ok (.getfield 48, 3)) (kk : W p l e R s m args below meth c H locs cells slots Q (F0 m (pc + 3) ls (v0 :: rest))) : W p l e R s m args below meth c H locs cells slots Q (F0 m pc ls (.ref a :: rest)) :=
  r_get C hT he rfl inX8 0 (by decide) k189 rfl hdg kk
theorem pX8_48 (C : Cx p s m meth c args cc ret nL RX8 g A) (hin : meth.name = "<init>") (hT : Wd g A s L H locs) {q0 : Nat} {v0 v1 v2 v3 v4 v5 v6 v7 v8 v9 : Value} (he : L[q0]? = some (a, .inr (8, [v0, v1, v2, v3, v4, v5, v6, v7, v8, v9]))) {x : Nat} (hdg : decode cc pc = .ok (.putfield 48, 3)) (kk : ∀ (H1 : Heap) (locs1 : List Loc), Wd g A s (L.set q0 (a, .inr (8, [.ref x, v1, v2, v3, v4, v5, v6, v7, v8, v9]))) H1 locs1 → W p l e R s m args below meth c H1 locs1 cells slots Q (F0 m (pc + 3) ls rest)) : W p l e R s m args below meth c H locs cells slots Q (F0 m pc ls (.ref x :: .ref a :: rest)) :=
  r_putF C hin hT he rfl inX8 tyX8 tyX8_ok nmX8 0 (by decide) k189 rfl rfl (ty := (.object "ContextMix$Predictors")) (by decide +kernel) rfl rfl (Nat.le_of_ble_eq_true rfl) hdg kk
theorem gX8_52 (C : Cx p s m meth c args cc ret nL RX8 g A) (hT : Wd g A s L H locs) {q0 : Nat} {v0 v1 v2 v3 v4 v5 v6 v7 v8 v9 : Value} (he : L[q0]? = some (a, .inr (8, [v0, v1, v2, v3, v4, v5, v6, v7, v8, v9]))) (hdg : decode cc pc = .ok (.getfield 52, 3)) (kk : W p l e R s m args below meth c H locs cells slots Q (F0 m (pc + 3) ls (v1 :: rest))) : W p l e R s m args below meth c H locs cells slots Q (F0 m pc ls (.ref a :: rest)) :=
  r_get C hT he rfl inX8 1 (by decide) k190 rfl hdg kk
theorem pX8_52 (C : Cx p s m meth c args cc ret nL RX8 g A) (hin : meth.name = "<init>") (hT : Wd g A s L H locs) {q0 : Nat} {v0 v1 v2 v3 v4 v5 v6 v7 v8 v9 : Value} (he : L[q0]? = some (a, .inr (8, [v0, v1, v2, v3, v4, v5, v6, v7, v8, v9]))) {x : Nat} (hdg : decode cc pc = .ok (.putfield 52, 3)) (kk : ∀ (H1 : Heap) (locs1 : List Loc), Wd g A s (L.set q0 (a, .inr (8, [v0, .ref x, v2, v3, v4, v5, v6, v7, v8, v9]))) H1 locs1 → W p l e R s m args below meth c H1 locs1 cells slots Q (F0 m (pc + 3) ls rest)) : W p l e R s m args below meth c H locs cells slots Q (F0 m pc ls (.ref x :: .ref a :: rest)) :=
  r_putF C hin hT he rfl inX8 tyX8 tyX8_ok nmX8 1 (by decide) k190 rfl rfl (ty := (.object "ContextMix$Numbers")) (by decide +kernel) rfl rfl (Nat.le_of_ble_eq_true rfl) hdg kk
theorem gX8_61 (C : Cx p s m meth c args cc ret nL RX8 g A) (hT : Wd g A s L H locs) {q0 : Nat} {v0 v1 v2 v3 v4 v5 v6 v7 v8 v9 : Value} (he : L[q0]? = some (a, .inr (8, [v0, v1, v2, v3, v4, v5, v6, v7, v8, v9]))) (hdg : decode cc pc = .ok (.getfield 61, 3)) (kk : W p l e R s m args below meth c H locs cells slots Q (F0 m (pc + 3) ls (v3 :: rest))) : W p l e R s m args below meth c H locs cells slots Q (F0 m pc ls (.ref a :: rest)) :=
  r_get C hT he rfl inX8 3 (by decide) k193 rfl hdg kk
theorem pX8_61 (C : Cx p s m meth c args cc ret nL RX8 g A) (hin : meth.name = "<init>") (hT : Wd g A s L H locs) {q0 : Nat} {v0 v1 v2 v3 v4 v5 v6 v7 v8 v9 : Value} (he : L[q0]? = some (a, .inr (8, [v0, v1, v2, v3, v4, v5, v6, v7, v8, v9]))) {x : Nat} (hdg : decode cc pc = .ok (.putfield 61, 3)) (kk : ∀ (H1 : Heap) (locs1 : List Loc), Wd g A s (L.set q0 (a, .inr (8, [v0, v1, v2, .ref x, v4, v5, v6, v7, v8, v9]))) H1 locs1 → W p l e R s m args below meth c H1 locs1 cells slots Q (F0 m (pc + 3) ls rest)) : W p l e R s m args below meth c H locs cells slots Q (F0 m pc ls (.ref x :: .ref a :: rest)) :=
  r_putF C hin hT he rfl inX8 tyX8 tyX8_ok nmX8 3 (by decide) k193 rfl rfl (ty := (.object "ContextMix$Slots")) (by decide +kernel) rfl rfl (Nat.le_of_ble_eq_true rfl) hdg kk
theorem gX8_72 (C : Cx p s m meth c args cc ret nL RX8 g A) (hT : Wd g A s L H locs) {q0 : Nat} {v0 v1 : Value} (he : L[q0]? = some (a, .inr (3, [v0, v1]))) (hdg : decode cc pc = .ok (.getfield 72, 3)) (kk : W p l e R s m args below meth c H locs cells slots Q (F0 m (pc + 3) ls (v1 :: rest))) : W p l e R s m args below meth c H locs cells slots Q (F0 m pc ls (.ref a :: rest)) :=
  r_getN (host := "ContextMix") C hT he rfl inX3 1 (by decide) (List.mem_of_getElem? (i := 16) rfl) rfl hdg kk
theorem pX8_72 (C : Cx p s m meth c args cc ret nL RX8 g A) (hT : Wd g A s L H locs) {q0 : Nat} {v0 v1 : Value} (he : L[q0]? = some (a, .inr (3, [v0, v1]))) {x : Int32} (hdg : decode cc pc = .ok (.putfield 72, 3)) (kk : ∀ (H1 : Heap) (locs1 : List Loc), Wd g A s (L.set q0 (a, .inr (3, [v0, .int x]))) H1 locs1 → W p l e R s m args below meth c H1 locs1 cells slots Q (F0 m (pc + 3) ls rest)) : W p l e R s m args below meth c H locs cells slots Q (F0 m pc ls (.int x :: .ref a :: rest)) :=
  r_putN (host := "ContextMix") C hT he rfl inX3 tyX3 tyX3_ok nmX3 1 (by decide) (List.mem_of_getElem? (i := 16) rfl) rfl (ty := .int) (by decide +kernel) rfl rfl (Nat.le_of_ble_eq_true rfl) hdg kk
theorem gX8_79 (C : Cx p s m meth c args cc ret nL RX8 g A) (hT : Wd g A s L H locs) {q0 : Nat} {v0 v1 v2 v3 : Value} (he : L[q0]? = some (a, .inr (7, [v0, v1, v2, v3]))) (hdg : decode cc pc = .ok (.getfield 79, 3)) (kk : W p l e R s m args below meth c H locs cells slots Q (F0 m (pc + 3) ls (v3 :: rest))) : W p l e R s m args below meth c H locs cells slots Q (F0 m pc ls (.ref a :: rest)) :=
  r_getN (host := "ContextMix") C hT he rfl inX7 3 (by decide) (List.mem_of_getElem? (i := 3) rfl) rfl hdg kk
theorem gX8_84 (C : Cx p s m meth c args cc ret nL RX8 g A) (hT : Wd g A s L H locs) {q0 : Nat} {v0 v1 v2 v3 : Value} (he : L[q0]? = some (a, .inr (7, [v0, v1, v2, v3]))) (hdg : decode cc pc = .ok (.getfield 84, 3)) (kk : W p l e R s m args below meth c H locs cells slots Q (F0 m (pc + 3) ls (v0 :: rest))) : W p l e R s m args below meth c H locs cells slots Q (F0 m pc ls (.ref a :: rest)) :=
  r_getN (host := "ContextMix") C hT he rfl inX7 0 (by decide) (List.mem_of_getElem? (i := 0) rfl) rfl hdg kk
theorem gX8_87 (C : Cx p s m meth c args cc ret nL RX8 g A) (hT : Wd g A s L H locs) {q0 : Nat} {v0 v1 v2 v3 : Value} (he : L[q0]? = some (a, .inr (7, [v0, v1, v2, v3]))) (hdg : decode cc pc = .ok (.getfield 87, 3)) (kk : W p l e R s m args below meth c H locs cells slots Q (F0 m (pc + 3) ls (v1 :: rest))) : W p l e R s m args below meth c H locs cells slots Q (F0 m pc ls (.ref a :: rest)) :=
  r_getN (host := "ContextMix") C hT he rfl inX7 1 (by decide) (List.mem_of_getElem? (i := 1) rfl) rfl hdg kk
theorem gX8_106 (C : Cx p s m meth c args cc ret nL RX8 g A) (hT : Wd g A s L H locs) {q0 : Nat} {v0 v1 v2 v3 : Value} (he : L[q0]? = some (a, .inr (7, [v0, v1, v2, v3]))) (hdg : decode cc pc = .ok (.getfield 106, 3)) (kk : W p l e R s m args below meth c H locs cells slots Q (F0 m (pc + 3) ls (v2 :: rest))) : W p l e R s m args below meth c H locs cells slots Q (F0 m pc ls (.ref a :: rest)) :=
  r_getN (host := "ContextMix") C hT he rfl inX7 2 (by decide) (List.mem_of_getElem? (i := 2) rfl) rfl hdg kk
theorem gX8_114 (C : Cx p s m meth c args cc ret nL RX8 g A) (hT : Wd g A s L H locs) {q0 : Nat} {v0 v1 : Value} (he : L[q0]? = some (a, .inr (9, [v0, v1]))) (hdg : decode cc pc = .ok (.getfield 114, 3)) (kk : W p l e R s m args below meth c H locs cells slots Q (F0 m (pc + 3) ls (v0 :: rest))) : W p l e R s m args below meth c H locs cells slots Q (F0 m pc ls (.ref a :: rest)) :=
  r_getN (host := "ContextMix") C hT he rfl inX9 0 (by decide) (List.mem_of_getElem? (i := 13) rfl) rfl hdg kk
theorem gX8_117 (C : Cx p s m meth c args cc ret nL RX8 g A) (hT : Wd g A s L H locs) {q0 : Nat} {v0 v1 v2 v3 : Value} (he : L[q0]? = some (a, .inr (2, [v0, v1, v2, v3]))) (hdg : decode cc pc = .ok (.getfield 117, 3)) (kk : W p l e R s m args below meth c H locs cells slots Q (F0 m (pc + 3) ls (v2 :: rest))) : W p l e R s m args below meth c H locs cells slots Q (F0 m pc ls (.ref a :: rest)) :=
  r_getN (host := "ContextMix") C hT he rfl inX2 2 (by decide) (List.mem_of_getElem? (i := 8) rfl) rfl hdg kk
theorem gX8_167 (C : Cx p s m meth c args cc ret nL RX8 g A) (hT : Wd g A s L H locs) {q0 : Nat} {v0 v1 v2 : Value} (he : L[q0]? = some (a, .inr (4, [v0, v1, v2]))) (hdg : decode cc pc = .ok (.getfield 167, 3)) (kk : W p l e R s m args below meth c H locs cells slots Q (F0 m (pc + 3) ls (v0 :: rest))) : W p l e R s m args below meth c H locs cells slots Q (F0 m pc ls (.ref a :: rest)) :=
  r_getN (host := "ContextMix") C hT he rfl inX4 0 (by decide) (List.mem_of_getElem? (i := 11) rfl) rfl hdg kk
theorem gX8_174 (C : Cx p s m meth c args cc ret nL RX8 g A) (hT : Wd g A s L H locs) {q0 : Nat} {v0 v1 : Value} (he : L[q0]? = some (a, .inr (1, [v0, v1]))) (hdg : decode cc pc = .ok (.getfield 174, 3)) (kk : W p l e R s m args below meth c H locs cells slots Q (F0 m (pc + 3) ls (v0 :: rest))) : W p l e R s m args below meth c H locs cells slots Q (F0 m pc ls (.ref a :: rest)) :=
  r_getN (host := "ContextMix") C hT he rfl inX1 0 (by decide) (List.mem_of_getElem? (i := 12) rfl) rfl hdg kk
theorem gX9_15 (C : Cx p s m meth c args cc ret nL RX9 g A) (hT : Wd g A s L H locs) {q0 : Nat} {v0 v1 : Value} (he : L[q0]? = some (a, .inr (9, [v0, v1]))) (hdg : decode cc pc = .ok (.getfield 15, 3)) (kk : W p l e R s m args below meth c H locs cells slots Q (F0 m (pc + 3) ls (v0 :: rest))) : W p l e R s m args below meth c H locs cells slots Q (F0 m pc ls (.ref a :: rest)) :=
  r_get C hT he rfl inX9 0 (by decide) k166 rfl hdg kk
theorem pX9_15 (C : Cx p s m meth c args cc ret nL RX9 g A) (hin : meth.name = "<init>") (hT : Wd g A s L H locs) {q0 : Nat} {v0 v1 : Value} (he : L[q0]? = some (a, .inr (9, [v0, v1]))) {x : Nat} (hdg : decode cc pc = .ok (.putfield 15, 3)) (kk : ∀ (H1 : Heap) (locs1 : List Loc), Wd g A s (L.set q0 (a, .inr (9, [.ref x, v1]))) H1 locs1 → W p l e R s m args below meth c H1 locs1 cells slots Q (F0 m (pc + 3) ls rest)) : W p l e R s m args below meth c H locs cells slots Q (F0 m pc ls (.ref x :: .ref a :: rest)) :=
  r_putF C hin hT he rfl inX9 tyX9 tyX9_ok nmX9 0 (by decide) k166 rfl rfl (ty := (.array .int)) (by decide +kernel) rfl rfl (Nat.le_of_ble_eq_true rfl) hdg kk
theorem gX9_21 (C : Cx p s m meth c args cc ret nL RX9 g A) (hT : Wd g A s L H locs) {q0 : Nat} {v0 v1 : Value} (he : L[q0]? = some (a, .inr (9, [v0, v1]))) (hdg : decode cc pc = .ok (.getfield 21, 3)) (kk : W p l e R s m args below meth c H locs cells slots Q (F0 m (pc + 3) ls (v1 :: rest))) : W p l e R s m args below meth c H locs cells slots Q (F0 m pc ls (.ref a :: rest)) :=
  r_get C hT he rfl inX9 1 (by decide) k169 rfl hdg kk
theorem pX9_21 (C : Cx p s m meth c args cc ret nL RX9 g A) (hin : meth.name = "<init>") (hT : Wd g A s L H locs) {q0 : Nat} {v0 v1 : Value} (he : L[q0]? = some (a, .inr (9, [v0, v1]))) {x : Nat} (hdg : decode cc pc = .ok (.putfield 21, 3)) (kk : ∀ (H1 : Heap) (locs1 : List Loc), Wd g A s (L.set q0 (a, .inr (9, [v0, .ref x]))) H1 locs1 → W p l e R s m args below meth c H1 locs1 cells slots Q (F0 m (pc + 3) ls rest)) : W p l e R s m args below meth c H locs cells slots Q (F0 m pc ls (.ref x :: .ref a :: rest)) :=
  r_putF C hin hT he rfl inX9 tyX9 tyX9_ok nmX9 1 (by decide) k169 rfl rfl (ty := (.array .int)) (by decide +kernel) rfl rfl (Nat.le_of_ble_eq_true rfl) hdg kk
theorem gsX5 (C : Cx p s m meth c args cc ret nL RX5 g A) (hT : Wd g A s L H locs) (hdg : decode cc pc = .ok (.getstatic 21, 3)) (kk : W p l e R s m args below meth c H locs cells slots Q (F0 m (pc + 3) ls (.ref (g.2.2 0) :: rest))) : W p l e R s m args below meth c H locs cells slots Q (F0 m pc ls rest) :=
  va_gets C.x C.b C.sp.1.1 hT.2.2 C.ow (C.ts _ k48) (fun _ h => h) hdg kk
theorem tsX5 (C : Cx p s m meth c args cc ret nL RX5 g A) (hT : Wd g A s L H locs) {i : Int32} (k : Nat) (hi : i = nI k) (hk : k < 33) (hdg : decode cc pc = .ok (.iaload, 1)) (kk : W p l e R s m args below meth c H locs cells slots Q (F0 m (pc + 1) ls (.int (curveT k) :: rest))) : W p l e R s m args below meth c H locs cells slots Q (F0 m pc ls (.int i :: .ref (g.2.2 0) :: rest)) := by
  subst hi
  exact va_ti C.x C.b C.sp.1.2 hT.2.2 (vp_in_nI hk (by decide)) (by rw [nI_clamp (by omega)]) hdg kk
theorem gsX11 (C : Cx p s m meth c args cc ret nL RX11 g A) (hT : Wd g A s L H locs) (hdg : decode cc pc = .ok (.getstatic 80, 3)) (kk : W p l e R s m args below meth c H locs cells slots Q (F0 m (pc + 3) ls (.ref (g.2.2 1) :: rest))) : W p l e R s m args below meth c H locs cells slots Q (F0 m pc ls rest) :=
  va_gets C.x C.b C.sp.2.1 hT.2.2 C.ow (C.ts _ k737) (fun _ h => h) hdg kk
theorem tsX11 (C : Cx p s m meth c args cc ret nL RX11 g A) (hT : Wd g A s L H locs) {i : Int32} (k : Nat) (hi : i = nI k) (hk : k < 33) (hdg : decode cc pc = .ok (.iaload, 1)) (kk : W p l e R s m args below meth c H locs cells slots Q (F0 m (pc + 1) ls (.int (curveT k) :: rest))) : W p l e R s m args below meth c H locs cells slots Q (F0 m pc ls (.int i :: .ref (g.2.2 1) :: rest)) := by
  subst hi
  exact va_ti C.x C.b C.sp.2.2 hT.2.2 (vp_in_nI hk (by decide)) (by rw [nI_clamp (by omega)]) hdg kk
theorem r_mmax {own : String} (C : Cx p s m meth c args cc ret nL own g A) (hls : ls.size = nL) {index : Nat} (k1 : Cond.methodLink own index ⟨"java/lang/Math", "max", "(II)I"⟩ ∈ GW) (hf : 1 ≤ R.frames) (hl : (rest.map fun v => v.category).sum + 13 ≤ R.locals) (hc : cells ≤ R.cells) (hs : slots ≤ R.slots) {x y : Int32} (hdg : decode cc pc = .ok (.invokestatic index, 3)) (kk : W p l e R s m args below meth c H locs cells slots Q (F0 m (pc + 3) ls (.int (if x < y then y else x) :: rest))) : W p l e R s m args below meth c H locs cells slots Q (F0 m pc ls (.int y :: .int x :: rest)) :=
  va_mmax C.x C.b (by rw [C.ml, hls]) C.ow (C.ts _ k1) (C.ts _ k37) (C.ts _ k3) (C.ts _ k38) hf hl hc hs hdg kk
theorem r_mmin {own : String} (C : Cx p s m meth c args cc ret nL own g A) (hls : ls.size = nL) {index : Nat} (k1 : Cond.methodLink own index ⟨"java/lang/Math", "min", "(II)I"⟩ ∈ GW) (hf : 1 ≤ R.frames) (hl : (rest.map fun v => v.category).sum + 13 ≤ R.locals) (hc : cells ≤ R.cells) (hs : slots ≤ R.slots) {x y : Int32} (hdg : decode cc pc = .ok (.invokestatic index, 3)) (kk : W p l e R s m args below meth c H locs cells slots Q (F0 m (pc + 3) ls (.int (if y < x then y else x) :: rest))) : W p l e R s m args below meth c H locs cells slots Q (F0 m pc ls (.int y :: .int x :: rest)) :=
  va_mmin C.x C.b (by rw [C.ml, hls]) C.ow (C.ts _ k1) (C.ts _ k34) (C.ts _ k3) (C.ts _ k35) hf hl hc hs hdg kk
theorem r_mmaxl {own : String} (C : Cx p s m meth c args cc ret nL own g A) (hls : ls.size = nL) {index : Nat} (k1 : Cond.methodLink own index ⟨"java/lang/Math", "max", "(JJ)J"⟩ ∈ GW) (hf : 1 ≤ R.frames) (hl : (rest.map fun v => v.category).sum + 15 ≤ R.locals) (hc : cells ≤ R.cells) (hs : slots ≤ R.slots) {x y : Int64} (hdg : decode cc pc = .ok (.invokestatic index, 3)) (kk : W p l e R s m args below meth c H locs cells slots Q (F0 m (pc + 3) ls (.long (if y < x then x else y) :: rest))) : W p l e R s m args below meth c H locs cells slots Q (F0 m pc ls (.long y :: .long x :: rest)) :=
  va_mmax_long C.x C.b (by rw [C.ml, hls]) C.ow (C.ts _ k1) (C.ts _ k415) (C.ts _ k3) (C.ts _ k416) hf hl hc hs hdg kk
theorem r_mminl {own : String} (C : Cx p s m meth c args cc ret nL own g A) (hls : ls.size = nL) {index : Nat} (k1 : Cond.methodLink own index ⟨"java/lang/Math", "min", "(JJ)J"⟩ ∈ GW) (hf : 1 ≤ R.frames) (hl : (rest.map fun v => v.category).sum + 15 ≤ R.locals) (hc : cells ≤ R.cells) (hs : slots ≤ R.slots) {x y : Int64} (hdg : decode cc pc = .ok (.invokestatic index, 3)) (kk : W p l e R s m args below meth c H locs cells slots Q (F0 m (pc + 3) ls (.long (if y < x then y else x) :: rest))) : W p l e R s m args below meth c H locs cells slots Q (F0 m pc ls (.long y :: .long x :: rest)) :=
  va_mmin_long C.x C.b (by rw [C.ml, hls]) C.ow (C.ts _ k1) (C.ts _ k412) (C.ts _ k3) (C.ts _ k413) hf hl hc hs hdg kk
end
end
section
section
variable {p : Program} {l : Launch} {e : Env} {R : Room} {s : State} {m : MethodId} {args : Array Value} {below : List Frame} {meth : Method} {c : Code} {H : Heap} {locs : List Loc} {cells slots : Nat} {Q : State → Prop} {cc : ByteArray} {ret : Option FieldType} {nL : Nat} {own : String} {g : GT} {A : Nat → Prop} {L : va_W} {pc : Nat} {ls : Array Slot} {rest : List Value} {a : Nat}
theorem OM.startQ {S : Type} {y : MethodName} {rm : Room} {av : List Value} {rv : S → Option Value} {L' : S → va_W} (hy : plainName y.cls = true) (hn : (lg_sl av).length ≤ nL)
    (body : ∀ (p : Program) (e : Env) (s : State) (m : MethodId) (below : List Frame) (meth : Method) (c : Code) (A : Nat → Prop) (ls : Array Slot) (Q : State → Prop) (H : Heap) (locs : List Loc), Q = MQ below (QG g A rv L') av.toArray s rm.cells rm.slots A → Cx p s m meth c av.toArray cc ret nL y.cls g A → meth.name = y.name → lv_has ls nL (lv_args 0 av) → Wd g A s L H locs →
      W p l e rm s m av.toArray below meth c H locs 0 0 Q (F0 m 0 ls [])) : OM l g y cc nL ret rm av L rv L' :=
  OM.start hy hn (fun p e s m below meth c A ls h1 h2 h3 h4 => body p e s m below meth c A ls _ _ _ rfl h1 h2 h3 h4)
theorem e_iret {S : Type} {rv : S → Option Value} {L' : S → va_W} {v : Int32} (C : Cx p s m meth c args cc (some .int) nL own g A) (hQ : Q = MQ below (QG g A rv L') args s cells slots A) (u : S) (hT : Wd g A s (L' u) H locs) (hv : rv u = some (.int v)) (hdg : decode cc pc = .ok (.ireturn, 1)) : W p l e R s m args below meth c H locs cells slots Q (F0 m pc ls [.int v]) := by
  subst hQ; exact r_iret C u hT hv hdg
theorem e_zret {S : Type} {rv : S → Option Value} {L' : S → va_W} {v : Int32} (C : Cx p s m meth c args cc (some .boolean) nL own g A) (hQ : Q = MQ below (QG g A rv L') args s cells slots A) (u : S) (hT : Wd g A s (L' u) H locs) (hv : rv u = some (.int v)) (hn : v = 0 ∨ v = 1) (hdg : decode cc pc = .ok (.ireturn, 1)) : W p l e R s m args below meth c H locs cells slots Q (F0 m pc ls [.int v]) := by
  subst hQ; exact r_zret C u hT hv hn hdg
theorem e_lret {S : Type} {rv : S → Option Value} {L' : S → va_W} {v : Int64} (C : Cx p s m meth c args cc (some .long) nL own g A) (hQ : Q = MQ below (QG g A rv L') args s cells slots A) (u : S) (hT : Wd g A s (L' u) H locs) (hv : rv u = some (.long v)) (hdg : decode cc pc = .ok (.lreturn, 1)) : W p l e R s m args below meth c H locs cells slots Q (F0 m pc ls [.long v]) := by
  subst hQ; exact r_lret C u hT hv hdg
theorem e_vret {S : Type} {rv : S → Option Value} {L' : S → va_W} (C : Cx p s m meth c args cc none nL own g A) (hQ : Q = MQ below (QG g A rv L') args s cells slots A) (u : S) (hT : Wd g A s (L' u) H locs) (hv : rv u = none) (hdg : decode cc pc = .ok (.return_, 1)) : W p l e R s m args below meth c H locs cells slots Q (F0 m pc ls []) := by
  subst hQ; exact r_vret C u hT hv hdg
theorem e_aret {S : Type} {rv : S → Option Value} {L' : S → va_W} {n : String} {v : Value} (C : Cx p s m meth c args cc (some (.object n)) nL own g A) (hQ : Q = MQ below (QG g A rv L') args s cells slots A) (u : S) (hT : Wd g A s (L' u) H locs) (hv : rv u = some v) (hn : v = .null ∨ ∃ a, v = .ref a) (hdg : decode cc pc = .ok (.areturn, 1)) : W p l e R s m args below meth c H locs cells slots Q (F0 m pc ls [v]) := by
  subst hQ; exact r_aret C u hT hv hn hdg
theorem r_zast (C : Cx p s m meth c args cc ret nL own g A) (hT : Wd g A s L H locs) {q0 n : Nat} {f : Nat → Int32} (he : L[q0]? = some (a, .inl (g.2.1 2, n, .inl f))) {i x : Int32} (k : Nat) (hi : i = nI k) (hk : k < n) (hn : n < 2 ^ 31) (hz : x = 0 ∨ x = 1) (hdg : decode cc pc = .ok (.bastore, 1))
    (kk : ∀ (H1 : Heap) (locs1 : List Loc), Wd g A s (L.set q0 (a, .inl (g.2.1 2, n, .inl (upd f k x)))) H1 locs1 → W p l e R s m args below meth c H1 locs1 cells slots Q (F0 m (pc + 1) ls rest)) : W p l e R s m args below meth c H locs cells slots Q (F0 m pc ls (.int x :: .int i :: .ref a :: rest)) := by
  subst hi
  have hx1 : x &&& 1 = x := by rcases hz with rfl | rfl <;> rfl
  refine va_zast C.x C.b C.K hT.1 hT.2.1 hT.2.2 q0 2 he rfl (vp_in_nI hk hn) hdg ?_
  rw [nI_clamp (by omega)]
  first | exact fun H1 locs1 h1 h2 h3 => kk H1 locs1 ⟨h1, h2, h3⟩ | (rcases hz with rfl | rfl <;> exact fun H1 locs1 h1 h2 h3 => kk H1 locs1 ⟨h1, h2, h3⟩)
theorem r_ite {P : Prop} [Decidable P] {g0 gt gf : JFrame} {J : Nat} {a1 a2 : Int32} (row : (P → W p l e R s m args below meth c H locs cells slots Q gt) → (¬ P → W p l e R s m args below meth c H locs cells slots Q gf) → W p l e R s m args below meth c H locs cells slots Q g0) (kt : P → W p l e R s m args below meth c H locs cells slots Q (F0 m J ls (.int a1 :: rest)) → W p l e R s m args below meth c H locs cells slots Q gt) (kf : ¬ P → W p l e R s m args below meth c H locs cells slots Q (F0 m J ls (.int a2 :: rest)) → W p l e R s m args below meth c H locs cells slots Q gf)
    (kk : W p l e R s m args below meth c H locs cells slots Q (F0 m J ls (.int (if P then a1 else a2) :: rest))) : W p l e R s m args below meth c H locs cells slots Q g0 :=
  row (fun h => kt h (by rw [if_pos h] at kk; exact kk)) (fun h => kf h (by rw [if_neg h] at kk; exact kk))
theorem r_iteN {P : Prop} [Decidable P] {g0 gt gf : JFrame} {J : Nat} {a1 a2 : Int32} (row : (¬ P → W p l e R s m args below meth c H locs cells slots Q gt) → (P → W p l e R s m args below meth c H locs cells slots Q gf) → W p l e R s m args below meth c H locs cells slots Q g0) (kt : ¬ P → W p l e R s m args below meth c H locs cells slots Q (F0 m J ls (.int a1 :: rest)) → W p l e R s m args below meth c H locs cells slots Q gt) (kf : P → W p l e R s m args below meth c H locs cells slots Q (F0 m J ls (.int a2 :: rest)) → W p l e R s m args below meth c H locs cells slots Q gf)
    (kk : W p l e R s m args below meth c H locs cells slots Q (F0 m J ls (.int (if P then a2 else a1) :: rest))) : W p l e R s m args below meth c H locs cells slots Q g0 :=
  row (fun h => kt h (by rw [if_neg h] at kk; exact kk)) (fun h => kf h (by rw [if_pos h] at kk; exact kk))
theorem swOut1 {x : Int32} (h0 : ¬ x = 0) : x.toInt < 0 ∨ 0 < x.toInt := by
  have := lv_neT (k := 0) (a := 0) h0 (by decide); omega
theorem swOut5 {x : Int32} (h0 : ¬ x = 0) (h1 : ¬ x = 1) (h2 : ¬ x = 2) (h3 : ¬ x = 3) (h4 : ¬ x = 4) : x.toInt < 0 ∨ 4 < x.toInt := by
  have := lv_neT (k := 0) (a := 0) h0 (by decide); have := lv_neT (k := 1) (a := 1) h1 (by decide); have := lv_neT (k := 2) (a := 2) h2 (by decide); have := lv_neT (k := 3) (a := 3) h3 (by decide); have := lv_neT (k := 4) (a := 4) h4 (by decide); omega
theorem swOut4 {x : Int32} (h0 : ¬ x = 0) (h1 : ¬ x = 1) (h2 : ¬ x = 2) (h3 : ¬ x = 3) : x.toInt < 0 ∨ 3 < x.toInt := by
  have := lv_neT (k := 0) (a := 0) h0 (by decide); have := lv_neT (k := 1) (a := 1) h1 (by decide); have := lv_neT (k := 2) (a := 2) h2 (by decide); have := lv_neT (k := 3) (a := 3) h3 (by decide); omega
theorem swOut8 {x : Int32} (h0 : ¬ x = 0) (h1 : ¬ x = 1) (h2 : ¬ x = 2) (h3 : ¬ x = 3) (h4 : ¬ x = 4) (h5 : ¬ x = 5) (h6 : ¬ x = 6) (h7 : ¬ x = 7) : x.toInt < 0 ∨ 7 < x.toInt := by
  have := lv_neT (k := 0) (a := 0) h0 (by decide); have := lv_neT (k := 1) (a := 1) h1 (by decide); have := lv_neT (k := 2) (a := 2) h2 (by decide); have := lv_neT (k := 3) (a := 3) h3 (by decide); have := lv_neT (k := 4) (a := 4) h4 (by decide); have := lv_neT (k := 5) (a := 5) h5 (by decide); have := lv_neT (k := 6) (a := 6) h6 (by decide); have := lv_neT (k := 7) (a := 7) h7 (by decide); omega
end
end
section
/-! pure words: what the methods reckon -/
theorem i32_lt {a b : Int32} : a < b ↔ a.toInt < b.toInt := Int32.lt_iff_toInt_lt
theorem i32_le {a b : Int32} : a ≤ b ↔ a.toInt ≤ b.toInt := Int32.le_iff_toInt_le
theorem nI_of_toInt {x : Int32} {k : Nat} (hk : k < 2 ^ 31) (h : x.toInt = (k : Int)) : x = nI k := Int32.toInt_inj.mp (by rw [h, nI_toInt hk])
theorem add_toInt {a b : Int32} (h1 : -2147483648 ≤ a.toInt + b.toInt) (h2 : a.toInt + b.toInt < 2147483648) : (a + b).toInt = a.toInt + b.toInt := by
  rw [Int32.toInt_add]; exact Int.bmod_eq_of_le (by omega) (by omega)
theorem sub_toInt {a b : Int32} (h1 : -2147483648 ≤ a.toInt - b.toInt) (h2 : a.toInt - b.toInt < 2147483648) : (a - b).toInt = a.toInt - b.toInt := by
  rw [Int32.toInt_sub]; exact Int.bmod_eq_of_le (by omega) (by omega)
theorem mul_toInt {a b : Int32} (h1 : -2147483648 ≤ a.toInt * b.toInt) (h2 : a.toInt * b.toInt < 2147483648) : (a * b).toInt = a.toInt * b.toInt := by
  rw [Int32.toInt_mul]; exact Int.bmod_eq_of_le (by omega) (by omega)
theorem shr_toInt (a : Int32) (s : Int32) (k : Nat) (hs : (s.toBitVec.smod 32).toNat = k) : (a >>> s).toInt = a.toInt / 2 ^ k := by
  rw [pk_shr a s k hs, Int.shiftRight_eq_div_pow]; norm_cast
theorem shr7 (a : Int32) : (a >>> ((7 : Int32) &&& 31)).toInt = a.toInt / 128 := shr_toInt a _ 7 (by decide)
def hashI (a b : Int32) : Int32 := ((a ^^^ 625341585) * (-1640531535) + b * (-2048144789)) ^^^ ((((a ^^^ 625341585) * (-1640531535) + b * (-2048144789)).toUInt32 >>> ((15 : Int32).toUInt32 &&& Int32.toUInt32 31)).toInt32)
def boundI (v lo hi : Int32) : Int32 := if lo < (if v < hi then v else hi) then (if v < hi then v else hi) else lo
def sqK (d : Int32) : Nat := (d.toInt / 128 + 16).toNat
theorem sqK_lt {d : Int32} (h1 : ¬ 2047 < d) (h2 : ¬ d < (-2047)) : sqK d < 32 := by
  rw [i32_lt] at h1 h2
  have e1 : (2047 : Int32).toInt = 2047 := by decide
  have e2 : (-2047 : Int32).toInt = -2047 := by decide
  rw [e1] at h1; rw [e2] at h2
  unfold sqK; omega
theorem sqK_eq {d : Int32} (h1 : ¬ 2047 < d) (h2 : ¬ d < (-2047)) : (d >>> ((7 : Int32) &&& 31)) + 16 = nI (sqK d) := by
  have h3 := sqK_lt h1 h2
  rw [i32_lt] at h1 h2
  have e1 : (2047 : Int32).toInt = 2047 := by decide
  have e2 : (-2047 : Int32).toInt = -2047 := by decide
  have e3 : (16 : Int32).toInt = 16 := by decide
  rw [e1] at h1; rw [e2] at h2
  apply nI_of_toInt (by omega)
  rw [add_toInt, shr7, e3]
  · unfold sqK; omega
  · rw [shr7, e3]; omega
  · rw [shr7, e3]; omega
/-- SQUASH -/
def sqI (d : Int32) : Int32 := if 2047 < d then 4095 else if d < (-2047) then 0 else (curveT (sqK d) * (128 - (d &&& 127)) + curveT (sqK d + 1) * (d &&& 127) + 64) >>> ((7 : Int32) &&& 31)
def eqTo (f g : Nat → Int32) : Nat → Bool
  | 0 => true
  | n + 1 => eqTo f g n && decide (f n = g n)
theorem eqTo_iff {f g : Nat → Int32} {n : Nat} : eqTo f g n = true ↔ ∀ k, k < n → f k = g k := by
  induction n with
  | zero => simp [eqTo]
  | succ n ih =>
    simp only [eqTo, Bool.and_eq_true, decide_eq_true_eq, ih]
    constructor
    · intro h k hk
      rcases Nat.lt_succ_iff_lt_or_eq.mp hk with h1 | h1
      · exact h.1 k h1
      · rw [h1]; exact h.2
    · intro h; exact ⟨fun k hk => h k (by omega), h n (by omega)⟩
def b01 (b : Bool) : Int32 := if b then 1 else 0
theorem b01_f {b : Bool} (h : b01 b = 0) : b = false := by cases b <;> simp [b01] at h ⊢
theorem b01_t {b : Bool} (h : ¬ b01 b = 0) : b = true := by cases b <;> simp [b01] at h ⊢
theorem b01_01 (b : Bool) : b01 b = 0 ∨ b01 b = 1 := by cases b <;> simp [b01]
/-- i is a place of n -/
def inR (i : Int32) (n : Nat) : Bool := !decide (i < 0) && !decide (nI n ≤ i)
theorem inR_of {i : Int32} {n : Nat} (hn : n < 2 ^ 31) (h : inR i n = true) : ∃ j : Nat, j < n ∧ i = nI j := by
  simp only [inR, Bool.and_eq_true, Bool.not_eq_true', decide_eq_false_iff_not] at h
  rcases pk_ix i hn with a | a | a
  · exact absurd a h.1
  · exact absurd a h.2
  · exact a
theorem inR_nI {j n : Nat} (h : j < n) (hn : n < 2 ^ 31) : inR (nI j) n = true := by
  simp only [inR, Bool.and_eq_true, Bool.not_eq_true', decide_eq_false_iff_not]
  exact ⟨nI_pos (by omega), nI_ge h hn⟩
theorem boundI_id {k a b : Nat} (h1 : a ≤ k) (h2 : k ≤ b) (hb : b < 2 ^ 31) : boundI (nI k) (nI a) (nI b) = nI k := by
  unfold boundI
  by_cases h3 : nI k < nI b
  · rw [if_pos h3]
    by_cases h4 : nI a < nI k
    · rw [if_pos h4]
    · rw [if_neg h4]
      have := mt (nI_ltI (a := a) (b := k) (by omega) (by omega)).mpr h4
      rw [show a = k by omega]
  · rw [if_neg h3]
    have := mt (nI_ltI (a := k) (b := b) (by omega) (by omega)).mpr h3
    have e : k = b := by omega
    subst e
    by_cases h4 : nI a < nI k
    · rw [if_pos h4]
    · rw [if_neg h4]
      have := mt (nI_ltI (a := a) (b := k) (by omega) (by omega)).mpr h4
      rw [show a = k by omega]
/-- what a predictor's kind and number may be -/
def allowB (k n : Int32) : Bool := if k = 0 then !decide (n < 0) && !decide (6 < n) else if k = 1 then true else if k = 2 then !decide (n < 1) && !decide (64 < n) else if k = 3 then !decide (n < 1) && !decide (15 < n) else if k = 4 then !decide (n < 3) && !decide (8 < n) else false
def cellB (n j : Int32) : Bool := !decide (n < 0) && (!decide (256 ≤ n) && (!decide (j < 0) && !decide (33 ≤ j)))
/-- the weighted sum of the first n inputs -/
def dotI (w x : Nat → Int32) (r : Nat) : Nat → Int64
  | 0 => 0
  | n + 1 => dotI w x r n + (w (r + n)).toInt64 * (x n).toInt64
def mnL (v : Int64) : Int64 := if v < 2047 then v else 2047
def clampL (v : Int64) : Int64 := if mnL v < (-2047) then (-2047) else mnL v
def toldI (w x : Nat → Int32) (r : Nat) : Int32 := sqI (clampL (dotI w x r 9 >>> ((16 : Int32).toInt64 &&& 63))).toInt32
def errI (on told : Int32) : Int32 := ((if on = 0 then 0 else 4095) - told) * 7
def growI (w x er : Int32) : Int32 := boundI (w + ((x * er + 32768) >>> ((16 : Int32) &&& 31))) (-1000000) 1000000
/-- the row r of weights, learned for its first n inputs -/
def wLearn (w x : Nat → Int32) (r : Nat) (er : Int32) : Nat → Nat → Int32
  | 0 => w
  | n + 1 => upd (wLearn w x r er n) (r + n) (growI (w (r + n)) (x n) er)
theorem wLearn_ge {w x : Nat → Int32} {r : Nat} {er : Int32} {n k : Nat} (h : r + n ≤ k) : wLearn w x r er n k = w k := by
  induction n with
  | zero => rfl
  | succ n ih => simp only [wLearn, upd]; rw [if_neg (by omega)]; exact ih (by omega)
def rateI (c : Int32) : Int32 := 65536 / (if 2 < c + 2 then c + 2 else 2)
theorem rate_ne (c : Int32) : ¬ (if 2 < c + 2 then c + 2 else 2) = (0 : Int32) := by
  by_cases h : 2 < c + 2
  · rw [if_pos h]; intro q; rw [q] at h; exact absurd h (by decide)
  · rw [if_neg h]; decide
def slotUp (on c n : Int32) : Int32 := c + ((((if on = 0 then 0 else 65535) - c) * rateI n) >>> ((16 : Int32) &&& 31))
def cntUp (n : Int32) : Int32 := if n + 1 < 30 then n + 1 else 30
def cellUp (on c : Int32) : Int32 := c + (((if on = 0 then 0 else 65535) - c) >>> ((7 : Int32) &&& 31))
/-- the cell that is nearest, of 33 a row -/
def nearN (k t : Nat) : Nat := 33 * k + (if 64 ≤ t % 128 then t / 128 + 1 else t / 128)
def corrI (f : Nat → Int32) (k t : Nat) : Int32 := (f (33 * k + t / 128) * (128 - nI (t % 128)) + f (33 * k + (t / 128 + 1)) * nI (t % 128)) >>> ((11 : Int32) &&& 31)
def fillTo (f : Nat → Int32) (v : Int32) (n : Nat) : Nat → Int32 := fun j => if j < n then v else f j
theorem fillTo_up (f : Nat → Int32) (v : Int32) (n : Nat) : upd (fillTo f v n) n v = fillTo f v (n + 1) := by
  funext j
  simp only [upd, fillTo]
  by_cases h : j = n
  · rw [if_pos h, if_pos (by omega)]
  · rw [if_neg h]
    by_cases h2 : j < n
    · rw [if_pos h2, if_pos (by omega)]
    · rw [if_neg h2, if_neg (by omega)]
theorem fillTo_0 (f : Nat → Int32) (v : Int32) : fillTo f v 0 = f := by funext j; simp [fillTo]
/-- fresh weights: the first t rows' last ones are 0 -/
def wFill (f : Nat → Int32) (t : Nat) : Nat → Int32 := fun j => if j < 2304 then (if j % 9 = 8 ∧ j < 9 * t then 0 else 20000) else f j
theorem wFill_0 (f : Nat → Int32) : fillTo f 20000 2304 = wFill f 0 := by
  funext j; simp [fillTo, wFill]
theorem wFill_up (f : Nat → Int32) {t : Nat} (h : t < 256) : upd (wFill f t) (8 + 9 * t) 0 = wFill f (t + 1) := by
  funext j
  simp only [upd, wFill]
  by_cases h1 : j = 8 + 9 * t
  · rw [if_pos h1, if_pos (by omega), if_pos (by omega)]
  · rw [if_neg h1]
    by_cases h2 : j < 2304
    · rw [if_pos h2, if_pos h2]
      by_cases h3 : j % 9 = 8 ∧ j < 9 * t
      · rw [if_pos h3, if_pos (by omega)]
      · rw [if_neg h3, if_neg (by omega)]
    · rw [if_neg h2, if_neg h2]
theorem andI {k m : Nat} (hk : k < 2 ^ 32) (p : Nat) (hm : (nI m).toBitVec.toNat = 2 ^ p - 1) : nI k &&& nI m = nI (k % 2 ^ p) := pk_andN hk p hm
theorem i32_nlt {a b : Int32} (h : a ≤ b) : ¬ b < a := by rw [i32_lt]; rw [i32_le] at h; omega
theorem i32_ltn {a b : Int32} (h : ¬ a ≤ b) : b < a := by rw [i32_lt]; rw [i32_le] at h; omega
theorem eqTo_s {f g : Nat → Int32} {n : Nat} (h : eqTo f g n = true) (h2 : f n = g n) : ∀ k, k < n + 1 → f k = g k := by
  rw [← eqTo_iff]; simp only [eqTo, h, h2, decide_true, Bool.and_self]
theorem eqTo_ne {f g : Nat → Int32} {n k : Nat} (hk : k < n) (h : ¬ f k = g k) : eqTo f g n = false := by
  cases q : eqTo f g n with
  | false => rfl
  | true => exact absurd (eqTo_iff.mp q k hk) h
theorem lp_end {x : Int32} {i n : Nat} (ex : x = nI i) (hn : n < 2 ^ 31) (hi : i ≤ n) (h : nI n ≤ x) : i = n := by
  rcases Nat.lt_or_ge i n with q | q
  · exact absurd (ex ▸ h) (nI_ge q hn)
  · omega
theorem lp_go {x : Int32} {i n : Nat} (ex : x = nI i) (hn : n < 2 ^ 31) (hi : i ≤ n) (h : ¬ nI n ≤ x) : i < n := by
  rcases Nat.lt_or_ge i n with q | q
  · exact q
  · exact absurd (by rw [ex]; exact nI_le q (by omega)) h
theorem cellB_nI {k t : Nat} (hk : k < 256) (ht : t < 33) : cellB (nI k) (nI t) = true := by
  simp only [cellB, Bool.and_eq_true, Bool.not_eq_true', decide_eq_false_iff_not]
  exact ⟨nI_pos (by omega), nI_ge (b := 256) hk (by decide), nI_pos (by omega), nI_ge (b := 33) ht (by decide)⟩
theorem near_if (t : Nat) : (if nI (t % 128) < 64 then nI (t / 128) else nI (t / 128 + 1)) = nI (if 64 ≤ t % 128 then t / 128 + 1 else t / 128) := by
  have h : nI (t % 128) < (64 : Int32) ↔ t % 128 < 64 := nI_ltI (a := t % 128) (b := 64) (by omega) (by decide)
  by_cases q : t % 128 < 64
  · rw [if_pos (h.mpr q), if_neg (by omega)]
  · rw [if_neg (fun z => q (h.mp z)), if_pos (by omega)]
theorem near_add (k t : Nat) : nI (k * 33) + nI (if 64 ≤ t % 128 then t / 128 + 1 else t / 128) = nI (nearN k t) := by
  rw [nI_add]; unfold nearN; rw [Nat.mul_comm]
theorem near_lt {k t : Nat} (hk : k < 256) (ht : t < 4096) : nearN k t ≤ 8447 := by
  unfold nearN; split <;> omega
theorem lp9_end {x : Int32} {i : Nat} (ex : x = nI (8 + 9 * i)) (hi : i ≤ 256) (h : nI 2304 ≤ x) : i = 256 := by
  rcases Nat.lt_or_ge i 256 with q | q
  · exact absurd (ex ▸ h) (nI_ge (by omega) (by decide))
  · omega
theorem lp9_go {x : Int32} {i : Nat} (ex : x = nI (8 + 9 * i)) (hi : i ≤ 256) (h : ¬ nI 2304 ≤ x) : i < 256 := by
  rcases Nat.lt_or_ge i 256 with q | q
  · exact q
  · exact absurd (by rw [ex]; exact nI_le (by omega) (by omega)) h
theorem wLearn_s {w x : Nat → Int32} {r : Nat} {er : Int32} {i : Nat} {v : Int32} (h : v = growI (wLearn w x r er i (r + i)) (x i) er) : upd (wLearn w x r er i) (r + i) v = wLearn w x r er (i + 1) := by
  rw [h, wLearn_ge (Nat.le_refl _)]; simp only [wLearn]
end
section
set_option maxHeartbeats 400000 in
set_option maxRecDepth 100000 in
theorem c_X5_hash (l : Launch) (g : GT) (a : Int32) (b : Int32) : OM (S := Unit) l g yX5_hash cX5_hash 3 (some .int) ({ frames := 0, cells := 0, slots := 0, locals := 0 } : Room) [.int a, .int b] [] (fun _ => some (.int (hashI a b))) (fun _ => []) := by
  refine OM.startQ (by decide) (Nat.le_of_ble_eq_true rfl) ?_
  intro p e s m below meth c A ls Q H locs hQ C hnm hl hT
  have hx := C.x
  have hb := C.b
  have hl : lv_has ls 3 [(0, .int a), (1, .int b)] := hl
  refine lv_iload_n hx hb dX5_hash_0 rfl (lv_at hl 0 rfl) ?_
  refine lv_ldc (v := 625341585) hx hb C.ow (C.ts _ k338) dX5_hash_1 ?_
  refine lv_ixor hx hb dX5_hash_3 ?_
  refine lv_ldc (v := (-1640531535)) hx hb C.ow (C.ts _ k339) dX5_hash_4 ?_
  refine lv_imul hx hb dX5_hash_6 ?_
  refine lv_iload_n hx hb dX5_hash_7 rfl (lv_at hl 1 rfl) ?_
  refine lv_ldc (v := (-2048144789)) hx hb C.ow (C.ts _ k340) dX5_hash_8 ?_
  refine lv_imul hx hb dX5_hash_10 ?_
  refine lv_iadd hx hb dX5_hash_11 ?_
  refine lv_topi (fun x_1 ex_1 => ?_)
  refine lv_istore_n (lv' := [(2, .int x_1), (0, .int a), (1, .int b)]) hx hb dX5_hash_12 rfl hl (by decide) rfl (fun ls hl => ?_)
  refine lv_iload_n hx hb dX5_hash_13 rfl (lv_at hl 0 rfl) ?_
  refine lv_iload_n hx hb dX5_hash_14 rfl (lv_at hl 0 rfl) ?_
  refine lv_bipush (v := 15) hx hb dX5_hash_15 (by decide) ?_
  refine lv_iushr hx hb dX5_hash_17 rfl ?_
  refine lv_ixor hx hb dX5_hash_18 ?_
  exact e_iret C hQ () hT (by subst ex_1; rfl) dX5_hash_19

set_option maxHeartbeats 400000 in
set_option maxRecDepth 100000 in
theorem c_X5_bound (l : Launch) (g : GT) (v : Int32) (lo : Int32) (hi : Int32) : OM (S := Unit) l g yX5_bound cX5_bound 3 (some .int) ({ frames := 1, cells := 0, slots := 0, locals := 23 } : Room) [.int v, .int lo, .int hi] [] (fun _ => some (.int (boundI v lo hi))) (fun _ => []) := by
  refine OM.startQ (by decide) (Nat.le_of_ble_eq_true rfl) ?_
  intro p e s m below meth c A ls Q H locs hQ C hnm hl hT
  have hx := C.x
  have hb := C.b
  have hl : lv_has ls 3 [(0, .int v), (1, .int lo), (2, .int hi)] := hl
  refine lv_iload_n hx hb dX5_bound_0 rfl (lv_at hl 1 rfl) ?_
  refine lv_iload_n hx hb dX5_bound_1 rfl (lv_at hl 2 rfl) ?_
  refine lv_iload_n hx hb dX5_bound_2 rfl (lv_at hl 0 rfl) ?_
  refine r_mmin C hl.1 k33 (Nat.le_of_ble_eq_true rfl) (Nat.le_of_ble_eq_true rfl) (Nat.le_of_ble_eq_true rfl) (Nat.le_of_ble_eq_true rfl) dX5_bound_3 ?_
  refine r_mmax C hl.1 k36 (Nat.le_of_ble_eq_true rfl) (Nat.le_of_ble_eq_true rfl) (Nat.le_of_ble_eq_true rfl) (Nat.le_of_ble_eq_true rfl) dX5_bound_6 ?_
  exact e_iret C hQ () hT (by rfl) dX5_bound_9

set_option maxHeartbeats 400000 in
set_option maxRecDepth 100000 in
theorem c_X5_squashed (l : Launch) (g : GT) (d : Int32) : OM (S := Unit) l g yX5_squashed cX5_squashed 3 (some .int) ({ frames := 0, cells := 0, slots := 0, locals := 0 } : Room) [.int d] [] (fun _ => some (.int (sqI d))) (fun _ => []) := by
  refine OM.startQ (by decide) (Nat.le_of_ble_eq_true rfl) ?_
  intro p e s m below meth c A ls Q H locs hQ C hnm hl hT
  have hx := C.x
  have hb := C.b
  have hl : lv_has ls 3 [(0, .int d)] := hl
  refine lv_iload_n hx hb dX5_squashed_0 rfl (lv_at hl 0 rfl) ?_
  refine lv_sipush (v := 2047) hx hb dX5_squashed_1 (by decide) ?_
  refine lv_icmp_le (tgt := 11) hx hb dX5_squashed_4 (by decide) (fun h_1 => ?_) (fun h_1 => ?_)
  · skip
    have h_1 := i32_nlt h_1
    refine lv_iload_n hx hb dX5_squashed_11 rfl (lv_at hl 0 rfl) ?_
    refine lv_sipush (v := (-2047)) hx hb dX5_squashed_12 (by decide) ?_
    refine lv_icmp_ge (tgt := 20) hx hb dX5_squashed_15 (by decide) (fun h_2 => ?_) (fun h_2 => ?_)
    · skip
      have h_2 := i32_nlt h_2
      refine lv_iload_n hx hb dX5_squashed_20 rfl (lv_at hl 0 rfl) ?_
      refine lv_bipush (v := 7) hx hb dX5_squashed_21 (by decide) ?_
      refine lv_ishr hx hb dX5_squashed_23 ?_
      refine lv_bipush (v := 16) hx hb dX5_squashed_24 (by decide) ?_
      refine lv_iadd hx hb dX5_squashed_26 ?_
      refine lv_topi (fun x_3 ex_3 => ?_)
      refine lv_istore_n (lv' := [(1, .int x_3), (0, .int d)]) hx hb dX5_squashed_27 rfl hl (by decide) rfl (fun ls hl => ?_)
      refine lv_iload_n hx hb dX5_squashed_28 rfl (lv_at hl 1 rfl) ?_
      refine lv_bipush (v := 127) hx hb dX5_squashed_29 (by decide) ?_
      refine lv_iand hx hb dX5_squashed_31 ?_
      refine lv_topi (fun x_4 ex_4 => ?_)
      refine lv_istore_n (lv' := [(2, .int x_4), (1, .int x_3), (0, .int d)]) hx hb dX5_squashed_32 rfl hl (by decide) rfl (fun ls hl => ?_)
      refine gsX5 C hT dX5_squashed_33 ?_
      refine lv_iload_n hx hb dX5_squashed_36 rfl (lv_at hl 1 rfl) ?_
      refine tsX5 C hT (sqK d) (by rw [ex_3]; exact sqK_eq h_1 h_2) (by have := sqK_lt h_1 h_2; omega) dX5_squashed_37 ?_
      refine lv_sipush (v := 128) hx hb dX5_squashed_38 (by decide) ?_
      refine lv_iload_n hx hb dX5_squashed_41 rfl (lv_at hl 0 rfl) ?_
      refine lv_isub hx hb dX5_squashed_42 ?_
      refine lv_imul hx hb dX5_squashed_43 ?_
      refine gsX5 C hT dX5_squashed_44 ?_
      refine lv_iload_n hx hb dX5_squashed_47 rfl (lv_at hl 1 rfl) ?_
      refine lv_iconst (v := 1) hx hb dX5_squashed_48 (by decide) ?_
      refine lv_iadd hx hb dX5_squashed_49 ?_
      refine tsX5 C hT (sqK d + 1) (by rw [ex_3, sqK_eq h_1 h_2]; exact nI_1 _) (by have := sqK_lt h_1 h_2; omega) dX5_squashed_50 ?_
      refine lv_iload_n hx hb dX5_squashed_51 rfl (lv_at hl 0 rfl) ?_
      refine lv_imul hx hb dX5_squashed_52 ?_
      refine lv_iadd hx hb dX5_squashed_53 ?_
      refine lv_bipush (v := 64) hx hb dX5_squashed_54 (by decide) ?_
      refine lv_iadd hx hb dX5_squashed_56 ?_
      refine lv_bipush (v := 7) hx hb dX5_squashed_57 (by decide) ?_
      refine lv_ishr hx hb dX5_squashed_59 ?_
      exact e_iret C hQ () hT (by subst ex_3 ex_4; rw [sqI, if_neg h_1, if_neg h_2]) dX5_squashed_60
    · skip
      have h_2 := i32_ltn h_2
      refine lv_iconst (v := 0) hx hb dX5_squashed_18 (by decide) ?_
      exact e_iret C hQ () hT (by rw [sqI, if_neg h_1, if_pos h_2]) dX5_squashed_19
  · skip
    refine lv_sipush (v := 4095) hx hb dX5_squashed_7 (by decide) ?_
    exact e_iret C hQ () hT (by rw [sqI, if_pos (i32_ltn h_1)]) dX5_squashed_10

set_option maxHeartbeats 400000 in
set_option maxRecDepth 100000 in
theorem c_X5_stretched (l : Launch) (g : GT) (a0 : Nat) (as : Nat) (f : Nat → Int32) (k : Nat) (hk : k < 4096) : OM (S := Unit) l g yX5_stretched cX5_stretched 2 (some .int) ({ frames := 2, cells := 0, slots := 0, locals := 45 } : Room) [.ref a0, .int (nI k)] [(a0, .inr (5, [.ref as])), (as, .inl (g.2.1 0, 4096, .inl f))] (fun _ => some (.int (f k))) (fun _ => [(a0, .inr (5, [.ref as])), (as, .inl (g.2.1 0, 4096, .inl f))]) := by
  refine OM.startQ (by decide) (Nat.le_of_ble_eq_true rfl) ?_
  intro p e s m below meth c A ls Q H locs hQ C hnm hl hT
  have hx := C.x
  have hb := C.b
  have hl : lv_has ls 2 [(0, .ref a0), (1, .int (nI k))] := hl
  refine lv_aload_n hx hb dX5_stretched_0 rfl (lv_at hl 0 rfl) ?_
  refine gX5_7 C hT (q0 := 0) rfl dX5_stretched_1 ?_
  refine lv_iload_n hx hb dX5_stretched_4 rfl (lv_at hl 1 rfl) ?_
  refine lv_iconst (v := 0) hx hb dX5_stretched_5 (by decide) ?_
  refine lv_aload_n hx hb dX5_stretched_6 rfl (lv_at hl 0 rfl) ?_
  refine gX5_7 C hT (q0 := 0) rfl dX5_stretched_7 ?_
  refine r_alen C hT (q0 := 1) 0 rfl rfl dX5_stretched_10 ?_
  refine W.eq (g2 := F0 m 11 ls [.int (nI 4096), .int 0, .int (nI k), .ref as]) rfl ?_
  refine lv_iconst (v := 1) hx hb dX5_stretched_11 (by decide) ?_
  refine lv_isub hx hb dX5_stretched_12 ?_
  refine W.eq (g2 := F0 m 13 ls [.int 4095, .int 0, .int (nI k), .ref as]) (congrArg (fun z => F0 m 13 ls (.int z :: [.int 0, .int (nI k), .ref as])) (rfl)) ?_
  have hM := c_X5_bound l g (nI k) 0 4095
  refine r_call0 (js := []) C hT (runS (js := []) (rm := ({ frames := 1, cells := 0, slots := 0, locals := 23 } : Room)) (As := [.int (nI k), .int 0, .int 4095]) (n := 3) (rest := [.ref as]) C hT hM rfl rfl k403 k31 k2 k32 (by decide +kernel) rfl rfl (Nat.le_of_ble_eq_true rfl) hl.1 ⟨Nat.le_of_ble_eq_true rfl, Nat.le_of_ble_eq_true rfl⟩ ⟨Nat.le_of_ble_eq_true rfl, Nat.le_of_ble_eq_true rfl⟩ dX5_stretched_13) rfl rfl (fun _ => rfl) (fun u H locs hT => ?_)
  have hT : Wd g A s [(a0, .inr (5, [.ref as])), (as, .inl (g.2.1 0, 4096, .inl f))] H locs := hT
  refine W.eq (g2 := F0 m 16 ls [.int (boundI (nI k) 0 4095), .ref as]) rfl ?_
  refine W.eq (g2 := F0 m 16 ls [.int (nI k), .ref as]) (congrArg (fun z => F0 m 16 ls (.int z :: [.ref as])) (boundI_id (a := 0) (b := 4095) (by omega) (by omega) (by decide))) ?_
  refine r_iald C hT (q0 := 1) rfl k rfl (by omega) (by decide) dX5_stretched_16 ?_
  exact e_iret C hQ () hT rfl dX5_stretched_17

set_option maxHeartbeats 400000 in
set_option maxRecDepth 100000 in
theorem c_X5_same (l : Launch) (g : GT) (a : Nat) (b : Nat) (n : Nat) (f : Nat → Int32) (k : Nat → Int32) (hn : n < 2 ^ 31) : OM (S := Unit) l g yX5_same cX5_same 3 (some .boolean) ({ frames := 0, cells := 0, slots := 0, locals := 0 } : Room) [.ref a, .ref b] [(a, .inl (g.2.1 0, n, .inl f)), (b, .inl (g.2.1 0, n, .inl k))] (fun _ => some (.int (b01 (eqTo f k n)))) (fun _ => [(a, .inl (g.2.1 0, n, .inl f)), (b, .inl (g.2.1 0, n, .inl k))]) := by
  refine OM.startQ (by decide) (Nat.le_of_ble_eq_true rfl) ?_
  intro p e s m below meth c A ls Q H locs hQ C hnm hl hT
  have hx := C.x
  have hb := C.b
  have hl : lv_has ls 3 [(0, .ref a), (1, .ref b)] := hl
  refine lv_aload_n hx hb dX5_same_0 rfl (lv_at hl 0 rfl) ?_
  refine r_alen C hT (q0 := 0) 0 rfl rfl dX5_same_1 ?_
  refine W.eq (g2 := F0 m 2 ls [.int (nI n)]) rfl ?_
  refine lv_aload_n hx hb dX5_same_2 rfl (lv_at hl 1 rfl) ?_
  refine r_alen C hT (q0 := 1) 0 rfl rfl dX5_same_3 ?_
  refine W.eq (g2 := F0 m 4 ls [.int (nI n), .int (nI n)]) rfl ?_
  refine lv_icmp_eq (tgt := 9) hx hb dX5_same_4 (by decide) (fun h_1 => ?_) (fun h_1 => ?_)
  · skip
    refine lv_iconst (v := 0) hx hb dX5_same_9 (by decide) ?_
    refine lv_istore_n (lv' := [(2, .int 0), (0, .ref a), (1, .ref b)]) hx hb dX5_same_10 rfl hl (by decide) rfl (fun ls hl => ?_)
    have loop_11 : ∀ (fu : Nat) (i : Nat) (x2 : Int32) (H : Heap) (locs : List Loc) (ls : Array Slot) (hi : i ≤ n) (ex2 : x2 = nI i) (he : eqTo f k i = true), n - i < fu → Wd g A s [(a, .inl (g.2.1 0, n, .inl f)), (b, .inl (g.2.1 0, n, .inl k))] H locs → lv_has ls 3 [(0, .ref a), (1, .ref b), (2, .int x2)] → W p l e ({ frames := 0, cells := 0, slots := 0, locals := 0 } : Room) s m ([.ref a, .ref b] : List Value).toArray below meth c H locs 0 0 Q (F0 m 11 ls []) := by
      intro fu
      induction fu with
      | zero => intro i x2 H locs ls hi ex2 he hm; exact absurd hm (Nat.not_lt_zero _)
      | succ fu ih =>
        intro i x2 H locs ls hi ex2 he hm hT hl
        refine lv_iload_n hx hb dX5_same_11 rfl (lv_at hl 2 rfl) ?_
        refine lv_aload_n hx hb dX5_same_12 rfl (lv_at hl 0 rfl) ?_
        refine r_alen C hT (q0 := 0) 0 rfl rfl dX5_same_13 ?_
        refine W.eq (g2 := F0 m 14 ls [.int (nI n), .int x2]) rfl ?_
        refine lv_icmp_ge (tgt := 40) hx hb dX5_same_14 (by decide) (fun h_2 => ?_) (fun h_2 => ?_)
        · skip
          have hin : i = n := by rcases Nat.lt_or_ge i n with q | q; exact absurd (ex2 ▸ h_2) (nI_ge q hn); omega
          refine lv_iconst (v := 1) hx hb dX5_same_40 (by decide) ?_
          exact e_zret C hQ () hT (by rw [← hin, he]; rfl) (by decide) dX5_same_41
        · skip
          have hin : i < n := by rcases Nat.lt_or_ge i n with q | q; exact q; exact absurd (by rw [ex2]; exact nI_le q (by omega)) h_2
          refine lv_iload_n hx hb dX5_same_17 rfl (lv_at hl 2 rfl) ?_
          refine lv_aload_n hx hb dX5_same_18 rfl (lv_at hl 1 rfl) ?_
          refine r_alen C hT (q0 := 1) 0 rfl rfl dX5_same_19 ?_
          refine W.eq (g2 := F0 m 20 ls [.int (nI n), .int x2]) rfl ?_
          refine lv_icmp_ge (tgt := 40) hx hb dX5_same_20 (by decide) (fun h_3 => ?_) (fun h_3 => ?_)
          · skip
            exact absurd (ex2 ▸ h_3) (nI_ge hin hn)
          · skip
            refine lv_aload_n hx hb dX5_same_23 rfl (lv_at hl 0 rfl) ?_
            refine lv_iload_n hx hb dX5_same_24 rfl (lv_at hl 2 rfl) ?_
            refine r_iald C hT (q0 := 0) rfl i ex2 hin (by omega) dX5_same_25 ?_
            refine lv_aload_n hx hb dX5_same_26 rfl (lv_at hl 1 rfl) ?_
            refine lv_iload_n hx hb dX5_same_27 rfl (lv_at hl 2 rfl) ?_
            refine r_iald C hT (q0 := 1) rfl i ex2 hin (by omega) dX5_same_28 ?_
            refine lv_icmp_eq (tgt := 34) hx hb dX5_same_29 (by decide) (fun h_4 => ?_) (fun h_4 => ?_)
            · skip
              obtain ⟨x_5, ex_5⟩ : ∃ y : Int32, y = x2 + 1 := ⟨_, rfl⟩
              refine lv_iinc (v := x_5) (lv' := [(2, .int x_5), (0, .ref a), (1, .ref b)]) hx hb dX5_same_34 hl (k := 2) rfl (by rw [ex_5]; rfl) (by decide) rfl (fun ls hl => ?_)
              refine lv_goto (tgt := 11) hx hb dX5_same_37 (by decide) ?_
              exact ih (i + 1) x_5 H locs ls (by first | assumption | omega | rfl) (by rw [ex_5, ex2]; exact nI_1 i) (by rw [eqTo_iff]; exact eqTo_s he h_4) (by omega) hT (lv_sub hl [1, 2, 0] rfl)
            · skip
              refine lv_iconst (v := 0) hx hb dX5_same_32 (by decide) ?_
              exact e_zret C hQ () hT (by rw [eqTo_ne hin h_4]; rfl) (by decide) dX5_same_33
    exact loop_11 (n - 0 + 1) 0 0 H locs ls (by first | assumption | omega | rfl) (by first | assumption | omega | rfl) rfl (Nat.lt_succ_self _) hT (lv_sub hl [1, 2, 0] rfl)
  · skip
    exact absurd rfl h_1

set_option maxHeartbeats 400000 in
set_option maxRecDepth 100000 in
theorem c_X0_reset (l : Launch) (g : GT) (a0 : Nat) (lo : Int64) (hi : Int64) : OM (S := Unit) l g yX0_reset cX0_reset 1 none ({ frames := 0, cells := 0, slots := 0, locals := 0 } : Room) [.ref a0] [(a0, .inr (0, [.long lo, .long hi]))] (fun _ => none) (fun _ => [(a0, .inr (0, [.long 0, .long 4294967295]))]) := by
  refine OM.startQ (by decide) (Nat.le_of_ble_eq_true rfl) ?_
  intro p e s m below meth c A ls Q H locs hQ C hnm hl hT
  have hx := C.x
  have hb := C.b
  have hl : lv_has ls 1 [(0, .ref a0)] := hl
  refine lv_aload_n hx hb dX0_reset_0 rfl (lv_at hl 0 rfl) ?_
  refine lv_lconst (v := 0) hx hb dX0_reset_1 (by decide) ?_
  refine pX0_15 C hT (q0 := 0) rfl dX0_reset_2 (fun H locs hT => ?_)
  have hT : Wd g A s [(a0, .inr (0, [.long 0, .long hi]))] H locs := hT
  refine lv_aload_n hx hb dX0_reset_5 rfl (lv_at hl 0 rfl) ?_
  refine lv_ldc2 (v := 4294967295) hx hb C.ow (C.ts _ k245) dX0_reset_6 ?_
  refine pX0_11 C hT (q0 := 0) rfl dX0_reset_9 (fun H locs hT => ?_)
  have hT : Wd g A s [(a0, .inr (0, [.long 0, .long 4294967295]))] H locs := hT
  exact e_vret C hQ () hT rfl dX0_reset_12

set_option maxHeartbeats 400000 in
set_option maxRecDepth 100000 in
theorem c_X0_middle (l : Launch) (g : GT) (a0 : Nat) (lo : Int64) (hi : Int64) (ch : Int32) : OM (S := Unit) l g yX0_middle cX0_middle 2 (some .long) ({ frames := 0, cells := 0, slots := 0, locals := 0 } : Room) [.ref a0, .int ch] [(a0, .inr (0, [.long lo, .long hi]))] (fun _ => some (.long (lo + ((hi - lo) >>> ((12 : Int32).toInt64 &&& 63)) * ch.toInt64))) (fun _ => [(a0, .inr (0, [.long lo, .long hi]))]) := by
  refine OM.startQ (by decide) (Nat.le_of_ble_eq_true rfl) ?_
  intro p e s m below meth c A ls Q H locs hQ C hnm hl hT
  have hx := C.x
  have hb := C.b
  have hl : lv_has ls 2 [(0, .ref a0), (1, .int ch)] := hl
  refine lv_aload_n hx hb dX0_middle_0 rfl (lv_at hl 0 rfl) ?_
  refine gX0_15 C hT (q0 := 0) rfl dX0_middle_1 ?_
  refine lv_aload_n hx hb dX0_middle_4 rfl (lv_at hl 0 rfl) ?_
  refine gX0_11 C hT (q0 := 0) rfl dX0_middle_5 ?_
  refine lv_aload_n hx hb dX0_middle_8 rfl (lv_at hl 0 rfl) ?_
  refine gX0_15 C hT (q0 := 0) rfl dX0_middle_9 ?_
  refine lv_lsub hx hb dX0_middle_12 ?_
  refine lv_bipush (v := 12) hx hb dX0_middle_13 (by decide) ?_
  refine lv_lshr hx hb dX0_middle_15 rfl ?_
  refine lv_iload_n hx hb dX0_middle_16 rfl (lv_at hl 1 rfl) ?_
  refine lv_i2l hx hb dX0_middle_17 rfl ?_
  refine lv_lmul hx hb dX0_middle_18 ?_
  refine lv_ladd hx hb dX0_middle_19 ?_
  exact e_lret C hQ () hT (by rfl) dX0_middle_20

set_option maxHeartbeats 400000 in
set_option maxRecDepth 100000 in
theorem c_X0_narrow (l : Launch) (g : GT) (a0 : Nat) (lo : Int64) (hi : Int64) (on : Int32) (md : Int64) : OM (S := Unit) l g yX0_narrow cX0_narrow 4 none ({ frames := 0, cells := 0, slots := 0, locals := 0 } : Room) [.ref a0, .int on, .long md] [(a0, .inr (0, [.long lo, .long hi]))] (fun _ => none) (fun _ => [(a0, .inr (0, [.long (if on = 0 then md + 1 else lo), .long (if on = 0 then hi else md)]))]) := by
  refine OM.startQ (by decide) (Nat.le_of_ble_eq_true rfl) ?_
  intro p e s m below meth c A ls Q H locs hQ C hnm hl hT
  have hx := C.x
  have hb := C.b
  have hl : lv_has ls 4 [(0, .ref a0), (1, .int on), (2, .long md)] := hl
  refine lv_iload_n hx hb dX0_narrow_0 rfl (lv_at hl 1 rfl) ?_
  refine lv_if_eq (tgt := 12) hx hb dX0_narrow_1 (by decide) (fun h_1 => ?_) (fun h_1 => ?_)
  · skip
    refine lv_aload_n hx hb dX0_narrow_12 rfl (lv_at hl 0 rfl) ?_
    refine lv_lload_n hx hb dX0_narrow_13 rfl (lv_at hl 2 rfl) ?_
    refine lv_lconst (v := 1) hx hb dX0_narrow_14 (by decide) ?_
    refine lv_ladd hx hb dX0_narrow_15 ?_
    refine lv_topl (fun x_2 ex_2 => ?_)
    refine pX0_15 C hT (q0 := 0) rfl dX0_narrow_16 (fun H locs hT => ?_)
    have hT : Wd g A s [(a0, .inr (0, [.long x_2, .long hi]))] H locs := hT
    exact e_vret C hQ () (by subst ex_2; simp only [h_1, if_true, if_false, not_true_eq_false, not_false_eq_true, ite_true, ite_false, true_and, and_true, false_and, and_false, true_or, or_true, false_or, or_false]; exact hT) rfl dX0_narrow_19
  · skip
    refine lv_aload_n hx hb dX0_narrow_4 rfl (lv_at hl 0 rfl) ?_
    refine lv_lload_n hx hb dX0_narrow_5 rfl (lv_at hl 2 rfl) ?_
    refine pX0_11 C hT (q0 := 0) rfl dX0_narrow_6 (fun H locs hT => ?_)
    have hT : Wd g A s [(a0, .inr (0, [.long lo, .long md]))] H locs := hT
    refine lv_goto (tgt := 19) hx hb dX0_narrow_9 (by decide) ?_
    exact e_vret C hQ () (by simp only [h_1, if_true, if_false, not_true_eq_false, not_false_eq_true, ite_true, ite_false, true_and, and_true, false_and, and_false, true_or, or_true, false_or, or_false]; exact hT) rfl dX0_narrow_19

set_option maxHeartbeats 400000 in
set_option maxRecDepth 100000 in
theorem c_X0_settled (l : Launch) (g : GT) (a0 : Nat) (lo : Int64) (hi : Int64) : OM (S := Unit) l g yX0_settled cX0_settled 1 (some .boolean) ({ frames := 0, cells := 0, slots := 0, locals := 0 } : Room) [.ref a0] [(a0, .inr (0, [.long lo, .long hi]))] (fun _ => some (.int (if lo >>> ((24 : Int32).toInt64 &&& 63) = hi >>> ((24 : Int32).toInt64 &&& 63) then 1 else 0))) (fun _ => [(a0, .inr (0, [.long lo, .long hi]))]) := by
  refine OM.startQ (by decide) (Nat.le_of_ble_eq_true rfl) ?_
  intro p e s m below meth c A ls Q H locs hQ C hnm hl hT
  have hx := C.x
  have hb := C.b
  have hl : lv_has ls 1 [(0, .ref a0)] := hl
  refine lv_aload_n hx hb dX0_settled_0 rfl (lv_at hl 0 rfl) ?_
  refine gX0_15 C hT (q0 := 0) rfl dX0_settled_1 ?_
  refine lv_bipush (v := 24) hx hb dX0_settled_4 (by decide) ?_
  refine lv_lshr hx hb dX0_settled_6 rfl ?_
  refine lv_aload_n hx hb dX0_settled_7 rfl (lv_at hl 0 rfl) ?_
  refine gX0_11 C hT (q0 := 0) rfl dX0_settled_8 ?_
  refine lv_bipush (v := 24) hx hb dX0_settled_11 (by decide) ?_
  refine lv_lshr hx hb dX0_settled_13 rfl ?_
  refine W.lcmp hx hb dX0_settled_14 ?_
  refine lv_if_ne (tgt := 22) hx hb dX0_settled_15 (by decide) (fun h_1 => ?_) (fun h_1 => ?_)
  · skip
    have h_1 : ¬ lo >>> ((24 : Int32).toInt64 &&& 63) = hi >>> ((24 : Int32).toInt64 &&& 63) := fun q => h_1 ((lg_cmp_eq _ _).mpr q)
    refine lv_iconst (v := 0) hx hb dX0_settled_22 (by decide) ?_
    exact e_zret C hQ () hT (by simp only [h_1, if_true, if_false, not_true_eq_false, not_false_eq_true, ite_true, ite_false, true_and, and_true, false_and, and_false, true_or, or_true, false_or, or_false]) (by decide) dX0_settled_23
  · skip
    have h_1 : lo >>> ((24 : Int32).toInt64 &&& 63) = hi >>> ((24 : Int32).toInt64 &&& 63) := (lg_cmp_eq _ _).mp h_1
    refine lv_iconst (v := 1) hx hb dX0_settled_18 (by decide) ?_
    refine lv_goto (tgt := 23) hx hb dX0_settled_19 (by decide) ?_
    exact e_zret C hQ () hT (by simp only [h_1, if_true, if_false, not_true_eq_false, not_false_eq_true, ite_true, ite_false, true_and, and_true, false_and, and_false, true_or, or_true, false_or, or_false]) (by decide) dX0_settled_23

set_option maxHeartbeats 400000 in
set_option maxRecDepth 100000 in
theorem c_X0_highestOfLow (l : Launch) (g : GT) (a0 : Nat) (lo : Int64) (hi : Int64) : OM (S := Unit) l g yX0_highestOfLow cX0_highestOfLow 1 (some .int) ({ frames := 0, cells := 0, slots := 0, locals := 0 } : Room) [.ref a0] [(a0, .inr (0, [.long lo, .long hi]))] (fun _ => some (.int ((lo >>> ((24 : Int32).toInt64 &&& 63)).toInt32 &&& 255))) (fun _ => [(a0, .inr (0, [.long lo, .long hi]))]) := by
  refine OM.startQ (by decide) (Nat.le_of_ble_eq_true rfl) ?_
  intro p e s m below meth c A ls Q H locs hQ C hnm hl hT
  have hx := C.x
  have hb := C.b
  have hl : lv_has ls 1 [(0, .ref a0)] := hl
  refine lv_aload_n hx hb dX0_highestOfLow_0 rfl (lv_at hl 0 rfl) ?_
  refine gX0_15 C hT (q0 := 0) rfl dX0_highestOfLow_1 ?_
  refine lv_bipush (v := 24) hx hb dX0_highestOfLow_4 (by decide) ?_
  refine lv_lshr hx hb dX0_highestOfLow_6 rfl ?_
  refine lv_l2i hx hb dX0_highestOfLow_7 rfl ?_
  refine lv_sipush (v := 255) hx hb dX0_highestOfLow_8 (by decide) ?_
  refine lv_iand hx hb dX0_highestOfLow_11 ?_
  exact e_iret C hQ () hT (by rfl) dX0_highestOfLow_12

set_option maxHeartbeats 400000 in
set_option maxRecDepth 100000 in
theorem c_X0_shift (l : Launch) (g : GT) (a0 : Nat) (lo : Int64) (hi : Int64) : OM (S := Unit) l g yX0_shift cX0_shift 1 none ({ frames := 0, cells := 0, slots := 0, locals := 0 } : Room) [.ref a0] [(a0, .inr (0, [.long lo, .long hi]))] (fun _ => none) (fun _ => [(a0, .inr (0, [.long ((lo <<< ((8 : Int32).toInt64 &&& 63)) &&& 4294967295), .long (((hi <<< ((8 : Int32).toInt64 &&& 63)) &&& 4294967295) ||| 255)]))]) := by
  refine OM.startQ (by decide) (Nat.le_of_ble_eq_true rfl) ?_
  intro p e s m below meth c A ls Q H locs hQ C hnm hl hT
  have hx := C.x
  have hb := C.b
  have hl : lv_has ls 1 [(0, .ref a0)] := hl
  refine lv_aload_n hx hb dX0_shift_0 rfl (lv_at hl 0 rfl) ?_
  refine lv_aload_n hx hb dX0_shift_1 rfl (lv_at hl 0 rfl) ?_
  refine gX0_15 C hT (q0 := 0) rfl dX0_shift_2 ?_
  refine lv_bipush (v := 8) hx hb dX0_shift_5 (by decide) ?_
  refine lv_lshl hx hb dX0_shift_7 rfl ?_
  refine lv_ldc2 (v := 4294967295) hx hb C.ow (C.ts _ k245) dX0_shift_8 ?_
  refine lv_land hx hb dX0_shift_11 ?_
  refine lv_topl (fun x_1 ex_1 => ?_)
  refine pX0_15 C hT (q0 := 0) rfl dX0_shift_12 (fun H locs hT => ?_)
  have hT : Wd g A s [(a0, .inr (0, [.long x_1, .long hi]))] H locs := hT
  refine lv_aload_n hx hb dX0_shift_15 rfl (lv_at hl 0 rfl) ?_
  refine lv_aload_n hx hb dX0_shift_16 rfl (lv_at hl 0 rfl) ?_
  refine gX0_11 C hT (q0 := 0) rfl dX0_shift_17 ?_
  refine lv_bipush (v := 8) hx hb dX0_shift_20 (by decide) ?_
  refine lv_lshl hx hb dX0_shift_22 rfl ?_
  refine lv_ldc2 (v := 4294967295) hx hb C.ow (C.ts _ k245) dX0_shift_23 ?_
  refine lv_land hx hb dX0_shift_26 ?_
  refine lv_ldc2 (v := 255) hx hb C.ow (C.ts _ k456) dX0_shift_27 ?_
  refine lv_lor hx hb dX0_shift_30 ?_
  refine lv_topl (fun x_2 ex_2 => ?_)
  refine pX0_11 C hT (q0 := 0) rfl dX0_shift_31 (fun H locs hT => ?_)
  have hT : Wd g A s [(a0, .inr (0, [.long x_1, .long x_2]))] H locs := hT
  exact e_vret C hQ () (by subst ex_1 ex_2; exact hT) rfl dX0_shift_34

set_option maxHeartbeats 400000 in
set_option maxRecDepth 100000 in
theorem c_X6_has (l : Launch) (g : GT) (a0 : Nat) (ab : Nat) (n : Nat) (i : Int32) : OM (S := Unit) l g yX6_has cX6_has 2 (some .boolean) ({ frames := 0, cells := 0, slots := 0, locals := 0 } : Room) [.ref a0, .int i] [(a0, .inr (6, [.ref ab, .int (nI n)]))] (fun _ => some (.int (b01 (inR i n)))) (fun _ => [(a0, .inr (6, [.ref ab, .int (nI n)]))]) := by
  refine OM.startQ (by decide) (Nat.le_of_ble_eq_true rfl) ?_
  intro p e s m below meth c A ls Q H locs hQ C hnm hl hT
  have hx := C.x
  have hb := C.b
  have hl : lv_has ls 2 [(0, .ref a0), (1, .int i)] := hl
  refine lv_iload_n hx hb dX6_has_0 rfl (lv_at hl 1 rfl) ?_
  refine lv_if_lt (tgt := 16) hx hb dX6_has_1 (by decide) (fun h_1 => ?_) (fun h_1 => ?_)
  · skip
    refine lv_iconst (v := 0) hx hb dX6_has_16 (by decide) ?_
    exact e_zret C hQ () hT (by simp [b01, inR, h_1]) (by decide) dX6_has_17
  · skip
    refine lv_iload_n hx hb dX6_has_4 rfl (lv_at hl 1 rfl) ?_
    refine lv_aload_n hx hb dX6_has_5 rfl (lv_at hl 0 rfl) ?_
    refine gX6_17 C hT (q0 := 0) rfl dX6_has_6 ?_
    refine lv_icmp_ge (tgt := 16) hx hb dX6_has_9 (by decide) (fun h_2 => ?_) (fun h_2 => ?_)
    · skip
      refine lv_iconst (v := 0) hx hb dX6_has_16 (by decide) ?_
      exact e_zret C hQ () hT (by simp [b01, inR, h_1, h_2]) (by decide) dX6_has_17
    · skip
      refine lv_iconst (v := 1) hx hb dX6_has_12 (by decide) ?_
      refine lv_goto (tgt := 17) hx hb dX6_has_13 (by decide) ?_
      exact e_zret C hQ () hT (by simp [b01, inR, h_1, h_2]) (by decide) dX6_has_17

set_option maxHeartbeats 400000 in
set_option maxRecDepth 100000 in
theorem c_X6_byteAt (l : Launch) (g : GT) (a0 : Nat) (ab : Nat) (n : Nat) (f : Nat → Int32) (i : Int32) (hn : n ≤ 3028) : OM (S := Unit) l g yX6_byteAt cX6_byteAt 2 (some .int) ({ frames := 1, cells := 0, slots := 0, locals := 21 } : Room) [.ref a0, .int i] [(a0, .inr (6, [.ref ab, .int (nI n)])), (ab, .inl (g.2.1 0, 3028, .inl f))] (fun _ => some (.int (if inR i n = true then f i.toNatClampNeg else 0))) (fun _ => [(a0, .inr (6, [.ref ab, .int (nI n)])), (ab, .inl (g.2.1 0, 3028, .inl f))]) := by
  refine OM.startQ (by decide) (Nat.le_of_ble_eq_true rfl) ?_
  intro p e s m below meth c A ls Q H locs hQ C hnm hl hT
  have hx := C.x
  have hb := C.b
  have hl : lv_has ls 2 [(0, .ref a0), (1, .int i)] := hl
  refine lv_aload_n hx hb dX6_byteAt_0 rfl (lv_at hl 0 rfl) ?_
  refine lv_iload_n hx hb dX6_byteAt_1 rfl (lv_at hl 1 rfl) ?_
  have hM := c_X6_has l g a0 ab n i
  refine r_call0 (js := [0]) C hT (runV (js := [0]) (rm := ({ frames := 0, cells := 0, slots := 0, locals := 0 } : Room)) (As := [.int i]) (n := 1) (q1 := 0) (rest := []) C hT hM rfl rfl k518 k511 k512 k13 k513 (by decide +kernel) rfl rfl rfl rfl (Nat.le_of_ble_eq_true rfl) hl.1 ⟨Nat.le_of_ble_eq_true rfl, Nat.le_of_ble_eq_true rfl⟩ ⟨Nat.le_of_ble_eq_true rfl, Nat.le_of_ble_eq_true rfl⟩ dX6_byteAt_2) rfl rfl (fun _ => rfl) (fun u H locs hT => ?_)
  have hT : Wd g A s [(a0, .inr (6, [.ref ab, .int (nI n)])), (ab, .inl (g.2.1 0, 3028, .inl f))] H locs := hT
  refine W.eq (g2 := F0 m 5 ls [.int (b01 (inR i n))]) rfl ?_
  refine lv_if_eq (tgt := 17) hx hb dX6_byteAt_5 (by decide) (fun h_1 => ?_) (fun h_1 => ?_)
  · skip
    have h_1 := b01_f h_1
    refine lv_iconst (v := 0) hx hb dX6_byteAt_17 (by decide) ?_
    exact e_iret C hQ () hT (by first | (rw [if_pos h_1, ej, nI_clamp (by omega)]; done) | (rw [h_1]; rfl)) dX6_byteAt_18
  · skip
    have h_1 := b01_t h_1
    obtain ⟨j, hj, ej⟩ := inR_of (by omega) h_1
    refine lv_aload_n hx hb dX6_byteAt_8 rfl (lv_at hl 0 rfl) ?_
    refine gX6_13 C hT (q0 := 0) rfl dX6_byteAt_9 ?_
    refine lv_iload_n hx hb dX6_byteAt_12 rfl (lv_at hl 1 rfl) ?_
    refine r_iald C hT (q0 := 1) rfl j ej (by omega) (by decide) dX6_byteAt_13 ?_
    refine lv_goto (tgt := 18) hx hb dX6_byteAt_14 (by decide) ?_
    exact e_iret C hQ () hT (by first | (rw [if_pos h_1, ej, nI_clamp (by omega)]; done) | (rw [h_1]; rfl)) dX6_byteAt_18

set_option maxHeartbeats 400000 in
set_option maxRecDepth 100000 in
theorem c_X6_add (l : Launch) (g : GT) (a0 : Nat) (ab : Nat) (n : Nat) (f : Nat → Int32) (b : Int32) (hn : n < 3028) : OM (S := Unit) l g yX6_add cX6_add 2 none ({ frames := 0, cells := 0, slots := 0, locals := 0 } : Room) [.ref a0, .int b] [(a0, .inr (6, [.ref ab, .int (nI n)])), (ab, .inl (g.2.1 0, 3028, .inl f))] (fun _ => none) (fun _ => [(a0, .inr (6, [.ref ab, .int (nI (n + 1))])), (ab, .inl (g.2.1 0, 3028, .inl (upd f n b)))]) := by
  refine OM.startQ (by decide) (Nat.le_of_ble_eq_true rfl) ?_
  intro p e s m below meth c A ls Q H locs hQ C hnm hl hT
  have hx := C.x
  have hb := C.b
  have hl : lv_has ls 2 [(0, .ref a0), (1, .int b)] := hl
  refine lv_aload_n hx hb dX6_add_0 rfl (lv_at hl 0 rfl) ?_
  refine gX6_17 C hT (q0 := 0) rfl dX6_add_1 ?_
  refine lv_aload_n hx hb dX6_add_4 rfl (lv_at hl 0 rfl) ?_
  refine gX6_13 C hT (q0 := 0) rfl dX6_add_5 ?_
  refine r_alen C hT (q0 := 1) 0 rfl rfl dX6_add_8 ?_
  refine W.eq (g2 := F0 m 9 ls [.int (nI 3028), .int (nI n)]) rfl ?_
  refine lv_icmp_ge (tgt := 32) hx hb dX6_add_9 (by decide) (fun h_1 => ?_) (fun h_1 => ?_)
  · skip
    exact absurd h_1 (nI_ge hn (by decide))
  · skip
    refine lv_aload_n hx hb dX6_add_12 rfl (lv_at hl 0 rfl) ?_
    refine gX6_13 C hT (q0 := 0) rfl dX6_add_13 ?_
    refine lv_aload_n hx hb dX6_add_16 rfl (lv_at hl 0 rfl) ?_
    refine gX6_17 C hT (q0 := 0) rfl dX6_add_17 ?_
    refine lv_iload_n hx hb dX6_add_20 rfl (lv_at hl 1 rfl) ?_
    refine r_iast C hT (q0 := 1) rfl n rfl (by omega) (by decide) dX6_add_21 (fun H locs hT => ?_)
    have hT : Wd g A s [(a0, .inr (6, [.ref ab, .int (nI n)])), (ab, .inl (g.2.1 0, 3028, .inl (upd f n b)))] H locs := hT
    refine lv_aload_n hx hb dX6_add_22 rfl (lv_at hl 0 rfl) ?_
    refine lv_dup hx hb dX6_add_23 rfl ?_
    refine gX6_17 C hT (q0 := 0) rfl dX6_add_24 ?_
    refine lv_iconst (v := 1) hx hb dX6_add_27 (by decide) ?_
    refine lv_iadd hx hb dX6_add_28 ?_
    refine W.eq (g2 := F0 m 29 ls [.int (nI (n + 1)), .ref a0]) (congrArg (fun z => F0 m 29 ls (.int z :: [.ref a0])) (nI_1 n)) ?_
    refine pX6_17 C hT (q0 := 0) rfl dX6_add_29 (fun H locs hT => ?_)
    have hT : Wd g A s [(a0, .inr (6, [.ref ab, .int (nI (n + 1))])), (ab, .inl (g.2.1 0, 3028, .inl (upd f n b)))] H locs := hT
    exact e_vret C hQ () hT rfl dX6_add_32

set_option maxHeartbeats 400000 in
set_option maxRecDepth 100000 in
theorem c_X6_flip (l : Launch) (g : GT) (a0 : Nat) (ab : Nat) (n : Nat) (f : Nat → Int32) (j : Nat) (mk : Int32) (hj : j < n) (hn : n ≤ 3028) : OM (S := Unit) l g yX6_flip cX6_flip 3 none ({ frames := 1, cells := 0, slots := 0, locals := 21 } : Room) [.ref a0, .int (nI j), .int mk] [(a0, .inr (6, [.ref ab, .int (nI n)])), (ab, .inl (g.2.1 0, 3028, .inl f))] (fun _ => none) (fun _ => [(a0, .inr (6, [.ref ab, .int (nI n)])), (ab, .inl (g.2.1 0, 3028, .inl (upd f j (f j ^^^ mk))))]) := by
  refine OM.startQ (by decide) (Nat.le_of_ble_eq_true rfl) ?_
  intro p e s m below meth c A ls Q H locs hQ C hnm hl hT
  have hx := C.x
  have hb := C.b
  have hl : lv_has ls 3 [(0, .ref a0), (1, .int (nI j)), (2, .int mk)] := hl
  refine lv_aload_n hx hb dX6_flip_0 rfl (lv_at hl 0 rfl) ?_
  refine lv_iload_n hx hb dX6_flip_1 rfl (lv_at hl 1 rfl) ?_
  have hM := c_X6_has l g a0 ab n (nI j)
  refine r_call0 (js := [0]) C hT (runV (js := [0]) (rm := ({ frames := 0, cells := 0, slots := 0, locals := 0 } : Room)) (As := [.int (nI j)]) (n := 1) (q1 := 0) (rest := []) C hT hM rfl rfl k518 k511 k512 k13 k513 (by decide +kernel) rfl rfl rfl rfl (Nat.le_of_ble_eq_true rfl) hl.1 ⟨Nat.le_of_ble_eq_true rfl, Nat.le_of_ble_eq_true rfl⟩ ⟨Nat.le_of_ble_eq_true rfl, Nat.le_of_ble_eq_true rfl⟩ dX6_flip_2) rfl rfl (fun _ => rfl) (fun u H locs hT => ?_)
  have hT : Wd g A s [(a0, .inr (6, [.ref ab, .int (nI n)])), (ab, .inl (g.2.1 0, 3028, .inl f))] H locs := hT
  refine W.eq (g2 := F0 m 5 ls [.int (b01 (inR (nI j) n))]) rfl ?_
  refine lv_if_eq (tgt := 18) hx hb dX6_flip_5 (by decide) (fun h_1 => ?_) (fun h_1 => ?_)
  · skip
    exact absurd (b01_f h_1) (by rw [inR_nI hj (by omega)]; decide)
  · skip
    refine lv_aload_n hx hb dX6_flip_8 rfl (lv_at hl 0 rfl) ?_
    refine gX6_13 C hT (q0 := 0) rfl dX6_flip_9 ?_
    refine lv_iload_n hx hb dX6_flip_12 rfl (lv_at hl 1 rfl) ?_
    refine lv_dup2_11 hx hb dX6_flip_13 rfl rfl ?_
    refine r_iald C hT (q0 := 1) rfl j rfl (by omega) (by decide) dX6_flip_14 ?_
    refine lv_iload_n hx hb dX6_flip_15 rfl (lv_at hl 2 rfl) ?_
    refine lv_ixor hx hb dX6_flip_16 ?_
    refine lv_topi (fun x_2 ex_2 => ?_)
    refine r_iast C hT (q0 := 1) rfl j rfl (by omega) (by decide) dX6_flip_17 (fun H locs hT => ?_)
    have hT : Wd g A s [(a0, .inr (6, [.ref ab, .int (nI n)])), (ab, .inl (g.2.1 0, 3028, .inl (upd f j x_2)))] H locs := hT
    exact e_vret C hQ () (by subst ex_2; exact hT) rfl dX6_flip_18
end
section
set_option maxHeartbeats 400000 in
set_option maxRecDepth 100000 in
theorem c_X7_allows (l : Launch) (g : GT) (kd : Int32) (nn : Int32) : OM (S := Unit) l g yX7_allows cX7_allows 2 (some .boolean) ({ frames := 0, cells := 0, slots := 0, locals := 0 } : Room) [.int kd, .int nn] [] (fun _ => some (.int (b01 (allowB kd nn)))) (fun _ => []) := by
  refine OM.startQ (by decide) (Nat.le_of_ble_eq_true rfl) ?_
  intro p e s m below meth c A ls Q H locs hQ C hnm hl hT
  have hx := C.x
  have hb := C.b
  have hl : lv_has ls 2 [(0, .int kd), (1, .int nn)] := hl
  refine lv_iload_n hx hb dX7_allows_0 rfl (lv_at hl 0 rfl) ?_
  by_cases h_1 : kd = 0
  · skip
    refine lv_tableIn (off := 35) (tgt := 36) hx hb dX7_allows_1 (by rw [h_1]; decide) (by rw [h_1]; decide) (by rw [h_1]; rfl) (by decide) ?_
    refine lv_iload_n hx hb dX7_allows_36 rfl (lv_at hl 1 rfl) ?_
    refine lv_if_lt (tgt := 50) hx hb dX7_allows_37 (by decide) (fun h_2 => ?_) (fun h_2 => ?_)
    · skip
      refine lv_iconst (v := 0) hx hb dX7_allows_50 (by decide) ?_
      exact e_zret C hQ () hT (by simp [b01, allowB, h_1, h_2]) (by decide) dX7_allows_51
    · skip
      refine lv_iload_n hx hb dX7_allows_40 rfl (lv_at hl 1 rfl) ?_
      refine lv_bipush (v := 6) hx hb dX7_allows_41 (by decide) ?_
      refine lv_icmp_gt (tgt := 50) hx hb dX7_allows_43 (by decide) (fun h_3 => ?_) (fun h_3 => ?_)
      · skip
        refine lv_iconst (v := 0) hx hb dX7_allows_50 (by decide) ?_
        exact e_zret C hQ () hT (by simp [b01, allowB, h_1, h_2, h_3]) (by decide) dX7_allows_51
      · skip
        refine lv_iconst (v := 1) hx hb dX7_allows_46 (by decide) ?_
        refine lv_goto (tgt := 51) hx hb dX7_allows_47 (by decide) ?_
        exact e_zret C hQ () hT (by simp [b01, allowB, h_1, h_2, h_3]) (by decide) dX7_allows_51
  by_cases h_4 : kd = 1
  · skip
    refine lv_tableIn (off := 51) (tgt := 52) hx hb dX7_allows_1 (by rw [h_4]; decide) (by rw [h_4]; decide) (by rw [h_4]; rfl) (by decide) ?_
    refine lv_iconst (v := 1) hx hb dX7_allows_52 (by decide) ?_
    exact e_zret C hQ () hT (by simp [b01, allowB, h_1, h_4]) (by decide) dX7_allows_53
  by_cases h_5 : kd = 2
  · skip
    refine lv_tableIn (off := 53) (tgt := 54) hx hb dX7_allows_1 (by rw [h_5]; decide) (by rw [h_5]; decide) (by rw [h_5]; rfl) (by decide) ?_
    refine lv_iload_n hx hb dX7_allows_54 rfl (lv_at hl 1 rfl) ?_
    refine lv_iconst (v := 1) hx hb dX7_allows_55 (by decide) ?_
    refine lv_icmp_lt (tgt := 69) hx hb dX7_allows_56 (by decide) (fun h_6 => ?_) (fun h_6 => ?_)
    · skip
      refine lv_iconst (v := 0) hx hb dX7_allows_69 (by decide) ?_
      exact e_zret C hQ () hT (by simp [b01, allowB, h_1, h_4, h_5, h_6]) (by decide) dX7_allows_70
    · skip
      refine lv_iload_n hx hb dX7_allows_59 rfl (lv_at hl 1 rfl) ?_
      refine lv_bipush (v := 64) hx hb dX7_allows_60 (by decide) ?_
      refine lv_icmp_gt (tgt := 69) hx hb dX7_allows_62 (by decide) (fun h_7 => ?_) (fun h_7 => ?_)
      · skip
        refine lv_iconst (v := 0) hx hb dX7_allows_69 (by decide) ?_
        exact e_zret C hQ () hT (by simp [b01, allowB, h_1, h_4, h_5, h_6, h_7]) (by decide) dX7_allows_70
      · skip
        refine lv_iconst (v := 1) hx hb dX7_allows_65 (by decide) ?_
        refine lv_goto (tgt := 70) hx hb dX7_allows_66 (by decide) ?_
        exact e_zret C hQ () hT (by simp [b01, allowB, h_1, h_4, h_5, h_6, h_7]) (by decide) dX7_allows_70
  by_cases h_8 : kd = 3
  · skip
    refine lv_tableIn (off := 70) (tgt := 71) hx hb dX7_allows_1 (by rw [h_8]; decide) (by rw [h_8]; decide) (by rw [h_8]; rfl) (by decide) ?_
    refine lv_iload_n hx hb dX7_allows_71 rfl (lv_at hl 1 rfl) ?_
    refine lv_iconst (v := 1) hx hb dX7_allows_72 (by decide) ?_
    refine lv_icmp_lt (tgt := 86) hx hb dX7_allows_73 (by decide) (fun h_9 => ?_) (fun h_9 => ?_)
    · skip
      refine lv_iconst (v := 0) hx hb dX7_allows_86 (by decide) ?_
      exact e_zret C hQ () hT (by simp [b01, allowB, h_1, h_4, h_5, h_8, h_9]) (by decide) dX7_allows_87
    · skip
      refine lv_iload_n hx hb dX7_allows_76 rfl (lv_at hl 1 rfl) ?_
      refine lv_bipush (v := 15) hx hb dX7_allows_77 (by decide) ?_
      refine lv_icmp_gt (tgt := 86) hx hb dX7_allows_79 (by decide) (fun h_10 => ?_) (fun h_10 => ?_)
      · skip
        refine lv_iconst (v := 0) hx hb dX7_allows_86 (by decide) ?_
        exact e_zret C hQ () hT (by simp [b01, allowB, h_1, h_4, h_5, h_8, h_9, h_10]) (by decide) dX7_allows_87
      · skip
        refine lv_iconst (v := 1) hx hb dX7_allows_82 (by decide) ?_
        refine lv_goto (tgt := 87) hx hb dX7_allows_83 (by decide) ?_
        exact e_zret C hQ () hT (by simp [b01, allowB, h_1, h_4, h_5, h_8, h_9, h_10]) (by decide) dX7_allows_87
  by_cases h_11 : kd = 4
  · skip
    refine lv_tableIn (off := 87) (tgt := 88) hx hb dX7_allows_1 (by rw [h_11]; decide) (by rw [h_11]; decide) (by rw [h_11]; rfl) (by decide) ?_
    refine lv_iload_n hx hb dX7_allows_88 rfl (lv_at hl 1 rfl) ?_
    refine lv_iconst (v := 3) hx hb dX7_allows_89 (by decide) ?_
    refine lv_icmp_lt (tgt := 103) hx hb dX7_allows_90 (by decide) (fun h_12 => ?_) (fun h_12 => ?_)
    · skip
      refine lv_iconst (v := 0) hx hb dX7_allows_103 (by decide) ?_
      exact e_zret C hQ () hT (by simp [b01, allowB, h_1, h_4, h_5, h_8, h_11, h_12]) (by decide) dX7_allows_104
    · skip
      refine lv_iload_n hx hb dX7_allows_93 rfl (lv_at hl 1 rfl) ?_
      refine lv_bipush (v := 8) hx hb dX7_allows_94 (by decide) ?_
      refine lv_icmp_gt (tgt := 103) hx hb dX7_allows_96 (by decide) (fun h_13 => ?_) (fun h_13 => ?_)
      · skip
        refine lv_iconst (v := 0) hx hb dX7_allows_103 (by decide) ?_
        exact e_zret C hQ () hT (by simp [b01, allowB, h_1, h_4, h_5, h_8, h_11, h_12, h_13]) (by decide) dX7_allows_104
      · skip
        refine lv_iconst (v := 1) hx hb dX7_allows_99 (by decide) ?_
        refine lv_goto (tgt := 104) hx hb dX7_allows_100 (by decide) ?_
        exact e_zret C hQ () hT (by simp [b01, allowB, h_1, h_4, h_5, h_8, h_11, h_12, h_13]) (by decide) dX7_allows_104
  refine lv_tableOut (tgt := 105) hx hb dX7_allows_1 (swOut5 h_1 h_4 h_5 h_8 h_11) (by decide) ?_
  refine lv_iconst (v := 0) hx hb dX7_allows_105 (by decide) ?_
  exact e_zret C hQ () hT (by simp [b01, allowB, h_1, h_4, h_5, h_8, h_11]) (by decide) dX7_allows_106

set_option maxHeartbeats 400000 in
set_option maxRecDepth 100000 in
theorem c_X7_has (l : Launch) (g : GT) (a0 : Nat) (ak : Nat) (an : Nat) (ao : Nat) (n : Nat) (i : Int32) : OM (S := Unit) l g yX7_has cX7_has 2 (some .boolean) ({ frames := 0, cells := 0, slots := 0, locals := 0 } : Room) [.ref a0, .int i] [(a0, .inr (7, [.ref ak, .ref an, .ref ao, .int (nI n)]))] (fun _ => some (.int (b01 (inR i n)))) (fun _ => [(a0, .inr (7, [.ref ak, .ref an, .ref ao, .int (nI n)]))]) := by
  refine OM.startQ (by decide) (Nat.le_of_ble_eq_true rfl) ?_
  intro p e s m below meth c A ls Q H locs hQ C hnm hl hT
  have hx := C.x
  have hb := C.b
  have hl : lv_has ls 2 [(0, .ref a0), (1, .int i)] := hl
  refine lv_iload_n hx hb dX7_has_0 rfl (lv_at hl 1 rfl) ?_
  refine lv_if_lt (tgt := 16) hx hb dX7_has_1 (by decide) (fun h_1 => ?_) (fun h_1 => ?_)
  · skip
    refine lv_iconst (v := 0) hx hb dX7_has_16 (by decide) ?_
    exact e_zret C hQ () hT (by simp [b01, inR, h_1]) (by decide) dX7_has_17
  · skip
    refine lv_iload_n hx hb dX7_has_4 rfl (lv_at hl 1 rfl) ?_
    refine lv_aload_n hx hb dX7_has_5 rfl (lv_at hl 0 rfl) ?_
    refine gX7_22 C hT (q0 := 0) rfl dX7_has_6 ?_
    refine lv_icmp_ge (tgt := 16) hx hb dX7_has_9 (by decide) (fun h_2 => ?_) (fun h_2 => ?_)
    · skip
      refine lv_iconst (v := 0) hx hb dX7_has_16 (by decide) ?_
      exact e_zret C hQ () hT (by simp [b01, inR, h_1, h_2]) (by decide) dX7_has_17
    · skip
      refine lv_iconst (v := 1) hx hb dX7_has_12 (by decide) ?_
      refine lv_goto (tgt := 17) hx hb dX7_has_13 (by decide) ?_
      exact e_zret C hQ () hT (by simp [b01, inR, h_1, h_2]) (by decide) dX7_has_17

set_option maxHeartbeats 400000 in
set_option maxRecDepth 100000 in
theorem c_X7_add (l : Launch) (g : GT) (a0 : Nat) (ak : Nat) (an : Nat) (ao : Nat) (n : Nat) (fk : Nat → Int32) (fn : Nat → Int32) (fo : Nat → Int32) (kd : Int32) (nn : Int32) (hn : n < 8) : OM (S := Unit) l g yX7_add cX7_add 3 (some .int) ({ frames := 0, cells := 0, slots := 0, locals := 0 } : Room) [.ref a0, .int kd, .int nn] [(a0, .inr (7, [.ref ak, .ref an, .ref ao, .int (nI n)])), (ak, .inl (g.2.1 0, 8, .inl fk)), (an, .inl (g.2.1 0, 8, .inl fn)), (ao, .inl (g.2.1 2, 8, .inl fo))] (fun _ => some (.int (nI n))) (fun _ => [(a0, .inr (7, [.ref ak, .ref an, .ref ao, .int (nI (n + 1))])), (ak, .inl (g.2.1 0, 8, .inl (upd fk n kd))), (an, .inl (g.2.1 0, 8, .inl (upd fn n nn))), (ao, .inl (g.2.1 2, 8, .inl fo))]) := by
  refine OM.startQ (by decide) (Nat.le_of_ble_eq_true rfl) ?_
  intro p e s m below meth c A ls Q H locs hQ C hnm hl hT
  have hx := C.x
  have hb := C.b
  have hl : lv_has ls 3 [(0, .ref a0), (1, .int kd), (2, .int nn)] := hl
  refine lv_aload_n hx hb dX7_add_0 rfl (lv_at hl 0 rfl) ?_
  refine gX7_22 C hT (q0 := 0) rfl dX7_add_1 ?_
  refine lv_bipush (v := 8) hx hb dX7_add_4 (by decide) ?_
  refine lv_icmp_lt (tgt := 12) hx hb dX7_add_6 (by decide) (fun h_1 => ?_) (fun h_1 => ?_)
  · skip
    refine lv_aload_n hx hb dX7_add_12 rfl (lv_at hl 0 rfl) ?_
    refine gX7_9 C hT (q0 := 0) rfl dX7_add_13 ?_
    refine lv_aload_n hx hb dX7_add_16 rfl (lv_at hl 0 rfl) ?_
    refine gX7_22 C hT (q0 := 0) rfl dX7_add_17 ?_
    refine lv_iload_n hx hb dX7_add_20 rfl (lv_at hl 1 rfl) ?_
    refine r_iast C hT (q0 := 1) rfl n rfl (by omega) (by decide) dX7_add_21 (fun H locs hT => ?_)
    have hT : Wd g A s [(a0, .inr (7, [.ref ak, .ref an, .ref ao, .int (nI n)])), (ak, .inl (g.2.1 0, 8, .inl (upd fk n kd))), (an, .inl (g.2.1 0, 8, .inl fn)), (ao, .inl (g.2.1 2, 8, .inl fo))] H locs := hT
    refine lv_aload_n hx hb dX7_add_22 rfl (lv_at hl 0 rfl) ?_
    refine gX7_15 C hT (q0 := 0) rfl dX7_add_23 ?_
    refine lv_aload_n hx hb dX7_add_26 rfl (lv_at hl 0 rfl) ?_
    refine gX7_22 C hT (q0 := 0) rfl dX7_add_27 ?_
    refine lv_iload_n hx hb dX7_add_30 rfl (lv_at hl 2 rfl) ?_
    refine r_iast C hT (q0 := 2) rfl n rfl (by omega) (by decide) dX7_add_31 (fun H locs hT => ?_)
    have hT : Wd g A s [(a0, .inr (7, [.ref ak, .ref an, .ref ao, .int (nI n)])), (ak, .inl (g.2.1 0, 8, .inl (upd fk n kd))), (an, .inl (g.2.1 0, 8, .inl (upd fn n nn))), (ao, .inl (g.2.1 2, 8, .inl fo))] H locs := hT
    refine lv_aload_n hx hb dX7_add_32 rfl (lv_at hl 0 rfl) ?_
    refine lv_dup hx hb dX7_add_33 rfl ?_
    refine gX7_22 C hT (q0 := 0) rfl dX7_add_34 ?_
    refine lv_iconst (v := 1) hx hb dX7_add_37 (by decide) ?_
    refine lv_iadd hx hb dX7_add_38 ?_
    refine W.eq (g2 := F0 m 39 ls [.int (nI (n + 1)), .ref a0]) (congrArg (fun z => F0 m 39 ls (.int z :: [.ref a0])) (nI_1 n)) ?_
    refine pX7_22 C hT (q0 := 0) rfl dX7_add_39 (fun H locs hT => ?_)
    have hT : Wd g A s [(a0, .inr (7, [.ref ak, .ref an, .ref ao, .int (nI (n + 1))])), (ak, .inl (g.2.1 0, 8, .inl (upd fk n kd))), (an, .inl (g.2.1 0, 8, .inl (upd fn n nn))), (ao, .inl (g.2.1 2, 8, .inl fo))] H locs := hT
    refine lv_aload_n hx hb dX7_add_42 rfl (lv_at hl 0 rfl) ?_
    refine gX7_22 C hT (q0 := 0) rfl dX7_add_43 ?_
    refine lv_iconst (v := 1) hx hb dX7_add_46 (by decide) ?_
    refine lv_isub hx hb dX7_add_47 ?_
    refine W.eq (g2 := F0 m 48 ls [.int (nI n)]) (congrArg (fun z => F0 m 48 ls (.int z :: [])) (nI_pred n)) ?_
    exact e_iret C hQ () hT rfl dX7_add_48
  · skip
    exact absurd (nI_lt hn (by decide)) h_1

set_option maxHeartbeats 400000 in
set_option maxRecDepth 100000 in
theorem c_X7_add_full (l : Launch) (g : GT) (a0 : Nat) (ak : Nat) (an : Nat) (ao : Nat) (n : Nat) (kd : Int32) (nn : Int32) (hn : n = 8) : OM (S := Unit) l g yX7_add cX7_add 3 (some .int) ({ frames := 0, cells := 0, slots := 0, locals := 0 } : Room) [.ref a0, .int kd, .int nn] [(a0, .inr (7, [.ref ak, .ref an, .ref ao, .int (nI n)]))] (fun _ => some (.int (-3))) (fun _ => [(a0, .inr (7, [.ref ak, .ref an, .ref ao, .int (nI n)]))]) := by
  refine OM.startQ (by decide) (Nat.le_of_ble_eq_true rfl) ?_
  intro p e s m below meth c A ls Q H locs hQ C hnm hl hT
  have hx := C.x
  have hb := C.b
  have hl : lv_has ls 3 [(0, .ref a0), (1, .int kd), (2, .int nn)] := hl
  refine lv_aload_n hx hb dX7_add_0 rfl (lv_at hl 0 rfl) ?_
  refine gX7_22 C hT (q0 := 0) rfl dX7_add_1 ?_
  refine lv_bipush (v := 8) hx hb dX7_add_4 (by decide) ?_
  refine lv_icmp_lt (tgt := 12) hx hb dX7_add_6 (by decide) (fun h_1 => ?_) (fun h_1 => ?_)
  · skip
    exact absurd h_1 (by rw [hn]; decide)
  · skip
    refine lv_bipush (v := (-3)) hx hb dX7_add_9 (by decide) ?_
    exact e_iret C hQ () hT rfl dX7_add_11

set_option maxHeartbeats 400000 in
set_option maxRecDepth 100000 in
theorem c_X7_turnOff (l : Launch) (g : GT) (a0 : Nat) (ak : Nat) (an : Nat) (ao : Nat) (n : Nat) (fk : Nat → Int32) (fn : Nat → Int32) (fo : Nat → Int32) (j : Nat) (hj : j < n) (hn : n ≤ 8) : OM (S := Unit) l g yX7_turnOff cX7_turnOff 2 (some .boolean) ({ frames := 1, cells := 0, slots := 0, locals := 21 } : Room) [.ref a0, .int (nI j)] [(a0, .inr (7, [.ref ak, .ref an, .ref ao, .int (nI n)])), (ak, .inl (g.2.1 0, 8, .inl fk)), (an, .inl (g.2.1 0, 8, .inl fn)), (ao, .inl (g.2.1 2, 8, .inl fo))] (fun _ => some (.int (if fo j = 0 then 1 else 0))) (fun _ => [(a0, .inr (7, [.ref ak, .ref an, .ref ao, .int (nI n)])), (ak, .inl (g.2.1 0, 8, .inl fk)), (an, .inl (g.2.1 0, 8, .inl fn)), (ao, .inl (g.2.1 2, 8, .inl (if fo j = 0 then upd fo j 1 else fo)))]) := by
  refine OM.startQ (by decide) (Nat.le_of_ble_eq_true rfl) ?_
  intro p e s m below meth c A ls Q H locs hQ C hnm hl hT
  have hx := C.x
  have hb := C.b
  have hl : lv_has ls 2 [(0, .ref a0), (1, .int (nI j))] := hl
  refine lv_aload_n hx hb dX7_turnOff_0 rfl (lv_at hl 0 rfl) ?_
  refine lv_iload_n hx hb dX7_turnOff_1 rfl (lv_at hl 1 rfl) ?_
  have hM := c_X7_has l g a0 ak an ao n (nI j)
  refine r_call0 (js := [0]) C hT (runV (js := [0]) (rm := ({ frames := 0, cells := 0, slots := 0, locals := 0 } : Room)) (As := [.int (nI j)]) (n := 1) (q1 := 0) (rest := []) C hT hM rfl rfl k368 k361 k362 k4 k363 (by decide +kernel) rfl rfl rfl rfl (Nat.le_of_ble_eq_true rfl) hl.1 ⟨Nat.le_of_ble_eq_true rfl, Nat.le_of_ble_eq_true rfl⟩ ⟨Nat.le_of_ble_eq_true rfl, Nat.le_of_ble_eq_true rfl⟩ dX7_turnOff_2) rfl rfl (fun _ => rfl) (fun u H locs hT => ?_)
  have hT : Wd g A s [(a0, .inr (7, [.ref ak, .ref an, .ref ao, .int (nI n)])), (ak, .inl (g.2.1 0, 8, .inl fk)), (an, .inl (g.2.1 0, 8, .inl fn)), (ao, .inl (g.2.1 2, 8, .inl fo))] H locs := hT
  refine W.eq (g2 := F0 m 5 ls [.int (b01 (inR (nI j) n))]) rfl ?_
  refine lv_if_eq (tgt := 17) hx hb dX7_turnOff_5 (by decide) (fun h_1 => ?_) (fun h_1 => ?_)
  · skip
    exact absurd (b01_f h_1) (by rw [inR_nI hj (by omega)]; decide)
  · skip
    refine lv_aload_n hx hb dX7_turnOff_8 rfl (lv_at hl 0 rfl) ?_
    refine gX7_18 C hT (q0 := 0) rfl dX7_turnOff_9 ?_
    refine lv_iload_n hx hb dX7_turnOff_12 rfl (lv_at hl 1 rfl) ?_
    refine r_zald C hT (q0 := 3) rfl j rfl (by omega) (by decide) dX7_turnOff_13 ?_
    refine lv_if_eq (tgt := 19) hx hb dX7_turnOff_14 (by decide) (fun h_2 => ?_) (fun h_2 => ?_)
    · skip
      refine lv_aload_n hx hb dX7_turnOff_19 rfl (lv_at hl 0 rfl) ?_
      refine gX7_18 C hT (q0 := 0) rfl dX7_turnOff_20 ?_
      refine lv_iload_n hx hb dX7_turnOff_23 rfl (lv_at hl 1 rfl) ?_
      refine lv_iconst (v := 1) hx hb dX7_turnOff_24 (by decide) ?_
      refine r_zast C hT (q0 := 3) rfl j rfl (by omega) (by decide) (Or.inr rfl) dX7_turnOff_25 (fun H locs hT => ?_)
      have hT : Wd g A s [(a0, .inr (7, [.ref ak, .ref an, .ref ao, .int (nI n)])), (ak, .inl (g.2.1 0, 8, .inl fk)), (an, .inl (g.2.1 0, 8, .inl fn)), (ao, .inl (g.2.1 2, 8, .inl (upd fo j 1)))] H locs := hT
      refine lv_iconst (v := 1) hx hb dX7_turnOff_26 (by decide) ?_
      exact e_zret C hQ () (by rw [if_pos h_2]; exact hT) (by rw [if_pos h_2]) (by decide) dX7_turnOff_27
    · skip
      refine lv_iconst (v := 0) hx hb dX7_turnOff_17 (by decide) ?_
      exact e_zret C hQ () (by rw [if_neg h_2]; exact hT) (by rw [if_neg h_2]) (by decide) dX7_turnOff_18

set_option maxHeartbeats 400000 in
set_option maxRecDepth 100000 in
theorem c_J7_fill_53178 (l : Launch) (g : GT) (a : Nat) (n : Nat) (f : Nat → Int32) (v : Int32) (hn : n < 2 ^ 31) : OM (S := Unit) l g yJ7_fill_53178 cJ7_fill_53178 4 none ({ frames := 0, cells := 0, slots := 0, locals := 0 } : Room) [.ref a, .int v] [(a, .inl (g.2.1 0, n, .inl f))] (fun _ => none) (fun _ => [(a, .inl (g.2.1 0, n, .inl (fillTo f v n)))]) := by
  refine OM.startQ (by decide) (Nat.le_of_ble_eq_true rfl) ?_
  intro p e s m below meth c A ls Q H locs hQ C hnm hl hT
  have hx := C.x
  have hb := C.b
  have hl : lv_has ls 4 [(0, .ref a), (1, .int v)] := hl
  refine lv_iconst (v := 0) hx hb dJ7_fill_53178_0 (by decide) ?_
  refine lv_istore_n (lv' := [(2, .int 0), (0, .ref a), (1, .int v)]) hx hb dJ7_fill_53178_1 rfl hl (by decide) rfl (fun ls hl => ?_)
  refine lv_aload_n hx hb dJ7_fill_53178_2 rfl (lv_at hl 1 rfl) ?_
  refine r_alen C hT (q0 := 0) 0 rfl rfl dJ7_fill_53178_3 ?_
  refine W.eq (g2 := F0 m 4 ls [.int (nI n)]) rfl ?_
  refine lv_istore_n (lv' := [(3, .int (nI n)), (2, .int 0), (0, .ref a), (1, .int v)]) hx hb dJ7_fill_53178_4 rfl hl (by decide) rfl (fun ls hl => ?_)
  have loop_5 : ∀ (fu : Nat) (i : Nat) (x2 : Int32) (f1 : Nat → Int32) (H : Heap) (locs : List Loc) (ls : Array Slot) (hi : i ≤ n) (ex2 : x2 = nI i) (hf : f1 = fillTo f v i), n - i < fu → Wd g A s [(a, .inl (g.2.1 0, n, .inl f1))] H locs → lv_has ls 4 [(0, .ref a), (1, .int v), (2, .int x2), (3, .int (nI n))] → W p l e ({ frames := 0, cells := 0, slots := 0, locals := 0 } : Room) s m ([.ref a, .int v] : List Value).toArray below meth c H locs 0 0 Q (F0 m 5 ls []) := by
    intro fu
    induction fu with
    | zero => intro i x2 f1 H locs ls hi ex2 hf hm; exact absurd hm (Nat.not_lt_zero _)
    | succ fu ih =>
      intro i x2 f1 H locs ls hi ex2 hf hm hT hl
      refine lv_iload_n hx hb dJ7_fill_53178_5 rfl (lv_at hl 2 rfl) ?_
      refine lv_iload_n hx hb dJ7_fill_53178_6 rfl (lv_at hl 3 rfl) ?_
      refine lv_icmp_ge (tgt := 20) hx hb dJ7_fill_53178_7 (by decide) (fun h_1 => ?_) (fun h_1 => ?_)
      · skip
        have hin := lp_end ex2 hn hi h_1
        exact e_vret C hQ () (by rw [show fillTo f v n = f1 by rw [hf, hin]]; exact hT) rfl dJ7_fill_53178_20
      · skip
        have hin := lp_go ex2 hn hi h_1
        refine lv_aload_n hx hb dJ7_fill_53178_10 rfl (lv_at hl 0 rfl) ?_
        refine lv_iload_n hx hb dJ7_fill_53178_11 rfl (lv_at hl 2 rfl) ?_
        refine lv_iload_n hx hb dJ7_fill_53178_12 rfl (lv_at hl 1 rfl) ?_
        refine r_iast C hT (q0 := 0) rfl i ex2 hin (by omega) dJ7_fill_53178_13 (fun H locs hT => ?_)
        have hT : Wd g A s [(a, .inl (g.2.1 0, n, .inl (upd f1 i v)))] H locs := hT
        obtain ⟨x_2, ex_2⟩ : ∃ y : Int32, y = x2 + 1 := ⟨_, rfl⟩
        refine lv_iinc (v := x_2) (lv' := [(2, .int x_2), (0, .ref a), (1, .int v), (3, .int (nI n))]) hx hb dJ7_fill_53178_14 hl (k := 2) rfl (by rw [ex_2]; rfl) (by decide) rfl (fun ls hl => ?_)
        refine lv_goto (tgt := 5) hx hb dJ7_fill_53178_17 (by decide) ?_
        exact ih (i + 1) x_2 (upd f1 i v) H locs ls (by first | assumption | omega | rfl) (by rw [ex_2, ex2]; exact nI_1 i) (by rw [hf]; exact fillTo_up f v i) (by omega) hT (lv_sub hl [1, 2, 0, 3] rfl)
  exact loop_5 (n - 0 + 1) 0 0 f H locs ls (by first | assumption | omega | rfl) (by first | assumption | omega | rfl) (fillTo_0 f v).symm (Nat.lt_succ_self _) hT (lv_sub hl [2, 3, 1, 0] rfl)

set_option maxHeartbeats 400000 in
set_option maxRecDepth 100000 in
theorem c_X9_has (l : Launch) (g : GT) (a0 : Nat) (ac : Nat) (an : Nat) (N : Nat) (fc : Nat → Int32) (i : Int32) : OM (S := Unit) l g yX9_has cX9_has 2 (some .boolean) ({ frames := 0, cells := 0, slots := 0, locals := 0 } : Room) [.ref a0, .int i] [(a0, .inr (9, [.ref ac, .ref an])), (ac, .inl (g.2.1 0, N, .inl fc))] (fun _ => some (.int (b01 (inR i N)))) (fun _ => [(a0, .inr (9, [.ref ac, .ref an])), (ac, .inl (g.2.1 0, N, .inl fc))]) := by
  refine OM.startQ (by decide) (Nat.le_of_ble_eq_true rfl) ?_
  intro p e s m below meth c A ls Q H locs hQ C hnm hl hT
  have hx := C.x
  have hb := C.b
  have hl : lv_has ls 2 [(0, .ref a0), (1, .int i)] := hl
  refine lv_iload_n hx hb dX9_has_0 rfl (lv_at hl 1 rfl) ?_
  refine lv_if_lt (tgt := 17) hx hb dX9_has_1 (by decide) (fun h_1 => ?_) (fun h_1 => ?_)
  · skip
    refine lv_iconst (v := 0) hx hb dX9_has_17 (by decide) ?_
    exact e_zret C hQ () hT (by simp [b01, inR, h_1]) (by decide) dX9_has_18
  · skip
    refine lv_iload_n hx hb dX9_has_4 rfl (lv_at hl 1 rfl) ?_
    refine lv_aload_n hx hb dX9_has_5 rfl (lv_at hl 0 rfl) ?_
    refine gX9_15 C hT (q0 := 0) rfl dX9_has_6 ?_
    refine r_alen C hT (q0 := 1) 0 rfl rfl dX9_has_9 ?_
    refine W.eq (g2 := F0 m 10 ls [.int (nI N), .int i]) rfl ?_
    refine lv_icmp_ge (tgt := 17) hx hb dX9_has_10 (by decide) (fun h_2 => ?_) (fun h_2 => ?_)
    · skip
      refine lv_iconst (v := 0) hx hb dX9_has_17 (by decide) ?_
      exact e_zret C hQ () hT (by simp [b01, inR, h_1, h_2]) (by decide) dX9_has_18
    · skip
      refine lv_iconst (v := 1) hx hb dX9_has_13 (by decide) ?_
      refine lv_goto (tgt := 18) hx hb dX9_has_14 (by decide) ?_
      exact e_zret C hQ () hT (by simp [b01, inR, h_1, h_2]) (by decide) dX9_has_18

set_option maxHeartbeats 400000 in
set_option maxRecDepth 100000 in
theorem c_X9_placeOf (l : Launch) (g : GT) (a0 : Nat) (ac : Nat) (an : Nat) (N : Nat) (fc : Nat → Int32) (cx : Int32) (nd : Int32) : OM (S := Unit) l g yX9_placeOf cX9_placeOf 3 (some .int) ({ frames := 1, cells := 0, slots := 0, locals := 22 } : Room) [.ref a0, .int cx, .int nd] [(a0, .inr (9, [.ref ac, .ref an])), (ac, .inl (g.2.1 0, N, .inl fc))] (fun _ => some (.int (hashI cx nd &&& (nI N - 1)))) (fun _ => [(a0, .inr (9, [.ref ac, .ref an])), (ac, .inl (g.2.1 0, N, .inl fc))]) := by
  refine OM.startQ (by decide) (Nat.le_of_ble_eq_true rfl) ?_
  intro p e s m below meth c A ls Q H locs hQ C hnm hl hT
  have hx := C.x
  have hb := C.b
  have hl : lv_has ls 3 [(0, .ref a0), (1, .int cx), (2, .int nd)] := hl
  refine lv_iload_n hx hb dX9_placeOf_0 rfl (lv_at hl 1 rfl) ?_
  refine lv_iload_n hx hb dX9_placeOf_1 rfl (lv_at hl 2 rfl) ?_
  have hM := c_X5_hash l g cx nd
  refine r_call0 (js := []) C hT (runS (js := []) (rm := ({ frames := 0, cells := 0, slots := 0, locals := 0 } : Room)) (As := [.int cx, .int nd]) (n := 2) (rest := []) C hT hM rfl rfl k398 k336 k2 k337 (by decide +kernel) rfl rfl (Nat.le_of_ble_eq_true rfl) hl.1 ⟨Nat.le_of_ble_eq_true rfl, Nat.le_of_ble_eq_true rfl⟩ ⟨Nat.le_of_ble_eq_true rfl, Nat.le_of_ble_eq_true rfl⟩ dX9_placeOf_2) rfl rfl (fun _ => rfl) (fun u H locs hT => ?_)
  have hT : Wd g A s [(a0, .inr (9, [.ref ac, .ref an])), (ac, .inl (g.2.1 0, N, .inl fc))] H locs := hT
  refine W.eq (g2 := F0 m 5 ls [.int (hashI cx nd)]) rfl ?_
  refine lv_aload_n hx hb dX9_placeOf_5 rfl (lv_at hl 0 rfl) ?_
  refine gX9_15 C hT (q0 := 0) rfl dX9_placeOf_6 ?_
  refine r_alen C hT (q0 := 1) 0 rfl rfl dX9_placeOf_9 ?_
  refine W.eq (g2 := F0 m 10 ls [.int (nI N), .int (hashI cx nd)]) rfl ?_
  refine lv_iconst (v := 1) hx hb dX9_placeOf_10 (by decide) ?_
  refine lv_isub hx hb dX9_placeOf_11 ?_
  refine lv_iand hx hb dX9_placeOf_12 ?_
  exact e_iret C hQ () hT (by rfl) dX9_placeOf_13

set_option maxHeartbeats 400000 in
set_option maxRecDepth 100000 in
theorem c_X9_learn (l : Launch) (g : GT) (a0 : Nat) (ac : Nat) (an : Nat) (N : Nat) (fc : Nat → Int32) (fn : Nat → Int32) (j : Nat) (on : Int32) (hj : j < N) (hN : N < 2 ^ 31) : OM (S := Unit) l g yX9_learn cX9_learn 4 none ({ frames := 1, cells := 0, slots := 0, locals := 23 } : Room) [.ref a0, .int (nI j), .int on] [(a0, .inr (9, [.ref ac, .ref an])), (ac, .inl (g.2.1 0, N, .inl fc)), (an, .inl (g.2.1 0, N, .inl fn))] (fun _ => none) (fun _ => [(a0, .inr (9, [.ref ac, .ref an])), (ac, .inl (g.2.1 0, N, .inl (upd fc j (slotUp on (fc j) (fn j))))), (an, .inl (g.2.1 0, N, .inl (upd fn j (cntUp (fn j)))))]) := by
  refine OM.startQ (by decide) (Nat.le_of_ble_eq_true rfl) ?_
  intro p e s m below meth c A ls Q H locs hQ C hnm hl hT
  have hx := C.x
  have hb := C.b
  have hl : lv_has ls 4 [(0, .ref a0), (1, .int (nI j)), (2, .int on)] := hl
  refine lv_aload_n hx hb dX9_learn_0 rfl (lv_at hl 0 rfl) ?_
  refine lv_iload_n hx hb dX9_learn_1 rfl (lv_at hl 1 rfl) ?_
  have hM := c_X9_has l g a0 ac an N fc (nI j)
  refine r_call0 (js := [0, 1]) C hT (runV (js := [0, 1]) (rm := ({ frames := 0, cells := 0, slots := 0, locals := 0 } : Room)) (As := [.int (nI j)]) (n := 1) (q1 := 0) (rest := []) C hT hM rfl rfl k477 k478 k479 k11 k480 (by decide +kernel) rfl rfl rfl rfl (Nat.le_of_ble_eq_true rfl) hl.1 ⟨Nat.le_of_ble_eq_true rfl, Nat.le_of_ble_eq_true rfl⟩ ⟨Nat.le_of_ble_eq_true rfl, Nat.le_of_ble_eq_true rfl⟩ dX9_learn_2) rfl rfl (fun _ => rfl) (fun u H locs hT => ?_)
  have hT : Wd g A s [(a0, .inr (9, [.ref ac, .ref an])), (ac, .inl (g.2.1 0, N, .inl fc)), (an, .inl (g.2.1 0, N, .inl fn))] H locs := hT
  refine W.eq (g2 := F0 m 5 ls [.int (b01 (inR (nI j) N))]) rfl ?_
  refine lv_if_ne (tgt := 9) hx hb dX9_learn_5 (by decide) (fun h_1 => ?_) (fun h_1 => ?_)
  · skip
    refine lv_ldc (v := 65536) hx hb C.ow (C.ts _ k481) dX9_learn_9 ?_
    refine lv_iconst (v := 2) hx hb dX9_learn_11 (by decide) ?_
    refine lv_aload_n hx hb dX9_learn_12 rfl (lv_at hl 0 rfl) ?_
    refine gX9_21 C hT (q0 := 0) rfl dX9_learn_13 ?_
    refine lv_iload_n hx hb dX9_learn_16 rfl (lv_at hl 1 rfl) ?_
    refine r_iald C hT (q0 := 2) rfl j rfl (by omega) (by omega) dX9_learn_17 ?_
    refine lv_iconst (v := 2) hx hb dX9_learn_18 (by decide) ?_
    refine lv_iadd hx hb dX9_learn_19 ?_
    refine r_mmax C hl.1 k482 (Nat.le_of_ble_eq_true rfl) (Nat.le_of_ble_eq_true rfl) (Nat.le_of_ble_eq_true rfl) (Nat.le_of_ble_eq_true rfl) dX9_learn_20 ?_
    refine lv_idiv hx hb dX9_learn_23 (rate_ne _) ?_
    refine lv_topi (fun x_2 ex_2 => ?_)
    refine lv_istore_n (lv' := [(3, .int x_2), (0, .ref a0), (1, .int (nI j)), (2, .int on)]) hx hb dX9_learn_24 rfl hl (by decide) rfl (fun ls hl => ?_)
    refine lv_aload_n hx hb dX9_learn_25 rfl (lv_at hl 1 rfl) ?_
    refine gX9_15 C hT (q0 := 0) rfl dX9_learn_26 ?_
    refine lv_iload_n hx hb dX9_learn_29 rfl (lv_at hl 2 rfl) ?_
    refine lv_dup2_11 hx hb dX9_learn_30 rfl rfl ?_
    refine r_iald C hT (q0 := 1) rfl j rfl (by omega) (by omega) dX9_learn_31 ?_
    refine lv_iload_n hx hb dX9_learn_32 rfl (lv_at hl 3 rfl) ?_
    refine r_ite (ls := ls) (J := 42) (a1 := 0) (a2 := 65535) (rest := [.int (fc j), .int (nI j), .ref ac]) (lv_if_eq (tgt := 41) hx hb dX9_learn_33 (by decide)) (fun h_3 kont => ?_) (fun h_3 kont => ?_) ?_
    · skip
      refine lv_iconst (v := 0) hx hb dX9_learn_41 (by decide) ?_
      exact kont
    · skip
      refine lv_ldc (v := 65535) hx hb C.ow (C.ts _ k483) dX9_learn_36 ?_
      refine lv_goto (tgt := 42) hx hb dX9_learn_38 (by decide) ?_
      exact kont
    refine lv_aload_n hx hb dX9_learn_42 rfl (lv_at hl 1 rfl) ?_
    refine gX9_15 C hT (q0 := 0) rfl dX9_learn_43 ?_
    refine lv_iload_n hx hb dX9_learn_46 rfl (lv_at hl 2 rfl) ?_
    refine r_iald C hT (q0 := 1) rfl j rfl (by omega) (by omega) dX9_learn_47 ?_
    refine lv_isub hx hb dX9_learn_48 ?_
    refine lv_iload_n hx hb dX9_learn_49 rfl (lv_at hl 0 rfl) ?_
    refine lv_imul hx hb dX9_learn_50 ?_
    refine lv_bipush (v := 16) hx hb dX9_learn_51 (by decide) ?_
    refine lv_ishr hx hb dX9_learn_53 ?_
    refine lv_iadd hx hb dX9_learn_54 ?_
    refine lv_topi (fun x_4 ex_4 => ?_)
    refine r_iast C hT (q0 := 1) rfl j rfl (by omega) (by omega) dX9_learn_55 (fun H locs hT => ?_)
    have hT : Wd g A s [(a0, .inr (9, [.ref ac, .ref an])), (ac, .inl (g.2.1 0, N, .inl (upd fc j x_4))), (an, .inl (g.2.1 0, N, .inl fn))] H locs := hT
    refine lv_aload_n hx hb dX9_learn_56 rfl (lv_at hl 1 rfl) ?_
    refine gX9_21 C hT (q0 := 0) rfl dX9_learn_57 ?_
    refine lv_iload_n hx hb dX9_learn_60 rfl (lv_at hl 2 rfl) ?_
    refine lv_bipush (v := 30) hx hb dX9_learn_61 (by decide) ?_
    refine lv_aload_n hx hb dX9_learn_63 rfl (lv_at hl 1 rfl) ?_
    refine gX9_21 C hT (q0 := 0) rfl dX9_learn_64 ?_
    refine lv_iload_n hx hb dX9_learn_67 rfl (lv_at hl 2 rfl) ?_
    refine r_iald C hT (q0 := 2) rfl j rfl (by omega) (by omega) dX9_learn_68 ?_
    refine lv_iconst (v := 1) hx hb dX9_learn_69 (by decide) ?_
    refine lv_iadd hx hb dX9_learn_70 ?_
    refine r_mmin C hl.1 k484 (Nat.le_of_ble_eq_true rfl) (Nat.le_of_ble_eq_true rfl) (Nat.le_of_ble_eq_true rfl) (Nat.le_of_ble_eq_true rfl) dX9_learn_71 ?_
    refine lv_topi (fun x_5 ex_5 => ?_)
    refine r_iast C hT (q0 := 2) rfl j rfl (by omega) (by omega) dX9_learn_74 (fun H locs hT => ?_)
    have hT : Wd g A s [(a0, .inr (9, [.ref ac, .ref an])), (ac, .inl (g.2.1 0, N, .inl (upd fc j x_4))), (an, .inl (g.2.1 0, N, .inl (upd fn j x_5)))] H locs := hT
    exact e_vret C hQ () (by subst ex_2 ex_4 ex_5; exact hT) rfl dX9_learn_75
  · skip
    exact absurd (b01_f h_1) (by rw [inR_nI hj hN]; decide)

set_option maxHeartbeats 400000 in
set_option maxRecDepth 100000 in
theorem c_X9_sameAs (l : Launch) (g : GT) (a0 : Nat) (ac : Nat) (an : Nat) (N : Nat) (fc : Nat → Int32) (fn : Nat → Int32) (b0 : Nat) (bc : Nat) (bn : Nat) (gc : Nat → Int32) (gn : Nat → Int32) (hN : N < 2 ^ 31) : OM (S := Unit) l g yX9_sameAs cX9_sameAs 2 (some .boolean) ({ frames := 1, cells := 0, slots := 0, locals := 22 } : Room) [.ref a0, .ref b0] [(a0, .inr (9, [.ref ac, .ref an])), (ac, .inl (g.2.1 0, N, .inl fc)), (an, .inl (g.2.1 0, N, .inl fn)), (b0, .inr (9, [.ref bc, .ref bn])), (bc, .inl (g.2.1 0, N, .inl gc)), (bn, .inl (g.2.1 0, N, .inl gn))] (fun _ => some (.int (b01 (eqTo fc gc N && eqTo fn gn N)))) (fun _ => [(a0, .inr (9, [.ref ac, .ref an])), (ac, .inl (g.2.1 0, N, .inl fc)), (an, .inl (g.2.1 0, N, .inl fn)), (b0, .inr (9, [.ref bc, .ref bn])), (bc, .inl (g.2.1 0, N, .inl gc)), (bn, .inl (g.2.1 0, N, .inl gn))]) := by
  refine OM.startQ (by decide) (Nat.le_of_ble_eq_true rfl) ?_
  intro p e s m below meth c A ls Q H locs hQ C hnm hl hT
  have hx := C.x
  have hb := C.b
  have hl : lv_has ls 2 [(0, .ref a0), (1, .ref b0)] := hl
  refine lv_aload_n hx hb dX9_sameAs_0 rfl (lv_at hl 0 rfl) ?_
  refine gX9_15 C hT (q0 := 0) rfl dX9_sameAs_1 ?_
  refine lv_aload_n hx hb dX9_sameAs_4 rfl (lv_at hl 1 rfl) ?_
  refine gX9_15 C hT (q0 := 3) rfl dX9_sameAs_5 ?_
  have hM := c_X5_same l g ac bc N fc gc (by first | assumption | omega)
  refine r_call0 (js := [1, 4]) C hT (runS (js := [1, 4]) (rm := ({ frames := 0, cells := 0, slots := 0, locals := 0 } : Room)) (As := [.ref ac, .ref bc]) (n := 2) (rest := []) C hT hM rfl rfl k629 k630 k2 k631 (by decide +kernel) rfl rfl (Nat.le_of_ble_eq_true rfl) hl.1 ⟨Nat.le_of_ble_eq_true rfl, Nat.le_of_ble_eq_true rfl⟩ ⟨Nat.le_of_ble_eq_true rfl, Nat.le_of_ble_eq_true rfl⟩ dX9_sameAs_8) rfl rfl (fun _ => rfl) (fun u H locs hT => ?_)
  have hT : Wd g A s [(a0, .inr (9, [.ref ac, .ref an])), (ac, .inl (g.2.1 0, N, .inl fc)), (an, .inl (g.2.1 0, N, .inl fn)), (b0, .inr (9, [.ref bc, .ref bn])), (bc, .inl (g.2.1 0, N, .inl gc)), (bn, .inl (g.2.1 0, N, .inl gn))] H locs := hT
  refine W.eq (g2 := F0 m 11 ls [.int (b01 (eqTo fc gc N))]) rfl ?_
  refine lv_if_eq (tgt := 32) hx hb dX9_sameAs_11 (by decide) (fun h_1 => ?_) (fun h_1 => ?_)
  · skip
    have h_1 := b01_f h_1
    refine lv_iconst (v := 0) hx hb dX9_sameAs_32 (by decide) ?_
    exact e_zret C hQ () hT (by simp [b01, h_1]) (by decide) dX9_sameAs_33
  · skip
    have h_1 := b01_t h_1
    refine lv_aload_n hx hb dX9_sameAs_14 rfl (lv_at hl 0 rfl) ?_
    refine gX9_21 C hT (q0 := 0) rfl dX9_sameAs_15 ?_
    refine lv_aload_n hx hb dX9_sameAs_18 rfl (lv_at hl 1 rfl) ?_
    refine gX9_21 C hT (q0 := 3) rfl dX9_sameAs_19 ?_
    have hM := c_X5_same l g an bn N fn gn (by first | assumption | omega)
    refine r_call0 (js := [2, 5]) C hT (runS (js := [2, 5]) (rm := ({ frames := 0, cells := 0, slots := 0, locals := 0 } : Room)) (As := [.ref an, .ref bn]) (n := 2) (rest := []) C hT hM rfl rfl k629 k630 k2 k631 (by decide +kernel) rfl rfl (Nat.le_of_ble_eq_true rfl) hl.1 ⟨Nat.le_of_ble_eq_true rfl, Nat.le_of_ble_eq_true rfl⟩ ⟨Nat.le_of_ble_eq_true rfl, Nat.le_of_ble_eq_true rfl⟩ dX9_sameAs_22) rfl rfl (fun _ => rfl) (fun u H locs hT => ?_)
    have hT : Wd g A s [(a0, .inr (9, [.ref ac, .ref an])), (ac, .inl (g.2.1 0, N, .inl fc)), (an, .inl (g.2.1 0, N, .inl fn)), (b0, .inr (9, [.ref bc, .ref bn])), (bc, .inl (g.2.1 0, N, .inl gc)), (bn, .inl (g.2.1 0, N, .inl gn))] H locs := hT
    refine W.eq (g2 := F0 m 25 ls [.int (b01 (eqTo fn gn N))]) rfl ?_
    refine lv_if_eq (tgt := 32) hx hb dX9_sameAs_25 (by decide) (fun h_2 => ?_) (fun h_2 => ?_)
    · skip
      have h_2 := b01_f h_2
      refine lv_iconst (v := 0) hx hb dX9_sameAs_32 (by decide) ?_
      exact e_zret C hQ () hT (by simp [b01, h_1, h_2]) (by decide) dX9_sameAs_33
    · skip
      have h_2 := b01_t h_2
      refine lv_iconst (v := 1) hx hb dX9_sameAs_28 (by decide) ?_
      refine lv_goto (tgt := 33) hx hb dX9_sameAs_29 (by decide) ?_
      exact e_zret C hQ () hT (by simp [b01, h_1, h_2]) (by decide) dX9_sameAs_33

set_option maxHeartbeats 400000 in
set_option maxRecDepth 100000 in
theorem c_X9_reset (l : Launch) (g : GT) (a0 : Nat) (ac : Nat) (an : Nat) (N : Nat) (fc : Nat → Int32) (fn : Nat → Int32) (hN : N < 2 ^ 31) : OM (S := Unit) l g yX9_reset cX9_reset 1 none ({ frames := 1, cells := 0, slots := 0, locals := 23 } : Room) [.ref a0] [(a0, .inr (9, [.ref ac, .ref an])), (ac, .inl (g.2.1 0, N, .inl fc)), (an, .inl (g.2.1 0, N, .inl fn))] (fun _ => none) (fun _ => [(a0, .inr (9, [.ref ac, .ref an])), (ac, .inl (g.2.1 0, N, .inl (fillTo fc 32768 N))), (an, .inl (g.2.1 0, N, .inl (fillTo fn 0 N)))]) := by
  refine OM.startQ (by decide) (Nat.le_of_ble_eq_true rfl) ?_
  intro p e s m below meth c A ls Q H locs hQ C hnm hl hT
  have hx := C.x
  have hb := C.b
  have hl : lv_has ls 1 [(0, .ref a0)] := hl
  refine lv_aload_n hx hb dX9_reset_0 rfl (lv_at hl 0 rfl) ?_
  refine gX9_15 C hT (q0 := 0) rfl dX9_reset_1 ?_
  refine lv_ldc (v := 32768) hx hb C.ow (C.ts _ k164) dX9_reset_4 ?_
  have hM := c_J7_fill_53178 l g ac N fc 32768 (by first | assumption | omega)
  refine r_call0 (js := [1]) C hT (runS (js := [1]) (rm := ({ frames := 0, cells := 0, slots := 0, locals := 0 } : Room)) (As := [.ref ac, .int 32768]) (n := 2) (rest := []) C hT hM rfl rfl k165 k121 k8 k122 (by decide +kernel) rfl rfl (Nat.le_of_ble_eq_true rfl) hl.1 ⟨Nat.le_of_ble_eq_true rfl, Nat.le_of_ble_eq_true rfl⟩ ⟨Nat.le_of_ble_eq_true rfl, Nat.le_of_ble_eq_true rfl⟩ dX9_reset_6) rfl rfl (fun _ => rfl) (fun u H locs hT => ?_)
  have hT : Wd g A s [(a0, .inr (9, [.ref ac, .ref an])), (ac, .inl (g.2.1 0, N, .inl (fillTo fc 32768 N))), (an, .inl (g.2.1 0, N, .inl fn))] H locs := hT
  refine W.eq (g2 := F0 m 9 ls []) rfl ?_
  refine lv_aload_n hx hb dX9_reset_9 rfl (lv_at hl 0 rfl) ?_
  refine gX9_21 C hT (q0 := 0) rfl dX9_reset_10 ?_
  refine lv_iconst (v := 0) hx hb dX9_reset_13 (by decide) ?_
  have hM := c_J7_fill_53178 l g an N fn 0 (by first | assumption | omega)
  refine r_call0 (js := [2]) C hT (runS (js := [2]) (rm := ({ frames := 0, cells := 0, slots := 0, locals := 0 } : Room)) (As := [.ref an, .int 0]) (n := 2) (rest := []) C hT hM rfl rfl k165 k121 k8 k122 (by decide +kernel) rfl rfl (Nat.le_of_ble_eq_true rfl) hl.1 ⟨Nat.le_of_ble_eq_true rfl, Nat.le_of_ble_eq_true rfl⟩ ⟨Nat.le_of_ble_eq_true rfl, Nat.le_of_ble_eq_true rfl⟩ dX9_reset_14) rfl rfl (fun _ => rfl) (fun u H locs hT => ?_)
  have hT : Wd g A s [(a0, .inr (9, [.ref ac, .ref an])), (ac, .inl (g.2.1 0, N, .inl (fillTo fc 32768 N))), (an, .inl (g.2.1 0, N, .inl (fillTo fn 0 N)))] H locs := hT
  refine W.eq (g2 := F0 m 17 ls []) rfl ?_
  exact e_vret C hQ () hT rfl dX9_reset_17
end
section
set_option maxHeartbeats 400000 in
set_option maxRecDepth 100000 in
theorem c_X1_has (l : Launch) (g : GT) (nd : Int32) (j : Int32) : OM (S := Unit) l g yX1_has cX1_has 2 (some .boolean) ({ frames := 0, cells := 0, slots := 0, locals := 0 } : Room) [.int nd, .int j] [] (fun _ => some (.int (b01 (cellB nd j)))) (fun _ => []) := by
  refine OM.startQ (by decide) (Nat.le_of_ble_eq_true rfl) ?_
  intro p e s m below meth c A ls Q H locs hQ C hnm hl hT
  have hx := C.x
  have hb := C.b
  have hl : lv_has ls 2 [(0, .int nd), (1, .int j)] := hl
  refine lv_iload_n hx hb dX1_has_0 rfl (lv_at hl 0 rfl) ?_
  refine lv_if_lt (tgt := 25) hx hb dX1_has_1 (by decide) (fun h_1 => ?_) (fun h_1 => ?_)
  · skip
    refine lv_iconst (v := 0) hx hb dX1_has_25 (by decide) ?_
    exact e_zret C hQ () hT (by simp [b01, cellB, h_1]) (by decide) dX1_has_26
  · skip
    refine lv_iload_n hx hb dX1_has_4 rfl (lv_at hl 0 rfl) ?_
    refine lv_sipush (v := 256) hx hb dX1_has_5 (by decide) ?_
    refine lv_icmp_ge (tgt := 25) hx hb dX1_has_8 (by decide) (fun h_2 => ?_) (fun h_2 => ?_)
    · skip
      refine lv_iconst (v := 0) hx hb dX1_has_25 (by decide) ?_
      exact e_zret C hQ () hT (by simp [b01, cellB, h_1, h_2]) (by decide) dX1_has_26
    · skip
      refine lv_iload_n hx hb dX1_has_11 rfl (lv_at hl 1 rfl) ?_
      refine lv_if_lt (tgt := 25) hx hb dX1_has_12 (by decide) (fun h_3 => ?_) (fun h_3 => ?_)
      · skip
        refine lv_iconst (v := 0) hx hb dX1_has_25 (by decide) ?_
        exact e_zret C hQ () hT (by simp [b01, cellB, h_1, h_2, h_3]) (by decide) dX1_has_26
      · skip
        refine lv_iload_n hx hb dX1_has_15 rfl (lv_at hl 1 rfl) ?_
        refine lv_bipush (v := 33) hx hb dX1_has_16 (by decide) ?_
        refine lv_icmp_ge (tgt := 25) hx hb dX1_has_18 (by decide) (fun h_4 => ?_) (fun h_4 => ?_)
        · skip
          refine lv_iconst (v := 0) hx hb dX1_has_25 (by decide) ?_
          exact e_zret C hQ () hT (by simp [b01, cellB, h_1, h_2, h_3, h_4]) (by decide) dX1_has_26
        · skip
          refine lv_iconst (v := 1) hx hb dX1_has_21 (by decide) ?_
          refine lv_goto (tgt := 26) hx hb dX1_has_22 (by decide) ?_
          exact e_zret C hQ () hT (by simp [b01, cellB, h_1, h_2, h_3, h_4]) (by decide) dX1_has_26

set_option maxHeartbeats 400000 in
set_option maxRecDepth 100000 in
theorem c_X1_cellAt (l : Launch) (g : GT) (a0 : Nat) (ac : Nat) (nr : Int32) (f : Nat → Int32) (k : Nat) (t : Nat) (hk : k < 256) (ht : t < 33) : OM (S := Unit) l g yX1_cellAt cX1_cellAt 3 (some .int) ({ frames := 1, cells := 0, slots := 0, locals := 21 } : Room) [.ref a0, .int (nI k), .int (nI t)] [(a0, .inr (1, [.ref ac, .int nr])), (ac, .inl (g.2.1 0, 8448, .inl f))] (fun _ => some (.int (f (33 * k + t)))) (fun _ => [(a0, .inr (1, [.ref ac, .int nr])), (ac, .inl (g.2.1 0, 8448, .inl f))]) := by
  refine OM.startQ (by decide) (Nat.le_of_ble_eq_true rfl) ?_
  intro p e s m below meth c A ls Q H locs hQ C hnm hl hT
  have hx := C.x
  have hb := C.b
  have hl : lv_has ls 3 [(0, .ref a0), (1, .int (nI k)), (2, .int (nI t))] := hl
  refine lv_iload_n hx hb dX1_cellAt_0 rfl (lv_at hl 1 rfl) ?_
  refine lv_iload_n hx hb dX1_cellAt_1 rfl (lv_at hl 2 rfl) ?_
  have hM := c_X1_has l g (nI k) (nI t)
  refine r_call0 (js := []) C hT (runS (js := []) (rm := ({ frames := 0, cells := 0, slots := 0, locals := 0 } : Room)) (As := [.int (nI k), .int (nI t)]) (n := 2) (rest := []) C hT hM rfl rfl k428 k429 k9 k430 (by decide +kernel) rfl rfl (Nat.le_of_ble_eq_true rfl) hl.1 ⟨Nat.le_of_ble_eq_true rfl, Nat.le_of_ble_eq_true rfl⟩ ⟨Nat.le_of_ble_eq_true rfl, Nat.le_of_ble_eq_true rfl⟩ dX1_cellAt_2) rfl rfl (fun _ => rfl) (fun u H locs hT => ?_)
  have hT : Wd g A s [(a0, .inr (1, [.ref ac, .int nr])), (ac, .inl (g.2.1 0, 8448, .inl f))] H locs := hT
  refine W.eq (g2 := F0 m 5 ls [.int (b01 (cellB (nI k) (nI t)))]) rfl ?_
  refine lv_if_eq (tgt := 22) hx hb dX1_cellAt_5 (by decide) (fun h_1 => ?_) (fun h_1 => ?_)
  · skip
    exact absurd (b01_f h_1) (by rw [cellB_nI hk ht]; decide)
  · skip
    refine lv_aload_n hx hb dX1_cellAt_8 rfl (lv_at hl 0 rfl) ?_
    refine gX1_9 C hT (q0 := 0) rfl dX1_cellAt_9 ?_
    refine lv_iload_n hx hb dX1_cellAt_12 rfl (lv_at hl 1 rfl) ?_
    refine lv_bipush (v := 33) hx hb dX1_cellAt_13 (by decide) ?_
    refine lv_imul hx hb dX1_cellAt_15 ?_
    refine W.eq (g2 := F0 m 16 ls [.int (nI (k * 33)), .ref ac]) (congrArg (fun z => F0 m 16 ls (.int z :: [.ref ac])) (pk_mul k 33)) ?_
    refine lv_iload_n hx hb dX1_cellAt_16 rfl (lv_at hl 2 rfl) ?_
    refine lv_iadd hx hb dX1_cellAt_17 ?_
    refine W.eq (g2 := F0 m 18 ls [.int (nI (33 * k + t)), .ref ac]) (congrArg (fun z => F0 m 18 ls (.int z :: [.ref ac])) ((nI_add (k * 33) t).trans (by rw [Nat.mul_comm]))) ?_
    refine r_iald C hT (q0 := 1) rfl (33 * k + t) rfl (by omega) (by decide) dX1_cellAt_18 ?_
    refine lv_goto (tgt := 23) hx hb dX1_cellAt_19 (by decide) ?_
    exact e_iret C hQ () hT rfl dX1_cellAt_23

set_option maxHeartbeats 400000 in
set_option maxRecDepth 100000 in
theorem c_X1_correct (l : Launch) (g : GT) (a0 : Nat) (ac : Nat) (nr : Int32) (f : Nat → Int32) (k : Nat) (st : Int32) (t : Nat) (hk : k < 256) (ht : t < 4096) (hst : st + 2048 = nI t) : OM (S := Unit) l g yX1_correct cX1_correct 6 (some .int) ({ frames := 2, cells := 0, slots := 0, locals := 45 } : Room) [.ref a0, .int (nI k), .int st] [(a0, .inr (1, [.ref ac, .int nr])), (ac, .inl (g.2.1 0, 8448, .inl f))] (fun _ => some (.int (corrI f k t))) (fun _ => [(a0, .inr (1, [.ref ac, .int (nI (nearN k t))])), (ac, .inl (g.2.1 0, 8448, .inl f))]) := by
  refine OM.startQ (by decide) (Nat.le_of_ble_eq_true rfl) ?_
  intro p e s m below meth c A ls Q H locs hQ C hnm hl hT
  have hx := C.x
  have hb := C.b
  have hl : lv_has ls 6 [(0, .ref a0), (1, .int (nI k)), (2, .int st)] := hl
  refine lv_iload_n hx hb dX1_correct_0 rfl (lv_at hl 2 rfl) ?_
  refine lv_sipush (v := 2048) hx hb dX1_correct_1 (by decide) ?_
  refine lv_iadd hx hb dX1_correct_4 ?_
  refine W.eq (g2 := F0 m 5 ls [.int (nI t)]) (congrArg (fun z => F0 m 5 ls (.int z :: [])) (hst)) ?_
  refine lv_istore_n (lv' := [(3, .int (nI t)), (0, .ref a0), (1, .int (nI k)), (2, .int st)]) hx hb dX1_correct_5 rfl hl (by decide) rfl (fun ls hl => ?_)
  refine lv_iload_n hx hb dX1_correct_6 rfl (lv_at hl 0 rfl) ?_
  refine lv_bipush (v := 7) hx hb dX1_correct_7 (by decide) ?_
  refine lv_ishr hx hb dX1_correct_9 ?_
  refine W.eq (g2 := F0 m 10 ls [.int (nI (t / 128))]) (congrArg (fun z => F0 m 10 ls (.int z :: [])) (pk_shrN (by omega) _ 7 (by decide))) ?_
  refine lv_istore (lv' := [(4, .int (nI (t / 128))), (3, .int (nI t)), (0, .ref a0), (1, .int (nI k)), (2, .int st)]) hx hb dX1_correct_10 hl (by decide) rfl (fun ls hl => ?_)
  refine lv_iload_n hx hb dX1_correct_12 rfl (lv_at hl 1 rfl) ?_
  refine lv_bipush (v := 127) hx hb dX1_correct_13 (by decide) ?_
  refine lv_iand hx hb dX1_correct_15 ?_
  refine W.eq (g2 := F0 m 16 ls [.int (nI (t % 128))]) (congrArg (fun z => F0 m 16 ls (.int z :: [])) (pk_andN (by omega) 7 (by decide))) ?_
  refine lv_istore (lv' := [(5, .int (nI (t % 128))), (4, .int (nI (t / 128))), (3, .int (nI t)), (0, .ref a0), (1, .int (nI k)), (2, .int st)]) hx hb dX1_correct_16 hl (by decide) rfl (fun ls hl => ?_)
  refine lv_aload_n hx hb dX1_correct_18 rfl (lv_at hl 3 rfl) ?_
  refine lv_iload_n hx hb dX1_correct_19 rfl (lv_at hl 4 rfl) ?_
  refine lv_bipush (v := 33) hx hb dX1_correct_20 (by decide) ?_
  refine lv_imul hx hb dX1_correct_22 ?_
  refine W.eq (g2 := F0 m 23 ls [.int (nI (k * 33)), .ref a0]) (congrArg (fun z => F0 m 23 ls (.int z :: [.ref a0])) (pk_mul k 33)) ?_
  refine lv_iload hx hb dX1_correct_23 (lv_at hl 0 rfl) ?_
  refine lv_bipush (v := 64) hx hb dX1_correct_25 (by decide) ?_
  refine r_ite (ls := ls) (J := 39) (a1 := nI (t / 128)) (a2 := nI (t / 128 + 1)) (rest := [.int (nI (k * 33)), .ref a0]) (lv_icmp_lt (tgt := 37) hx hb dX1_correct_27 (by decide)) (fun h_1 kont => ?_) (fun h_1 kont => ?_) ?_
  · skip
    refine lv_iload hx hb dX1_correct_37 (lv_at hl 1 rfl) ?_
    exact kont
  · skip
    refine lv_iload hx hb dX1_correct_30 (lv_at hl 1 rfl) ?_
    refine lv_iconst (v := 1) hx hb dX1_correct_32 (by decide) ?_
    refine lv_iadd hx hb dX1_correct_33 ?_
    refine W.eq (g2 := F0 m 34 ls [.int (nI (t / 128 + 1)), .int (nI (k * 33)), .ref a0]) (congrArg (fun z => F0 m 34 ls (.int z :: [.int (nI (k * 33)), .ref a0])) (nI_1 _)) ?_
    refine lv_goto (tgt := 39) hx hb dX1_correct_34 (by decide) ?_
    exact kont
  refine W.eq (g2 := F0 m 39 ls [.int (nI (if 64 ≤ t % 128 then t / 128 + 1 else t / 128)), .int (nI (k * 33)), .ref a0]) (congrArg (fun z => F0 m 39 ls (.int z :: [.int (nI (k * 33)), .ref a0])) (near_if t)) ?_
  refine lv_iadd hx hb dX1_correct_39 ?_
  refine W.eq (g2 := F0 m 40 ls [.int (nI (nearN k t)), .ref a0]) (congrArg (fun z => F0 m 40 ls (.int z :: [.ref a0])) (near_add k t)) ?_
  refine lv_iconst (v := 0) hx hb dX1_correct_40 (by decide) ?_
  refine lv_aload_n hx hb dX1_correct_41 rfl (lv_at hl 3 rfl) ?_
  refine gX1_9 C hT (q0 := 0) rfl dX1_correct_42 ?_
  refine r_alen C hT (q0 := 1) 0 rfl rfl dX1_correct_45 ?_
  refine W.eq (g2 := F0 m 46 ls [.int (nI 8448), .int 0, .int (nI (nearN k t)), .ref a0]) rfl ?_
  refine lv_iconst (v := 1) hx hb dX1_correct_46 (by decide) ?_
  refine lv_isub hx hb dX1_correct_47 ?_
  refine W.eq (g2 := F0 m 48 ls [.int 8447, .int 0, .int (nI (nearN k t)), .ref a0]) (congrArg (fun z => F0 m 48 ls (.int z :: [.int 0, .int (nI (nearN k t)), .ref a0])) (rfl)) ?_
  have hM := c_X5_bound l g (nI (nearN k t)) 0 8447
  refine r_call0 (js := []) C hT (runS (js := []) (rm := ({ frames := 1, cells := 0, slots := 0, locals := 23 } : Room)) (As := [.int (nI (nearN k t)), .int 0, .int 8447]) (n := 3) (rest := [.ref a0]) C hT hM rfl rfl k423 k31 k2 k32 (by decide +kernel) rfl rfl (Nat.le_of_ble_eq_true rfl) hl.1 ⟨Nat.le_of_ble_eq_true rfl, Nat.le_of_ble_eq_true rfl⟩ ⟨Nat.le_of_ble_eq_true rfl, Nat.le_of_ble_eq_true rfl⟩ dX1_correct_48) rfl rfl (fun _ => rfl) (fun u H locs hT => ?_)
  have hT : Wd g A s [(a0, .inr (1, [.ref ac, .int nr])), (ac, .inl (g.2.1 0, 8448, .inl f))] H locs := hT
  refine W.eq (g2 := F0 m 51 ls [.int (boundI (nI (nearN k t)) 0 8447), .ref a0]) rfl ?_
  refine W.eq (g2 := F0 m 51 ls [.int (nI (nearN k t)), .ref a0]) (congrArg (fun z => F0 m 51 ls (.int z :: [.ref a0])) (boundI_id (a := 0) (b := 8447) (by omega) (near_lt hk ht) (by decide))) ?_
  refine pX1_37 C hT (q0 := 0) rfl dX1_correct_51 (fun H locs hT => ?_)
  have hT : Wd g A s [(a0, .inr (1, [.ref ac, .int (nI (nearN k t))])), (ac, .inl (g.2.1 0, 8448, .inl f))] H locs := hT
  refine lv_aload_n hx hb dX1_correct_54 rfl (lv_at hl 3 rfl) ?_
  refine lv_iload_n hx hb dX1_correct_55 rfl (lv_at hl 4 rfl) ?_
  refine lv_iload hx hb dX1_correct_56 (lv_at hl 1 rfl) ?_
  have hM := c_X1_cellAt l g a0 ac (nI (nearN k t)) f k (t / 128) (by first | assumption | omega) (by omega)
  refine r_call0 (js := [0, 1]) C hT (runV (js := [0, 1]) (rm := ({ frames := 1, cells := 0, slots := 0, locals := 21 } : Room)) (As := [.int (nI k), .int (nI (t / 128))]) (n := 2) (q1 := 0) (rest := []) C hT hM rfl rfl k424 k425 k426 k9 k427 (by decide +kernel) rfl rfl rfl rfl (Nat.le_of_ble_eq_true rfl) hl.1 ⟨Nat.le_of_ble_eq_true rfl, Nat.le_of_ble_eq_true rfl⟩ ⟨Nat.le_of_ble_eq_true rfl, Nat.le_of_ble_eq_true rfl⟩ dX1_correct_58) rfl rfl (fun _ => rfl) (fun u H locs hT => ?_)
  have hT : Wd g A s [(a0, .inr (1, [.ref ac, .int (nI (nearN k t))])), (ac, .inl (g.2.1 0, 8448, .inl f))] H locs := hT
  refine W.eq (g2 := F0 m 61 ls [.int (f (33 * k + (t / 128)))]) rfl ?_
  refine lv_sipush (v := 128) hx hb dX1_correct_61 (by decide) ?_
  refine lv_iload hx hb dX1_correct_64 (lv_at hl 0 rfl) ?_
  refine lv_isub hx hb dX1_correct_66 ?_
  refine lv_imul hx hb dX1_correct_67 ?_
  refine lv_aload_n hx hb dX1_correct_68 rfl (lv_at hl 3 rfl) ?_
  refine lv_iload_n hx hb dX1_correct_69 rfl (lv_at hl 4 rfl) ?_
  refine lv_iload hx hb dX1_correct_70 (lv_at hl 1 rfl) ?_
  refine lv_iconst (v := 1) hx hb dX1_correct_72 (by decide) ?_
  refine lv_iadd hx hb dX1_correct_73 ?_
  refine W.eq (g2 := F0 m 74 ls [.int (nI (t / 128 + 1)), .int (nI k), .ref a0, .int ((f (33 * k + (t / 128))) * (128 - (nI (t % 128))))]) (congrArg (fun z => F0 m 74 ls (.int z :: [.int (nI k), .ref a0, .int ((f (33 * k + (t / 128))) * (128 - (nI (t % 128))))])) (nI_1 _)) ?_
  have hM := c_X1_cellAt l g a0 ac (nI (nearN k t)) f k (t / 128 + 1) (by first | assumption | omega) (by omega)
  refine r_call0 (js := [0, 1]) C hT (runV (js := [0, 1]) (rm := ({ frames := 1, cells := 0, slots := 0, locals := 21 } : Room)) (As := [.int (nI k), .int (nI (t / 128 + 1))]) (n := 2) (q1 := 0) (rest := [.int ((f (33 * k + (t / 128))) * (128 - (nI (t % 128))))]) C hT hM rfl rfl k424 k425 k426 k9 k427 (by decide +kernel) rfl rfl rfl rfl (Nat.le_of_ble_eq_true rfl) hl.1 ⟨Nat.le_of_ble_eq_true rfl, Nat.le_of_ble_eq_true rfl⟩ ⟨Nat.le_of_ble_eq_true rfl, Nat.le_of_ble_eq_true rfl⟩ dX1_correct_74) rfl rfl (fun _ => rfl) (fun u H locs hT => ?_)
  have hT : Wd g A s [(a0, .inr (1, [.ref ac, .int (nI (nearN k t))])), (ac, .inl (g.2.1 0, 8448, .inl f))] H locs := hT
  refine W.eq (g2 := F0 m 77 ls [.int (f (33 * k + (t / 128 + 1))), .int ((f (33 * k + (t / 128))) * (128 - (nI (t % 128))))]) rfl ?_
  refine lv_iload hx hb dX1_correct_77 (lv_at hl 0 rfl) ?_
  refine lv_imul hx hb dX1_correct_79 ?_
  refine lv_iadd hx hb dX1_correct_80 ?_
  refine lv_bipush (v := 11) hx hb dX1_correct_81 (by decide) ?_
  refine lv_ishr hx hb dX1_correct_83 ?_
  exact e_iret C hQ () hT (by rfl) dX1_correct_84

set_option maxHeartbeats 400000 in
set_option maxRecDepth 100000 in
theorem c_X1_learn (l : Launch) (g : GT) (a0 : Nat) (ac : Nat) (f : Nat → Int32) (q : Nat) (on : Int32) (hq : q < 8448) : OM (S := Unit) l g yX1_learn cX1_learn 2 none ({ frames := 0, cells := 0, slots := 0, locals := 0 } : Room) [.ref a0, .int on] [(a0, .inr (1, [.ref ac, .int (nI q)])), (ac, .inl (g.2.1 0, 8448, .inl f))] (fun _ => none) (fun _ => [(a0, .inr (1, [.ref ac, .int (nI q)])), (ac, .inl (g.2.1 0, 8448, .inl (upd f q (cellUp on (f q)))))]) := by
  refine OM.startQ (by decide) (Nat.le_of_ble_eq_true rfl) ?_
  intro p e s m below meth c A ls Q H locs hQ C hnm hl hT
  have hx := C.x
  have hb := C.b
  have hl : lv_has ls 2 [(0, .ref a0), (1, .int on)] := hl
  refine lv_aload_n hx hb dX1_learn_0 rfl (lv_at hl 0 rfl) ?_
  refine gX1_9 C hT (q0 := 0) rfl dX1_learn_1 ?_
  refine lv_aload_n hx hb dX1_learn_4 rfl (lv_at hl 0 rfl) ?_
  refine gX1_37 C hT (q0 := 0) rfl dX1_learn_5 ?_
  refine lv_dup2_11 hx hb dX1_learn_8 rfl rfl ?_
  refine r_iald C hT (q0 := 1) rfl q rfl (by omega) (by decide) dX1_learn_9 ?_
  refine lv_iload_n hx hb dX1_learn_10 rfl (lv_at hl 1 rfl) ?_
  refine r_ite (ls := ls) (J := 20) (a1 := 0) (a2 := 65535) (rest := [.int (f q), .int (nI q), .ref ac]) (lv_if_eq (tgt := 19) hx hb dX1_learn_11 (by decide)) (fun h_1 kont => ?_) (fun h_1 kont => ?_) ?_
  · skip
    refine lv_iconst (v := 0) hx hb dX1_learn_19 (by decide) ?_
    exact kont
  · skip
    refine lv_ldc (v := 65535) hx hb C.ow (C.ts _ k472) dX1_learn_14 ?_
    refine lv_goto (tgt := 20) hx hb dX1_learn_16 (by decide) ?_
    exact kont
  refine lv_aload_n hx hb dX1_learn_20 rfl (lv_at hl 0 rfl) ?_
  refine gX1_9 C hT (q0 := 0) rfl dX1_learn_21 ?_
  refine lv_aload_n hx hb dX1_learn_24 rfl (lv_at hl 0 rfl) ?_
  refine gX1_37 C hT (q0 := 0) rfl dX1_learn_25 ?_
  refine r_iald C hT (q0 := 1) rfl q rfl (by omega) (by decide) dX1_learn_28 ?_
  refine lv_isub hx hb dX1_learn_29 ?_
  refine lv_bipush (v := 7) hx hb dX1_learn_30 (by decide) ?_
  refine lv_ishr hx hb dX1_learn_32 ?_
  refine lv_iadd hx hb dX1_learn_33 ?_
  refine lv_topi (fun x_2 ex_2 => ?_)
  refine r_iast C hT (q0 := 1) rfl q rfl (by omega) (by decide) dX1_learn_34 (fun H locs hT => ?_)
  have hT : Wd g A s [(a0, .inr (1, [.ref ac, .int (nI q)])), (ac, .inl (g.2.1 0, 8448, .inl (upd f q x_2)))] H locs := hT
  exact e_vret C hQ () (by subst ex_2; exact hT) rfl dX1_learn_35

set_option maxHeartbeats 400000 in
set_option maxRecDepth 100000 in
theorem c_X4_weightAt (l : Launch) (g : GT) (a0 : Nat) (aw : Nat) (ro : Int32) (to : Int32) (f : Nat → Int32) (k : Nat) (t : Nat) (hk : k < 256) (ht : t < 9) : OM (S := Unit) l g yX4_weightAt cX4_weightAt 3 (some .int) ({ frames := 2, cells := 0, slots := 0, locals := 45 } : Room) [.ref a0, .int (nI k), .int (nI t)] [(a0, .inr (4, [.ref aw, .int ro, .int to])), (aw, .inl (g.2.1 0, 2304, .inl f))] (fun _ => some (.int (f (9 * k + t)))) (fun _ => [(a0, .inr (4, [.ref aw, .int ro, .int to])), (aw, .inl (g.2.1 0, 2304, .inl f))]) := by
  refine OM.startQ (by decide) (Nat.le_of_ble_eq_true rfl) ?_
  intro p e s m below meth c A ls Q H locs hQ C hnm hl hT
  have hx := C.x
  have hb := C.b
  have hl : lv_has ls 3 [(0, .ref a0), (1, .int (nI k)), (2, .int (nI t))] := hl
  refine lv_aload_n hx hb dX4_weightAt_0 rfl (lv_at hl 0 rfl) ?_
  refine gX4_11 C hT (q0 := 0) rfl dX4_weightAt_1 ?_
  refine lv_iload_n hx hb dX4_weightAt_4 rfl (lv_at hl 1 rfl) ?_
  refine lv_iconst (v := 0) hx hb dX4_weightAt_5 (by decide) ?_
  refine lv_sipush (v := 255) hx hb dX4_weightAt_6 (by decide) ?_
  have hM := c_X5_bound l g (nI k) 0 255
  refine r_call0 (js := []) C hT (runS (js := []) (rm := ({ frames := 1, cells := 0, slots := 0, locals := 23 } : Room)) (As := [.int (nI k), .int 0, .int 255]) (n := 3) (rest := [.ref aw]) C hT hM rfl rfl k408 k31 k2 k32 (by decide +kernel) rfl rfl (Nat.le_of_ble_eq_true rfl) hl.1 ⟨Nat.le_of_ble_eq_true rfl, Nat.le_of_ble_eq_true rfl⟩ ⟨Nat.le_of_ble_eq_true rfl, Nat.le_of_ble_eq_true rfl⟩ dX4_weightAt_9) rfl rfl (fun _ => rfl) (fun u H locs hT => ?_)
  have hT : Wd g A s [(a0, .inr (4, [.ref aw, .int ro, .int to])), (aw, .inl (g.2.1 0, 2304, .inl f))] H locs := hT
  refine W.eq (g2 := F0 m 12 ls [.int (boundI (nI k) 0 255), .ref aw]) rfl ?_
  refine W.eq (g2 := F0 m 12 ls [.int (nI k), .ref aw]) (congrArg (fun z => F0 m 12 ls (.int z :: [.ref aw])) (boundI_id (a := 0) (b := 255) (by omega) (by omega) (by decide))) ?_
  refine lv_bipush (v := 9) hx hb dX4_weightAt_12 (by decide) ?_
  refine lv_imul hx hb dX4_weightAt_14 ?_
  refine W.eq (g2 := F0 m 15 ls [.int (nI (k * 9)), .ref aw]) (congrArg (fun z => F0 m 15 ls (.int z :: [.ref aw])) (pk_mul k 9)) ?_
  refine lv_iload_n hx hb dX4_weightAt_15 rfl (lv_at hl 2 rfl) ?_
  refine lv_iconst (v := 0) hx hb dX4_weightAt_16 (by decide) ?_
  refine lv_bipush (v := 8) hx hb dX4_weightAt_17 (by decide) ?_
  have hM := c_X5_bound l g (nI t) 0 8
  refine r_call0 (js := []) C hT (runS (js := []) (rm := ({ frames := 1, cells := 0, slots := 0, locals := 23 } : Room)) (As := [.int (nI t), .int 0, .int 8]) (n := 3) (rest := [.int (nI (k * 9)), .ref aw]) C hT hM rfl rfl k408 k31 k2 k32 (by decide +kernel) rfl rfl (Nat.le_of_ble_eq_true rfl) hl.1 ⟨Nat.le_of_ble_eq_true rfl, Nat.le_of_ble_eq_true rfl⟩ ⟨Nat.le_of_ble_eq_true rfl, Nat.le_of_ble_eq_true rfl⟩ dX4_weightAt_19) rfl rfl (fun _ => rfl) (fun u H locs hT => ?_)
  have hT : Wd g A s [(a0, .inr (4, [.ref aw, .int ro, .int to])), (aw, .inl (g.2.1 0, 2304, .inl f))] H locs := hT
  refine W.eq (g2 := F0 m 22 ls [.int (boundI (nI t) 0 8), .int (nI (k * 9)), .ref aw]) rfl ?_
  refine W.eq (g2 := F0 m 22 ls [.int (nI t), .int (nI (k * 9)), .ref aw]) (congrArg (fun z => F0 m 22 ls (.int z :: [.int (nI (k * 9)), .ref aw])) (boundI_id (a := 0) (b := 8) (by omega) (by omega) (by decide))) ?_
  refine lv_iadd hx hb dX4_weightAt_22 ?_
  refine W.eq (g2 := F0 m 23 ls [.int (nI (9 * k + t)), .ref aw]) (congrArg (fun z => F0 m 23 ls (.int z :: [.ref aw])) ((nI_add (k * 9) t).trans (by rw [Nat.mul_comm]))) ?_
  refine r_iald C hT (q0 := 1) rfl (9 * k + t) rfl (by omega) (by decide) dX4_weightAt_23 ?_
  exact e_iret C hQ () hT rfl dX4_weightAt_24

set_option maxHeartbeats 400000 in
set_option maxRecDepth 100000 in
theorem c_X4_tell (l : Launch) (g : GT) (a0 : Nat) (aw : Nat) (ro : Int32) (to : Int32) (f : Nat → Int32) (ai : Nat) (x : Nat → Int32) (k : Nat) (hk : k < 256) : OM (S := Unit) l g yX4_tell cX4_tell 7 (some .int) ({ frames := 2, cells := 0, slots := 0, locals := 45 } : Room) [.ref a0, .int (nI k), .ref ai] [(a0, .inr (4, [.ref aw, .int ro, .int to])), (aw, .inl (g.2.1 0, 2304, .inl f)), (ai, .inl (g.2.1 0, 9, .inl x))] (fun _ => some (.int (toldI f x (9 * k)))) (fun _ => [(a0, .inr (4, [.ref aw, .int (nI (9 * k)), .int (toldI f x (9 * k))])), (aw, .inl (g.2.1 0, 2304, .inl f)), (ai, .inl (g.2.1 0, 9, .inl x))]) := by
  refine OM.startQ (by decide) (Nat.le_of_ble_eq_true rfl) ?_
  intro p e s m below meth c A ls Q H locs hQ C hnm hl hT
  have hx := C.x
  have hb := C.b
  have hl : lv_has ls 7 [(0, .ref a0), (1, .int (nI k)), (2, .ref ai)] := hl
  refine lv_aload_n hx hb dX4_tell_0 rfl (lv_at hl 0 rfl) ?_
  refine lv_iload_n hx hb dX4_tell_1 rfl (lv_at hl 1 rfl) ?_
  refine lv_iconst (v := 0) hx hb dX4_tell_2 (by decide) ?_
  refine lv_sipush (v := 255) hx hb dX4_tell_3 (by decide) ?_
  have hM := c_X5_bound l g (nI k) 0 255
  refine r_call0 (js := []) C hT (runS (js := []) (rm := ({ frames := 1, cells := 0, slots := 0, locals := 23 } : Room)) (As := [.int (nI k), .int 0, .int 255]) (n := 3) (rest := [.ref a0]) C hT hM rfl rfl k408 k31 k2 k32 (by decide +kernel) rfl rfl (Nat.le_of_ble_eq_true rfl) hl.1 ⟨Nat.le_of_ble_eq_true rfl, Nat.le_of_ble_eq_true rfl⟩ ⟨Nat.le_of_ble_eq_true rfl, Nat.le_of_ble_eq_true rfl⟩ dX4_tell_6) rfl rfl (fun _ => rfl) (fun u H locs hT => ?_)
  have hT : Wd g A s [(a0, .inr (4, [.ref aw, .int ro, .int to])), (aw, .inl (g.2.1 0, 2304, .inl f)), (ai, .inl (g.2.1 0, 9, .inl x))] H locs := hT
  refine W.eq (g2 := F0 m 9 ls [.int (boundI (nI k) 0 255), .ref a0]) rfl ?_
  refine W.eq (g2 := F0 m 9 ls [.int (nI k), .ref a0]) (congrArg (fun z => F0 m 9 ls (.int z :: [.ref a0])) (boundI_id (a := 0) (b := 255) (by omega) (by omega) (by decide))) ?_
  refine lv_bipush (v := 9) hx hb dX4_tell_9 (by decide) ?_
  refine lv_imul hx hb dX4_tell_11 ?_
  refine W.eq (g2 := F0 m 12 ls [.int (nI (9 * k)), .ref a0]) (congrArg (fun z => F0 m 12 ls (.int z :: [.ref a0])) ((pk_mul k 9).trans (by rw [Nat.mul_comm]))) ?_
  refine pX4_30 C hT (q0 := 0) rfl dX4_tell_12 (fun H locs hT => ?_)
  have hT : Wd g A s [(a0, .inr (4, [.ref aw, .int (nI (9 * k)), .int to])), (aw, .inl (g.2.1 0, 2304, .inl f)), (ai, .inl (g.2.1 0, 9, .inl x))] H locs := hT
  refine lv_lconst (v := 0) hx hb dX4_tell_15 (by decide) ?_
  refine lv_lstore_n (lv' := [(3, .long 0), (0, .ref a0), (1, .int (nI k)), (2, .ref ai)]) hx hb dX4_tell_16 rfl hl (by decide) rfl (fun ls hl => ?_)
  refine lv_iconst (v := 0) hx hb dX4_tell_17 (by decide) ?_
  refine lv_istore (lv' := [(5, .int 0), (3, .long 0), (0, .ref a0), (1, .int (nI k)), (2, .ref ai)]) hx hb dX4_tell_18 hl (by decide) rfl (fun ls hl => ?_)
  have loop_20 : ∀ (fu : Nat) (i : Nat) (x5 : Int32) (s3 : Int64) (H : Heap) (locs : List Loc) (ls : Array Slot) (hi : i ≤ 9) (ex5 : x5 = nI i) (es3 : s3 = dotI f x (9 * k) i), 9 - i < fu → Wd g A s [(a0, .inr (4, [.ref aw, .int (nI (9 * k)), .int to])), (aw, .inl (g.2.1 0, 2304, .inl f)), (ai, .inl (g.2.1 0, 9, .inl x))] H locs → lv_has ls 7 [(0, .ref a0), (1, .int (nI k)), (2, .ref ai), (3, .long s3), (5, .int x5)] → W p l e ({ frames := 2, cells := 0, slots := 0, locals := 45 } : Room) s m ([.ref a0, .int (nI k), .ref ai] : List Value).toArray below meth c H locs 0 0 Q (F0 m 20 ls []) := by
    intro fu
    induction fu with
    | zero => intro i x5 s3 H locs ls hi ex5 es3 hm; exact absurd hm (Nat.not_lt_zero _)
    | succ fu ih =>
      intro i x5 s3 H locs ls hi ex5 es3 hm hT hl
      refine lv_iload hx hb dX4_tell_20 (lv_at hl 4 rfl) ?_
      refine lv_bipush (v := 9) hx hb dX4_tell_22 (by decide) ?_
      refine lv_icmp_ge (tgt := 62) hx hb dX4_tell_24 (by decide) (fun h_1 => ?_) (fun h_1 => ?_)
      · skip
        have hin := lp_end (n := 9) ex5 (by decide) hi h_1
        refine lv_ldc2 (v := (-2047)) hx hb C.ow (C.ts _ k409) dX4_tell_62 ?_
        refine lv_ldc2 (v := 2047) hx hb C.ow (C.ts _ k410) dX4_tell_65 ?_
        refine lv_lload_n hx hb dX4_tell_68 rfl (lv_at hl 3 rfl) ?_
        refine lv_bipush (v := 16) hx hb dX4_tell_69 (by decide) ?_
        refine lv_lshr hx hb dX4_tell_71 rfl ?_
        refine r_mminl C hl.1 k411 (Nat.le_of_ble_eq_true rfl) (Nat.le_of_ble_eq_true rfl) (Nat.le_of_ble_eq_true rfl) (Nat.le_of_ble_eq_true rfl) dX4_tell_72 ?_
        refine r_mmaxl C hl.1 k414 (Nat.le_of_ble_eq_true rfl) (Nat.le_of_ble_eq_true rfl) (Nat.le_of_ble_eq_true rfl) (Nat.le_of_ble_eq_true rfl) dX4_tell_75 ?_
        refine W.eq (g2 := F0 m 78 ls [.long (clampL (dotI f x (9 * k) 9 >>> ((16 : Int32).toInt64 &&& 63)))]) (congrArg (fun z => F0 m 78 ls (.long z :: [])) ((by rw [es3, hin]; rfl))) ?_
        refine lv_lstore (lv' := [(5, .long (clampL (dotI f x (9 * k) 9 >>> ((16 : Int32).toInt64 &&& 63)))), (0, .ref a0), (1, .int (nI k)), (2, .ref ai), (3, .long s3)]) hx hb dX4_tell_78 hl (by decide) rfl (fun ls hl => ?_)
        refine lv_aload_n hx hb dX4_tell_80 rfl (lv_at hl 1 rfl) ?_
        refine lv_lload hx hb dX4_tell_81 (lv_at hl 0 rfl) ?_
        refine lv_l2i hx hb dX4_tell_83 rfl ?_
        have hM := c_X5_squashed l g ((clampL (dotI f x (9 * k) 9 >>> ((16 : Int32).toInt64 &&& 63)) : Int64).toInt32)
        refine r_call0 (js := []) C hT (runS (js := []) (rm := ({ frames := 0, cells := 0, slots := 0, locals := 0 } : Room)) (As := [.int ((clampL (dotI f x (9 * k) 9 >>> ((16 : Int32).toInt64 &&& 63)) : Int64).toInt32)]) (n := 1) (rest := [.ref a0]) C hT hM rfl rfl k417 k46 k2 k47 (by decide +kernel) rfl rfl (Nat.le_of_ble_eq_true rfl) hl.1 ⟨Nat.le_of_ble_eq_true rfl, Nat.le_of_ble_eq_true rfl⟩ ⟨Nat.le_of_ble_eq_true rfl, Nat.le_of_ble_eq_true rfl⟩ dX4_tell_84) rfl rfl (fun _ => rfl) (fun u H locs hT => ?_)
        have hT : Wd g A s [(a0, .inr (4, [.ref aw, .int (nI (9 * k)), .int to])), (aw, .inl (g.2.1 0, 2304, .inl f)), (ai, .inl (g.2.1 0, 9, .inl x))] H locs := hT
        refine W.eq (g2 := F0 m 87 ls [.int (sqI ((clampL (dotI f x (9 * k) 9 >>> ((16 : Int32).toInt64 &&& 63)) : Int64).toInt32)), .ref a0]) rfl ?_
        refine W.eq (g2 := F0 m 87 ls [.int (toldI f x (9 * k)), .ref a0]) (congrArg (fun z => F0 m 87 ls (.int z :: [.ref a0])) ((by simp only [toldI]))) ?_
        refine pX4_51 C hT (q0 := 0) rfl dX4_tell_87 (fun H locs hT => ?_)
        have hT : Wd g A s [(a0, .inr (4, [.ref aw, .int (nI (9 * k)), .int (toldI f x (9 * k))])), (aw, .inl (g.2.1 0, 2304, .inl f)), (ai, .inl (g.2.1 0, 9, .inl x))] H locs := hT
        refine lv_aload_n hx hb dX4_tell_90 rfl (lv_at hl 1 rfl) ?_
        refine gX4_51 C hT (q0 := 0) rfl dX4_tell_91 ?_
        exact e_iret C hQ () hT rfl dX4_tell_94
      · skip
        have hin := lp_go (n := 9) ex5 (by decide) hi h_1
        refine lv_iload hx hb dX4_tell_27 (lv_at hl 4 rfl) ?_
        refine lv_aload_n hx hb dX4_tell_29 rfl (lv_at hl 2 rfl) ?_
        refine r_alen C hT (q0 := 2) 0 rfl rfl dX4_tell_30 ?_
        refine W.eq (g2 := F0 m 31 ls [.int (nI 9), .int x5]) rfl ?_
        refine lv_icmp_ge (tgt := 62) hx hb dX4_tell_31 (by decide) (fun h_2 => ?_) (fun h_2 => ?_)
        · skip
          exact absurd h_2 (by rw [ex5]; exact nI_ge hin (by decide))
        · skip
          refine lv_lload_n hx hb dX4_tell_34 rfl (lv_at hl 3 rfl) ?_
          refine lv_aload_n hx hb dX4_tell_35 rfl (lv_at hl 0 rfl) ?_
          refine gX4_11 C hT (q0 := 0) rfl dX4_tell_36 ?_
          refine lv_aload_n hx hb dX4_tell_39 rfl (lv_at hl 0 rfl) ?_
          refine gX4_30 C hT (q0 := 0) rfl dX4_tell_40 ?_
          refine lv_iload hx hb dX4_tell_43 (lv_at hl 4 rfl) ?_
          refine lv_iadd hx hb dX4_tell_45 ?_
          refine W.eq (g2 := F0 m 46 ls [.int (nI (9 * k + i)), .ref aw, .long s3]) (congrArg (fun z => F0 m 46 ls (.int z :: [.ref aw, .long s3])) ((by rw [ex5]; exact nI_add _ _))) ?_
          refine r_iald C hT (q0 := 1) rfl (9 * k + i) rfl (by omega) (by decide) dX4_tell_46 ?_
          refine lv_i2l hx hb dX4_tell_47 rfl ?_
          refine lv_aload_n hx hb dX4_tell_48 rfl (lv_at hl 2 rfl) ?_
          refine lv_iload hx hb dX4_tell_49 (lv_at hl 4 rfl) ?_
          refine r_iald C hT (q0 := 2) rfl i ex5 hin (by decide) dX4_tell_51 ?_
          refine lv_i2l hx hb dX4_tell_52 rfl ?_
          refine lv_lmul hx hb dX4_tell_53 ?_
          refine lv_ladd hx hb dX4_tell_54 ?_
          refine lv_topl (fun x_3 ex_3 => ?_)
          refine lv_lstore_n (lv' := [(3, .long x_3), (0, .ref a0), (1, .int (nI k)), (2, .ref ai), (5, .int x5)]) hx hb dX4_tell_55 rfl hl (by decide) rfl (fun ls hl => ?_)
          obtain ⟨x_4, ex_4⟩ : ∃ y : Int32, y = x5 + 1 := ⟨_, rfl⟩
          refine lv_iinc (v := x_4) (lv' := [(5, .int x_4), (3, .long x_3), (0, .ref a0), (1, .int (nI k)), (2, .ref ai)]) hx hb dX4_tell_56 hl (k := 4) rfl (by rw [ex_4]; rfl) (by decide) rfl (fun ls hl => ?_)
          refine lv_goto (tgt := 20) hx hb dX4_tell_59 (by decide) ?_
          exact ih (i + 1) x_4 x_3 H locs ls (by first | assumption | omega | rfl) (by rw [ex_4, ex5]; exact nI_1 i) (by rw [ex_3, es3]; rfl) (by omega) hT (lv_sub hl [2, 3, 4, 1, 0] rfl)
  exact loop_20 (9 - 0 + 1) 0 0 0 H locs ls (by first | assumption | omega | rfl) rfl rfl (Nat.lt_succ_self _) hT (lv_sub hl [2, 3, 4, 1, 0] rfl)

set_option maxHeartbeats 400000 in
set_option maxRecDepth 100000 in
theorem c_X4_learn (l : Launch) (g : GT) (a0 : Nat) (aw : Nat) (to : Int32) (f : Nat → Int32) (ai : Nat) (x : Nat → Int32) (k : Nat) (on : Int32) (hk : k < 256) : OM (S := Unit) l g yX4_learn cX4_learn 6 none ({ frames := 2, cells := 0, slots := 0, locals := 45 } : Room) [.ref a0, .int on, .ref ai] [(a0, .inr (4, [.ref aw, .int (nI (9 * k)), .int to])), (aw, .inl (g.2.1 0, 2304, .inl f)), (ai, .inl (g.2.1 0, 9, .inl x))] (fun _ => none) (fun _ => [(a0, .inr (4, [.ref aw, .int (nI (9 * k)), .int to])), (aw, .inl (g.2.1 0, 2304, .inl (wLearn f x (9 * k) (errI on to) 9))), (ai, .inl (g.2.1 0, 9, .inl x))]) := by
  refine OM.startQ (by decide) (Nat.le_of_ble_eq_true rfl) ?_
  intro p e s m below meth c A ls Q H locs hQ C hnm hl hT
  have hx := C.x
  have hb := C.b
  have hl : lv_has ls 6 [(0, .ref a0), (1, .int on), (2, .ref ai)] := hl
  refine lv_iload_n hx hb dX4_learn_0 rfl (lv_at hl 1 rfl) ?_
  refine r_ite (ls := ls) (J := 11) (a1 := 0) (a2 := 4095) (rest := []) (lv_if_eq (tgt := 10) hx hb dX4_learn_1 (by decide)) (fun h_1 kont => ?_) (fun h_1 kont => ?_) ?_
  · skip
    refine lv_iconst (v := 0) hx hb dX4_learn_10 (by decide) ?_
    exact kont
  · skip
    refine lv_sipush (v := 4095) hx hb dX4_learn_4 (by decide) ?_
    refine lv_goto (tgt := 11) hx hb dX4_learn_7 (by decide) ?_
    exact kont
  refine lv_aload_n hx hb dX4_learn_11 rfl (lv_at hl 0 rfl) ?_
  refine gX4_51 C hT (q0 := 0) rfl dX4_learn_12 ?_
  refine lv_isub hx hb dX4_learn_15 ?_
  refine lv_bipush (v := 7) hx hb dX4_learn_16 (by decide) ?_
  refine lv_imul hx hb dX4_learn_18 ?_
  refine W.eq (g2 := F0 m 19 ls [.int (errI on to)]) (congrArg (fun z => F0 m 19 ls (.int z :: [])) (rfl)) ?_
  refine lv_istore_n (lv' := [(3, .int (errI on to)), (0, .ref a0), (1, .int on), (2, .ref ai)]) hx hb dX4_learn_19 rfl hl (by decide) rfl (fun ls hl => ?_)
  refine lv_iconst (v := 0) hx hb dX4_learn_20 (by decide) ?_
  refine lv_istore (lv' := [(4, .int 0), (3, .int (errI on to)), (0, .ref a0), (1, .int on), (2, .ref ai)]) hx hb dX4_learn_21 hl (by decide) rfl (fun ls hl => ?_)
  have loop_23 : ∀ (fu : Nat) (i : Nat) (x4 : Int32) (f1 : Nat → Int32) (H : Heap) (locs : List Loc) (ls : Array Slot) (hi : i ≤ 9) (ex4 : x4 = nI i) (hf : f1 = wLearn f x (9 * k) (errI on to) i), 9 - i < fu → Wd g A s [(a0, .inr (4, [.ref aw, .int (nI (9 * k)), .int to])), (aw, .inl (g.2.1 0, 2304, .inl f1)), (ai, .inl (g.2.1 0, 9, .inl x))] H locs → lv_has ls 6 [(0, .ref a0), (1, .int on), (2, .ref ai), (3, .int (errI on to)), (4, .int x4)] → W p l e ({ frames := 2, cells := 0, slots := 0, locals := 45 } : Room) s m ([.ref a0, .int on, .ref ai] : List Value).toArray below meth c H locs 0 0 Q (F0 m 23 ls []) := by
    intro fu
    induction fu with
    | zero => intro i x4 f1 H locs ls hi ex4 hf hm; exact absurd hm (Nat.not_lt_zero _)
    | succ fu ih =>
      intro i x4 f1 H locs ls hi ex4 hf hm hT hl
      refine lv_iload hx hb dX4_learn_23 (lv_at hl 4 rfl) ?_
      refine lv_bipush (v := 9) hx hb dX4_learn_25 (by decide) ?_
      refine lv_icmp_ge (tgt := 91) hx hb dX4_learn_27 (by decide) (fun h_2 => ?_) (fun h_2 => ?_)
      · skip
        have hin := lp_end (n := 9) ex4 (by decide) hi h_2
        exact e_vret C hQ () (by rw [show wLearn f x (9 * k) (errI on to) 9 = f1 by rw [hf, hin]]; exact hT) rfl dX4_learn_91
      · skip
        have hin := lp_go (n := 9) ex4 (by decide) hi h_2
        refine lv_iload hx hb dX4_learn_30 (lv_at hl 4 rfl) ?_
        refine lv_aload_n hx hb dX4_learn_32 rfl (lv_at hl 2 rfl) ?_
        refine r_alen C hT (q0 := 2) 0 rfl rfl dX4_learn_33 ?_
        refine W.eq (g2 := F0 m 34 ls [.int (nI 9), .int x4]) rfl ?_
        refine lv_icmp_ge (tgt := 91) hx hb dX4_learn_34 (by decide) (fun h_3 => ?_) (fun h_3 => ?_)
        · skip
          exact absurd h_3 (by rw [ex4]; exact nI_ge hin (by decide))
        · skip
          refine lv_aload_n hx hb dX4_learn_37 rfl (lv_at hl 0 rfl) ?_
          refine gX4_11 C hT (q0 := 0) rfl dX4_learn_38 ?_
          refine lv_aload_n hx hb dX4_learn_41 rfl (lv_at hl 0 rfl) ?_
          refine gX4_30 C hT (q0 := 0) rfl dX4_learn_42 ?_
          refine lv_iload hx hb dX4_learn_45 (lv_at hl 4 rfl) ?_
          refine lv_iadd hx hb dX4_learn_47 ?_
          refine W.eq (g2 := F0 m 48 ls [.int (nI (9 * k + i)), .ref aw]) (congrArg (fun z => F0 m 48 ls (.int z :: [.ref aw])) ((by rw [ex4]; exact nI_add _ _))) ?_
          refine r_iald C hT (q0 := 1) rfl (9 * k + i) rfl (by omega) (by decide) dX4_learn_48 ?_
          refine lv_aload_n hx hb dX4_learn_49 rfl (lv_at hl 2 rfl) ?_
          refine lv_iload hx hb dX4_learn_50 (lv_at hl 4 rfl) ?_
          refine r_iald C hT (q0 := 2) rfl i ex4 hin (by decide) dX4_learn_52 ?_
          refine lv_iload_n hx hb dX4_learn_53 rfl (lv_at hl 3 rfl) ?_
          refine lv_imul hx hb dX4_learn_54 ?_
          refine lv_ldc (v := 32768) hx hb C.ow (C.ts _ k465) dX4_learn_55 ?_
          refine lv_iadd hx hb dX4_learn_57 ?_
          refine lv_bipush (v := 16) hx hb dX4_learn_58 (by decide) ?_
          refine lv_ishr hx hb dX4_learn_60 ?_
          refine lv_iadd hx hb dX4_learn_61 ?_
          refine lv_topi (fun x_4 ex_4 => ?_)
          refine lv_istore (lv' := [(5, .int x_4), (0, .ref a0), (1, .int on), (2, .ref ai), (3, .int (errI on to)), (4, .int x4)]) hx hb dX4_learn_62 hl (by decide) rfl (fun ls hl => ?_)
          refine lv_aload_n hx hb dX4_learn_64 rfl (lv_at hl 1 rfl) ?_
          refine gX4_11 C hT (q0 := 0) rfl dX4_learn_65 ?_
          refine lv_aload_n hx hb dX4_learn_68 rfl (lv_at hl 1 rfl) ?_
          refine gX4_30 C hT (q0 := 0) rfl dX4_learn_69 ?_
          refine lv_iload hx hb dX4_learn_72 (lv_at hl 5 rfl) ?_
          refine lv_iadd hx hb dX4_learn_74 ?_
          refine W.eq (g2 := F0 m 75 ls [.int (nI (9 * k + i)), .ref aw]) (congrArg (fun z => F0 m 75 ls (.int z :: [.ref aw])) ((by rw [ex4]; exact nI_add _ _))) ?_
          refine lv_iload hx hb dX4_learn_75 (lv_at hl 0 rfl) ?_
          refine lv_ldc (v := (-1000000)) hx hb C.ow (C.ts _ k466) dX4_learn_77 ?_
          refine lv_ldc (v := 1000000) hx hb C.ow (C.ts _ k467) dX4_learn_79 ?_
          have hM := c_X5_bound l g x_4 (-1000000) 1000000
          refine r_call0 (js := []) C hT (runS (js := []) (rm := ({ frames := 1, cells := 0, slots := 0, locals := 23 } : Room)) (As := [.int x_4, .int (-1000000), .int 1000000]) (n := 3) (rest := [.int (nI (9 * k + i)), .ref aw]) C hT hM rfl rfl k408 k31 k2 k32 (by decide +kernel) rfl rfl (Nat.le_of_ble_eq_true rfl) hl.1 ⟨Nat.le_of_ble_eq_true rfl, Nat.le_of_ble_eq_true rfl⟩ ⟨Nat.le_of_ble_eq_true rfl, Nat.le_of_ble_eq_true rfl⟩ dX4_learn_81) rfl rfl (fun _ => rfl) (fun u H locs hT => ?_)
          have hT : Wd g A s [(a0, .inr (4, [.ref aw, .int (nI (9 * k)), .int to])), (aw, .inl (g.2.1 0, 2304, .inl f1)), (ai, .inl (g.2.1 0, 9, .inl x))] H locs := hT
          refine W.eq (g2 := F0 m 84 ls [.int (boundI x_4 (-1000000) 1000000), .int (nI (9 * k + i)), .ref aw]) rfl ?_
          refine r_iast C hT (q0 := 1) rfl (9 * k + i) rfl (by omega) (by decide) dX4_learn_84 (fun H locs hT => ?_)
          have hT : Wd g A s [(a0, .inr (4, [.ref aw, .int (nI (9 * k)), .int to])), (aw, .inl (g.2.1 0, 2304, .inl (upd f1 (9 * k + i) (boundI x_4 (-1000000) 1000000)))), (ai, .inl (g.2.1 0, 9, .inl x))] H locs := hT
          obtain ⟨x_5, ex_5⟩ : ∃ y : Int32, y = x4 + 1 := ⟨_, rfl⟩
          refine lv_iinc (v := x_5) (lv' := [(4, .int x_5), (5, .int x_4), (0, .ref a0), (1, .int on), (2, .ref ai), (3, .int (errI on to))]) hx hb dX4_learn_85 hl (k := 5) rfl (by rw [ex_5]; rfl) (by decide) rfl (fun ls hl => ?_)
          refine lv_goto (tgt := 23) hx hb dX4_learn_88 (by decide) ?_
          exact ih (i + 1) x_5 (upd f1 (9 * k + i) (boundI x_4 (-1000000) 1000000)) H locs ls (by first | assumption | omega | rfl) (by rw [ex_5, ex4]; exact nI_1 i) (by rw [hf]; exact wLearn_s (by rw [ex_4, hf]; simp only [growI])) (by omega) hT (lv_sub hl [2, 3, 4, 5, 0] rfl)
  exact loop_23 (9 - 0 + 1) 0 0 f H locs ls (by first | assumption | omega | rfl) rfl rfl (Nat.lt_succ_self _) hT (lv_sub hl [2, 3, 4, 1, 0] rfl)

set_option maxHeartbeats 400000 in
set_option maxRecDepth 100000 in
theorem c_X4_fill (l : Launch) (g : GT) (aw : Nat) (f : Nat → Int32) : OM (S := Unit) l g yX4_fill cX4_fill 2 none ({ frames := 1, cells := 0, slots := 0, locals := 23 } : Room) [.ref aw] [(aw, .inl (g.2.1 0, 2304, .inl f))] (fun _ => none) (fun _ => [(aw, .inl (g.2.1 0, 2304, .inl (wFill f 256)))]) := by
  refine OM.startQ (by decide) (Nat.le_of_ble_eq_true rfl) ?_
  intro p e s m below meth c A ls Q H locs hQ C hnm hl hT
  have hx := C.x
  have hb := C.b
  have hl : lv_has ls 2 [(0, .ref aw)] := hl
  refine lv_aload_n hx hb dX4_fill_0 rfl (lv_at hl 0 rfl) ?_
  refine lv_sipush (v := 20000) hx hb dX4_fill_1 (by decide) ?_
  have hM := c_J7_fill_53178 l g aw 2304 f 20000 (by decide)
  refine r_call0 (js := [0]) C hT (runS (js := [0]) (rm := ({ frames := 0, cells := 0, slots := 0, locals := 0 } : Room)) (As := [.ref aw, .int 20000]) (n := 2) (rest := []) C hT hM rfl rfl k120 k121 k8 k122 (by decide +kernel) rfl rfl (Nat.le_of_ble_eq_true rfl) hl.1 ⟨Nat.le_of_ble_eq_true rfl, Nat.le_of_ble_eq_true rfl⟩ ⟨Nat.le_of_ble_eq_true rfl, Nat.le_of_ble_eq_true rfl⟩ dX4_fill_4) rfl rfl (fun _ => rfl) (fun u H locs hT => ?_)
  have hT : Wd g A s [(aw, .inl (g.2.1 0, 2304, .inl (fillTo f 20000 2304)))] H locs := hT
  refine W.eq (g2 := F0 m 7 ls []) rfl ?_
  refine lv_bipush (v := 8) hx hb dX4_fill_7 (by decide) ?_
  refine lv_istore_n (lv' := [(1, .int 8), (0, .ref aw)]) hx hb dX4_fill_9 rfl hl (by decide) rfl (fun ls hl => ?_)
  have loop_10 : ∀ (fu : Nat) (i : Nat) (x1 : Int32) (f1 : Nat → Int32) (H : Heap) (locs : List Loc) (ls : Array Slot) (hi : i ≤ 256) (ex1 : x1 = nI (8 + 9 * i)) (hf : f1 = wFill f i), 256 - i < fu → Wd g A s [(aw, .inl (g.2.1 0, 2304, .inl f1))] H locs → lv_has ls 2 [(0, .ref aw), (1, .int x1)] → W p l e ({ frames := 1, cells := 0, slots := 0, locals := 23 } : Room) s m ([.ref aw] : List Value).toArray below meth c H locs 0 0 Q (F0 m 10 ls []) := by
    intro fu
    induction fu with
    | zero => intro i x1 f1 H locs ls hi ex1 hf hm; exact absurd hm (Nat.not_lt_zero _)
    | succ fu ih =>
      intro i x1 f1 H locs ls hi ex1 hf hm hT hl
      refine lv_iload_n hx hb dX4_fill_10 rfl (lv_at hl 1 rfl) ?_
      refine lv_aload_n hx hb dX4_fill_11 rfl (lv_at hl 0 rfl) ?_
      refine r_alen C hT (q0 := 0) 0 rfl rfl dX4_fill_12 ?_
      refine W.eq (g2 := F0 m 13 ls [.int (nI 2304), .int x1]) rfl ?_
      refine lv_icmp_ge (tgt := 26) hx hb dX4_fill_13 (by decide) (fun h_1 => ?_) (fun h_1 => ?_)
      · skip
        have hin : i = 256 := lp9_end ex1 hi h_1
        exact e_vret C hQ () (by rw [show wFill f 256 = f1 by rw [hf, hin]]; exact hT) rfl dX4_fill_26
      · skip
        have hin : i < 256 := lp9_go ex1 hi h_1
        refine lv_aload_n hx hb dX4_fill_16 rfl (lv_at hl 0 rfl) ?_
        refine lv_iload_n hx hb dX4_fill_17 rfl (lv_at hl 1 rfl) ?_
        refine lv_iconst (v := 0) hx hb dX4_fill_18 (by decide) ?_
        refine r_iast C hT (q0 := 0) rfl (8 + 9 * i) ex1 (by omega) (by decide) dX4_fill_19 (fun H locs hT => ?_)
        have hT : Wd g A s [(aw, .inl (g.2.1 0, 2304, .inl (upd f1 (8 + 9 * i) 0)))] H locs := hT
        obtain ⟨x_2, ex_2⟩ : ∃ y : Int32, y = x1 + 9 := ⟨_, rfl⟩
        refine lv_iinc (v := x_2) (lv' := [(1, .int x_2), (0, .ref aw)]) hx hb dX4_fill_20 hl (k := 1) rfl (by rw [ex_2]; rfl) (by decide) rfl (fun ls hl => ?_)
        refine lv_goto (tgt := 10) hx hb dX4_fill_23 (by decide) ?_
        exact ih (i + 1) x_2 (upd f1 (8 + 9 * i) 0) H locs ls (by first | assumption | omega | rfl) (by rw [ex_2, ex1]; exact nI_add (8 + 9 * i) 9) (by rw [hf]; exact wFill_up f hin) (by omega) hT (lv_sub hl [1, 0] rfl)
  exact loop_10 (256 - 0 + 1) 0 8 (fillTo f 20000 2304) H locs ls (by first | assumption | omega | rfl) rfl (wFill_0 f) (Nat.lt_succ_self _) hT (lv_sub hl [1, 0] rfl)

set_option maxHeartbeats 400000 in
set_option maxRecDepth 100000 in
theorem c_X4_reset (l : Launch) (g : GT) (a0 : Nat) (aw : Nat) (ro : Int32) (to : Int32) (f : Nat → Int32) : OM (S := Unit) l g yX4_reset cX4_reset 1 none ({ frames := 2, cells := 0, slots := 0, locals := 44 } : Room) [.ref a0] [(a0, .inr (4, [.ref aw, .int ro, .int to])), (aw, .inl (g.2.1 0, 2304, .inl f))] (fun _ => none) (fun _ => [(a0, .inr (4, [.ref aw, .int ro, .int to])), (aw, .inl (g.2.1 0, 2304, .inl (wFill f 256)))]) := by
  refine OM.startQ (by decide) (Nat.le_of_ble_eq_true rfl) ?_
  intro p e s m below meth c A ls Q H locs hQ C hnm hl hT
  have hx := C.x
  have hb := C.b
  have hl : lv_has ls 1 [(0, .ref a0)] := hl
  refine lv_aload_n hx hb dX4_reset_0 rfl (lv_at hl 0 rfl) ?_
  refine gX4_11 C hT (q0 := 0) rfl dX4_reset_1 ?_
  have hM := c_X4_fill l g aw f
  refine r_call0 (js := [1]) C hT (runS (js := [1]) (rm := ({ frames := 1, cells := 0, slots := 0, locals := 23 } : Room)) (As := [.ref aw]) (n := 1) (rest := []) C hT hM rfl rfl k117 k118 k7 k119 (by decide +kernel) rfl rfl (Nat.le_of_ble_eq_true rfl) hl.1 ⟨Nat.le_of_ble_eq_true rfl, Nat.le_of_ble_eq_true rfl⟩ ⟨Nat.le_of_ble_eq_true rfl, Nat.le_of_ble_eq_true rfl⟩ dX4_reset_4) rfl rfl (fun _ => rfl) (fun u H locs hT => ?_)
  have hT : Wd g A s [(a0, .inr (4, [.ref aw, .int ro, .int to])), (aw, .inl (g.2.1 0, 2304, .inl (wFill f 256)))] H locs := hT
  refine W.eq (g2 := F0 m 7 ls []) rfl ?_
  exact e_vret C hQ () hT rfl dX4_reset_7
end
section
/-! pure words of History and Match: f the bytes, n how many -/
def byteN (f : Nat → Int32) (n p : Nat) : Int32 := if p < n then f p else 0
def backN (f : Nat → Int32) (n k : Nat) : Int32 := if 1 ≤ k ∧ k ≤ n then f (n - k) else 0
def latG (hs : Int32 → Int32 → Int32) (B : Nat → Int32) (h0 : Int32) : Nat → Int32
  | 0 => h0
  | i + 1 => hs (latG hs B h0 i) (B (i + 1))
theorem latG_s (hs : Int32 → Int32 → Int32) (B : Nat → Int32) (h0 : Int32) (i : Nat) : latG hs B h0 (i + 1) = hs (latG hs B h0 i) (B (i + 1)) := rfl
theorem latG_0 (hs : Int32 → Int32 → Int32) (B : Nat → Int32) (h0 : Int32) : latG hs B h0 0 = h0 := rfl
def latH (f : Nat → Int32) (n t i : Nat) : Int32 := latG hashI (backN f n) (hashI (nI (t + 1)) 0) i
theorem latH_s (f : Nat → Int32) (n t i : Nat) : hashI (latH f n t i) (backN f n (i + 1)) = latH f n t (i + 1) := (latG_s hashI (backN f n) (hashI (nI (t + 1)) 0) i).symm
theorem latH_0 (f : Nat → Int32) (n t : Nat) : hashI (nI (t + 1)) 0 = latH f n t 0 := (latG_0 hashI (backN f n) (hashI (nI (t + 1)) 0)).symm
def letB (x : Int32) : Bool := if x < 65 then (if x < 97 then false else !decide (122 < x)) else if x ≤ 90 then true else if x < 97 then false else !decide (122 < x)
def wlG (f : Nat → Int32) (n : Nat) : Nat → Nat → Nat
  | 0, i => i
  | k + 1, i => if letB (backN f n (i + 1)) = true then wlG f n k (i + 1) else i
def wlen (f : Nat → Int32) (n : Nat) : Nat := wlG f n 16 0
def whG (hs : Int32 → Int32 → Int32) (B : Nat → Int32) : Nat → Int32 → Int32
  | 0, h => h
  | k + 1, h => whG hs B k (hs h (B (k + 1)))
theorem whG_s (hs : Int32 → Int32 → Int32) (B : Nat → Int32) (k : Nat) (h : Int32) : whG hs B k (hs h (B (k + 1))) = whG hs B (k + 1) h := rfl
theorem whG_0 (hs : Int32 → Int32 → Int32) (B : Nat → Int32) (h : Int32) : whG hs B 0 h = h := rfl
def whash (f : Nat → Int32) (n k : Nat) (h : Int32) : Int32 := whG hashI (backN f n) k h
def wordH (f : Nat → Int32) (n : Nat) : Int32 := whash f n (wlen f n) (hashI 32 0)
def colH (f : Nat → Int32) (n t : Nat) : Int32 := hashI (hashI (hashI (nI (64 + t)) 0) (nI (n % t))) (backN f n t)
def apG (hs : Int32 → Int32 → Int32) (B : Nat → Int32) (h0 nn : Int32) : Nat → Int32
  | 0 => h0
  | k + 1 => if (nn >>> (nI k &&& 31)) &&& 1 = 1 then hs (apG hs B h0 nn k) (B (k + 1)) else apG hs B h0 nn k
theorem apG_t {hs : Int32 → Int32 → Int32} {B : Nat → Int32} {h0 nn : Int32} {k : Nat} (h : (nn >>> (nI k &&& 31)) &&& 1 = 1) : hs (apG hs B h0 nn k) (B (k + 1)) = apG hs B h0 nn (k + 1) := by
  show _ = if (nn >>> (nI k &&& 31)) &&& 1 = 1 then hs (apG hs B h0 nn k) (B (k + 1)) else apG hs B h0 nn k
  rw [if_pos h]
theorem apG_f {hs : Int32 → Int32 → Int32} {B : Nat → Int32} {h0 nn : Int32} {k : Nat} (h : ¬ (nn >>> (nI k &&& 31)) &&& 1 = 1) : apG hs B h0 nn k = apG hs B h0 nn (k + 1) := by
  show _ = if (nn >>> (nI k &&& 31)) &&& 1 = 1 then hs (apG hs B h0 nn k) (B (k + 1)) else apG hs B h0 nn k
  rw [if_neg h]
theorem apG_0 (hs : Int32 → Int32 → Int32) (B : Nat → Int32) (h0 nn : Int32) : apG hs B h0 nn 0 = h0 := rfl
def apH (f : Nat → Int32) (n : Nat) (nn : Int32) (k : Nat) : Int32 := apG hashI (backN f n) (hashI (128 + nn) 0) nn k
theorem apH_0 (f : Nat → Int32) (n : Nat) (nn : Int32) : hashI (128 + nn) 0 = apH f n nn 0 := (apG_0 hashI (backN f n) _ nn).symm
theorem apH_t {f : Nat → Int32} {n k : Nat} {nn : Int32} (h : (nn >>> (nI k &&& 31)) &&& 1 = 1) : hashI (apH f n nn k) (backN f n (k + 1)) = apH f n nn (k + 1) := apG_t h
theorem apH_f {f : Nat → Int32} {n k : Nat} {nn : Int32} (h : ¬ (nn >>> (nI k &&& 31)) &&& 1 = 1) : apH f n nn k = apH f n nn (k + 1) := apG_f h
def sameB (f : Nat → Int32) (n p : Nat) : Nat → Bool
  | 0 => true
  | i + 1 => sameB f n p i && decide (f (p - (i + 1)) = backN f n (i + 1))
theorem sameB_f {f : Nat → Int32} {n p t i : Nat} (hi : i < t) (h : ¬ f (p - (i + 1)) = backN f n (i + 1)) : sameB f n p t = false := by
  induction t with
  | zero => omega
  | succ t ih =>
    simp only [sameB]
    rcases Nat.lt_or_ge i t with q | q
    · rw [ih q]; rfl
    · have e : i = t := by omega
      subst e
      rw [decide_eq_false h, Bool.and_false]
theorem sameB_t {f : Nat → Int32} {n p i : Nat} (h : sameB f n p i = true) (h2 : f (p - (i + 1)) = backN f n (i + 1)) : sameB f n p (i + 1) = true := by
  simp only [sameB, h, h2, decide_true, Bool.and_self]
def fstN (n t : Nat) : Nat := if t < n - 64 then n - 64 else t
def findK (f : Nat → Int32) (n t : Nat) : Nat → Option Nat
  | 0 => none
  | i + 1 => if i < fstN n t then none else if sameB f n i t = true then some i else findK f n t i
def findP (f : Nat → Int32) (n t pl ln : Nat) : Nat := if 0 < ln then pl else (findK f n t n).getD pl
def findL (f : Nat → Int32) (n t ln : Nat) : Nat := if 0 < ln then ln else if (findK f n t n).isSome then t else 0
def folB (f : Nat → Int32) (n pl ln : Nat) : Bool := decide (0 < ln) && decide (byteN f n pl = backN f n 1)
def folP (f : Nat → Int32) (n pl ln : Nat) : Nat := if folB f n pl ln = true then pl + 1 else pl
def folL (f : Nat → Int32) (n pl ln : Nat) : Nat := if folB f n pl ln = true then (if ln + 1 < 32 then ln + 1 else 32) else 0
def toldM (th : Int32) (bg nd ln : Nat) : Int32 := if ln = 0 then 0 else if ¬ th >>> (nI (8 - bg) &&& 31) = nI nd then 0 else if (th >>> ((nI (8 - bg) - 1) &&& 31)) &&& 1 = 1 then 64 * nI (if ln < 16 then ln else 16) else -(64 * nI (if ln < 16 then ln else 16))
def bitN (on : Int32) : Nat := if on = 0 then 0 else 1
theorem byteN_0 {f : Nat → Int32} {n p : Nat} (h : n ≤ p) : byteN f n p = 0 := by unfold byteN; rw [if_neg (by omega)]
theorem byteN_p {f : Nat → Int32} {n p : Nat} (h : p < n) : byteN f n p = f p := by unfold byteN; rw [if_pos h]
theorem backN_0 {f : Nat → Int32} {n k : Nat} (h : k = 0 ∨ n < k) : backN f n k = 0 := by unfold backN; rw [if_neg (by omega)]
theorem backN_p {f : Nat → Int32} {n k : Nat} (h1 : 1 ≤ k) (h : k ≤ n) : backN f n k = f (n - k) := by unfold backN; rw [if_pos ⟨h1, h⟩]
theorem nI_sub_neg {a b : Nat} (h : a < b) (hb : b < 2 ^ 30) : nI a - nI b < 0 := pk_sneg hb h
theorem nI_or (a b : Nat) : nI a ||| nI b = nI (a ||| b) := by
  apply Int32.toBitVec_inj.1
  show BitVec.ofNat 32 a ||| BitVec.ofNat 32 b = BitVec.ofNat 32 (a ||| b)
  apply BitVec.eq_of_getLsbD_eq
  intro i hi
  simp [hi]
theorem node_or (nd : Nat) (h : nd < 256) (b : Nat) (hb : b < 2) : (nI nd <<< ((1 : Int32) &&& 31)) ||| nI b = nI (2 * nd + b) := by
  rw [pk_shlN _ 1 (by decide) (by omega), nI_or]
  have h := Nat.shiftLeft_add_eq_or_of_lt (i := 1) (b := b) (by omega) nd
  rw [Nat.shiftLeft_eq] at h
  rw [← h, Nat.mul_comm]
theorem node_bit {nd : Nat} {on : Int32} (h : nd < 256) : (nI nd <<< ((1 : Int32) &&& 31)) ||| (if on = 0 then 0 else 1) = nI (2 * nd + bitN on) := by
  have h0 := node_or nd h 0 (by decide); have h1 := node_or nd h 1 (by decide)
  unfold bitN
  by_cases q : on = 0
  · rw [if_pos q, if_pos q]; exact h0
  · rw [if_neg q, if_neg q]; exact h1
theorem bitN_lt (on : Int32) : bitN on < 2 := by unfold bitN; split <;> omega
theorem i32_eqN {a b : Nat} (ha : a < 2 ^ 31) (hb : b < 2 ^ 31) (h : nI a = nI b) : a = b := (nI_eq ha hb).mp h
theorem lp_le_end {x : Int32} {i n : Nat} (ex : x = nI i) (hn : n < 2 ^ 30) (hi : i ≤ n + 1) (h : nI n < x) : i = n + 1 := by
  rw [ex, nI_ltI (by omega) (by omega)] at h; omega
theorem lp_le_go {x : Int32} {i n : Nat} (ex : x = nI i) (hn : n < 2 ^ 30) (hi : i ≤ n + 1) (h : ¬ nI n < x) : i ≤ n := by
  rw [ex, nI_ltI (by omega) (by omega)] at h; omega
theorem min32 {a : Nat} (c : Nat) (hc : c < 2 ^ 31) (ha : a < 2 ^ 31) : (if nI a < nI c then nI a else nI c) = nI (if a < c then a else c) := by
  by_cases q : a < c
  · rw [if_pos (nI_lt q hc), if_pos q]
  · rw [if_neg (fun z => q ((nI_ltI ha hc).mp z)), if_neg q]
theorem fst_max {n t : Nat} (hn : n < 2 ^ 30) (ht : t < 2 ^ 30) : (if nI t < nI n - 64 then nI n - 64 else nI t) = nI (fstN n t) := by
  unfold fstN
  rcases Nat.lt_or_ge n 64 with q | q
  · have h1 : ¬ nI t < nI n - 64 := by
      intro z
      have a := nI_sub_neg (a := n) (b := 64) q (by decide)
      rw [i32_lt] at z a
      have b : (nI t).toInt = (t : Int) := nI_toInt (by omega)
      have c : (0 : Int32).toInt = 0 := by decide
      have d : (nI n - 64).toInt = (nI n - nI 64).toInt := rfl
      omega
    rw [if_neg h1, if_neg (by omega)]
  · have e : nI n - 64 = nI (n - 64) := pk_sub (a := n) (b := 64) q
    rw [e]
    by_cases q2 : t < n - 64
    · rw [if_pos (nI_lt q2 (by omega)), if_pos q2]
    · rw [if_neg (fun z => q2 ((nI_ltI (by omega) (by omega)).mp z)), if_neg q2]
theorem dn_lt {x : Int32} {i c : Nat} (hi : i < 2 ^ 30) (hc : c < 2 ^ 30) (ex : x = nI i - 1) : x < nI c ↔ i ≤ c := by
  have e : (nI i - 1 : Int32) = nI i - nI 1 := rfl
  rw [ex, e, i32_lt, pk_sub_toInt hi (by decide), nI_toInt (by omega)]
  omega
theorem findL_go {f : Nat → Int32} {n t i : Nat} (h1 : ¬ i < fstN n t) : findK f n t (i + 1) = if sameB f n i t = true then some i else findK f n t i := by
  simp only [findK]; rw [if_neg h1]
theorem findL_end {f : Nat → Int32} {n t i : Nat} (h1 : i ≤ fstN n t) : findK f n t i = none := by
  cases i with
  | zero => rfl
  | succ i => simp only [findK]; rw [if_pos (by omega)]
theorem wl_s {f : Nat → Int32} {n i : Nat} (hi : i < 16) (h : letB (backN f n (i + 1)) = true) (hw : wlG f n (16 - i) i = wlen f n) : wlG f n (16 - (i + 1)) (i + 1) = wlen f n := by
  rw [← hw, show 16 - i = (16 - (i + 1)) + 1 by omega]; simp only [wlG]; rw [if_pos h]
theorem wl_e {f : Nat → Int32} {n i : Nat} (hi : i < 16) (h : letB (backN f n (i + 1)) = false) : wlG f n (16 - i) i = i := by
  rw [show 16 - i = (16 - (i + 1)) + 1 by omega]; simp only [wlG]; rw [if_neg (by rw [h]; decide)]
theorem whash_s {f : Nat → Int32} {n j : Nat} {h : Int32} (hj : 0 < j) : whash f n (j - 1) (hashI h (backN f n j)) = whash f n j h := by
  obtain ⟨k, rfl⟩ : ∃ k, j = k + 1 := ⟨j - 1, by omega⟩
  rw [Nat.add_sub_cancel]
  exact whG_s hashI (backN f n) k h
theorem whash_0 (f : Nat → Int32) (n : Nat) (h : Int32) : whash f n 0 h = h := whG_0 hashI (backN f n) h
end
section
set_option maxHeartbeats 400000 in
set_option maxRecDepth 100000 in
theorem c_X2_reset (l : Launch) (g : GT) (a0 : Nat) (ab : Nat) (n : Nat) (nd : Nat) (bg : Nat) : OM (S := Unit) l g yX2_reset cX2_reset 1 none ({ frames := 0, cells := 0, slots := 0, locals := 0 } : Room) [.ref a0] [(a0, .inr (2, [.ref ab, .int (nI n), .int (nI nd), .int (nI bg)]))] (fun _ => none) (fun _ => [(a0, .inr (2, [.ref ab, .int (nI 0), .int (nI 1), .int (nI 0)]))]) := by
  refine OM.startQ (by decide) (Nat.le_of_ble_eq_true rfl) ?_
  intro p e s m below meth c A ls Q H locs hQ C hnm hl hT
  have hx := C.x
  have hb := C.b
  have hl : lv_has ls 1 [(0, .ref a0)] := hl
  refine lv_aload_n hx hb dX2_reset_0 rfl (lv_at hl 0 rfl) ?_
  refine lv_iconst (v := 0) hx hb dX2_reset_1 (by decide) ?_
  refine W.eq (g2 := F0 m 2 ls [.int (nI 0), .ref a0]) (congrArg (fun z => F0 m 2 ls (.int z :: [.ref a0])) (rfl)) ?_
  refine pX2_19 C hT (q0 := 0) rfl dX2_reset_2 (fun H locs hT => ?_)
  have hT : Wd g A s [(a0, .inr (2, [.ref ab, .int (nI 0), .int (nI nd), .int (nI bg)]))] H locs := hT
  refine lv_aload_n hx hb dX2_reset_5 rfl (lv_at hl 0 rfl) ?_
  refine lv_iconst (v := 1) hx hb dX2_reset_6 (by decide) ?_
  refine W.eq (g2 := F0 m 7 ls [.int (nI 1), .ref a0]) (congrArg (fun z => F0 m 7 ls (.int z :: [.ref a0])) (rfl)) ?_
  refine pX2_15 C hT (q0 := 0) rfl dX2_reset_7 (fun H locs hT => ?_)
  have hT : Wd g A s [(a0, .inr (2, [.ref ab, .int (nI 0), .int (nI 1), .int (nI bg)]))] H locs := hT
  refine lv_aload_n hx hb dX2_reset_10 rfl (lv_at hl 0 rfl) ?_
  refine lv_iconst (v := 0) hx hb dX2_reset_11 (by decide) ?_
  refine W.eq (g2 := F0 m 12 ls [.int (nI 0), .ref a0]) (congrArg (fun z => F0 m 12 ls (.int z :: [.ref a0])) (rfl)) ?_
  refine pX2_22 C hT (q0 := 0) rfl dX2_reset_12 (fun H locs hT => ?_)
  have hT : Wd g A s [(a0, .inr (2, [.ref ab, .int (nI 0), .int (nI 1), .int (nI 0)]))] H locs := hT
  exact e_vret C hQ () hT rfl dX2_reset_15

set_option maxHeartbeats 400000 in
set_option maxRecDepth 100000 in
theorem c_X2_begun (l : Launch) (g : GT) (a0 : Nat) (ab : Nat) (n : Nat) (nd : Nat) (bg : Nat) (hn : n ≤ 2000) (hb : bg ≤ 8) : OM (S := Unit) l g yX2_begun cX2_begun 1 (some .boolean) ({ frames := 0, cells := 0, slots := 0, locals := 0 } : Room) [.ref a0] [(a0, .inr (2, [.ref ab, .int (nI n), .int (nI nd), .int (nI bg)]))] (fun _ => some (.int (b01 (decide (0 < n) || decide (0 < bg))))) (fun _ => [(a0, .inr (2, [.ref ab, .int (nI n), .int (nI nd), .int (nI bg)]))]) := by
  refine OM.startQ (by decide) (Nat.le_of_ble_eq_true rfl) ?_
  intro p e s m below meth c A ls Q H locs hQ C hnm hl hT
  have hx := C.x
  have hb := C.b
  have hl : lv_has ls 1 [(0, .ref a0)] := hl
  refine lv_aload_n hx hb dX2_begun_0 rfl (lv_at hl 0 rfl) ?_
  refine gX2_19 C hT (q0 := 0) rfl dX2_begun_1 ?_
  refine lv_if_gt (tgt := 14) hx hb dX2_begun_4 (by decide) (fun h_1 => ?_) (fun h_1 => ?_)
  · skip
    have h_1 : 0 < n := (nI_ltI (a := 0) (by decide) (by omega)).mp h_1
    refine lv_iconst (v := 1) hx hb dX2_begun_14 (by decide) ?_
    refine lv_goto (tgt := 19) hx hb dX2_begun_15 (by decide) ?_
    exact e_zret C hQ () hT (by simp [b01, h_1]) (by decide) dX2_begun_19
  · skip
    have h_1 : ¬ 0 < n := fun q => h_1 (nI_lt (a := 0) q (by omega))
    refine lv_aload_n hx hb dX2_begun_7 rfl (lv_at hl 0 rfl) ?_
    refine gX2_22 C hT (q0 := 0) rfl dX2_begun_8 ?_
    refine lv_if_le (tgt := 18) hx hb dX2_begun_11 (by decide) (fun h_2 => ?_) (fun h_2 => ?_)
    · skip
      have h_2 : ¬ 0 < bg := fun q => nI_nle q (by omega) h_2
      refine lv_iconst (v := 0) hx hb dX2_begun_18 (by decide) ?_
      exact e_zret C hQ () hT (by simp [b01, h_1, h_2]) (by decide) dX2_begun_19
    · skip
      have h_2 : 0 < bg := by rcases Nat.eq_zero_or_pos bg with q | q; exact absurd (by rw [q]; decide) h_2; exact q
      refine lv_iconst (v := 1) hx hb dX2_begun_14 (by decide) ?_
      refine lv_goto (tgt := 19) hx hb dX2_begun_15 (by decide) ?_
      exact e_zret C hQ () hT (by simp [b01, h_1, h_2]) (by decide) dX2_begun_19

set_option maxHeartbeats 400000 in
set_option maxRecDepth 100000 in
theorem c_X2_byteAt (l : Launch) (g : GT) (a0 : Nat) (ab : Nat) (n : Nat) (nd : Nat) (bg : Nat) (f : Nat → Int32) (pl : Nat) (hn : n ≤ 2000) (hpl : pl < 2 ^ 30) : OM (S := Unit) l g yX2_byteAt cX2_byteAt 2 (some .int) ({ frames := 0, cells := 0, slots := 0, locals := 0 } : Room) [.ref a0, .int (nI pl)] [(a0, .inr (2, [.ref ab, .int (nI n), .int (nI nd), .int (nI bg)])), (ab, .inl (g.2.1 0, 2000, .inl f))] (fun _ => some (.int (byteN f n pl))) (fun _ => [(a0, .inr (2, [.ref ab, .int (nI n), .int (nI nd), .int (nI bg)])), (ab, .inl (g.2.1 0, 2000, .inl f))]) := by
  refine OM.startQ (by decide) (Nat.le_of_ble_eq_true rfl) ?_
  intro p e s m below meth c A ls Q H locs hQ C hnm hl hT
  have hx := C.x
  have hb := C.b
  have hl : lv_has ls 2 [(0, .ref a0), (1, .int (nI pl))] := hl
  refine lv_iload_n hx hb dX2_byteAt_0 rfl (lv_at hl 1 rfl) ?_
  refine lv_if_lt (tgt := 21) hx hb dX2_byteAt_1 (by decide) (fun h_1 => ?_) (fun h_1 => ?_)
  · skip
    exact absurd h_1 (nI_pos (by omega))
  · skip
    refine lv_iload_n hx hb dX2_byteAt_4 rfl (lv_at hl 1 rfl) ?_
    refine lv_aload_n hx hb dX2_byteAt_5 rfl (lv_at hl 0 rfl) ?_
    refine gX2_19 C hT (q0 := 0) rfl dX2_byteAt_6 ?_
    refine lv_icmp_ge (tgt := 21) hx hb dX2_byteAt_9 (by decide) (fun h_2 => ?_) (fun h_2 => ?_)
    · skip
      have hpn : n ≤ pl := (nI_leI (by omega) (by omega)).mp h_2
      refine lv_iconst (v := 0) hx hb dX2_byteAt_21 (by decide) ?_
      exact e_iret C hQ () hT (by first | (rw [byteN_p hpn]; done) | (rw [byteN_0 hpn])) dX2_byteAt_22
    · skip
      have hpn : pl < n := by rcases Nat.lt_or_ge pl n with q | q; exact q; exact absurd (nI_le q (by omega)) h_2
      refine lv_aload_n hx hb dX2_byteAt_12 rfl (lv_at hl 0 rfl) ?_
      refine gX2_9 C hT (q0 := 0) rfl dX2_byteAt_13 ?_
      refine lv_iload_n hx hb dX2_byteAt_16 rfl (lv_at hl 1 rfl) ?_
      refine r_iald C hT (q0 := 1) rfl pl rfl (by omega) (by decide) dX2_byteAt_17 ?_
      refine lv_goto (tgt := 22) hx hb dX2_byteAt_18 (by decide) ?_
      exact e_iret C hQ () hT (by first | (rw [byteN_p hpn]; done) | (rw [byteN_0 hpn])) dX2_byteAt_22

set_option maxHeartbeats 400000 in
set_option maxRecDepth 100000 in
theorem c_X2_back (l : Launch) (g : GT) (a0 : Nat) (ab : Nat) (n : Nat) (nd : Nat) (bg : Nat) (f : Nat → Int32) (k : Nat) (hn : n ≤ 2000) (hk : k < 2 ^ 30) : OM (S := Unit) l g yX2_back cX2_back 3 (some .int) ({ frames := 0, cells := 0, slots := 0, locals := 0 } : Room) [.ref a0, .int (nI k)] [(a0, .inr (2, [.ref ab, .int (nI n), .int (nI nd), .int (nI bg)])), (ab, .inl (g.2.1 0, 2000, .inl f))] (fun _ => some (.int (backN f n k))) (fun _ => [(a0, .inr (2, [.ref ab, .int (nI n), .int (nI nd), .int (nI bg)])), (ab, .inl (g.2.1 0, 2000, .inl f))]) := by
  refine OM.startQ (by decide) (Nat.le_of_ble_eq_true rfl) ?_
  intro p e s m below meth c A ls Q H locs hQ C hnm hl hT
  have hx := C.x
  have hb := C.b
  have hl : lv_has ls 3 [(0, .ref a0), (1, .int (nI k))] := hl
  refine lv_aload_n hx hb dX2_back_0 rfl (lv_at hl 0 rfl) ?_
  refine gX2_19 C hT (q0 := 0) rfl dX2_back_1 ?_
  refine lv_iload_n hx hb dX2_back_4 rfl (lv_at hl 1 rfl) ?_
  refine lv_isub hx hb dX2_back_5 ?_
  refine lv_topi (fun x_1 ex_1 => ?_)
  refine lv_istore_n (lv' := [(2, .int x_1), (0, .ref a0), (1, .int (nI k))]) hx hb dX2_back_6 rfl hl (by decide) rfl (fun ls hl => ?_)
  refine lv_iload_n hx hb dX2_back_7 rfl (lv_at hl 0 rfl) ?_
  refine lv_if_lt (tgt := 28) hx hb dX2_back_8 (by decide) (fun h_2 => ?_) (fun h_2 => ?_)
  · skip
    have hkn : n < k := by rcases Nat.lt_or_ge n k with q | q; exact q; exact absurd h_2 (by rw [ex_1, pk_sub q]; exact nI_pos (by omega))
    refine lv_iconst (v := 0) hx hb dX2_back_28 (by decide) ?_
    exact e_iret C hQ () hT (by first | (rw [backN_p hk1 hkn]; done) | (rw [backN_0 (Or.inl hk0)]; done) | (rw [backN_0 (Or.inr hkn)])) dX2_back_29
  · skip
    have hkn : k ≤ n := by rcases Nat.lt_or_ge n k with q | q; exact absurd (by rw [ex_1]; exact nI_sub_neg q hk) h_2; exact q
    have ex : x_1 = nI (n - k) := by rw [ex_1]; exact pk_sub hkn
    refine lv_iload_n hx hb dX2_back_11 rfl (lv_at hl 0 rfl) ?_
    refine lv_aload_n hx hb dX2_back_12 rfl (lv_at hl 1 rfl) ?_
    refine gX2_19 C hT (q0 := 0) rfl dX2_back_13 ?_
    refine lv_icmp_ge (tgt := 28) hx hb dX2_back_16 (by decide) (fun h_3 => ?_) (fun h_3 => ?_)
    · skip
      have hk0 : k = 0 := by rw [ex] at h_3; have := (nI_leI (by omega) (by omega)).mp h_3; omega
      refine lv_iconst (v := 0) hx hb dX2_back_28 (by decide) ?_
      exact e_iret C hQ () hT (by first | (rw [backN_p hk1 hkn]; done) | (rw [backN_0 (Or.inl hk0)]; done) | (rw [backN_0 (Or.inr hkn)])) dX2_back_29
    · skip
      have hk1 : 1 ≤ k := by rcases Nat.eq_zero_or_pos k with q | q; exact absurd (by rw [ex, q]; exact nI_le (by omega) (by omega)) h_3; exact q
      refine lv_aload_n hx hb dX2_back_19 rfl (lv_at hl 1 rfl) ?_
      refine gX2_9 C hT (q0 := 0) rfl dX2_back_20 ?_
      refine lv_iload_n hx hb dX2_back_23 rfl (lv_at hl 0 rfl) ?_
      refine r_iald C hT (q0 := 1) rfl (n - k) ex (by omega) (by decide) dX2_back_24 ?_
      refine lv_goto (tgt := 29) hx hb dX2_back_25 (by decide) ?_
      exact e_iret C hQ () hT (by first | (rw [backN_p hk1 hkn]; done) | (rw [backN_0 (Or.inl hk0)]; done) | (rw [backN_0 (Or.inr hkn)])) dX2_back_29

set_option maxHeartbeats 400000 in
set_option maxRecDepth 100000 in
theorem c_X2_add (l : Launch) (g : GT) (a0 : Nat) (ab : Nat) (n : Nat) (nd : Nat) (bg : Nat) (f : Nat → Int32) (on : Int32) (hnd : nd < 256) (hb : bg < 7) : OM (S := Unit) l g yX2_add cX2_add 2 (some .boolean) ({ frames := 0, cells := 0, slots := 0, locals := 0 } : Room) [.ref a0, .int on] [(a0, .inr (2, [.ref ab, .int (nI n), .int (nI nd), .int (nI bg)])), (ab, .inl (g.2.1 0, 2000, .inl f))] (fun _ => some (.int 0)) (fun _ => [(a0, .inr (2, [.ref ab, .int (nI n), .int (nI (2 * nd + bitN on)), .int (nI (bg + 1))])), (ab, .inl (g.2.1 0, 2000, .inl f))]) := by
  refine OM.startQ (by decide) (Nat.le_of_ble_eq_true rfl) ?_
  intro p e s m below meth c A ls Q H locs hQ C hnm hl hT
  have hx := C.x
  have hb := C.b
  have hl : lv_has ls 2 [(0, .ref a0), (1, .int on)] := hl
  refine lv_aload_n hx hb dX2_add_0 rfl (lv_at hl 0 rfl) ?_
  refine lv_aload_n hx hb dX2_add_1 rfl (lv_at hl 0 rfl) ?_
  refine gX2_15 C hT (q0 := 0) rfl dX2_add_2 ?_
  refine lv_iconst (v := 1) hx hb dX2_add_5 (by decide) ?_
  refine lv_ishl hx hb dX2_add_6 ?_
  refine lv_iload_n hx hb dX2_add_7 rfl (lv_at hl 1 rfl) ?_
  refine r_ite (ls := ls) (J := 16) (a1 := 0) (a2 := 1) (rest := [.int ((nI nd) <<< (1 &&& 31)), .ref a0]) (lv_if_eq (tgt := 15) hx hb dX2_add_8 (by decide)) (fun h_1 kont => ?_) (fun h_1 kont => ?_) ?_
  · skip
    refine lv_iconst (v := 0) hx hb dX2_add_15 (by decide) ?_
    exact kont
  · skip
    refine lv_iconst (v := 1) hx hb dX2_add_11 (by decide) ?_
    refine lv_goto (tgt := 16) hx hb dX2_add_12 (by decide) ?_
    exact kont
  refine lv_ior hx hb dX2_add_16 ?_
  refine W.eq (g2 := F0 m 17 ls [.int (nI (2 * nd + bitN on)), .ref a0]) (congrArg (fun z => F0 m 17 ls (.int z :: [.ref a0])) (node_bit hnd)) ?_
  refine pX2_15 C hT (q0 := 0) rfl dX2_add_17 (fun H locs hT => ?_)
  have hT : Wd g A s [(a0, .inr (2, [.ref ab, .int (nI n), .int (nI (2 * nd + bitN on)), .int (nI bg)])), (ab, .inl (g.2.1 0, 2000, .inl f))] H locs := hT
  refine lv_aload_n hx hb dX2_add_20 rfl (lv_at hl 0 rfl) ?_
  refine lv_dup hx hb dX2_add_21 rfl ?_
  refine gX2_22 C hT (q0 := 0) rfl dX2_add_22 ?_
  refine lv_iconst (v := 1) hx hb dX2_add_25 (by decide) ?_
  refine lv_iadd hx hb dX2_add_26 ?_
  refine W.eq (g2 := F0 m 27 ls [.int (nI (bg + 1)), .ref a0]) (congrArg (fun z => F0 m 27 ls (.int z :: [.ref a0])) (nI_1 bg)) ?_
  refine pX2_22 C hT (q0 := 0) rfl dX2_add_27 (fun H locs hT => ?_)
  have hT : Wd g A s [(a0, .inr (2, [.ref ab, .int (nI n), .int (nI (2 * nd + bitN on)), .int (nI (bg + 1))])), (ab, .inl (g.2.1 0, 2000, .inl f))] H locs := hT
  refine lv_aload_n hx hb dX2_add_30 rfl (lv_at hl 0 rfl) ?_
  refine gX2_22 C hT (q0 := 0) rfl dX2_add_31 ?_
  refine lv_bipush (v := 8) hx hb dX2_add_34 (by decide) ?_
  refine lv_icmp_ge (tgt := 41) hx hb dX2_add_36 (by decide) (fun h_2 => ?_) (fun h_2 => ?_)
  · skip
    exact absurd h_2 (nI_ge (b := 8) (by omega) (by decide))
  · skip
    refine lv_iconst (v := 0) hx hb dX2_add_39 (by decide) ?_
    exact e_zret C hQ () hT rfl (by decide) dX2_add_40

set_option maxHeartbeats 400000 in
set_option maxRecDepth 100000 in
theorem c_X2_add_last (l : Launch) (g : GT) (a0 : Nat) (ab : Nat) (n : Nat) (nd : Nat) (f : Nat → Int32) (on : Int32) (hn : n < 2000) (hnd : nd < 256) : OM (S := Unit) l g yX2_add cX2_add 2 (some .boolean) ({ frames := 0, cells := 0, slots := 0, locals := 0 } : Room) [.ref a0, .int on] [(a0, .inr (2, [.ref ab, .int (nI n), .int (nI nd), .int (nI 7)])), (ab, .inl (g.2.1 0, 2000, .inl f))] (fun _ => some (.int 1)) (fun _ => [(a0, .inr (2, [.ref ab, .int (nI (n + 1)), .int (nI 1), .int (nI 0)])), (ab, .inl (g.2.1 0, 2000, .inl (upd f n (nI ((2 * nd + bitN on) % 256)))))]) := by
  refine OM.startQ (by decide) (Nat.le_of_ble_eq_true rfl) ?_
  intro p e s m below meth c A ls Q H locs hQ C hnm hl hT
  have hx := C.x
  have hb := C.b
  have hl : lv_has ls 2 [(0, .ref a0), (1, .int on)] := hl
  refine lv_aload_n hx hb dX2_add_0 rfl (lv_at hl 0 rfl) ?_
  refine lv_aload_n hx hb dX2_add_1 rfl (lv_at hl 0 rfl) ?_
  refine gX2_15 C hT (q0 := 0) rfl dX2_add_2 ?_
  refine lv_iconst (v := 1) hx hb dX2_add_5 (by decide) ?_
  refine lv_ishl hx hb dX2_add_6 ?_
  refine lv_iload_n hx hb dX2_add_7 rfl (lv_at hl 1 rfl) ?_
  refine r_ite (ls := ls) (J := 16) (a1 := 0) (a2 := 1) (rest := [.int ((nI nd) <<< (1 &&& 31)), .ref a0]) (lv_if_eq (tgt := 15) hx hb dX2_add_8 (by decide)) (fun h_1 kont => ?_) (fun h_1 kont => ?_) ?_
  · skip
    refine lv_iconst (v := 0) hx hb dX2_add_15 (by decide) ?_
    exact kont
  · skip
    refine lv_iconst (v := 1) hx hb dX2_add_11 (by decide) ?_
    refine lv_goto (tgt := 16) hx hb dX2_add_12 (by decide) ?_
    exact kont
  refine lv_ior hx hb dX2_add_16 ?_
  refine W.eq (g2 := F0 m 17 ls [.int (nI (2 * nd + bitN on)), .ref a0]) (congrArg (fun z => F0 m 17 ls (.int z :: [.ref a0])) (node_bit hnd)) ?_
  refine pX2_15 C hT (q0 := 0) rfl dX2_add_17 (fun H locs hT => ?_)
  have hT : Wd g A s [(a0, .inr (2, [.ref ab, .int (nI n), .int (nI (2 * nd + bitN on)), .int (nI 7)])), (ab, .inl (g.2.1 0, 2000, .inl f))] H locs := hT
  refine lv_aload_n hx hb dX2_add_20 rfl (lv_at hl 0 rfl) ?_
  refine lv_dup hx hb dX2_add_21 rfl ?_
  refine gX2_22 C hT (q0 := 0) rfl dX2_add_22 ?_
  refine lv_iconst (v := 1) hx hb dX2_add_25 (by decide) ?_
  refine lv_iadd hx hb dX2_add_26 ?_
  refine W.eq (g2 := F0 m 27 ls [.int (nI 8), .ref a0]) (congrArg (fun z => F0 m 27 ls (.int z :: [.ref a0])) (nI_1 7)) ?_
  refine pX2_22 C hT (q0 := 0) rfl dX2_add_27 (fun H locs hT => ?_)
  have hT : Wd g A s [(a0, .inr (2, [.ref ab, .int (nI n), .int (nI (2 * nd + bitN on)), .int (nI 8)])), (ab, .inl (g.2.1 0, 2000, .inl f))] H locs := hT
  refine lv_aload_n hx hb dX2_add_30 rfl (lv_at hl 0 rfl) ?_
  refine gX2_22 C hT (q0 := 0) rfl dX2_add_31 ?_
  refine lv_bipush (v := 8) hx hb dX2_add_34 (by decide) ?_
  refine lv_icmp_ge (tgt := 41) hx hb dX2_add_36 (by decide) (fun h_2 => ?_) (fun h_2 => ?_)
  · skip
    refine lv_aload_n hx hb dX2_add_41 rfl (lv_at hl 0 rfl) ?_
    refine gX2_19 C hT (q0 := 0) rfl dX2_add_42 ?_
    refine lv_aload_n hx hb dX2_add_45 rfl (lv_at hl 0 rfl) ?_
    refine gX2_9 C hT (q0 := 0) rfl dX2_add_46 ?_
    refine r_alen C hT (q0 := 1) 0 rfl rfl dX2_add_49 ?_
    refine W.eq (g2 := F0 m 50 ls [.int (nI 2000), .int (nI n)]) rfl ?_
    refine lv_icmp_ge (tgt := 80) hx hb dX2_add_50 (by decide) (fun h_3 => ?_) (fun h_3 => ?_)
    · skip
      exact absurd h_3 (nI_ge hn (by decide))
    · skip
      refine lv_aload_n hx hb dX2_add_53 rfl (lv_at hl 0 rfl) ?_
      refine gX2_9 C hT (q0 := 0) rfl dX2_add_54 ?_
      refine lv_aload_n hx hb dX2_add_57 rfl (lv_at hl 0 rfl) ?_
      refine gX2_19 C hT (q0 := 0) rfl dX2_add_58 ?_
      refine lv_aload_n hx hb dX2_add_61 rfl (lv_at hl 0 rfl) ?_
      refine gX2_15 C hT (q0 := 0) rfl dX2_add_62 ?_
      refine lv_sipush (v := 255) hx hb dX2_add_65 (by decide) ?_
      refine lv_iand hx hb dX2_add_68 ?_
      refine W.eq (g2 := F0 m 69 ls [.int (nI ((2 * nd + bitN on) % 256)), .int (nI n), .ref ab]) (congrArg (fun z => F0 m 69 ls (.int z :: [.int (nI n), .ref ab])) (pk_andN (by have := bitN_lt on; omega) 8 (by decide))) ?_
      refine r_iast C hT (q0 := 1) rfl n rfl (by omega) (by decide) dX2_add_69 (fun H locs hT => ?_)
      have hT : Wd g A s [(a0, .inr (2, [.ref ab, .int (nI n), .int (nI (2 * nd + bitN on)), .int (nI 8)])), (ab, .inl (g.2.1 0, 2000, .inl (upd f n (nI ((2 * nd + bitN on) % 256)))))] H locs := hT
      refine lv_aload_n hx hb dX2_add_70 rfl (lv_at hl 0 rfl) ?_
      refine lv_dup hx hb dX2_add_71 rfl ?_
      refine gX2_19 C hT (q0 := 0) rfl dX2_add_72 ?_
      refine lv_iconst (v := 1) hx hb dX2_add_75 (by decide) ?_
      refine lv_iadd hx hb dX2_add_76 ?_
      refine W.eq (g2 := F0 m 77 ls [.int (nI (n + 1)), .ref a0]) (congrArg (fun z => F0 m 77 ls (.int z :: [.ref a0])) (nI_1 n)) ?_
      refine pX2_19 C hT (q0 := 0) rfl dX2_add_77 (fun H locs hT => ?_)
      have hT : Wd g A s [(a0, .inr (2, [.ref ab, .int (nI (n + 1)), .int (nI (2 * nd + bitN on)), .int (nI 8)])), (ab, .inl (g.2.1 0, 2000, .inl (upd f n (nI ((2 * nd + bitN on) % 256)))))] H locs := hT
      refine lv_aload_n hx hb dX2_add_80 rfl (lv_at hl 0 rfl) ?_
      refine lv_iconst (v := 1) hx hb dX2_add_81 (by decide) ?_
      refine W.eq (g2 := F0 m 82 ls [.int (nI 1), .ref a0]) (congrArg (fun z => F0 m 82 ls (.int z :: [.ref a0])) (rfl)) ?_
      refine pX2_15 C hT (q0 := 0) rfl dX2_add_82 (fun H locs hT => ?_)
      have hT : Wd g A s [(a0, .inr (2, [.ref ab, .int (nI (n + 1)), .int (nI 1), .int (nI 8)])), (ab, .inl (g.2.1 0, 2000, .inl (upd f n (nI ((2 * nd + bitN on) % 256)))))] H locs := hT
      refine lv_aload_n hx hb dX2_add_85 rfl (lv_at hl 0 rfl) ?_
      refine lv_iconst (v := 0) hx hb dX2_add_86 (by decide) ?_
      refine W.eq (g2 := F0 m 87 ls [.int (nI 0), .ref a0]) (congrArg (fun z => F0 m 87 ls (.int z :: [.ref a0])) (rfl)) ?_
      refine pX2_22 C hT (q0 := 0) rfl dX2_add_87 (fun H locs hT => ?_)
      have hT : Wd g A s [(a0, .inr (2, [.ref ab, .int (nI (n + 1)), .int (nI 1), .int (nI 0)])), (ab, .inl (g.2.1 0, 2000, .inl (upd f n (nI ((2 * nd + bitN on) % 256)))))] H locs := hT
      refine lv_iconst (v := 1) hx hb dX2_add_90 (by decide) ?_
      exact e_zret C hQ () hT rfl (by decide) dX2_add_91
  · skip
    exact absurd (show (8 : Int32) ≤ nI 8 by decide) h_2

set_option maxHeartbeats 400000 in
set_option maxRecDepth 100000 in
theorem c_X2_isLetter (l : Launch) (g : GT) (x : Int32) : OM (S := Unit) l g yX2_isLetter cX2_isLetter 1 (some .boolean) ({ frames := 0, cells := 0, slots := 0, locals := 0 } : Room) [.int x] [] (fun _ => some (.int (b01 (letB x)))) (fun _ => []) := by
  refine OM.startQ (by decide) (Nat.le_of_ble_eq_true rfl) ?_
  intro p e s m below meth c A ls Q H locs hQ C hnm hl hT
  have hx := C.x
  have hb := C.b
  have hl : lv_has ls 1 [(0, .int x)] := hl
  refine lv_iload_n hx hb dX2_isLetter_0 rfl (lv_at hl 0 rfl) ?_
  refine lv_bipush (v := 65) hx hb dX2_isLetter_1 (by decide) ?_
  refine lv_icmp_lt (tgt := 12) hx hb dX2_isLetter_3 (by decide) (fun h_1 => ?_) (fun h_1 => ?_)
  · skip
    refine lv_iload_n hx hb dX2_isLetter_12 rfl (lv_at hl 0 rfl) ?_
    refine lv_bipush (v := 97) hx hb dX2_isLetter_13 (by decide) ?_
    refine lv_icmp_lt (tgt := 28) hx hb dX2_isLetter_15 (by decide) (fun h_2 => ?_) (fun h_2 => ?_)
    · skip
      refine lv_iconst (v := 0) hx hb dX2_isLetter_28 (by decide) ?_
      exact e_zret C hQ () hT (by simp [b01, letB, h_1, h_2]) (by decide) dX2_isLetter_29
    · skip
      refine lv_iload_n hx hb dX2_isLetter_18 rfl (lv_at hl 0 rfl) ?_
      refine lv_bipush (v := 122) hx hb dX2_isLetter_19 (by decide) ?_
      refine lv_icmp_gt (tgt := 28) hx hb dX2_isLetter_21 (by decide) (fun h_3 => ?_) (fun h_3 => ?_)
      · skip
        refine lv_iconst (v := 0) hx hb dX2_isLetter_28 (by decide) ?_
        exact e_zret C hQ () hT (by simp [b01, letB, h_1, h_2, h_3]) (by decide) dX2_isLetter_29
      · skip
        refine lv_iconst (v := 1) hx hb dX2_isLetter_24 (by decide) ?_
        refine lv_goto (tgt := 29) hx hb dX2_isLetter_25 (by decide) ?_
        exact e_zret C hQ () hT (by simp [b01, letB, h_1, h_2, h_3]) (by decide) dX2_isLetter_29
  · skip
    refine lv_iload_n hx hb dX2_isLetter_6 rfl (lv_at hl 0 rfl) ?_
    refine lv_bipush (v := 90) hx hb dX2_isLetter_7 (by decide) ?_
    refine lv_icmp_le (tgt := 24) hx hb dX2_isLetter_9 (by decide) (fun h_4 => ?_) (fun h_4 => ?_)
    · skip
      refine lv_iconst (v := 1) hx hb dX2_isLetter_24 (by decide) ?_
      refine lv_goto (tgt := 29) hx hb dX2_isLetter_25 (by decide) ?_
      exact e_zret C hQ () hT (by simp [b01, letB, h_1, h_4]) (by decide) dX2_isLetter_29
    · skip
      refine lv_iload_n hx hb dX2_isLetter_12 rfl (lv_at hl 0 rfl) ?_
      refine lv_bipush (v := 97) hx hb dX2_isLetter_13 (by decide) ?_
      refine lv_icmp_lt (tgt := 28) hx hb dX2_isLetter_15 (by decide) (fun h_5 => ?_) (fun h_5 => ?_)
      · skip
        refine lv_iconst (v := 0) hx hb dX2_isLetter_28 (by decide) ?_
        exact e_zret C hQ () hT (by simp [b01, letB, h_1, h_4, h_5]) (by decide) dX2_isLetter_29
      · skip
        refine lv_iload_n hx hb dX2_isLetter_18 rfl (lv_at hl 0 rfl) ?_
        refine lv_bipush (v := 122) hx hb dX2_isLetter_19 (by decide) ?_
        refine lv_icmp_gt (tgt := 28) hx hb dX2_isLetter_21 (by decide) (fun h_6 => ?_) (fun h_6 => ?_)
        · skip
          refine lv_iconst (v := 0) hx hb dX2_isLetter_28 (by decide) ?_
          exact e_zret C hQ () hT (by simp [b01, letB, h_1, h_4, h_5, h_6]) (by decide) dX2_isLetter_29
        · skip
          refine lv_iconst (v := 1) hx hb dX2_isLetter_24 (by decide) ?_
          refine lv_goto (tgt := 29) hx hb dX2_isLetter_25 (by decide) ?_
          exact e_zret C hQ () hT (by simp [b01, letB, h_1, h_4, h_5, h_6]) (by decide) dX2_isLetter_29

set_option maxHeartbeats 400000 in
set_option maxRecDepth 100000 in
theorem c_X2_latestContext (l : Launch) (g : GT) (a0 : Nat) (ab : Nat) (n : Nat) (nd : Nat) (bg : Nat) (f : Nat → Int32) (t : Nat) (hn : n ≤ 2000) (ht : t < 2 ^ 20) : OM (S := Unit) l g yX2_latestContext cX2_latestContext 4 (some .int) ({ frames := 1, cells := 0, slots := 0, locals := 22 } : Room) [.ref a0, .int (nI t)] [(a0, .inr (2, [.ref ab, .int (nI n), .int (nI nd), .int (nI bg)])), (ab, .inl (g.2.1 0, 2000, .inl f))] (fun _ => some (.int (latH f n t t))) (fun _ => [(a0, .inr (2, [.ref ab, .int (nI n), .int (nI nd), .int (nI bg)])), (ab, .inl (g.2.1 0, 2000, .inl f))]) := by
  refine OM.startQ (by decide) (Nat.le_of_ble_eq_true rfl) ?_
  intro p e s m below meth c A ls Q H locs hQ C hnm hl hT
  have hx := C.x
  have hb := C.b
  have hl : lv_has ls 4 [(0, .ref a0), (1, .int (nI t))] := hl
  refine lv_iload_n hx hb dX2_latestContext_0 rfl (lv_at hl 1 rfl) ?_
  refine lv_iconst (v := 1) hx hb dX2_latestContext_1 (by decide) ?_
  refine lv_iadd hx hb dX2_latestContext_2 ?_
  refine W.eq (g2 := F0 m 3 ls [.int (nI (t + 1))]) (congrArg (fun z => F0 m 3 ls (.int z :: [])) (nI_1 t)) ?_
  refine lv_iconst (v := 0) hx hb dX2_latestContext_3 (by decide) ?_
  have hM := c_X5_hash l g (nI (t + 1)) 0
  refine r_call0 (js := []) C hT (runS (js := []) (rm := ({ frames := 0, cells := 0, slots := 0, locals := 0 } : Room)) (As := [.int (nI (t + 1)), .int 0]) (n := 2) (rest := []) C hT hM rfl rfl k335 k336 k2 k337 (by decide +kernel) rfl rfl (Nat.le_of_ble_eq_true rfl) hl.1 ⟨Nat.le_of_ble_eq_true rfl, Nat.le_of_ble_eq_true rfl⟩ ⟨Nat.le_of_ble_eq_true rfl, Nat.le_of_ble_eq_true rfl⟩ dX2_latestContext_4) rfl rfl (fun _ => rfl) (fun u H locs hT => ?_)
  have hT : Wd g A s [(a0, .inr (2, [.ref ab, .int (nI n), .int (nI nd), .int (nI bg)])), (ab, .inl (g.2.1 0, 2000, .inl f))] H locs := hT
  refine W.eq (g2 := F0 m 7 ls [.int (hashI (nI (t + 1)) 0)]) rfl ?_
  refine lv_istore_n (lv' := [(2, .int (hashI (nI (t + 1)) 0)), (0, .ref a0), (1, .int (nI t))]) hx hb dX2_latestContext_7 rfl hl (by decide) rfl (fun ls hl => ?_)
  refine lv_iconst (v := 1) hx hb dX2_latestContext_8 (by decide) ?_
  refine lv_istore_n (lv' := [(3, .int 1), (2, .int (hashI (nI (t + 1)) 0)), (0, .ref a0), (1, .int (nI t))]) hx hb dX2_latestContext_9 rfl hl (by decide) rfl (fun ls hl => ?_)
  have loop_10 : ∀ (fu : Nat) (i : Nat) (vx3 : Int32) (vx2 : Int32) (H : Heap) (locs : List Loc) (ls : Array Slot) (hi : i ≤ t) (vex3 : vx3 = nI (i + 1)) (vex2 : vx2 = latH f n t i), t - i < fu → Wd g A s [(a0, .inr (2, [.ref ab, .int (nI n), .int (nI nd), .int (nI bg)])), (ab, .inl (g.2.1 0, 2000, .inl f))] H locs → lv_has ls 4 [(0, .ref a0), (1, .int (nI t)), (2, .int vx2), (3, .int vx3)] → W p l e ({ frames := 1, cells := 0, slots := 0, locals := 22 } : Room) s m ([.ref a0, .int (nI t)] : List Value).toArray below meth c H locs 0 0 Q (F0 m 10 ls []) := by
    intro fu
    induction fu with
    | zero => intro i vx3 vx2 H locs ls hi vex3 vex2 hm; exact absurd hm (Nat.not_lt_zero _)
    | succ fu ih =>
      intro i vx3 vx2 H locs ls hi vex3 vex2 hm hT hl
      refine lv_iload_n hx hb dX2_latestContext_10 rfl (lv_at hl 3 rfl) ?_
      refine lv_iload_n hx hb dX2_latestContext_11 rfl (lv_at hl 1 rfl) ?_
      refine lv_icmp_gt (tgt := 31) hx hb dX2_latestContext_12 (by decide) (fun h_1 => ?_) (fun h_1 => ?_)
      · skip
        have hin : i = t := by have := lp_le_end vex3 (by omega) (by omega) h_1; omega
        refine lv_iload_n hx hb dX2_latestContext_31 rfl (lv_at hl 2 rfl) ?_
        exact e_iret C hQ () hT (by rw [vex2, hin]) dX2_latestContext_32
      · skip
        have hin : i < t := by have := lp_le_go vex3 (by omega) (by omega) h_1; omega
        refine lv_iload_n hx hb dX2_latestContext_15 rfl (lv_at hl 2 rfl) ?_
        refine lv_aload_n hx hb dX2_latestContext_16 rfl (lv_at hl 0 rfl) ?_
        refine lv_iload_n hx hb dX2_latestContext_17 rfl (lv_at hl 3 rfl) ?_
        refine W.eq (g2 := F0 m 18 ls [.int (nI (i + 1)), .ref a0, .int vx2]) (congrArg (fun z => F0 m 18 ls (.int z :: [.ref a0, .int vx2])) (vex3)) ?_
        have hM := c_X2_back l g a0 ab n nd bg f (i + 1) (by first | assumption | omega) (by omega)
        refine r_call0 (js := [0, 1]) C hT (runV (js := [0, 1]) (rm := ({ frames := 0, cells := 0, slots := 0, locals := 0 } : Room)) (As := [.int (nI (i + 1))]) (n := 1) (q1 := 0) (rest := [.int vx2]) C hT hM rfl rfl k326 k312 k313 k6 k314 (by decide +kernel) rfl rfl rfl rfl (Nat.le_of_ble_eq_true rfl) hl.1 ⟨Nat.le_of_ble_eq_true rfl, Nat.le_of_ble_eq_true rfl⟩ ⟨Nat.le_of_ble_eq_true rfl, Nat.le_of_ble_eq_true rfl⟩ dX2_latestContext_18) rfl rfl (fun _ => rfl) (fun u H locs hT => ?_)
        have hT : Wd g A s [(a0, .inr (2, [.ref ab, .int (nI n), .int (nI nd), .int (nI bg)])), (ab, .inl (g.2.1 0, 2000, .inl f))] H locs := hT
        refine W.eq (g2 := F0 m 21 ls [.int (backN f n (i + 1)), .int vx2]) rfl ?_
        have hM := c_X5_hash l g vx2 (backN f n (i + 1))
        refine r_call0 (js := []) C hT (runS (js := []) (rm := ({ frames := 0, cells := 0, slots := 0, locals := 0 } : Room)) (As := [.int vx2, .int (backN f n (i + 1))]) (n := 2) (rest := []) C hT hM rfl rfl k335 k336 k2 k337 (by decide +kernel) rfl rfl (Nat.le_of_ble_eq_true rfl) hl.1 ⟨Nat.le_of_ble_eq_true rfl, Nat.le_of_ble_eq_true rfl⟩ ⟨Nat.le_of_ble_eq_true rfl, Nat.le_of_ble_eq_true rfl⟩ dX2_latestContext_21) rfl rfl (fun _ => rfl) (fun u H locs hT => ?_)
        have hT : Wd g A s [(a0, .inr (2, [.ref ab, .int (nI n), .int (nI nd), .int (nI bg)])), (ab, .inl (g.2.1 0, 2000, .inl f))] H locs := hT
        refine W.eq (g2 := F0 m 24 ls [.int (hashI vx2 (backN f n (i + 1)))]) rfl ?_
        refine lv_istore_n (lv' := [(2, .int (hashI vx2 (backN f n (i + 1)))), (0, .ref a0), (1, .int (nI t)), (3, .int vx3)]) hx hb dX2_latestContext_24 rfl hl (by decide) rfl (fun ls hl => ?_)
        obtain ⟨x_2, ex_2⟩ : ∃ y : Int32, y = vx3 + 1 := ⟨_, rfl⟩
        refine lv_iinc (v := x_2) (lv' := [(3, .int x_2), (2, .int (hashI vx2 (backN f n (i + 1)))), (0, .ref a0), (1, .int (nI t))]) hx hb dX2_latestContext_25 hl (k := 3) rfl (by rw [ex_2]; rfl) (by decide) rfl (fun ls hl => ?_)
        refine lv_goto (tgt := 10) hx hb dX2_latestContext_28 (by decide) ?_
        exact ih (i + 1) x_2 (hashI vx2 (backN f n (i + 1))) H locs ls (by first | assumption | omega | rfl) (by rw [ex_2, vex3]; exact nI_1 (i + 1)) (by rw [vex2]; exact latH_s f n t i) (by omega) hT (lv_sub hl [2, 3, 1, 0] rfl)
  exact loop_10 (t - 0 + 1) 0 1 (hashI (nI (t + 1)) 0) H locs ls (by first | assumption | omega | rfl) rfl (latH_0 f n t) (Nat.lt_succ_self _) hT (lv_sub hl [2, 3, 1, 0] rfl)

set_option maxHeartbeats 400000 in
set_option maxRecDepth 100000 in
theorem c_X2_columnContext (l : Launch) (g : GT) (a0 : Nat) (ab : Nat) (n : Nat) (nd : Nat) (bg : Nat) (f : Nat → Int32) (t : Nat) (hn : n ≤ 2000) (ht0 : 0 < t) (ht : t < 2 ^ 20) : OM (S := Unit) l g yX2_columnContext cX2_columnContext 4 (some .int) ({ frames := 1, cells := 0, slots := 0, locals := 22 } : Room) [.ref a0, .int (nI t)] [(a0, .inr (2, [.ref ab, .int (nI n), .int (nI nd), .int (nI bg)])), (ab, .inl (g.2.1 0, 2000, .inl f))] (fun _ => some (.int (colH f n t))) (fun _ => [(a0, .inr (2, [.ref ab, .int (nI n), .int (nI nd), .int (nI bg)])), (ab, .inl (g.2.1 0, 2000, .inl f))]) := by
  refine OM.startQ (by decide) (Nat.le_of_ble_eq_true rfl) ?_
  intro p e s m below meth c A ls Q H locs hQ C hnm hl hT
  have hx := C.x
  have hb := C.b
  have hl : lv_has ls 4 [(0, .ref a0), (1, .int (nI t))] := hl
  refine lv_iload_n hx hb dX2_columnContext_0 rfl (lv_at hl 1 rfl) ?_
  refine lv_if_le (tgt := 13) hx hb dX2_columnContext_1 (by decide) (fun h_1 => ?_) (fun h_1 => ?_)
  · skip
    exact absurd h_1 (nI_nle ht0 (by omega))
  · skip
    refine lv_aload_n hx hb dX2_columnContext_4 rfl (lv_at hl 0 rfl) ?_
    refine gX2_19 C hT (q0 := 0) rfl dX2_columnContext_5 ?_
    refine lv_iload_n hx hb dX2_columnContext_8 rfl (lv_at hl 1 rfl) ?_
    refine lv_irem hx hb dX2_columnContext_9 (nI_ne0 ht0 (by omega)) ?_
    refine W.eq (g2 := F0 m 10 ls [.int (nI (n % t))]) (congrArg (fun z => F0 m 10 ls (.int z :: [])) (pk_rem (by omega) ht0 (by omega))) ?_
    refine lv_goto (tgt := 14) hx hb dX2_columnContext_10 (by decide) ?_
    refine lv_istore_n (lv' := [(2, .int (nI (n % t))), (0, .ref a0), (1, .int (nI t))]) hx hb dX2_columnContext_14 rfl hl (by decide) rfl (fun ls hl => ?_)
    refine lv_bipush (v := 64) hx hb dX2_columnContext_15 (by decide) ?_
    refine lv_iload_n hx hb dX2_columnContext_17 rfl (lv_at hl 2 rfl) ?_
    refine lv_iadd hx hb dX2_columnContext_18 ?_
    refine W.eq (g2 := F0 m 19 ls [.int (nI (64 + t))]) (congrArg (fun z => F0 m 19 ls (.int z :: [])) (nI_add 64 t)) ?_
    refine lv_iconst (v := 0) hx hb dX2_columnContext_19 (by decide) ?_
    have hM := c_X5_hash l g (nI (64 + t)) 0
    refine r_call0 (js := []) C hT (runS (js := []) (rm := ({ frames := 0, cells := 0, slots := 0, locals := 0 } : Room)) (As := [.int (nI (64 + t)), .int 0]) (n := 2) (rest := []) C hT hM rfl rfl k335 k336 k2 k337 (by decide +kernel) rfl rfl (Nat.le_of_ble_eq_true rfl) hl.1 ⟨Nat.le_of_ble_eq_true rfl, Nat.le_of_ble_eq_true rfl⟩ ⟨Nat.le_of_ble_eq_true rfl, Nat.le_of_ble_eq_true rfl⟩ dX2_columnContext_20) rfl rfl (fun _ => rfl) (fun u H locs hT => ?_)
    have hT : Wd g A s [(a0, .inr (2, [.ref ab, .int (nI n), .int (nI nd), .int (nI bg)])), (ab, .inl (g.2.1 0, 2000, .inl f))] H locs := hT
    refine W.eq (g2 := F0 m 23 ls [.int (hashI (nI (64 + t)) 0)]) rfl ?_
    refine lv_iload_n hx hb dX2_columnContext_23 rfl (lv_at hl 0 rfl) ?_
    have hM := c_X5_hash l g (hashI (nI (64 + t)) 0) (nI (n % t))
    refine r_call0 (js := []) C hT (runS (js := []) (rm := ({ frames := 0, cells := 0, slots := 0, locals := 0 } : Room)) (As := [.int (hashI (nI (64 + t)) 0), .int (nI (n % t))]) (n := 2) (rest := []) C hT hM rfl rfl k335 k336 k2 k337 (by decide +kernel) rfl rfl (Nat.le_of_ble_eq_true rfl) hl.1 ⟨Nat.le_of_ble_eq_true rfl, Nat.le_of_ble_eq_true rfl⟩ ⟨Nat.le_of_ble_eq_true rfl, Nat.le_of_ble_eq_true rfl⟩ dX2_columnContext_24) rfl rfl (fun _ => rfl) (fun u H locs hT => ?_)
    have hT : Wd g A s [(a0, .inr (2, [.ref ab, .int (nI n), .int (nI nd), .int (nI bg)])), (ab, .inl (g.2.1 0, 2000, .inl f))] H locs := hT
    refine W.eq (g2 := F0 m 27 ls [.int (hashI (hashI (nI (64 + t)) 0) (nI (n % t)))]) rfl ?_
    refine lv_istore_n (lv' := [(3, .int (hashI (hashI (nI (64 + t)) 0) (nI (n % t)))), (2, .int (nI (n % t))), (0, .ref a0), (1, .int (nI t))]) hx hb dX2_columnContext_27 rfl hl (by decide) rfl (fun ls hl => ?_)
    refine lv_iload_n hx hb dX2_columnContext_28 rfl (lv_at hl 0 rfl) ?_
    refine lv_aload_n hx hb dX2_columnContext_29 rfl (lv_at hl 2 rfl) ?_
    refine lv_iload_n hx hb dX2_columnContext_30 rfl (lv_at hl 3 rfl) ?_
    have hM := c_X2_back l g a0 ab n nd bg f t (by first | assumption | omega) (by omega)
    refine r_call0 (js := [0, 1]) C hT (runV (js := [0, 1]) (rm := ({ frames := 0, cells := 0, slots := 0, locals := 0 } : Room)) (As := [.int (nI t)]) (n := 1) (q1 := 0) (rest := [.int (hashI (hashI (nI (64 + t)) 0) (nI (n % t)))]) C hT hM rfl rfl k326 k312 k313 k6 k314 (by decide +kernel) rfl rfl rfl rfl (Nat.le_of_ble_eq_true rfl) hl.1 ⟨Nat.le_of_ble_eq_true rfl, Nat.le_of_ble_eq_true rfl⟩ ⟨Nat.le_of_ble_eq_true rfl, Nat.le_of_ble_eq_true rfl⟩ dX2_columnContext_31) rfl rfl (fun _ => rfl) (fun u H locs hT => ?_)
    have hT : Wd g A s [(a0, .inr (2, [.ref ab, .int (nI n), .int (nI nd), .int (nI bg)])), (ab, .inl (g.2.1 0, 2000, .inl f))] H locs := hT
    refine W.eq (g2 := F0 m 34 ls [.int (backN f n t), .int (hashI (hashI (nI (64 + t)) 0) (nI (n % t)))]) rfl ?_
    have hM := c_X5_hash l g (hashI (hashI (nI (64 + t)) 0) (nI (n % t))) (backN f n t)
    refine r_call0 (js := []) C hT (runS (js := []) (rm := ({ frames := 0, cells := 0, slots := 0, locals := 0 } : Room)) (As := [.int (hashI (hashI (nI (64 + t)) 0) (nI (n % t))), .int (backN f n t)]) (n := 2) (rest := []) C hT hM rfl rfl k335 k336 k2 k337 (by decide +kernel) rfl rfl (Nat.le_of_ble_eq_true rfl) hl.1 ⟨Nat.le_of_ble_eq_true rfl, Nat.le_of_ble_eq_true rfl⟩ ⟨Nat.le_of_ble_eq_true rfl, Nat.le_of_ble_eq_true rfl⟩ dX2_columnContext_34) rfl rfl (fun _ => rfl) (fun u H locs hT => ?_)
    have hT : Wd g A s [(a0, .inr (2, [.ref ab, .int (nI n), .int (nI nd), .int (nI bg)])), (ab, .inl (g.2.1 0, 2000, .inl f))] H locs := hT
    refine W.eq (g2 := F0 m 37 ls [.int (hashI (hashI (hashI (nI (64 + t)) 0) (nI (n % t))) (backN f n t))]) rfl ?_
    exact e_iret C hQ () hT (by rfl) dX2_columnContext_37

set_option maxHeartbeats 400000 in
set_option maxRecDepth 100000 in
theorem c_X2_apartContext (l : Launch) (g : GT) (a0 : Nat) (ab : Nat) (n : Nat) (nd : Nat) (bg : Nat) (f : Nat → Int32) (nn : Int32) (hn : n ≤ 2000) : OM (S := Unit) l g yX2_apartContext cX2_apartContext 4 (some .int) ({ frames := 1, cells := 0, slots := 0, locals := 22 } : Room) [.ref a0, .int nn] [(a0, .inr (2, [.ref ab, .int (nI n), .int (nI nd), .int (nI bg)])), (ab, .inl (g.2.1 0, 2000, .inl f))] (fun _ => some (.int (apH f n nn 4))) (fun _ => [(a0, .inr (2, [.ref ab, .int (nI n), .int (nI nd), .int (nI bg)])), (ab, .inl (g.2.1 0, 2000, .inl f))]) := by
  refine OM.startQ (by decide) (Nat.le_of_ble_eq_true rfl) ?_
  intro p e s m below meth c A ls Q H locs hQ C hnm hl hT
  have hx := C.x
  have hb := C.b
  have hl : lv_has ls 4 [(0, .ref a0), (1, .int nn)] := hl
  refine lv_sipush (v := 128) hx hb dX2_apartContext_0 (by decide) ?_
  refine lv_iload_n hx hb dX2_apartContext_3 rfl (lv_at hl 1 rfl) ?_
  refine lv_iadd hx hb dX2_apartContext_4 ?_
  refine lv_iconst (v := 0) hx hb dX2_apartContext_5 (by decide) ?_
  have hM := c_X5_hash l g (128 + nn) 0
  refine r_call0 (js := []) C hT (runS (js := []) (rm := ({ frames := 0, cells := 0, slots := 0, locals := 0 } : Room)) (As := [.int (128 + nn), .int 0]) (n := 2) (rest := []) C hT hM rfl rfl k335 k336 k2 k337 (by decide +kernel) rfl rfl (Nat.le_of_ble_eq_true rfl) hl.1 ⟨Nat.le_of_ble_eq_true rfl, Nat.le_of_ble_eq_true rfl⟩ ⟨Nat.le_of_ble_eq_true rfl, Nat.le_of_ble_eq_true rfl⟩ dX2_apartContext_6) rfl rfl (fun _ => rfl) (fun u H locs hT => ?_)
  have hT : Wd g A s [(a0, .inr (2, [.ref ab, .int (nI n), .int (nI nd), .int (nI bg)])), (ab, .inl (g.2.1 0, 2000, .inl f))] H locs := hT
  refine W.eq (g2 := F0 m 9 ls [.int (hashI (128 + nn) 0)]) rfl ?_
  refine lv_istore_n (lv' := [(2, .int (hashI (128 + nn) 0)), (0, .ref a0), (1, .int nn)]) hx hb dX2_apartContext_9 rfl hl (by decide) rfl (fun ls hl => ?_)
  refine lv_iconst (v := 0) hx hb dX2_apartContext_10 (by decide) ?_
  refine lv_istore_n (lv' := [(3, .int 0), (2, .int (hashI (128 + nn) 0)), (0, .ref a0), (1, .int nn)]) hx hb dX2_apartContext_11 rfl hl (by decide) rfl (fun ls hl => ?_)
  have loop_12 : ∀ (fu : Nat) (i : Nat) (vx3 : Int32) (vx2 : Int32) (H : Heap) (locs : List Loc) (ls : Array Slot) (hi : i ≤ 4) (vex3 : vx3 = nI i) (vex2 : vx2 = apH f n nn i), 4 - i < fu → Wd g A s [(a0, .inr (2, [.ref ab, .int (nI n), .int (nI nd), .int (nI bg)])), (ab, .inl (g.2.1 0, 2000, .inl f))] H locs → lv_has ls 4 [(0, .ref a0), (1, .int nn), (2, .int vx2), (3, .int vx3)] → W p l e ({ frames := 1, cells := 0, slots := 0, locals := 22 } : Room) s m ([.ref a0, .int nn] : List Value).toArray below meth c H locs 0 0 Q (F0 m 12 ls []) := by
    intro fu
    induction fu with
    | zero => intro i vx3 vx2 H locs ls hi vex3 vex2 hm; exact absurd hm (Nat.not_lt_zero _)
    | succ fu ih =>
      intro i vx3 vx2 H locs ls hi vex3 vex2 hm hT hl
      refine lv_iload_n hx hb dX2_apartContext_12 rfl (lv_at hl 3 rfl) ?_
      refine lv_iconst (v := 4) hx hb dX2_apartContext_13 (by decide) ?_
      refine lv_icmp_ge (tgt := 44) hx hb dX2_apartContext_14 (by decide) (fun h_1 => ?_) (fun h_1 => ?_)
      · skip
        have hin := lp_end (n := 4) vex3 (by decide) hi h_1
        refine lv_iload_n hx hb dX2_apartContext_44 rfl (lv_at hl 2 rfl) ?_
        exact e_iret C hQ () hT (by rw [vex2, hin]) dX2_apartContext_45
      · skip
        have hin := lp_go (n := 4) vex3 (by decide) hi h_1
        refine lv_iload_n hx hb dX2_apartContext_17 rfl (lv_at hl 1 rfl) ?_
        refine lv_iload_n hx hb dX2_apartContext_18 rfl (lv_at hl 3 rfl) ?_
        refine W.eq (g2 := F0 m 19 ls [.int (nI i), .int nn]) (congrArg (fun z => F0 m 19 ls (.int z :: [.int nn])) (vex3)) ?_
        refine lv_ishr hx hb dX2_apartContext_19 ?_
        refine lv_iconst (v := 1) hx hb dX2_apartContext_20 (by decide) ?_
        refine lv_iand hx hb dX2_apartContext_21 ?_
        refine lv_iconst (v := 1) hx hb dX2_apartContext_22 (by decide) ?_
        refine lv_icmp_ne (tgt := 38) hx hb dX2_apartContext_23 (by decide) (fun h_2 => ?_) (fun h_2 => ?_)
        · skip
          have hbit := h_2
          obtain ⟨x_3, ex_3⟩ : ∃ y : Int32, y = vx3 + 1 := ⟨_, rfl⟩
          refine lv_iinc (v := x_3) (lv' := [(3, .int x_3), (0, .ref a0), (1, .int nn), (2, .int vx2)]) hx hb dX2_apartContext_38 hl (k := 3) rfl (by rw [ex_3]; rfl) (by decide) rfl (fun ls hl => ?_)
          refine lv_goto (tgt := 12) hx hb dX2_apartContext_41 (by decide) ?_
          exact ih (i + 1) x_3 vx2 H locs ls (by first | assumption | omega | rfl) (by rw [ex_3, vex3]; exact nI_1 i) (by rw [vex2]; first | exact apH_t hbit | exact apH_f hbit) (by omega) hT (lv_sub hl [1, 2, 3, 0] rfl)
        · skip
          have hbit := h_2
          refine lv_iload_n hx hb dX2_apartContext_26 rfl (lv_at hl 2 rfl) ?_
          refine lv_aload_n hx hb dX2_apartContext_27 rfl (lv_at hl 0 rfl) ?_
          refine lv_iload_n hx hb dX2_apartContext_28 rfl (lv_at hl 3 rfl) ?_
          refine W.eq (g2 := F0 m 29 ls [.int (nI i), .ref a0, .int vx2]) (congrArg (fun z => F0 m 29 ls (.int z :: [.ref a0, .int vx2])) (vex3)) ?_
          refine lv_iconst (v := 1) hx hb dX2_apartContext_29 (by decide) ?_
          refine lv_iadd hx hb dX2_apartContext_30 ?_
          refine W.eq (g2 := F0 m 31 ls [.int (nI (i + 1)), .ref a0, .int vx2]) (congrArg (fun z => F0 m 31 ls (.int z :: [.ref a0, .int vx2])) (nI_1 i)) ?_
          have hM := c_X2_back l g a0 ab n nd bg f (i + 1) (by first | assumption | omega) (by omega)
          refine r_call0 (js := [0, 1]) C hT (runV (js := [0, 1]) (rm := ({ frames := 0, cells := 0, slots := 0, locals := 0 } : Room)) (As := [.int (nI (i + 1))]) (n := 1) (q1 := 0) (rest := [.int vx2]) C hT hM rfl rfl k326 k312 k313 k6 k314 (by decide +kernel) rfl rfl rfl rfl (Nat.le_of_ble_eq_true rfl) hl.1 ⟨Nat.le_of_ble_eq_true rfl, Nat.le_of_ble_eq_true rfl⟩ ⟨Nat.le_of_ble_eq_true rfl, Nat.le_of_ble_eq_true rfl⟩ dX2_apartContext_31) rfl rfl (fun _ => rfl) (fun u H locs hT => ?_)
          have hT : Wd g A s [(a0, .inr (2, [.ref ab, .int (nI n), .int (nI nd), .int (nI bg)])), (ab, .inl (g.2.1 0, 2000, .inl f))] H locs := hT
          refine W.eq (g2 := F0 m 34 ls [.int (backN f n (i + 1)), .int vx2]) rfl ?_
          have hM := c_X5_hash l g vx2 (backN f n (i + 1))
          refine r_call0 (js := []) C hT (runS (js := []) (rm := ({ frames := 0, cells := 0, slots := 0, locals := 0 } : Room)) (As := [.int vx2, .int (backN f n (i + 1))]) (n := 2) (rest := []) C hT hM rfl rfl k335 k336 k2 k337 (by decide +kernel) rfl rfl (Nat.le_of_ble_eq_true rfl) hl.1 ⟨Nat.le_of_ble_eq_true rfl, Nat.le_of_ble_eq_true rfl⟩ ⟨Nat.le_of_ble_eq_true rfl, Nat.le_of_ble_eq_true rfl⟩ dX2_apartContext_34) rfl rfl (fun _ => rfl) (fun u H locs hT => ?_)
          have hT : Wd g A s [(a0, .inr (2, [.ref ab, .int (nI n), .int (nI nd), .int (nI bg)])), (ab, .inl (g.2.1 0, 2000, .inl f))] H locs := hT
          refine W.eq (g2 := F0 m 37 ls [.int (hashI vx2 (backN f n (i + 1)))]) rfl ?_
          refine lv_istore_n (lv' := [(2, .int (hashI vx2 (backN f n (i + 1)))), (0, .ref a0), (1, .int nn), (3, .int vx3)]) hx hb dX2_apartContext_37 rfl hl (by decide) rfl (fun ls hl => ?_)
          obtain ⟨x_4, ex_4⟩ : ∃ y : Int32, y = vx3 + 1 := ⟨_, rfl⟩
          refine lv_iinc (v := x_4) (lv' := [(3, .int x_4), (2, .int (hashI vx2 (backN f n (i + 1)))), (0, .ref a0), (1, .int nn)]) hx hb dX2_apartContext_38 hl (k := 3) rfl (by rw [ex_4]; rfl) (by decide) rfl (fun ls hl => ?_)
          refine lv_goto (tgt := 12) hx hb dX2_apartContext_41 (by decide) ?_
          exact ih (i + 1) x_4 (hashI vx2 (backN f n (i + 1))) H locs ls (by first | assumption | omega | rfl) (by rw [ex_4, vex3]; exact nI_1 i) (by rw [vex2]; first | exact apH_t hbit | exact apH_f hbit) (by omega) hT (lv_sub hl [2, 3, 1, 0] rfl)
  exact loop_12 (4 - 0 + 1) 0 0 (hashI (128 + nn) 0) H locs ls (by first | assumption | omega | rfl) rfl (apH_0 f n nn) (Nat.lt_succ_self _) hT (lv_sub hl [2, 3, 1, 0] rfl)

set_option maxHeartbeats 400000 in
set_option maxRecDepth 100000 in
theorem c_X2_wordContext (l : Launch) (g : GT) (a0 : Nat) (ab : Nat) (n : Nat) (nd : Nat) (bg : Nat) (f : Nat → Int32) (hn : n ≤ 2000) : OM (S := Unit) l g yX2_wordContext cX2_wordContext 4 (some .int) ({ frames := 1, cells := 0, slots := 0, locals := 22 } : Room) [.ref a0] [(a0, .inr (2, [.ref ab, .int (nI n), .int (nI nd), .int (nI bg)])), (ab, .inl (g.2.1 0, 2000, .inl f))] (fun _ => some (.int (wordH f n))) (fun _ => [(a0, .inr (2, [.ref ab, .int (nI n), .int (nI nd), .int (nI bg)])), (ab, .inl (g.2.1 0, 2000, .inl f))]) := by
  refine OM.startQ (by decide) (Nat.le_of_ble_eq_true rfl) ?_
  intro p e s m below meth c A ls Q H locs hQ C hnm hl hT
  have hx := C.x
  have hb := C.b
  have hl : lv_has ls 4 [(0, .ref a0)] := hl
  refine lv_iconst (v := 0) hx hb dX2_wordContext_0 (by decide) ?_
  refine lv_istore_n (lv' := [(1, .int 0), (0, .ref a0)]) hx hb dX2_wordContext_1 rfl hl (by decide) rfl (fun ls hl => ?_)
  have loop_2 : ∀ (fu : Nat) (i : Nat) (vx1 : Int32) (H : Heap) (locs : List Loc) (ls : Array Slot) (hi : i ≤ 16) (vex1 : vx1 = nI i) (hw : wlG f n (16 - i) i = wlen f n), 16 - i < fu → Wd g A s [(a0, .inr (2, [.ref ab, .int (nI n), .int (nI nd), .int (nI bg)])), (ab, .inl (g.2.1 0, 2000, .inl f))] H locs → lv_has ls 4 [(0, .ref a0), (1, .int vx1)] → W p l e ({ frames := 1, cells := 0, slots := 0, locals := 22 } : Room) s m ([.ref a0] : List Value).toArray below meth c H locs 0 0 Q (F0 m 2 ls []) := by
    intro fu
    induction fu with
    | zero => intro i vx1 H locs ls hi vex1 hw hm; exact absurd hm (Nat.not_lt_zero _)
    | succ fu ih =>
      intro i vx1 H locs ls hi vex1 hw hm hT hl
      refine lv_iload_n hx hb dX2_wordContext_2 rfl (lv_at hl 1 rfl) ?_
      refine lv_bipush (v := 16) hx hb dX2_wordContext_3 (by decide) ?_
      refine lv_icmp_ge (tgt := 27) hx hb dX2_wordContext_5 (by decide) (fun h_1 => ?_) (fun h_1 => ?_)
      · skip
        have hin := lp_end (n := 16) vex1 (by decide) hi h_1
        have hwi : i = wlen f n := by rw [← hw, hin]; rfl
        refine lv_bipush (v := 32) hx hb dX2_wordContext_27 (by decide) ?_
        refine lv_iconst (v := 0) hx hb dX2_wordContext_29 (by decide) ?_
        have hM := c_X5_hash l g 32 0
        refine r_call0 (js := []) C hT (runS (js := []) (rm := ({ frames := 0, cells := 0, slots := 0, locals := 0 } : Room)) (As := [.int 32, .int 0]) (n := 2) (rest := []) C hT hM rfl rfl k335 k336 k2 k337 (by decide +kernel) rfl rfl (Nat.le_of_ble_eq_true rfl) hl.1 ⟨Nat.le_of_ble_eq_true rfl, Nat.le_of_ble_eq_true rfl⟩ ⟨Nat.le_of_ble_eq_true rfl, Nat.le_of_ble_eq_true rfl⟩ dX2_wordContext_30) rfl rfl (fun _ => rfl) (fun u H locs hT => ?_)
        have hT : Wd g A s [(a0, .inr (2, [.ref ab, .int (nI n), .int (nI nd), .int (nI bg)])), (ab, .inl (g.2.1 0, 2000, .inl f))] H locs := hT
        refine W.eq (g2 := F0 m 33 ls [.int (hashI 32 0)]) rfl ?_
        refine lv_istore_n (lv' := [(2, .int (hashI 32 0)), (0, .ref a0), (1, .int vx1)]) hx hb dX2_wordContext_33 rfl hl (by decide) rfl (fun ls hl => ?_)
        refine lv_iload_n hx hb dX2_wordContext_34 rfl (lv_at hl 2 rfl) ?_
        refine lv_istore_n (lv' := [(3, .int vx1), (2, .int (hashI 32 0)), (0, .ref a0), (1, .int vx1)]) hx hb dX2_wordContext_35 rfl hl (by decide) rfl (fun ls hl => ?_)
        have loop_36 : ∀ (fu : Nat) (j : Nat) (vx3 : Int32) (vx2 : Int32) (H : Heap) (locs : List Loc) (ls : Array Slot) (hj : j ≤ 16) (vex3 : vx3 = nI j) (hh : whash f n j vx2 = wordH f n), j < fu → Wd g A s [(a0, .inr (2, [.ref ab, .int (nI n), .int (nI nd), .int (nI bg)])), (ab, .inl (g.2.1 0, 2000, .inl f))] H locs → lv_has ls 4 [(0, .ref a0), (1, .int vx1), (2, .int vx2), (3, .int vx3)] → W p l e ({ frames := 1, cells := 0, slots := 0, locals := 22 } : Room) s m ([.ref a0] : List Value).toArray below meth c H locs 0 0 Q (F0 m 36 ls []) := by
          intro fu
          induction fu with
          | zero => intro j vx3 vx2 H locs ls hj vex3 hh hm; exact absurd hm (Nat.not_lt_zero _)
          | succ fu ih =>
            intro j vx3 vx2 H locs ls hj vex3 hh hm hT hl
            refine lv_iload_n hx hb dX2_wordContext_36 rfl (lv_at hl 3 rfl) ?_
            refine lv_iconst (v := 1) hx hb dX2_wordContext_37 (by decide) ?_
            refine lv_icmp_lt (tgt := 57) hx hb dX2_wordContext_38 (by decide) (fun h_2 => ?_) (fun h_2 => ?_)
            · skip
              have hj0 : j = 0 := by rw [vex3] at h_2; have := (nI_ltI (b := 1) (by omega) (by decide)).mp h_2; omega
              refine lv_iload_n hx hb dX2_wordContext_57 rfl (lv_at hl 2 rfl) ?_
              exact e_iret C hQ () hT (by rw [← hh, hj0, whash_0]) dX2_wordContext_58
            · skip
              have hjp : 0 < j := by rcases Nat.eq_zero_or_pos j with q | q; exact absurd (by rw [vex3, q]; decide) h_2; exact q
              refine lv_iload_n hx hb dX2_wordContext_41 rfl (lv_at hl 2 rfl) ?_
              refine lv_aload_n hx hb dX2_wordContext_42 rfl (lv_at hl 0 rfl) ?_
              refine lv_iload_n hx hb dX2_wordContext_43 rfl (lv_at hl 3 rfl) ?_
              refine W.eq (g2 := F0 m 44 ls [.int (nI j), .ref a0, .int vx2]) (congrArg (fun z => F0 m 44 ls (.int z :: [.ref a0, .int vx2])) (vex3)) ?_
              have hM := c_X2_back l g a0 ab n nd bg f j (by first | assumption | omega) (by omega)
              refine r_call0 (js := [0, 1]) C hT (runV (js := [0, 1]) (rm := ({ frames := 0, cells := 0, slots := 0, locals := 0 } : Room)) (As := [.int (nI j)]) (n := 1) (q1 := 0) (rest := [.int vx2]) C hT hM rfl rfl k326 k312 k313 k6 k314 (by decide +kernel) rfl rfl rfl rfl (Nat.le_of_ble_eq_true rfl) hl.1 ⟨Nat.le_of_ble_eq_true rfl, Nat.le_of_ble_eq_true rfl⟩ ⟨Nat.le_of_ble_eq_true rfl, Nat.le_of_ble_eq_true rfl⟩ dX2_wordContext_44) rfl rfl (fun _ => rfl) (fun u H locs hT => ?_)
              have hT : Wd g A s [(a0, .inr (2, [.ref ab, .int (nI n), .int (nI nd), .int (nI bg)])), (ab, .inl (g.2.1 0, 2000, .inl f))] H locs := hT
              refine W.eq (g2 := F0 m 47 ls [.int (backN f n j), .int vx2]) rfl ?_
              have hM := c_X5_hash l g vx2 (backN f n j)
              refine r_call0 (js := []) C hT (runS (js := []) (rm := ({ frames := 0, cells := 0, slots := 0, locals := 0 } : Room)) (As := [.int vx2, .int (backN f n j)]) (n := 2) (rest := []) C hT hM rfl rfl k335 k336 k2 k337 (by decide +kernel) rfl rfl (Nat.le_of_ble_eq_true rfl) hl.1 ⟨Nat.le_of_ble_eq_true rfl, Nat.le_of_ble_eq_true rfl⟩ ⟨Nat.le_of_ble_eq_true rfl, Nat.le_of_ble_eq_true rfl⟩ dX2_wordContext_47) rfl rfl (fun _ => rfl) (fun u H locs hT => ?_)
              have hT : Wd g A s [(a0, .inr (2, [.ref ab, .int (nI n), .int (nI nd), .int (nI bg)])), (ab, .inl (g.2.1 0, 2000, .inl f))] H locs := hT
              refine W.eq (g2 := F0 m 50 ls [.int (hashI vx2 (backN f n j))]) rfl ?_
              refine lv_istore_n (lv' := [(2, .int (hashI vx2 (backN f n j))), (0, .ref a0), (1, .int vx1), (3, .int vx3)]) hx hb dX2_wordContext_50 rfl hl (by decide) rfl (fun ls hl => ?_)
              obtain ⟨x_3, ex_3⟩ : ∃ y : Int32, y = vx3 + (-1) := ⟨_, rfl⟩
              refine lv_iinc (v := x_3) (lv' := [(3, .int x_3), (2, .int (hashI vx2 (backN f n j))), (0, .ref a0), (1, .int vx1)]) hx hb dX2_wordContext_51 hl (k := 3) rfl (by rw [ex_3]; rfl) (by decide) rfl (fun ls hl => ?_)
              refine lv_goto (tgt := 36) hx hb dX2_wordContext_54 (by decide) ?_
              exact ih (j - 1) x_3 (hashI vx2 (backN f n j)) H locs ls (by first | assumption | omega | rfl) (by rw [ex_3, vex3]; exact sb_m1 hjp) (by rw [← hh]; exact whash_s hjp) (by omega) hT (lv_sub hl [2, 3, 1, 0] rfl)
        exact loop_36 (i + 1) i vx1 (hashI 32 0) H locs ls hi vex1 (by unfold wordH; rw [hwi]) (Nat.lt_succ_self _) hT (lv_sub hl [2, 3, 1, 0] rfl)
      · skip
        have hin := lp_go (n := 16) vex1 (by decide) hi h_1
        refine lv_aload_n hx hb dX2_wordContext_8 rfl (lv_at hl 0 rfl) ?_
        refine lv_iload_n hx hb dX2_wordContext_9 rfl (lv_at hl 1 rfl) ?_
        refine W.eq (g2 := F0 m 10 ls [.int (nI i), .ref a0]) (congrArg (fun z => F0 m 10 ls (.int z :: [.ref a0])) (vex1)) ?_
        refine lv_iconst (v := 1) hx hb dX2_wordContext_10 (by decide) ?_
        refine lv_iadd hx hb dX2_wordContext_11 ?_
        refine W.eq (g2 := F0 m 12 ls [.int (nI (i + 1)), .ref a0]) (congrArg (fun z => F0 m 12 ls (.int z :: [.ref a0])) (nI_1 i)) ?_
        have hM := c_X2_back l g a0 ab n nd bg f (i + 1) (by first | assumption | omega) (by omega)
        refine r_call0 (js := [0, 1]) C hT (runV (js := [0, 1]) (rm := ({ frames := 0, cells := 0, slots := 0, locals := 0 } : Room)) (As := [.int (nI (i + 1))]) (n := 1) (q1 := 0) (rest := []) C hT hM rfl rfl k326 k312 k313 k6 k314 (by decide +kernel) rfl rfl rfl rfl (Nat.le_of_ble_eq_true rfl) hl.1 ⟨Nat.le_of_ble_eq_true rfl, Nat.le_of_ble_eq_true rfl⟩ ⟨Nat.le_of_ble_eq_true rfl, Nat.le_of_ble_eq_true rfl⟩ dX2_wordContext_12) rfl rfl (fun _ => rfl) (fun u H locs hT => ?_)
        have hT : Wd g A s [(a0, .inr (2, [.ref ab, .int (nI n), .int (nI nd), .int (nI bg)])), (ab, .inl (g.2.1 0, 2000, .inl f))] H locs := hT
        refine W.eq (g2 := F0 m 15 ls [.int (backN f n (i + 1))]) rfl ?_
        have hM := c_X2_isLetter l g (backN f n (i + 1))
        refine r_call0 (js := []) C hT (runS (js := []) (rm := ({ frames := 0, cells := 0, slots := 0, locals := 0 } : Room)) (As := [.int (backN f n (i + 1))]) (n := 1) (rest := []) C hT hM rfl rfl k345 k346 k6 k347 (by decide +kernel) rfl rfl (Nat.le_of_ble_eq_true rfl) hl.1 ⟨Nat.le_of_ble_eq_true rfl, Nat.le_of_ble_eq_true rfl⟩ ⟨Nat.le_of_ble_eq_true rfl, Nat.le_of_ble_eq_true rfl⟩ dX2_wordContext_15) rfl rfl (fun _ => rfl) (fun u H locs hT => ?_)
        have hT : Wd g A s [(a0, .inr (2, [.ref ab, .int (nI n), .int (nI nd), .int (nI bg)])), (ab, .inl (g.2.1 0, 2000, .inl f))] H locs := hT
        refine W.eq (g2 := F0 m 18 ls [.int (b01 (letB (backN f n (i + 1))))]) rfl ?_
        refine lv_if_eq (tgt := 27) hx hb dX2_wordContext_18 (by decide) (fun h_4 => ?_) (fun h_4 => ?_)
        · skip
          have hlet := b01_f h_4
          have hwi : i = wlen f n := by rw [← hw]; exact (wl_e hin hlet).symm
          refine lv_bipush (v := 32) hx hb dX2_wordContext_27 (by decide) ?_
          refine lv_iconst (v := 0) hx hb dX2_wordContext_29 (by decide) ?_
          have hM := c_X5_hash l g 32 0
          refine r_call0 (js := []) C hT (runS (js := []) (rm := ({ frames := 0, cells := 0, slots := 0, locals := 0 } : Room)) (As := [.int 32, .int 0]) (n := 2) (rest := []) C hT hM rfl rfl k335 k336 k2 k337 (by decide +kernel) rfl rfl (Nat.le_of_ble_eq_true rfl) hl.1 ⟨Nat.le_of_ble_eq_true rfl, Nat.le_of_ble_eq_true rfl⟩ ⟨Nat.le_of_ble_eq_true rfl, Nat.le_of_ble_eq_true rfl⟩ dX2_wordContext_30) rfl rfl (fun _ => rfl) (fun u H locs hT => ?_)
          have hT : Wd g A s [(a0, .inr (2, [.ref ab, .int (nI n), .int (nI nd), .int (nI bg)])), (ab, .inl (g.2.1 0, 2000, .inl f))] H locs := hT
          refine W.eq (g2 := F0 m 33 ls [.int (hashI 32 0)]) rfl ?_
          refine lv_istore_n (lv' := [(2, .int (hashI 32 0)), (0, .ref a0), (1, .int vx1)]) hx hb dX2_wordContext_33 rfl hl (by decide) rfl (fun ls hl => ?_)
          refine lv_iload_n hx hb dX2_wordContext_34 rfl (lv_at hl 2 rfl) ?_
          refine lv_istore_n (lv' := [(3, .int vx1), (2, .int (hashI 32 0)), (0, .ref a0), (1, .int vx1)]) hx hb dX2_wordContext_35 rfl hl (by decide) rfl (fun ls hl => ?_)
          have loop_36 : ∀ (fu : Nat) (j : Nat) (vx3 : Int32) (vx2 : Int32) (H : Heap) (locs : List Loc) (ls : Array Slot) (hj : j ≤ 16) (vex3 : vx3 = nI j) (hh : whash f n j vx2 = wordH f n), j < fu → Wd g A s [(a0, .inr (2, [.ref ab, .int (nI n), .int (nI nd), .int (nI bg)])), (ab, .inl (g.2.1 0, 2000, .inl f))] H locs → lv_has ls 4 [(0, .ref a0), (1, .int vx1), (2, .int vx2), (3, .int vx3)] → W p l e ({ frames := 1, cells := 0, slots := 0, locals := 22 } : Room) s m ([.ref a0] : List Value).toArray below meth c H locs 0 0 Q (F0 m 36 ls []) := by
            intro fu
            induction fu with
            | zero => intro j vx3 vx2 H locs ls hj vex3 hh hm; exact absurd hm (Nat.not_lt_zero _)
            | succ fu ih =>
              intro j vx3 vx2 H locs ls hj vex3 hh hm hT hl
              refine lv_iload_n hx hb dX2_wordContext_36 rfl (lv_at hl 3 rfl) ?_
              refine lv_iconst (v := 1) hx hb dX2_wordContext_37 (by decide) ?_
              refine lv_icmp_lt (tgt := 57) hx hb dX2_wordContext_38 (by decide) (fun h_5 => ?_) (fun h_5 => ?_)
              · skip
                have hj0 : j = 0 := by rw [vex3] at h_5; have := (nI_ltI (b := 1) (by omega) (by decide)).mp h_5; omega
                refine lv_iload_n hx hb dX2_wordContext_57 rfl (lv_at hl 2 rfl) ?_
                exact e_iret C hQ () hT (by rw [← hh, hj0, whash_0]) dX2_wordContext_58
              · skip
                have hjp : 0 < j := by rcases Nat.eq_zero_or_pos j with q | q; exact absurd (by rw [vex3, q]; decide) h_5; exact q
                refine lv_iload_n hx hb dX2_wordContext_41 rfl (lv_at hl 2 rfl) ?_
                refine lv_aload_n hx hb dX2_wordContext_42 rfl (lv_at hl 0 rfl) ?_
                refine lv_iload_n hx hb dX2_wordContext_43 rfl (lv_at hl 3 rfl) ?_
                refine W.eq (g2 := F0 m 44 ls [.int (nI j), .ref a0, .int vx2]) (congrArg (fun z => F0 m 44 ls (.int z :: [.ref a0, .int vx2])) (vex3)) ?_
                have hM := c_X2_back l g a0 ab n nd bg f j (by first | assumption | omega) (by omega)
                refine r_call0 (js := [0, 1]) C hT (runV (js := [0, 1]) (rm := ({ frames := 0, cells := 0, slots := 0, locals := 0 } : Room)) (As := [.int (nI j)]) (n := 1) (q1 := 0) (rest := [.int vx2]) C hT hM rfl rfl k326 k312 k313 k6 k314 (by decide +kernel) rfl rfl rfl rfl (Nat.le_of_ble_eq_true rfl) hl.1 ⟨Nat.le_of_ble_eq_true rfl, Nat.le_of_ble_eq_true rfl⟩ ⟨Nat.le_of_ble_eq_true rfl, Nat.le_of_ble_eq_true rfl⟩ dX2_wordContext_44) rfl rfl (fun _ => rfl) (fun u H locs hT => ?_)
                have hT : Wd g A s [(a0, .inr (2, [.ref ab, .int (nI n), .int (nI nd), .int (nI bg)])), (ab, .inl (g.2.1 0, 2000, .inl f))] H locs := hT
                refine W.eq (g2 := F0 m 47 ls [.int (backN f n j), .int vx2]) rfl ?_
                have hM := c_X5_hash l g vx2 (backN f n j)
                refine r_call0 (js := []) C hT (runS (js := []) (rm := ({ frames := 0, cells := 0, slots := 0, locals := 0 } : Room)) (As := [.int vx2, .int (backN f n j)]) (n := 2) (rest := []) C hT hM rfl rfl k335 k336 k2 k337 (by decide +kernel) rfl rfl (Nat.le_of_ble_eq_true rfl) hl.1 ⟨Nat.le_of_ble_eq_true rfl, Nat.le_of_ble_eq_true rfl⟩ ⟨Nat.le_of_ble_eq_true rfl, Nat.le_of_ble_eq_true rfl⟩ dX2_wordContext_47) rfl rfl (fun _ => rfl) (fun u H locs hT => ?_)
                have hT : Wd g A s [(a0, .inr (2, [.ref ab, .int (nI n), .int (nI nd), .int (nI bg)])), (ab, .inl (g.2.1 0, 2000, .inl f))] H locs := hT
                refine W.eq (g2 := F0 m 50 ls [.int (hashI vx2 (backN f n j))]) rfl ?_
                refine lv_istore_n (lv' := [(2, .int (hashI vx2 (backN f n j))), (0, .ref a0), (1, .int vx1), (3, .int vx3)]) hx hb dX2_wordContext_50 rfl hl (by decide) rfl (fun ls hl => ?_)
                obtain ⟨x_6, ex_6⟩ : ∃ y : Int32, y = vx3 + (-1) := ⟨_, rfl⟩
                refine lv_iinc (v := x_6) (lv' := [(3, .int x_6), (2, .int (hashI vx2 (backN f n j))), (0, .ref a0), (1, .int vx1)]) hx hb dX2_wordContext_51 hl (k := 3) rfl (by rw [ex_6]; rfl) (by decide) rfl (fun ls hl => ?_)
                refine lv_goto (tgt := 36) hx hb dX2_wordContext_54 (by decide) ?_
                exact ih (j - 1) x_6 (hashI vx2 (backN f n j)) H locs ls (by first | assumption | omega | rfl) (by rw [ex_6, vex3]; exact sb_m1 hjp) (by rw [← hh]; exact whash_s hjp) (by omega) hT (lv_sub hl [2, 3, 1, 0] rfl)
          exact loop_36 (i + 1) i vx1 (hashI 32 0) H locs ls hi vex1 (by unfold wordH; rw [hwi]) (Nat.lt_succ_self _) hT (lv_sub hl [2, 3, 1, 0] rfl)
        · skip
          have hlet := b01_t h_4
          obtain ⟨x_7, ex_7⟩ : ∃ y : Int32, y = vx1 + 1 := ⟨_, rfl⟩
          refine lv_iinc (v := x_7) (lv' := [(1, .int x_7), (0, .ref a0)]) hx hb dX2_wordContext_21 hl (k := 1) rfl (by rw [ex_7]; rfl) (by decide) rfl (fun ls hl => ?_)
          refine lv_goto (tgt := 2) hx hb dX2_wordContext_24 (by decide) ?_
          exact ih (i + 1) x_7 H locs ls (by first | assumption | omega | rfl) (by rw [ex_7, vex1]; exact nI_1 i) (wl_s hin hlet hw) (by omega) hT (lv_sub hl [1, 0] rfl)
  exact loop_2 (16 - 0 + 1) 0 0 H locs ls (by first | assumption | omega | rfl) rfl rfl (Nat.lt_succ_self _) hT (lv_sub hl [1, 0] rfl)
end
