section
-- ===== PART A: goes FIRST, ahead of the names: the tables' words, and 'selects' of the private methods out of them =====
/-- a private method of a class that the tables say can be made, by its rows of tables_1 -/
def lw_okq (q : MethodName × Nat) : Prop := (q.1.cls ≠ "java/lang/invoke/MethodHandle" ∧ q.1.cls ≠ "java/lang/invoke/VarHandle") ∧ Cond.instantiable q.1.cls q.2 ∈ tables_1 ∧ Cond.privateMethod q.1 ∈ tables_1 ∧ Cond.instanceMethod q.1 ∈ tables_1
theorem lw_p0 : lw_okq (⟨"DeltaLadders", "found", "(I)I"⟩, 10) := ⟨⟨by decide +kernel, by decide +kernel⟩, List.mem_of_getElem? (i := 12) (by decide +kernel), List.mem_of_getElem? (i := 173) (by decide +kernel), List.mem_of_getElem? (i := 174) (by decide +kernel)⟩
theorem lw_p1 : lw_okq (⟨"DeltaLadders$Algebra", "exponential", "(ILDeltaLadders$Series;)V"⟩, 11) := ⟨⟨by decide +kernel, by decide +kernel⟩, List.mem_of_getElem? (i := 24) (by decide +kernel), List.mem_of_getElem? (i := 238) (by decide +kernel), List.mem_of_getElem? (i := 239) (by decide +kernel)⟩
theorem lw_p2 : lw_okq (⟨"DeltaLadders$Algebra", "geometric", "(ILDeltaLadders$Series;)V"⟩, 11) := ⟨⟨by decide +kernel, by decide +kernel⟩, List.mem_of_getElem? (i := 24) (by decide +kernel), List.mem_of_getElem? (i := 242) (by decide +kernel), List.mem_of_getElem? (i := 243) (by decide +kernel)⟩
theorem lw_p3 : lw_okq (⟨"DeltaLadders$Algebra", "logarithm", "(ILDeltaLadders$Series;)V"⟩, 11) := ⟨⟨by decide +kernel, by decide +kernel⟩, List.mem_of_getElem? (i := 24) (by decide +kernel), List.mem_of_getElem? (i := 251) (by decide +kernel), List.mem_of_getElem? (i := 252) (by decide +kernel)⟩
theorem lw_p4 : lw_okq (⟨"DeltaLadders", "becomes", "(ILDeltaLadders$Series;)I"⟩, 10) := ⟨⟨by decide +kernel, by decide +kernel⟩, List.mem_of_getElem? (i := 12) (by decide +kernel), List.mem_of_getElem? (i := 256) (by decide +kernel), List.mem_of_getElem? (i := 257) (by decide +kernel)⟩
theorem lw_p5 : lw_okq (⟨"DeltaLadders", "reads", "(ILDeltaLadders$Series;)Z"⟩, 10) := ⟨⟨by decide +kernel, by decide +kernel⟩, List.mem_of_getElem? (i := 12) (by decide +kernel), List.mem_of_getElem? (i := 264) (by decide +kernel), List.mem_of_getElem? (i := 265) (by decide +kernel)⟩
theorem lw_p6 : lw_okq (⟨"DeltaLadders$Algebra", "isBinomialAt", "(I)Z"⟩, 11) := ⟨⟨by decide +kernel, by decide +kernel⟩, List.mem_of_getElem? (i := 24) (by decide +kernel), List.mem_of_getElem? (i := 416) (by decide +kernel), List.mem_of_getElem? (i := 417) (by decide +kernel)⟩
theorem lw_p7 : lw_okq (⟨"DeltaLadders$Algebra", "fillDifferencesAt", "(LDeltaLadders$Series;I)V"⟩, 11) := ⟨⟨by decide +kernel, by decide +kernel⟩, List.mem_of_getElem? (i := 24) (by decide +kernel), List.mem_of_getElem? (i := 429) (by decide +kernel), List.mem_of_getElem? (i := 430) (by decide +kernel)⟩
theorem lw_p8 : lw_okq (⟨"DeltaLadders$Algebra", "valuesToDifferences", "()V"⟩, 11) := ⟨⟨by decide +kernel, by decide +kernel⟩, List.mem_of_getElem? (i := 24) (by decide +kernel), List.mem_of_getElem? (i := 433) (by decide +kernel), List.mem_of_getElem? (i := 434) (by decide +kernel)⟩
theorem lw_p9 : lw_okq (⟨"DeltaLadders", "sheetsKept", "()I"⟩, 10) := ⟨⟨by decide +kernel, by decide +kernel⟩, List.mem_of_getElem? (i := 12) (by decide +kernel), List.mem_of_getElem? (i := 484) (by decide +kernel), List.mem_of_getElem? (i := 485) (by decide +kernel)⟩
theorem lw_p10 : lw_okq (⟨"DeltaLadders", "laddersStanding", "()I"⟩, 10) := ⟨⟨by decide +kernel, by decide +kernel⟩, List.mem_of_getElem? (i := 12) (by decide +kernel), List.mem_of_getElem? (i := 488) (by decide +kernel), List.mem_of_getElem? (i := 489) (by decide +kernel)⟩
theorem lw_p11 : lw_okq (⟨"DeltaLaddersModel", "meets", "(I)I"⟩, 16) := ⟨⟨by decide +kernel, by decide +kernel⟩, List.mem_of_getElem? (i := 503) (by decide +kernel), List.mem_of_getElem? (i := 569) (by decide +kernel), List.mem_of_getElem? (i := 570) (by decide +kernel)⟩
theorem lw_p12 : lw_okq (⟨"DeltaLaddersModel", "lacks", "(III)I"⟩, 16) := ⟨⟨by decide +kernel, by decide +kernel⟩, List.mem_of_getElem? (i := 503) (by decide +kernel), List.mem_of_getElem? (i := 581) (by decide +kernel), List.mem_of_getElem? (i := 582) (by decide +kernel)⟩
theorem lw_p13 : lw_okq (⟨"DeltaLaddersModel", "read", "(I[I)V"⟩, 16) := ⟨⟨by decide +kernel, by decide +kernel⟩, List.mem_of_getElem? (i := 503) (by decide +kernel), List.mem_of_getElem? (i := 598) (by decide +kernel), List.mem_of_getElem? (i := 599) (by decide +kernel)⟩
theorem lw_p14 : lw_okq (⟨"DeltaLaddersModel", "tells", "([II)I"⟩, 16) := ⟨⟨by decide +kernel, by decide +kernel⟩, List.mem_of_getElem? (i := 503) (by decide +kernel), List.mem_of_getElem? (i := 620) (by decide +kernel), List.mem_of_getElem? (i := 621) (by decide +kernel)⟩
theorem lw_p15 : lw_okq (⟨"DeltaLaddersModel", "isLost", "(I)Z"⟩, 16) := ⟨⟨by decide +kernel, by decide +kernel⟩, List.mem_of_getElem? (i := 503) (by decide +kernel), List.mem_of_getElem? (i := 628) (by decide +kernel), List.mem_of_getElem? (i := 629) (by decide +kernel)⟩
def lw_privs_1 : List (MethodName × Nat) := [(⟨"DeltaLadders", "found", "(I)I"⟩, 10), (⟨"DeltaLadders$Algebra", "exponential", "(ILDeltaLadders$Series;)V"⟩, 11), (⟨"DeltaLadders$Algebra", "geometric", "(ILDeltaLadders$Series;)V"⟩, 11), (⟨"DeltaLadders$Algebra", "logarithm", "(ILDeltaLadders$Series;)V"⟩, 11), (⟨"DeltaLadders", "becomes", "(ILDeltaLadders$Series;)I"⟩, 10), (⟨"DeltaLadders", "reads", "(ILDeltaLadders$Series;)Z"⟩, 10), (⟨"DeltaLadders$Algebra", "isBinomialAt", "(I)Z"⟩, 11), (⟨"DeltaLadders$Algebra", "fillDifferencesAt", "(LDeltaLadders$Series;I)V"⟩, 11), (⟨"DeltaLadders$Algebra", "valuesToDifferences", "()V"⟩, 11), (⟨"DeltaLadders", "sheetsKept", "()I"⟩, 10), (⟨"DeltaLadders", "laddersStanding", "()I"⟩, 10), (⟨"DeltaLaddersModel", "meets", "(I)I"⟩, 16), (⟨"DeltaLaddersModel", "lacks", "(III)I"⟩, 16), (⟨"DeltaLaddersModel", "read", "(I[I)V"⟩, 16), (⟨"DeltaLaddersModel", "tells", "([II)I"⟩, 16), (⟨"DeltaLaddersModel", "isLost", "(I)Z"⟩, 16)]
theorem lw_r1 : ∀ q ∈ lw_privs_1, lw_okq q := List.forall_mem_cons.mpr ⟨lw_p0, List.forall_mem_cons.mpr ⟨lw_p1, List.forall_mem_cons.mpr ⟨lw_p2, List.forall_mem_cons.mpr ⟨lw_p3, List.forall_mem_cons.mpr ⟨lw_p4, List.forall_mem_cons.mpr ⟨lw_p5, List.forall_mem_cons.mpr ⟨lw_p6, List.forall_mem_cons.mpr ⟨lw_p7, List.forall_mem_cons.mpr ⟨lw_p8, List.forall_mem_cons.mpr ⟨lw_p9, List.forall_mem_cons.mpr ⟨lw_p10, List.forall_mem_cons.mpr ⟨lw_p11, List.forall_mem_cons.mpr ⟨lw_p12, List.forall_mem_cons.mpr ⟨lw_p13, List.forall_mem_cons.mpr ⟨lw_p14, List.forall_mem_cons.mpr ⟨lw_p15, fun _ h => absurd h List.not_mem_nil⟩⟩⟩⟩⟩⟩⟩⟩⟩⟩⟩⟩⟩⟩⟩⟩
theorem lw_p16 : lw_okq (⟨"DeltaLaddersModel", "puts", "([I[I[I)V"⟩, 16) := ⟨⟨by decide +kernel, by decide +kernel⟩, List.mem_of_getElem? (i := 503) (by decide +kernel), List.mem_of_getElem? (i := 646) (by decide +kernel), List.mem_of_getElem? (i := 647) (by decide +kernel)⟩
theorem lw_p17 : lw_okq (⟨"DeltaLaddersModel", "turns", "([I[I)V"⟩, 16) := ⟨⟨by decide +kernel, by decide +kernel⟩, List.mem_of_getElem? (i := 503) (by decide +kernel), List.mem_of_getElem? (i := 663) (by decide +kernel), List.mem_of_getElem? (i := 664) (by decide +kernel)⟩
theorem lw_p18 : lw_okq (⟨"DeltaLaddersModel", "canLadder", "()Z"⟩, 16) := ⟨⟨by decide +kernel, by decide +kernel⟩, List.mem_of_getElem? (i := 503) (by decide +kernel), List.mem_of_getElem? (i := 689) (by decide +kernel), List.mem_of_getElem? (i := 690) (by decide +kernel)⟩
theorem lw_p19 : lw_okq (⟨"DeltaLaddersModel", "rung", "(II[I)V"⟩, 16) := ⟨⟨by decide +kernel, by decide +kernel⟩, List.mem_of_getElem? (i := 503) (by decide +kernel), List.mem_of_getElem? (i := 704) (by decide +kernel), List.mem_of_getElem? (i := 705) (by decide +kernel)⟩
theorem lw_p20 : lw_okq (⟨"DeltaLaddersModel", "isBinomial", "(II)Z"⟩, 16) := ⟨⟨by decide +kernel, by decide +kernel⟩, List.mem_of_getElem? (i := 503) (by decide +kernel), List.mem_of_getElem? (i := 724) (by decide +kernel), List.mem_of_getElem? (i := 725) (by decide +kernel)⟩
theorem lw_p21 : lw_okq (⟨"DeltaLaddersModel", "stepAt", "(III)I"⟩, 16) := ⟨⟨by decide +kernel, by decide +kernel⟩, List.mem_of_getElem? (i := 503) (by decide +kernel), List.mem_of_getElem? (i := 731) (by decide +kernel), List.mem_of_getElem? (i := 732) (by decide +kernel)⟩
theorem lw_p22 : lw_okq (⟨"DeltaLaddersModel", "differs", "(II)I"⟩, 16) := ⟨⟨by decide +kernel, by decide +kernel⟩, List.mem_of_getElem? (i := 503) (by decide +kernel), List.mem_of_getElem? (i := 740) (by decide +kernel), List.mem_of_getElem? (i := 741) (by decide +kernel)⟩
def lw_privs_2 : List (MethodName × Nat) := [(⟨"DeltaLaddersModel", "puts", "([I[I[I)V"⟩, 16), (⟨"DeltaLaddersModel", "turns", "([I[I)V"⟩, 16), (⟨"DeltaLaddersModel", "canLadder", "()Z"⟩, 16), (⟨"DeltaLaddersModel", "rung", "(II[I)V"⟩, 16), (⟨"DeltaLaddersModel", "isBinomial", "(II)Z"⟩, 16), (⟨"DeltaLaddersModel", "stepAt", "(III)I"⟩, 16), (⟨"DeltaLaddersModel", "differs", "(II)I"⟩, 16)]
theorem lw_r2 : ∀ q ∈ lw_privs_2, lw_okq q := List.forall_mem_cons.mpr ⟨lw_p16, List.forall_mem_cons.mpr ⟨lw_p17, List.forall_mem_cons.mpr ⟨lw_p18, List.forall_mem_cons.mpr ⟨lw_p19, List.forall_mem_cons.mpr ⟨lw_p20, List.forall_mem_cons.mpr ⟨lw_p21, List.forall_mem_cons.mpr ⟨lw_p22, fun _ h => absurd h List.not_mem_nil⟩⟩⟩⟩⟩⟩⟩
def lw_privs : List (MethodName × Nat) := lw_privs_1 ++ (lw_privs_2)
def lw_tbl : List Cond := k2_sels lw_privs ++ tables_1
theorem lw_privs_ok : ∀ q ∈ lw_privs, lw_okq q := by
  show ∀ q ∈ lw_privs_1 ++ (lw_privs_2), lw_okq q
  exact List.forall_mem_append.mpr ⟨lw_r1, lw_r2⟩
end
section
def RX0 : String := "DeltaLadders$Algebra"
def TX0 : u_T := fun k => match k with
  | 0 => ("DeltaLadders$Algebra", "inverses", "[I", true)
  | 1 => ("DeltaLadders$Algebra", "factorials", "[I", true)
  | 2 => ("DeltaLadders$Algebra", "inverseFactorials", "[I", true)
  | 3 => ("DeltaLadders$Algebra", "choices", "[[I", true)
  | 4 => ("DeltaLadders$Algebra", "values", "[[I", true)
  | 5 => ("DeltaLadders$Algebra", "differences", "[I", true)
  | 6 => ("DeltaLadders$Algebra", "one", "LDeltaLadders$Series;", true)
  | 7 => ("DeltaLadders$Algebra", "shifted", "LDeltaLadders$Series;", true)
  | 8 => ("DeltaLadders$Algebra", "base", "LDeltaLadders$Series;", true)
  | 9 => ("DeltaLadders$Algebra", "running", "LDeltaLadders$Series;", true)
  | _ => ("DeltaLadders$Algebra", "turnedOne", "LDeltaLadders$Series;", true)
def tyX0 : Nat → FieldType := fun k => match k with
  | 0 => .array .int
  | 1 => .array .int
  | 2 => .array .int
  | 3 => .array (.array .int)
  | 4 => .array (.array .int)
  | 5 => .array .int
  | 6 => .object "DeltaLadders$Series"
  | 7 => .object "DeltaLadders$Series"
  | 8 => .object "DeltaLadders$Series"
  | 9 => .object "DeltaLadders$Series"
  | _ => .object "DeltaLadders$Series"
abbrev wsX00 : List Cond := u_ws RX0 TX0 11
theorem nmX0 : ∀ a, a < 11 → ∀ b, b < 11 → a ≠ b → (TX0 a).2.1 ≠ (TX0 b).2.1 := by decide +kernel
theorem tyX0_ok : ∀ k, k < 11 → parseFieldDescriptor (TX0 k).2.2.1 = some (tyX0 k) := by decide +kernel
abbrev cX0_init : ByteArray := prog_2_method_1_code
def yX0_init : MethodName := ⟨RX0, "<init>", "()V"⟩
abbrev cX0_ofKind : ByteArray := prog_2_method_2_code
def yX0_ofKind : MethodName := ⟨RX0, "ofKind", "(IILDeltaLadders$Series;)V"⟩
abbrev cX0_geometric : ByteArray := prog_2_method_3_code
def yX0_geometric : MethodName := ⟨RX0, "geometric", "(ILDeltaLadders$Series;)V"⟩
abbrev cX0_exponential : ByteArray := prog_2_method_4_code
def yX0_exponential : MethodName := ⟨RX0, "exponential", "(ILDeltaLadders$Series;)V"⟩
abbrev cX0_logarithm : ByteArray := prog_2_method_5_code
def yX0_logarithm : MethodName := ⟨RX0, "logarithm", "(ILDeltaLadders$Series;)V"⟩
abbrev cX0_turned : ByteArray := prog_2_method_6_code
def yX0_turned : MethodName := ⟨RX0, "turned", "(LDeltaLadders$Series;LDeltaLadders$Series;)V"⟩
abbrev cX0_tBy : ByteArray := prog_2_method_7_code
def yX0_tBy : MethodName := ⟨RX0, "tBy", "(LDeltaLadders$Series;LDeltaLadders$Series;)V"⟩
abbrev cX0_oneByInto : ByteArray := prog_2_method_8_code
def yX0_oneByInto : MethodName := ⟨RX0, "oneByInto", "(LDeltaLadders$Series;LDeltaLadders$Series;LDeltaLadders$Series;)V"⟩
abbrev cX0_operated : ByteArray := prog_2_method_9_code
def yX0_operated : MethodName := ⟨RX0, "operated", "(LDeltaLadders$Series;LDeltaLadders$Series;LDeltaLadders$Series;)V"⟩
abbrev cX0_build : ByteArray := prog_2_method_10_code
def yX0_build : MethodName := ⟨RX0, "build", "(LDeltaLadders$Ladder;LDeltaLadders$Series;LDeltaLadders$Series;)V"⟩
abbrev cX0_firstNotLowered : ByteArray := prog_2_method_11_code
def yX0_firstNotLowered : MethodName := ⟨RX0, "firstNotLowered", "(LDeltaLadders$Ladder;LDeltaLadders$Series;)I"⟩
abbrev cX0_isTimes : ByteArray := prog_2_method_12_code
def yX0_isTimes : MethodName := ⟨RX0, "isTimes", "(LDeltaLadders$Series;ILDeltaLadders$Series;)Z"⟩
abbrev cX0_toldIn : ByteArray := prog_2_method_13_code
def yX0_toldIn : MethodName := ⟨RX0, "toldIn", "(LDeltaLadders$Series;LDeltaLadders$Ladder;I)I"⟩
abbrev cX0_binomialUpTo : ByteArray := prog_2_method_14_code
def yX0_binomialUpTo : MethodName := ⟨RX0, "binomialUpTo", "(LDeltaLadders$Ladder;)I"⟩
abbrev cX0_isBinomialAt : ByteArray := prog_2_method_15_code
def yX0_isBinomialAt : MethodName := ⟨RX0, "isBinomialAt", "(I)Z"⟩
abbrev cX0_summed : ByteArray := prog_2_method_16_code
def yX0_summed : MethodName := ⟨RX0, "summed", "(LDeltaLadders$Series;II)I"⟩
abbrev cX0_differenceAt : ByteArray := prog_2_method_17_code
def yX0_differenceAt : MethodName := ⟨RX0, "differenceAt", "(LDeltaLadders$Series;II)I"⟩
abbrev cX0_fillDifferencesAt : ByteArray := prog_2_method_18_code
def yX0_fillDifferencesAt : MethodName := ⟨RX0, "fillDifferencesAt", "(LDeltaLadders$Series;I)V"⟩
abbrev cX0_valuesToDifferences : ByteArray := prog_2_method_19_code
def yX0_valuesToDifferences : MethodName := ⟨RX0, "valuesToDifferences", "()V"⟩
abbrev cX0_throughValues : ByteArray := prog_2_method_20_code
def yX0_throughValues : MethodName := ⟨RX0, "throughValues", "(LDeltaLadders$Series;ILDeltaLadders$Series;)V"⟩
def RX1 : String := "DeltaLadders$Ladder"
def TX1 : u_T := fun k => match k with
  | 0 => ("DeltaLadders$Ladder", "steps", "[LDeltaLadders$Series;", true)
  | _ => ("DeltaLadders$Ladder", "stands", "Z", false)
def tyX1 : Nat → FieldType := fun k => match k with
  | 0 => .array (.object "DeltaLadders$Series")
  | _ => .boolean
abbrev wsX10 : List Cond := u_ws RX1 TX1 2
theorem nmX1 : ∀ a, a < 2 → ∀ b, b < 2 → a ≠ b → (TX1 a).2.1 ≠ (TX1 b).2.1 := by decide +kernel
theorem tyX1_ok : ∀ k, k < 2 → parseFieldDescriptor (TX1 k).2.2.1 = some (tyX1 k) := by decide +kernel
abbrev cX1_init : ByteArray := prog_3_method_1_code
def yX1_init : MethodName := ⟨RX1, "<init>", "()V"⟩
def RX2 : String := "DeltaLadders$Numbers"
def TX2 : u_T := fun k => match k with
  | _ => ("", "", "", false)
def tyX2 : Nat → FieldType := fun k => match k with
  | _ => .int
abbrev wsX20 : List Cond := u_ws RX2 TX2 0
theorem nmX2 : ∀ a, a < 0 → ∀ b, b < 0 → a ≠ b → (TX2 a).2.1 ≠ (TX2 b).2.1 := by decide +kernel
theorem tyX2_ok : ∀ k, k < 0 → parseFieldDescriptor (TX2 k).2.2.1 = some (tyX2 k) := by decide +kernel
abbrev cX2_of : ByteArray := prog_4_method_2_code
def yX2_of : MethodName := ⟨RX2, "of", "(I)I"⟩
abbrev cX2_inverse : ByteArray := prog_4_method_3_code
def yX2_inverse : MethodName := ⟨RX2, "inverse", "(I)I"⟩
def RX3 : String := "DeltaLadders$Series"
def TX3 : u_T := fun k => match k with
  | _ => ("DeltaLadders$Series", "c", "[I", true)
def tyX3 : Nat → FieldType := fun k => match k with
  | _ => .array .int
abbrev wsX30 : List Cond := u_ws RX3 TX3 1
theorem nmX3 : ∀ a, a < 1 → ∀ b, b < 1 → a ≠ b → (TX3 a).2.1 ≠ (TX3 b).2.1 := by decide +kernel
theorem tyX3_ok : ∀ k, k < 1 → parseFieldDescriptor (TX3 k).2.2.1 = some (tyX3 k) := by decide +kernel
abbrev cX3_init : ByteArray := prog_5_method_1_code
def yX3_init : MethodName := ⟨RX3, "<init>", "()V"⟩
abbrev cX3_canDivide : ByteArray := prog_5_method_2_code
def yX3_canDivide : MethodName := ⟨RX3, "canDivide", "()Z"⟩
abbrev cX3_canBePutIn : ByteArray := prog_5_method_3_code
def yX3_canBePutIn : MethodName := ⟨RX3, "canBePutIn", "()Z"⟩
abbrev cX3_canTurn : ByteArray := prog_5_method_4_code
def yX3_canTurn : MethodName := ⟨RX3, "canTurn", "()Z"⟩
abbrev cX3_becomeConstant : ByteArray := prog_5_method_5_code
def yX3_becomeConstant : MethodName := ⟨RX3, "becomeConstant", "(I)V"⟩
abbrev cX3_becomeCopyOf : ByteArray := prog_5_method_6_code
def yX3_becomeCopyOf : MethodName := ⟨RX3, "becomeCopyOf", "(LDeltaLadders$Series;)V"⟩
abbrev cX3_becomeTotal : ByteArray := prog_5_method_7_code
def yX3_becomeTotal : MethodName := ⟨RX3, "becomeTotal", "(LDeltaLadders$Series;LDeltaLadders$Series;)V"⟩
abbrev cX3_becomeRest : ByteArray := prog_5_method_8_code
def yX3_becomeRest : MethodName := ⟨RX3, "becomeRest", "(LDeltaLadders$Series;LDeltaLadders$Series;)V"⟩
abbrev cX3_becomeTimes : ByteArray := prog_5_method_9_code
def yX3_becomeTimes : MethodName := ⟨RX3, "becomeTimes", "(LDeltaLadders$Series;LDeltaLadders$Series;)V"⟩
abbrev cX3_becomeQuotient : ByteArray := prog_5_method_10_code
def yX3_becomeQuotient : MethodName := ⟨RX3, "becomeQuotient", "(LDeltaLadders$Series;LDeltaLadders$Series;)V"⟩
abbrev cX3_becomeInto : ByteArray := prog_5_method_11_code
def yX3_becomeInto : MethodName := ⟨RX3, "becomeInto", "(LDeltaLadders$Series;LDeltaLadders$Series;)V"⟩
abbrev cX3_becomeRaised : ByteArray := prog_5_method_12_code
def yX3_becomeRaised : MethodName := ⟨RX3, "becomeRaised", "(LDeltaLadders$Series;I)V"⟩
abbrev cX3_becomeShiftedDown : ByteArray := prog_5_method_13_code
def yX3_becomeShiftedDown : MethodName := ⟨RX3, "becomeShiftedDown", "(LDeltaLadders$Series;)V"⟩
abbrev cX3_becomeShiftedUp : ByteArray := prog_5_method_14_code
def yX3_becomeShiftedUp : MethodName := ⟨RX3, "becomeShiftedUp", "(LDeltaLadders$Series;)V"⟩
abbrev cX3_becomeTimesFactor : ByteArray := prog_5_method_15_code
def yX3_becomeTimesFactor : MethodName := ⟨RX3, "becomeTimesFactor", "(I)V"⟩
abbrev cX3_valueAt : ByteArray := prog_5_method_16_code
def yX3_valueAt : MethodName := ⟨RX3, "valueAt", "(I)I"⟩
abbrev cX3_degree : ByteArray := prog_5_method_17_code
def yX3_degree : MethodName := ⟨RX3, "degree", "()I"⟩
abbrev cX3_mixedInto : ByteArray := prog_5_method_18_code
def yX3_mixedInto : MethodName := ⟨RX3, "mixedInto", "(J)J"⟩
def RX4 : String := "DeltaLadders$Sheet"
def TX4 : u_T := fun k => match k with
  | 0 => ("DeltaLadders$Sheet", "items", "[I", true)
  | 1 => ("DeltaLadders$Sheet", "lost", "Z", false)
  | 2 => ("DeltaLadders$Sheet", "form", "I", false)
  | _ => ("DeltaLadders$Sheet", "size", "I", false)
def tyX4 : Nat → FieldType := fun k => match k with
  | 0 => .array .int
  | 1 => .boolean
  | 2 => .int
  | _ => .int
abbrev wsX40 : List Cond := u_ws RX4 TX4 4
theorem nmX4 : ∀ a, a < 4 → ∀ b, b < 4 → a ≠ b → (TX4 a).2.1 ≠ (TX4 b).2.1 := by decide +kernel
theorem tyX4_ok : ∀ k, k < 4 → parseFieldDescriptor (TX4 k).2.2.1 = some (tyX4 k) := by decide +kernel
abbrev cX4_init : ByteArray := prog_6_method_1_code
def yX4_init : MethodName := ⟨RX4, "<init>", "()V"⟩
abbrev cX4_renew : ByteArray := prog_6_method_2_code
def yX4_renew : MethodName := ⟨RX4, "renew", "(II)V"⟩
abbrev cX4_findingAt : ByteArray := prog_6_method_3_code
def yX4_findingAt : MethodName := ⟨RX4, "findingAt", "(II)I"⟩
abbrev cX4_hasStretch : ByteArray := prog_6_method_4_code
def yX4_hasStretch : MethodName := ⟨RX4, "hasStretch", "(II)Z"⟩
abbrev cX4_number : ByteArray := prog_6_method_5_code
def yX4_number : MethodName := ⟨RX4, "number", "(I)I"⟩
def RX5 : String := "DeltaLadders"
def TX5 : u_T := fun k => match k with
  | 0 => ("DeltaLadders", "sheets", "[LDeltaLadders$Sheet;", true)
  | 1 => ("DeltaLadders", "ladders", "[LDeltaLadders$Ladder;", true)
  | 2 => ("DeltaLadders", "algebra", "LDeltaLadders$Algebra;", true)
  | 3 => ("DeltaLadders", "first", "LDeltaLadders$Series;", true)
  | 4 => ("DeltaLadders", "second", "LDeltaLadders$Series;", true)
  | 5 => ("DeltaLadders", "third", "LDeltaLadders$Series;", true)
  | 6 => ("DeltaLadders", "fourth", "LDeltaLadders$Series;", true)
  | 7 => ("DeltaLadders", "result", "LDeltaLadders$Series;", true)
  | 8 => ("DeltaLadders", "otherResult", "LDeltaLadders$Series;", true)
  | _ => ("DeltaLadders", "latestFinding", "I", false)
def tyX5 : Nat → FieldType := fun k => match k with
  | 0 => .array (.object "DeltaLadders$Sheet")
  | 1 => .array (.object "DeltaLadders$Ladder")
  | 2 => .object "DeltaLadders$Algebra"
  | 3 => .object "DeltaLadders$Series"
  | 4 => .object "DeltaLadders$Series"
  | 5 => .object "DeltaLadders$Series"
  | 6 => .object "DeltaLadders$Series"
  | 7 => .object "DeltaLadders$Series"
  | 8 => .object "DeltaLadders$Series"
  | _ => .int
abbrev wsX50 : List Cond := u_ws RX5 TX5 10
theorem nmX5 : ∀ a, a < 10 → ∀ b, b < 10 → a ≠ b → (TX5 a).2.1 ≠ (TX5 b).2.1 := by decide +kernel
theorem tyX5_ok : ∀ k, k < 10 → parseFieldDescriptor (TX5 k).2.2.1 = some (tyX5 k) := by decide +kernel
abbrev cX5_init : ByteArray := prog_1_method_1_code
def yX5_init : MethodName := ⟨RX5, "<init>", "()V"⟩
abbrev cX5_sheet : ByteArray := prog_1_method_2_code
def yX5_sheet : MethodName := ⟨RX5, "sheet", "(III)I"⟩
abbrev cX5_lose : ByteArray := prog_1_method_3_code
def yX5_lose : MethodName := ⟨RX5, "lose", "(I)I"⟩
abbrev cX5_put : ByteArray := prog_1_method_4_code
def yX5_put : MethodName := ⟨RX5, "put", "(IIII)I"⟩
abbrev cX5_get : ByteArray := prog_1_method_5_code
def yX5_get : MethodName := ⟨RX5, "get", "(III)I"⟩
abbrev cX5_copy : ByteArray := prog_1_method_6_code
def yX5_copy : MethodName := ⟨RX5, "copy", "(IIIII)I"⟩
abbrev cX5_term : ByteArray := prog_1_method_7_code
def yX5_term : MethodName := ⟨RX5, "term", "(II)I"⟩
abbrev cX5_kind : ByteArray := prog_1_method_8_code
def yX5_kind : MethodName := ⟨RX5, "kind", "(III)I"⟩
abbrev cX5_join : ByteArray := prog_1_method_9_code
def yX5_join : MethodName := ⟨RX5, "join", "(IIII)I"⟩
abbrev cX5_over : ByteArray := prog_1_method_10_code
def yX5_over : MethodName := ⟨RX5, "over", "(III)I"⟩
abbrev cX5_into : ByteArray := prog_1_method_11_code
def yX5_into : MethodName := ⟨RX5, "into", "(III)I"⟩
abbrev cX5_turn : ByteArray := prog_1_method_12_code
def yX5_turn : MethodName := ⟨RX5, "turn", "(II)I"⟩
abbrev cX5_power : ByteArray := prog_1_method_13_code
def yX5_power : MethodName := ⟨RX5, "power", "(III)I"⟩
abbrev cX5_value : ByteArray := prog_1_method_14_code
def yX5_value : MethodName := ⟨RX5, "value", "(II)I"⟩
abbrev cX5_apply : ByteArray := prog_1_method_15_code
def yX5_apply : MethodName := ⟨RX5, "apply", "(III)I"⟩
abbrev cX5_ladder : ByteArray := prog_1_method_16_code
def yX5_ladder : MethodName := ⟨RX5, "ladder", "(III)I"⟩
abbrev cX5_step : ByteArray := prog_1_method_17_code
def yX5_step : MethodName := ⟨RX5, "step", "(III)I"⟩
abbrev cX5_at : ByteArray := prog_1_method_18_code
def yX5_at : MethodName := ⟨RX5, "at", "(III)I"⟩
abbrev cX5_tell : ByteArray := prog_1_method_19_code
def yX5_tell : MethodName := ⟨RX5, "tell", "(III)I"⟩
abbrev cX5_lowers : ByteArray := prog_1_method_20_code
def yX5_lowers : MethodName := ⟨RX5, "lowers", "(II)I"⟩
abbrev cX5_bound : ByteArray := prog_1_method_21_code
def yX5_bound : MethodName := ⟨RX5, "bound", "(IIII)I"⟩
abbrev cX5_binomial : ByteArray := prog_1_method_22_code
def yX5_binomial : MethodName := ⟨RX5, "binomial", "(I)I"⟩
abbrev cX5_sum : ByteArray := prog_1_method_23_code
def yX5_sum : MethodName := ⟨RX5, "sum", "(III)I"⟩
abbrev cX5_through : ByteArray := prog_1_method_24_code
def yX5_through : MethodName := ⟨RX5, "through", "(III)I"⟩
abbrev cX5_difference : ByteArray := prog_1_method_25_code
def yX5_difference : MethodName := ⟨RX5, "difference", "(III)I"⟩
abbrev cX5_triangle : ByteArray := prog_1_method_26_code
def yX5_triangle : MethodName := ⟨RX5, "triangle", "(IIII)I"⟩
abbrev cX5_product : ByteArray := prog_1_method_27_code
def yX5_product : MethodName := ⟨RX5, "product", "(IIIIII)I"⟩
abbrev cX5_back : ByteArray := prog_1_method_28_code
def yX5_back : MethodName := ⟨RX5, "back", "(IIII)I"⟩
abbrev cX5_aRow : ByteArray := prog_1_method_29_code
def yX5_aRow : MethodName := ⟨RX5, "aRow", "(II)I"⟩
abbrev cX5_count : ByteArray := prog_1_method_30_code
def yX5_count : MethodName := ⟨RX5, "count", "(I)I"⟩
abbrev cX5_digest : ByteArray := prog_1_method_31_code
def yX5_digest : MethodName := ⟨RX5, "digest", "()J"⟩
abbrev cX5_isSheet : ByteArray := prog_1_method_32_code
def yX5_isSheet : MethodName := ⟨RX5, "isSheet", "(I)Z"⟩
abbrev cX5_isForm : ByteArray := prog_1_method_33_code
def yX5_isForm : MethodName := ⟨RX5, "isForm", "(I)Z"⟩
abbrev cX5_isLadder : ByteArray := prog_1_method_34_code
def yX5_isLadder : MethodName := ⟨RX5, "isLadder", "(I)Z"⟩
abbrev cX5_isPlace : ByteArray := prog_1_method_35_code
def yX5_isPlace : MethodName := ⟨RX5, "isPlace", "(I)Z"⟩
abbrev cX5_narrowed : ByteArray := prog_1_method_36_code
def yX5_narrowed : MethodName := ⟨RX5, "narrowed", "(II)I"⟩
abbrev cX5_found : ByteArray := prog_1_method_37_code
def yX5_found : MethodName := ⟨RX5, "found", "(I)I"⟩
abbrev cX5_reads : ByteArray := prog_1_method_38_code
def yX5_reads : MethodName := ⟨RX5, "reads", "(ILDeltaLadders$Series;)Z"⟩
abbrev cX5_becomes : ByteArray := prog_1_method_39_code
def yX5_becomes : MethodName := ⟨RX5, "becomes", "(ILDeltaLadders$Series;)I"⟩
abbrev cX5_sheetsKept : ByteArray := prog_1_method_40_code
def yX5_sheetsKept : MethodName := ⟨RX5, "sheetsKept", "()I"⟩
abbrev cX5_laddersStanding : ByteArray := prog_1_method_41_code
def yX5_laddersStanding : MethodName := ⟨RX5, "laddersStanding", "()I"⟩
def RX6 : String := "DeltaLaddersModel"
def TX6 : u_T := fun k => match k with
  | 0 => ("DeltaLaddersModel", "isThere", "[Z", true)
  | 1 => ("DeltaLaddersModel", "forms", "[I", true)
  | 2 => ("DeltaLaddersModel", "sizes", "[I", true)
  | 3 => ("DeltaLaddersModel", "items", "[I", true)
  | 4 => ("DeltaLaddersModel", "moved", "[I", true)
  | 5 => ("DeltaLaddersModel", "finding", "I", false)
  | 6 => ("DeltaLaddersModel", "a", "[I", true)
  | 7 => ("DeltaLaddersModel", "b", "[I", true)
  | 8 => ("DeltaLaddersModel", "c", "[I", true)
  | 9 => ("DeltaLaddersModel", "d", "[I", true)
  | 10 => ("DeltaLaddersModel", "made", "[I", true)
  | 11 => ("DeltaLaddersModel", "mixed", "[I", true)
  | 12 => ("DeltaLaddersModel", "powers", "[I", true)
  | 13 => ("DeltaLaddersModel", "sums", "[I", true)
  | 14 => ("DeltaLaddersModel", "isLadder", "[Z", true)
  | _ => ("DeltaLaddersModel", "steps", "[I", true)
def tyX6 : Nat → FieldType := fun k => match k with
  | 0 => .array .boolean
  | 1 => .array .int
  | 2 => .array .int
  | 3 => .array .int
  | 4 => .array .int
  | 5 => .int
  | 6 => .array .int
  | 7 => .array .int
  | 8 => .array .int
  | 9 => .array .int
  | 10 => .array .int
  | 11 => .array .int
  | 12 => .array .int
  | 13 => .array .int
  | 14 => .array .boolean
  | _ => .array .int
abbrev wsX60 : List Cond := u_ws RX6 TX6 16
theorem nmX6 : ∀ a, a < 16 → ∀ b, b < 16 → a ≠ b → (TX6 a).2.1 ≠ (TX6 b).2.1 := by decide +kernel
theorem tyX6_ok : ∀ k, k < 16 → parseFieldDescriptor (TX6 k).2.2.1 = some (tyX6 k) := by decide +kernel
abbrev cX6_init : ByteArray := prog_8_method_1_code
def yX6_init : MethodName := ⟨RX6, "<init>", "()V"⟩
abbrev cX6_in : ByteArray := prog_8_method_3_code
def yX6_in : MethodName := ⟨RX6, "in", "(III)Z"⟩
abbrev cX6_mod : ByteArray := prog_8_method_4_code
def yX6_mod : MethodName := ⟨RX6, "mod", "(J)I"⟩
abbrev cX6_toThe : ByteArray := prog_8_method_5_code
def yX6_toThe : MethodName := ⟨RX6, "toThe", "(II)I"⟩
abbrev cX6_turnedNumber : ByteArray := prog_8_method_6_code
def yX6_turnedNumber : MethodName := ⟨RX6, "turnedNumber", "(I)I"⟩
abbrev cX6_factorial : ByteArray := prog_8_method_7_code
def yX6_factorial : MethodName := ⟨RX6, "factorial", "(I)I"⟩
abbrev cX6_meets : ByteArray := prog_8_method_8_code
def yX6_meets : MethodName := ⟨RX6, "meets", "(I)I"⟩
abbrev cX6_isSheet : ByteArray := prog_8_method_9_code
def yX6_isSheet : MethodName := ⟨RX6, "isSheet", "(I)Z"⟩
abbrev cX6_sheet : ByteArray := prog_8_method_10_code
def yX6_sheet : MethodName := ⟨RX6, "sheet", "(III)I"⟩
abbrev cX6_lose : ByteArray := prog_8_method_11_code
def yX6_lose : MethodName := ⟨RX6, "lose", "(I)I"⟩
abbrev cX6_lacks : ByteArray := prog_8_method_12_code
def yX6_lacks : MethodName := ⟨RX6, "lacks", "(III)I"⟩
abbrev cX6_put : ByteArray := prog_8_method_13_code
def yX6_put : MethodName := ⟨RX6, "put", "(IIII)I"⟩
abbrev cX6_get : ByteArray := prog_8_method_14_code
def yX6_get : MethodName := ⟨RX6, "get", "(III)I"⟩
abbrev cX6_copy : ByteArray := prog_8_method_15_code
def yX6_copy : MethodName := ⟨RX6, "copy", "(IIIII)I"⟩
abbrev cX6_read : ByteArray := prog_8_method_16_code
def yX6_read : MethodName := ⟨RX6, "read", "(I[I)V"⟩
abbrev cX6_tells : ByteArray := prog_8_method_17_code
def yX6_tells : MethodName := ⟨RX6, "tells", "([II)I"⟩
abbrev cX6_set : ByteArray := prog_8_method_18_code
def yX6_set : MethodName := ⟨RX6, "set", "([I[I)V"⟩
abbrev cX6_times : ByteArray := prog_8_method_19_code
def yX6_times : MethodName := ⟨RX6, "times", "([I[I[I)V"⟩
abbrev cX6_by : ByteArray := prog_8_method_20_code
def yX6_by : MethodName := ⟨RX6, "by", "([I[I[I)V"⟩
abbrev cX6_one : ByteArray := prog_8_method_21_code
def yX6_one : MethodName := ⟨RX6, "one", "([I)V"⟩
abbrev cX6_puts : ByteArray := prog_8_method_22_code
def yX6_puts : MethodName := ⟨RX6, "puts", "([I[I[I)V"⟩
abbrev cX6_canTurn : ByteArray := prog_8_method_23_code
def yX6_canTurn : MethodName := ⟨RX6, "canTurn", "([I)Z"⟩
abbrev cX6_turns : ByteArray := prog_8_method_24_code
def yX6_turns : MethodName := ⟨RX6, "turns", "([I[I)V"⟩
abbrev cX6_term : ByteArray := prog_8_method_25_code
def yX6_term : MethodName := ⟨RX6, "term", "(II)I"⟩
abbrev cX6_kind : ByteArray := prog_8_method_26_code
def yX6_kind : MethodName := ⟨RX6, "kind", "(III)I"⟩
abbrev cX6_isLost : ByteArray := prog_8_method_27_code
def yX6_isLost : MethodName := ⟨RX6, "isLost", "(I)Z"⟩
abbrev cX6_join : ByteArray := prog_8_method_28_code
def yX6_join : MethodName := ⟨RX6, "join", "(IIII)I"⟩
abbrev cX6_over : ByteArray := prog_8_method_29_code
def yX6_over : MethodName := ⟨RX6, "over", "(III)I"⟩
abbrev cX6_into : ByteArray := prog_8_method_30_code
def yX6_into : MethodName := ⟨RX6, "into", "(III)I"⟩
abbrev cX6_turn : ByteArray := prog_8_method_31_code
def yX6_turn : MethodName := ⟨RX6, "turn", "(II)I"⟩
abbrev cX6_power : ByteArray := prog_8_method_32_code
def yX6_power : MethodName := ⟨RX6, "power", "(III)I"⟩
abbrev cX6_valueOf : ByteArray := prog_8_method_33_code
def yX6_valueOf : MethodName := ⟨RX6, "valueOf", "([II)I"⟩
abbrev cX6_value : ByteArray := prog_8_method_34_code
def yX6_value : MethodName := ⟨RX6, "value", "(II)I"⟩
abbrev cX6_works : ByteArray := prog_8_method_35_code
def yX6_works : MethodName := ⟨RX6, "works", "([I[I[I)V"⟩
abbrev cX6_apply : ByteArray := prog_8_method_36_code
def yX6_apply : MethodName := ⟨RX6, "apply", "(III)I"⟩
abbrev cX6_isRung : ByteArray := prog_8_method_37_code
def yX6_isRung : MethodName := ⟨RX6, "isRung", "(II)Z"⟩
abbrev cX6_canLadder : ByteArray := prog_8_method_38_code
def yX6_canLadder : MethodName := ⟨RX6, "canLadder", "()Z"⟩
abbrev cX6_ladder : ByteArray := prog_8_method_39_code
def yX6_ladder : MethodName := ⟨RX6, "ladder", "(III)I"⟩
abbrev cX6_step : ByteArray := prog_8_method_40_code
def yX6_step : MethodName := ⟨RX6, "step", "(III)I"⟩
abbrev cX6_rung : ByteArray := prog_8_method_41_code
def yX6_rung : MethodName := ⟨RX6, "rung", "(II[I)V"⟩
abbrev cX6_at : ByteArray := prog_8_method_42_code
def yX6_at : MethodName := ⟨RX6, "at", "(III)I"⟩
abbrev cX6_tell : ByteArray := prog_8_method_43_code
def yX6_tell : MethodName := ⟨RX6, "tell", "(III)I"⟩
abbrev cX6_lowers : ByteArray := prog_8_method_44_code
def yX6_lowers : MethodName := ⟨RX6, "lowers", "(II)I"⟩
abbrev cX6_bound : ByteArray := prog_8_method_45_code
def yX6_bound : MethodName := ⟨RX6, "bound", "(IIII)I"⟩
abbrev cX6_choose : ByteArray := prog_8_method_46_code
def yX6_choose : MethodName := ⟨RX6, "choose", "(II)I"⟩
abbrev cX6_stepAt : ByteArray := prog_8_method_47_code
def yX6_stepAt : MethodName := ⟨RX6, "stepAt", "(III)I"⟩
abbrev cX6_isBinomial : ByteArray := prog_8_method_48_code
def yX6_isBinomial : MethodName := ⟨RX6, "isBinomial", "(II)Z"⟩
abbrev cX6_binomial : ByteArray := prog_8_method_49_code
def yX6_binomial : MethodName := ⟨RX6, "binomial", "(I)I"⟩
abbrev cX6_differs : ByteArray := prog_8_method_50_code
def yX6_differs : MethodName := ⟨RX6, "differs", "(II)I"⟩
abbrev cX6_sum : ByteArray := prog_8_method_51_code
def yX6_sum : MethodName := ⟨RX6, "sum", "(III)I"⟩
abbrev cX6_through : ByteArray := prog_8_method_52_code
def yX6_through : MethodName := ⟨RX6, "through", "(III)I"⟩
abbrev cX6_difference : ByteArray := prog_8_method_53_code
def yX6_difference : MethodName := ⟨RX6, "difference", "(III)I"⟩
abbrev cX6_triangle : ByteArray := prog_8_method_54_code
def yX6_triangle : MethodName := ⟨RX6, "triangle", "(IIII)I"⟩
abbrev cX6_product : ByteArray := prog_8_method_55_code
def yX6_product : MethodName := ⟨RX6, "product", "(IIIIII)I"⟩
abbrev cX6_back : ByteArray := prog_8_method_56_code
def yX6_back : MethodName := ⟨RX6, "back", "(IIII)I"⟩
abbrev cX6_aRow : ByteArray := prog_8_method_57_code
def yX6_aRow : MethodName := ⟨RX6, "aRow", "(II)I"⟩
abbrev cX6_count : ByteArray := prog_8_method_58_code
def yX6_count : MethodName := ⟨RX6, "count", "(I)I"⟩
abbrev cX6_digest : ByteArray := prog_8_method_59_code
def yX6_digest : MethodName := ⟨RX6, "digest", "()J"⟩
def RJ9 : String := "java/lang/Math"
def TJ9 : u_T := fun k => match k with
  | _ => ("", "", "", false)
def tyJ9 : Nat → FieldType := fun k => match k with
  | _ => .int
abbrev wsJ90 : List Cond := u_ws RJ9 TJ9 0
theorem nmJ9 : ∀ a, a < 0 → ∀ b, b < 0 → a ≠ b → (TJ9 a).2.1 ≠ (TJ9 b).2.1 := by decide +kernel
theorem tyJ9_ok : ∀ k, k < 0 → parseFieldDescriptor (TJ9 k).2.2.1 = some (tyJ9 k) := by decide +kernel
abbrev cJ9_floorMod_7cf53 : ByteArray := prog_9_method_50_code
def yJ9_floorMod_7cf53 : MethodName := ⟨RJ9, "floorMod", "(II)I"⟩
def RJ10 : String := "java/lang/System"
def TJ10 : u_T := fun k => match k with
  | _ => ("", "", "", false)
def tyJ10 : Nat → FieldType := fun k => match k with
  | _ => .int
abbrev wsJ100 : List Cond := u_ws RJ10 TJ10 0
theorem nmJ10 : ∀ a, a < 0 → ∀ b, b < 0 → a ≠ b → (TJ10 a).2.1 ≠ (TJ10 b).2.1 := by decide +kernel
theorem tyJ10_ok : ∀ k, k < 0 → parseFieldDescriptor (TJ10 k).2.2.1 = some (tyJ10 k) := by decide +kernel
def RJ7 : String := "java/util/Arrays"
def TJ7 : u_T := fun k => match k with
  | _ => ("", "", "", false)
def tyJ7 : Nat → FieldType := fun k => match k with
  | _ => .int
abbrev wsJ70 : List Cond := u_ws RJ7 TJ7 0
theorem nmJ7 : ∀ a, a < 0 → ∀ b, b < 0 → a ≠ b → (TJ7 a).2.1 ≠ (TJ7 b).2.1 := by decide +kernel
theorem tyJ7_ok : ∀ k, k < 0 → parseFieldDescriptor (TJ7 k).2.2.1 = some (tyJ7 k) := by decide +kernel
abbrev cJ7_fill_53178 : ByteArray := prog_11_method_103_code
def yJ7_fill_53178 : MethodName := ⟨RJ7, "fill", "([II)V"⟩
def RL : String := "DeltaLaddersLaw"
abbrev cL_law : ByteArray := code
def yL_law : MethodName := ⟨RL, "law", "([I)Z"⟩
abbrev vwCl : List vw_C := [(RX0, TX0, 11), (RX1, TX1, 2), (RX3, TX3, 1), (RX4, TX4, 4), (RX5, TX5, 10), (RX6, TX6, 16)]
end
section
theorem dX0_init_0 : decode cX0_init 0 = .ok (.aload_n 0, 1) := by decide +kernel
theorem dX0_init_1 : decode cX0_init 1 = .ok (.invokespecial 3, 3) := by decide +kernel
theorem dX0_init_4 : decode cX0_init 4 = .ok (.aload_n 0, 1) := by decide +kernel
theorem dX0_init_5 : decode cX0_init 5 = .ok (.bipush 11, 2) := by decide +kernel
theorem dX0_init_7 : decode cX0_init 7 = .ok (.newarray .int, 2) := by decide +kernel
theorem dX0_init_9 : decode cX0_init 9 = .ok (.putfield 9, 3) := by decide +kernel
theorem dX0_init_12 : decode cX0_init 12 = .ok (.aload_n 0, 1) := by decide +kernel
theorem dX0_init_13 : decode cX0_init 13 = .ok (.bipush 10, 2) := by decide +kernel
theorem dX0_init_15 : decode cX0_init 15 = .ok (.newarray .int, 2) := by decide +kernel
theorem dX0_init_17 : decode cX0_init 17 = .ok (.putfield 15, 3) := by decide +kernel
theorem dX0_init_20 : decode cX0_init 20 = .ok (.aload_n 0, 1) := by decide +kernel
theorem dX0_init_21 : decode cX0_init 21 = .ok (.bipush 10, 2) := by decide +kernel
theorem dX0_init_23 : decode cX0_init 23 = .ok (.newarray .int, 2) := by decide +kernel
theorem dX0_init_25 : decode cX0_init 25 = .ok (.putfield 18, 3) := by decide +kernel
theorem dX0_init_28 : decode cX0_init 28 = .ok (.aload_n 0, 1) := by decide +kernel
theorem dX0_init_29 : decode cX0_init 29 = .ok (.bipush 10, 2) := by decide +kernel
theorem dX0_init_31 : decode cX0_init 31 = .ok (.bipush 10, 2) := by decide +kernel
theorem dX0_init_33 : decode cX0_init 33 = .ok (.multianewarray 21 2, 4) := by decide +kernel
theorem dX0_init_37 : decode cX0_init 37 = .ok (.putfield 23, 3) := by decide +kernel
theorem dX0_init_40 : decode cX0_init 40 = .ok (.aload_n 0, 1) := by decide +kernel
theorem dX0_init_41 : decode cX0_init 41 = .ok (.bipush 10, 2) := by decide +kernel
theorem dX0_init_43 : decode cX0_init 43 = .ok (.bipush 19, 2) := by decide +kernel
theorem dX0_init_45 : decode cX0_init 45 = .ok (.multianewarray 21 2, 4) := by decide +kernel
theorem dX0_init_49 : decode cX0_init 49 = .ok (.putfield 26, 3) := by decide +kernel
theorem dX0_init_52 : decode cX0_init 52 = .ok (.aload_n 0, 1) := by decide +kernel
theorem dX0_init_53 : decode cX0_init 53 = .ok (.bipush 10, 2) := by decide +kernel
theorem dX0_init_55 : decode cX0_init 55 = .ok (.newarray .int, 2) := by decide +kernel
theorem dX0_init_57 : decode cX0_init 57 = .ok (.putfield 29, 3) := by decide +kernel
theorem dX0_init_60 : decode cX0_init 60 = .ok (.aload_n 0, 1) := by decide +kernel
theorem dX0_init_61 : decode cX0_init 61 = .ok (.new 32, 3) := by decide +kernel
theorem dX0_init_64 : decode cX0_init 64 = .ok (.dup, 1) := by decide +kernel
theorem dX0_init_65 : decode cX0_init 65 = .ok (.invokespecial 34, 3) := by decide +kernel
theorem dX0_init_68 : decode cX0_init 68 = .ok (.putfield 35, 3) := by decide +kernel
theorem dX0_init_71 : decode cX0_init 71 = .ok (.aload_n 0, 1) := by decide +kernel
theorem dX0_init_72 : decode cX0_init 72 = .ok (.new 32, 3) := by decide +kernel
theorem dX0_init_75 : decode cX0_init 75 = .ok (.dup, 1) := by decide +kernel
theorem dX0_init_76 : decode cX0_init 76 = .ok (.invokespecial 34, 3) := by decide +kernel
theorem dX0_init_79 : decode cX0_init 79 = .ok (.putfield 39, 3) := by decide +kernel
theorem dX0_init_82 : decode cX0_init 82 = .ok (.aload_n 0, 1) := by decide +kernel
theorem dX0_init_83 : decode cX0_init 83 = .ok (.new 32, 3) := by decide +kernel
theorem dX0_init_86 : decode cX0_init 86 = .ok (.dup, 1) := by decide +kernel
theorem dX0_init_87 : decode cX0_init 87 = .ok (.invokespecial 34, 3) := by decide +kernel
theorem dX0_init_90 : decode cX0_init 90 = .ok (.putfield 42, 3) := by decide +kernel
theorem dX0_init_93 : decode cX0_init 93 = .ok (.aload_n 0, 1) := by decide +kernel
theorem dX0_init_94 : decode cX0_init 94 = .ok (.new 32, 3) := by decide +kernel
theorem dX0_init_97 : decode cX0_init 97 = .ok (.dup, 1) := by decide +kernel
theorem dX0_init_98 : decode cX0_init 98 = .ok (.invokespecial 34, 3) := by decide +kernel
theorem dX0_init_101 : decode cX0_init 101 = .ok (.putfield 45, 3) := by decide +kernel
theorem dX0_init_104 : decode cX0_init 104 = .ok (.aload_n 0, 1) := by decide +kernel
theorem dX0_init_105 : decode cX0_init 105 = .ok (.new 32, 3) := by decide +kernel
theorem dX0_init_108 : decode cX0_init 108 = .ok (.dup, 1) := by decide +kernel
theorem dX0_init_109 : decode cX0_init 109 = .ok (.invokespecial 34, 3) := by decide +kernel
theorem dX0_init_112 : decode cX0_init 112 = .ok (.putfield 48, 3) := by decide +kernel
theorem dX0_init_115 : decode cX0_init 115 = .ok (.aload_n 0, 1) := by decide +kernel
theorem dX0_init_116 : decode cX0_init 116 = .ok (.getfield 35, 3) := by decide +kernel
theorem dX0_init_119 : decode cX0_init 119 = .ok (.iconst 1, 1) := by decide +kernel
theorem dX0_init_120 : decode cX0_init 120 = .ok (.invokevirtual 51, 3) := by decide +kernel
theorem dX0_init_123 : decode cX0_init 123 = .ok (.iconst 1, 1) := by decide +kernel
theorem dX0_init_124 : decode cX0_init 124 = .ok (.istore_n 1, 1) := by decide +kernel
theorem dX0_init_125 : decode cX0_init 125 = .ok (.iload_n 1, 1) := by decide +kernel
theorem dX0_init_126 : decode cX0_init 126 = .ok (.bipush 10, 2) := by decide +kernel
theorem dX0_init_128 : decode cX0_init 128 = .ok (.if_icmp .gt 19, 3) := by decide +kernel
theorem dX0_init_131 : decode cX0_init 131 = .ok (.aload_n 0, 1) := by decide +kernel
theorem dX0_init_132 : decode cX0_init 132 = .ok (.getfield 9, 3) := by decide +kernel
theorem dX0_init_135 : decode cX0_init 135 = .ok (.iload_n 1, 1) := by decide +kernel
theorem dX0_init_136 : decode cX0_init 136 = .ok (.iload_n 1, 1) := by decide +kernel
theorem dX0_init_137 : decode cX0_init 137 = .ok (.invokestatic 55, 3) := by decide +kernel
theorem dX0_init_140 : decode cX0_init 140 = .ok (.iastore, 1) := by decide +kernel
theorem dX0_init_141 : decode cX0_init 141 = .ok (.iinc 1 1, 3) := by decide +kernel
theorem dX0_init_144 : decode cX0_init 144 = .ok (.goto (-19), 3) := by decide +kernel
theorem dX0_init_147 : decode cX0_init 147 = .ok (.aload_n 0, 1) := by decide +kernel
theorem dX0_init_148 : decode cX0_init 148 = .ok (.getfield 15, 3) := by decide +kernel
theorem dX0_init_151 : decode cX0_init 151 = .ok (.iconst 0, 1) := by decide +kernel
theorem dX0_init_152 : decode cX0_init 152 = .ok (.iconst 1, 1) := by decide +kernel
theorem dX0_init_153 : decode cX0_init 153 = .ok (.iastore, 1) := by decide +kernel
theorem dX0_init_154 : decode cX0_init 154 = .ok (.aload_n 0, 1) := by decide +kernel
theorem dX0_init_155 : decode cX0_init 155 = .ok (.getfield 18, 3) := by decide +kernel
theorem dX0_init_158 : decode cX0_init 158 = .ok (.iconst 0, 1) := by decide +kernel
theorem dX0_init_159 : decode cX0_init 159 = .ok (.iconst 1, 1) := by decide +kernel
theorem dX0_init_160 : decode cX0_init 160 = .ok (.iastore, 1) := by decide +kernel
theorem dX0_init_161 : decode cX0_init 161 = .ok (.iconst 1, 1) := by decide +kernel
theorem dX0_init_162 : decode cX0_init 162 = .ok (.istore_n 1, 1) := by decide +kernel
theorem dX0_init_163 : decode cX0_init 163 = .ok (.iload_n 1, 1) := by decide +kernel
theorem dX0_init_164 : decode cX0_init 164 = .ok (.bipush 10, 2) := by decide +kernel
theorem dX0_init_166 : decode cX0_init 166 = .ok (.if_icmp .ge 54, 3) := by decide +kernel
theorem dX0_init_169 : decode cX0_init 169 = .ok (.aload_n 0, 1) := by decide +kernel
theorem dX0_init_170 : decode cX0_init 170 = .ok (.getfield 15, 3) := by decide +kernel
theorem dX0_init_173 : decode cX0_init 173 = .ok (.iload_n 1, 1) := by decide +kernel
theorem dX0_init_174 : decode cX0_init 174 = .ok (.aload_n 0, 1) := by decide +kernel
theorem dX0_init_175 : decode cX0_init 175 = .ok (.getfield 15, 3) := by decide +kernel
theorem dX0_init_178 : decode cX0_init 178 = .ok (.iload_n 1, 1) := by decide +kernel
theorem dX0_init_179 : decode cX0_init 179 = .ok (.iconst 1, 1) := by decide +kernel
theorem dX0_init_180 : decode cX0_init 180 = .ok (.isub, 1) := by decide +kernel
theorem dX0_init_181 : decode cX0_init 181 = .ok (.iaload, 1) := by decide +kernel
theorem dX0_init_182 : decode cX0_init 182 = .ok (.iload_n 1, 1) := by decide +kernel
theorem dX0_init_183 : decode cX0_init 183 = .ok (.imul, 1) := by decide +kernel
theorem dX0_init_184 : decode cX0_init 184 = .ok (.sipush 10007, 3) := by decide +kernel
theorem dX0_init_187 : decode cX0_init 187 = .ok (.irem, 1) := by decide +kernel
theorem dX0_init_188 : decode cX0_init 188 = .ok (.iastore, 1) := by decide +kernel
theorem dX0_init_189 : decode cX0_init 189 = .ok (.aload_n 0, 1) := by decide +kernel
theorem dX0_init_190 : decode cX0_init 190 = .ok (.getfield 18, 3) := by decide +kernel
theorem dX0_init_193 : decode cX0_init 193 = .ok (.iload_n 1, 1) := by decide +kernel
theorem dX0_init_194 : decode cX0_init 194 = .ok (.aload_n 0, 1) := by decide +kernel
theorem dX0_init_195 : decode cX0_init 195 = .ok (.getfield 18, 3) := by decide +kernel
theorem dX0_init_198 : decode cX0_init 198 = .ok (.iload_n 1, 1) := by decide +kernel
theorem dX0_init_199 : decode cX0_init 199 = .ok (.iconst 1, 1) := by decide +kernel
theorem dX0_init_200 : decode cX0_init 200 = .ok (.isub, 1) := by decide +kernel
theorem dX0_init_201 : decode cX0_init 201 = .ok (.iaload, 1) := by decide +kernel
theorem dX0_init_202 : decode cX0_init 202 = .ok (.aload_n 0, 1) := by decide +kernel
theorem dX0_init_203 : decode cX0_init 203 = .ok (.getfield 9, 3) := by decide +kernel
theorem dX0_init_206 : decode cX0_init 206 = .ok (.iload_n 1, 1) := by decide +kernel
theorem dX0_init_207 : decode cX0_init 207 = .ok (.iaload, 1) := by decide +kernel
theorem dX0_init_208 : decode cX0_init 208 = .ok (.imul, 1) := by decide +kernel
theorem dX0_init_209 : decode cX0_init 209 = .ok (.sipush 10007, 3) := by decide +kernel
theorem dX0_init_212 : decode cX0_init 212 = .ok (.irem, 1) := by decide +kernel
theorem dX0_init_213 : decode cX0_init 213 = .ok (.iastore, 1) := by decide +kernel
theorem dX0_init_214 : decode cX0_init 214 = .ok (.iinc 1 1, 3) := by decide +kernel
theorem dX0_init_217 : decode cX0_init 217 = .ok (.goto (-54), 3) := by decide +kernel
theorem dX0_init_220 : decode cX0_init 220 = .ok (.iconst 0, 1) := by decide +kernel
theorem dX0_init_221 : decode cX0_init 221 = .ok (.istore_n 1, 1) := by decide +kernel
theorem dX0_init_222 : decode cX0_init 222 = .ok (.iload_n 1, 1) := by decide +kernel
theorem dX0_init_223 : decode cX0_init 223 = .ok (.bipush 10, 2) := by decide +kernel
theorem dX0_init_225 : decode cX0_init 225 = .ok (.if_icmp .ge 62, 3) := by decide +kernel
theorem dX0_init_228 : decode cX0_init 228 = .ok (.aload_n 0, 1) := by decide +kernel
theorem dX0_init_229 : decode cX0_init 229 = .ok (.getfield 23, 3) := by decide +kernel
theorem dX0_init_232 : decode cX0_init 232 = .ok (.iload_n 1, 1) := by decide +kernel
theorem dX0_init_233 : decode cX0_init 233 = .ok (.aaload, 1) := by decide +kernel
theorem dX0_init_234 : decode cX0_init 234 = .ok (.iconst 0, 1) := by decide +kernel
theorem dX0_init_235 : decode cX0_init 235 = .ok (.iconst 1, 1) := by decide +kernel
theorem dX0_init_236 : decode cX0_init 236 = .ok (.iastore, 1) := by decide +kernel
theorem dX0_init_237 : decode cX0_init 237 = .ok (.iconst 1, 1) := by decide +kernel
theorem dX0_init_238 : decode cX0_init 238 = .ok (.istore_n 2, 1) := by decide +kernel
theorem dX0_init_239 : decode cX0_init 239 = .ok (.iload_n 2, 1) := by decide +kernel
theorem dX0_init_240 : decode cX0_init 240 = .ok (.iload_n 1, 1) := by decide +kernel
theorem dX0_init_241 : decode cX0_init 241 = .ok (.if_icmp .gt 40, 3) := by decide +kernel
theorem dX0_init_244 : decode cX0_init 244 = .ok (.aload_n 0, 1) := by decide +kernel
theorem dX0_init_245 : decode cX0_init 245 = .ok (.getfield 23, 3) := by decide +kernel
theorem dX0_init_248 : decode cX0_init 248 = .ok (.iload_n 1, 1) := by decide +kernel
theorem dX0_init_249 : decode cX0_init 249 = .ok (.aaload, 1) := by decide +kernel
theorem dX0_init_250 : decode cX0_init 250 = .ok (.iload_n 2, 1) := by decide +kernel
theorem dX0_init_251 : decode cX0_init 251 = .ok (.aload_n 0, 1) := by decide +kernel
theorem dX0_init_252 : decode cX0_init 252 = .ok (.getfield 23, 3) := by decide +kernel
theorem dX0_init_255 : decode cX0_init 255 = .ok (.iload_n 1, 1) := by decide +kernel
theorem dX0_init_256 : decode cX0_init 256 = .ok (.iconst 1, 1) := by decide +kernel
theorem dX0_init_257 : decode cX0_init 257 = .ok (.isub, 1) := by decide +kernel
theorem dX0_init_258 : decode cX0_init 258 = .ok (.aaload, 1) := by decide +kernel
theorem dX0_init_259 : decode cX0_init 259 = .ok (.iload_n 2, 1) := by decide +kernel
theorem dX0_init_260 : decode cX0_init 260 = .ok (.iconst 1, 1) := by decide +kernel
theorem dX0_init_261 : decode cX0_init 261 = .ok (.isub, 1) := by decide +kernel
theorem dX0_init_262 : decode cX0_init 262 = .ok (.iaload, 1) := by decide +kernel
theorem dX0_init_263 : decode cX0_init 263 = .ok (.aload_n 0, 1) := by decide +kernel
theorem dX0_init_264 : decode cX0_init 264 = .ok (.getfield 23, 3) := by decide +kernel
theorem dX0_init_267 : decode cX0_init 267 = .ok (.iload_n 1, 1) := by decide +kernel
theorem dX0_init_268 : decode cX0_init 268 = .ok (.iconst 1, 1) := by decide +kernel
theorem dX0_init_269 : decode cX0_init 269 = .ok (.isub, 1) := by decide +kernel
theorem dX0_init_270 : decode cX0_init 270 = .ok (.aaload, 1) := by decide +kernel
theorem dX0_init_271 : decode cX0_init 271 = .ok (.iload_n 2, 1) := by decide +kernel
theorem dX0_init_272 : decode cX0_init 272 = .ok (.iaload, 1) := by decide +kernel
theorem dX0_init_273 : decode cX0_init 273 = .ok (.iadd, 1) := by decide +kernel
theorem dX0_init_274 : decode cX0_init 274 = .ok (.iastore, 1) := by decide +kernel
theorem dX0_init_275 : decode cX0_init 275 = .ok (.iinc 2 1, 3) := by decide +kernel
theorem dX0_init_278 : decode cX0_init 278 = .ok (.goto (-39), 3) := by decide +kernel
theorem dX0_init_281 : decode cX0_init 281 = .ok (.iinc 1 1, 3) := by decide +kernel
theorem dX0_init_284 : decode cX0_init 284 = .ok (.goto (-62), 3) := by decide +kernel
theorem dX0_init_287 : decode cX0_init 287 = .ok (.return_, 1) := by decide +kernel
theorem dX0_ofKind_0 : decode cX0_ofKind 0 = .ok (.iload_n 1, 1) := by decide +kernel
theorem dX0_ofKind_1 : decode cX0_ofKind 1 = .ok (.tableswitch 145 0 6 #[43, 58, 67, 83, 92, 112, 121], 43) := by decide +kernel
theorem dX0_ofKind_44 : decode cX0_ofKind 44 = .ok (.aload_n 3, 1) := by decide +kernel
theorem dX0_ofKind_45 : decode cX0_ofKind 45 = .ok (.iconst 0, 1) := by decide +kernel
theorem dX0_ofKind_46 : decode cX0_ofKind 46 = .ok (.invokevirtual 51, 3) := by decide +kernel
theorem dX0_ofKind_49 : decode cX0_ofKind 49 = .ok (.aload_n 3, 1) := by decide +kernel
theorem dX0_ofKind_50 : decode cX0_ofKind 50 = .ok (.getfield 61, 3) := by decide +kernel
theorem dX0_ofKind_53 : decode cX0_ofKind 53 = .ok (.iconst 1, 1) := by decide +kernel
theorem dX0_ofKind_54 : decode cX0_ofKind 54 = .ok (.iconst 1, 1) := by decide +kernel
theorem dX0_ofKind_55 : decode cX0_ofKind 55 = .ok (.iastore, 1) := by decide +kernel
theorem dX0_ofKind_56 : decode cX0_ofKind 56 = .ok (.goto 95, 3) := by decide +kernel
theorem dX0_ofKind_59 : decode cX0_ofKind 59 = .ok (.aload_n 0, 1) := by decide +kernel
theorem dX0_ofKind_60 : decode cX0_ofKind 60 = .ok (.iload_n 2, 1) := by decide +kernel
theorem dX0_ofKind_61 : decode cX0_ofKind 61 = .ok (.aload_n 3, 1) := by decide +kernel
theorem dX0_ofKind_62 : decode cX0_ofKind 62 = .ok (.invokevirtual 64, 3) := by decide +kernel
theorem dX0_ofKind_65 : decode cX0_ofKind 65 = .ok (.goto 86, 3) := by decide +kernel
theorem dX0_ofKind_68 : decode cX0_ofKind 68 = .ok (.aload_n 0, 1) := by decide +kernel
theorem dX0_ofKind_69 : decode cX0_ofKind 69 = .ok (.iload_n 2, 1) := by decide +kernel
theorem dX0_ofKind_70 : decode cX0_ofKind 70 = .ok (.aload_n 3, 1) := by decide +kernel
theorem dX0_ofKind_71 : decode cX0_ofKind 71 = .ok (.invokevirtual 64, 3) := by decide +kernel
theorem dX0_ofKind_74 : decode cX0_ofKind 74 = .ok (.aload_n 3, 1) := by decide +kernel
theorem dX0_ofKind_75 : decode cX0_ofKind 75 = .ok (.getfield 61, 3) := by decide +kernel
theorem dX0_ofKind_78 : decode cX0_ofKind 78 = .ok (.iconst 0, 1) := by decide +kernel
theorem dX0_ofKind_79 : decode cX0_ofKind 79 = .ok (.iconst 0, 1) := by decide +kernel
theorem dX0_ofKind_80 : decode cX0_ofKind 80 = .ok (.iastore, 1) := by decide +kernel
theorem dX0_ofKind_81 : decode cX0_ofKind 81 = .ok (.goto 70, 3) := by decide +kernel
theorem dX0_ofKind_84 : decode cX0_ofKind 84 = .ok (.aload_n 0, 1) := by decide +kernel
theorem dX0_ofKind_85 : decode cX0_ofKind 85 = .ok (.iload_n 2, 1) := by decide +kernel
theorem dX0_ofKind_86 : decode cX0_ofKind 86 = .ok (.aload_n 3, 1) := by decide +kernel
theorem dX0_ofKind_87 : decode cX0_ofKind 87 = .ok (.invokevirtual 68, 3) := by decide +kernel
theorem dX0_ofKind_90 : decode cX0_ofKind 90 = .ok (.goto 61, 3) := by decide +kernel
theorem dX0_ofKind_93 : decode cX0_ofKind 93 = .ok (.aload_n 0, 1) := by decide +kernel
theorem dX0_ofKind_94 : decode cX0_ofKind 94 = .ok (.iload_n 2, 1) := by decide +kernel
theorem dX0_ofKind_95 : decode cX0_ofKind 95 = .ok (.aload_n 0, 1) := by decide +kernel
theorem dX0_ofKind_96 : decode cX0_ofKind 96 = .ok (.getfield 45, 3) := by decide +kernel
theorem dX0_ofKind_99 : decode cX0_ofKind 99 = .ok (.invokevirtual 64, 3) := by decide +kernel
theorem dX0_ofKind_102 : decode cX0_ofKind 102 = .ok (.aload_n 3, 1) := by decide +kernel
theorem dX0_ofKind_103 : decode cX0_ofKind 103 = .ok (.aload_n 0, 1) := by decide +kernel
theorem dX0_ofKind_104 : decode cX0_ofKind 104 = .ok (.getfield 45, 3) := by decide +kernel
theorem dX0_ofKind_107 : decode cX0_ofKind 107 = .ok (.invokevirtual 71, 3) := by decide +kernel
theorem dX0_ofKind_110 : decode cX0_ofKind 110 = .ok (.goto 41, 3) := by decide +kernel
theorem dX0_ofKind_113 : decode cX0_ofKind 113 = .ok (.aload_n 0, 1) := by decide +kernel
theorem dX0_ofKind_114 : decode cX0_ofKind 114 = .ok (.iload_n 2, 1) := by decide +kernel
theorem dX0_ofKind_115 : decode cX0_ofKind 115 = .ok (.aload_n 3, 1) := by decide +kernel
theorem dX0_ofKind_116 : decode cX0_ofKind 116 = .ok (.invokevirtual 75, 3) := by decide +kernel
theorem dX0_ofKind_119 : decode cX0_ofKind 119 = .ok (.goto 32, 3) := by decide +kernel
theorem dX0_ofKind_122 : decode cX0_ofKind 122 = .ok (.aload_n 0, 1) := by decide +kernel
theorem dX0_ofKind_123 : decode cX0_ofKind 123 = .ok (.iload_n 2, 1) := by decide +kernel
theorem dX0_ofKind_124 : decode cX0_ofKind 124 = .ok (.ineg, 1) := by decide +kernel
theorem dX0_ofKind_125 : decode cX0_ofKind 125 = .ok (.invokestatic 78, 3) := by decide +kernel
theorem dX0_ofKind_128 : decode cX0_ofKind 128 = .ok (.aload_n 0, 1) := by decide +kernel
theorem dX0_ofKind_129 : decode cX0_ofKind 129 = .ok (.getfield 45, 3) := by decide +kernel
theorem dX0_ofKind_132 : decode cX0_ofKind 132 = .ok (.invokevirtual 68, 3) := by decide +kernel
theorem dX0_ofKind_135 : decode cX0_ofKind 135 = .ok (.aload_n 3, 1) := by decide +kernel
theorem dX0_ofKind_136 : decode cX0_ofKind 136 = .ok (.aload_n 0, 1) := by decide +kernel
theorem dX0_ofKind_137 : decode cX0_ofKind 137 = .ok (.getfield 45, 3) := by decide +kernel
theorem dX0_ofKind_140 : decode cX0_ofKind 140 = .ok (.invokevirtual 71, 3) := by decide +kernel
theorem dX0_ofKind_143 : decode cX0_ofKind 143 = .ok (.goto 8, 3) := by decide +kernel
theorem dX0_ofKind_146 : decode cX0_ofKind 146 = .ok (.aload_n 3, 1) := by decide +kernel
theorem dX0_ofKind_147 : decode cX0_ofKind 147 = .ok (.iload_n 2, 1) := by decide +kernel
theorem dX0_ofKind_148 : decode cX0_ofKind 148 = .ok (.invokevirtual 51, 3) := by decide +kernel
theorem dX0_ofKind_151 : decode cX0_ofKind 151 = .ok (.return_, 1) := by decide +kernel
theorem dX0_geometric_0 : decode cX0_geometric 0 = .ok (.aload_n 2, 1) := by decide +kernel
theorem dX0_geometric_1 : decode cX0_geometric 1 = .ok (.getfield 61, 3) := by decide +kernel
theorem dX0_geometric_4 : decode cX0_geometric 4 = .ok (.iconst 0, 1) := by decide +kernel
theorem dX0_geometric_5 : decode cX0_geometric 5 = .ok (.iconst 1, 1) := by decide +kernel
theorem dX0_geometric_6 : decode cX0_geometric 6 = .ok (.iastore, 1) := by decide +kernel
theorem dX0_geometric_7 : decode cX0_geometric 7 = .ok (.iconst 1, 1) := by decide +kernel
theorem dX0_geometric_8 : decode cX0_geometric 8 = .ok (.istore_n 3, 1) := by decide +kernel
theorem dX0_geometric_9 : decode cX0_geometric 9 = .ok (.iload_n 3, 1) := by decide +kernel
theorem dX0_geometric_10 : decode cX0_geometric 10 = .ok (.bipush 10, 2) := by decide +kernel
theorem dX0_geometric_12 : decode cX0_geometric 12 = .ok (.if_icmp .ge 29, 3) := by decide +kernel
theorem dX0_geometric_15 : decode cX0_geometric 15 = .ok (.aload_n 2, 1) := by decide +kernel
theorem dX0_geometric_16 : decode cX0_geometric 16 = .ok (.getfield 61, 3) := by decide +kernel
theorem dX0_geometric_19 : decode cX0_geometric 19 = .ok (.iload_n 3, 1) := by decide +kernel
theorem dX0_geometric_20 : decode cX0_geometric 20 = .ok (.aload_n 2, 1) := by decide +kernel
theorem dX0_geometric_21 : decode cX0_geometric 21 = .ok (.getfield 61, 3) := by decide +kernel
theorem dX0_geometric_24 : decode cX0_geometric 24 = .ok (.iload_n 3, 1) := by decide +kernel
theorem dX0_geometric_25 : decode cX0_geometric 25 = .ok (.iconst 1, 1) := by decide +kernel
theorem dX0_geometric_26 : decode cX0_geometric 26 = .ok (.isub, 1) := by decide +kernel
theorem dX0_geometric_27 : decode cX0_geometric 27 = .ok (.iaload, 1) := by decide +kernel
theorem dX0_geometric_28 : decode cX0_geometric 28 = .ok (.iload_n 1, 1) := by decide +kernel
theorem dX0_geometric_29 : decode cX0_geometric 29 = .ok (.imul, 1) := by decide +kernel
theorem dX0_geometric_30 : decode cX0_geometric 30 = .ok (.sipush 10007, 3) := by decide +kernel
theorem dX0_geometric_33 : decode cX0_geometric 33 = .ok (.irem, 1) := by decide +kernel
theorem dX0_geometric_34 : decode cX0_geometric 34 = .ok (.iastore, 1) := by decide +kernel
theorem dX0_geometric_35 : decode cX0_geometric 35 = .ok (.iinc 3 1, 3) := by decide +kernel
theorem dX0_geometric_38 : decode cX0_geometric 38 = .ok (.goto (-29), 3) := by decide +kernel
theorem dX0_geometric_41 : decode cX0_geometric 41 = .ok (.return_, 1) := by decide +kernel
theorem dX0_exponential_0 : decode cX0_exponential 0 = .ok (.aload_n 0, 1) := by decide +kernel
theorem dX0_exponential_1 : decode cX0_exponential 1 = .ok (.iload_n 1, 1) := by decide +kernel
theorem dX0_exponential_2 : decode cX0_exponential 2 = .ok (.aload_n 2, 1) := by decide +kernel
theorem dX0_exponential_3 : decode cX0_exponential 3 = .ok (.invokevirtual 68, 3) := by decide +kernel
theorem dX0_exponential_6 : decode cX0_exponential 6 = .ok (.iconst 0, 1) := by decide +kernel
theorem dX0_exponential_7 : decode cX0_exponential 7 = .ok (.istore_n 3, 1) := by decide +kernel
theorem dX0_exponential_8 : decode cX0_exponential 8 = .ok (.iload_n 3, 1) := by decide +kernel
theorem dX0_exponential_9 : decode cX0_exponential 9 = .ok (.bipush 10, 2) := by decide +kernel
theorem dX0_exponential_11 : decode cX0_exponential 11 = .ok (.if_icmp .ge 32, 3) := by decide +kernel
theorem dX0_exponential_14 : decode cX0_exponential 14 = .ok (.aload_n 2, 1) := by decide +kernel
theorem dX0_exponential_15 : decode cX0_exponential 15 = .ok (.getfield 61, 3) := by decide +kernel
theorem dX0_exponential_18 : decode cX0_exponential 18 = .ok (.iload_n 3, 1) := by decide +kernel
theorem dX0_exponential_19 : decode cX0_exponential 19 = .ok (.aload_n 2, 1) := by decide +kernel
theorem dX0_exponential_20 : decode cX0_exponential 20 = .ok (.getfield 61, 3) := by decide +kernel
theorem dX0_exponential_23 : decode cX0_exponential 23 = .ok (.iload_n 3, 1) := by decide +kernel
theorem dX0_exponential_24 : decode cX0_exponential 24 = .ok (.iaload, 1) := by decide +kernel
theorem dX0_exponential_25 : decode cX0_exponential 25 = .ok (.aload_n 0, 1) := by decide +kernel
theorem dX0_exponential_26 : decode cX0_exponential 26 = .ok (.getfield 18, 3) := by decide +kernel
theorem dX0_exponential_29 : decode cX0_exponential 29 = .ok (.iload_n 3, 1) := by decide +kernel
theorem dX0_exponential_30 : decode cX0_exponential 30 = .ok (.iaload, 1) := by decide +kernel
theorem dX0_exponential_31 : decode cX0_exponential 31 = .ok (.imul, 1) := by decide +kernel
theorem dX0_exponential_32 : decode cX0_exponential 32 = .ok (.sipush 10007, 3) := by decide +kernel
theorem dX0_exponential_35 : decode cX0_exponential 35 = .ok (.irem, 1) := by decide +kernel
theorem dX0_exponential_36 : decode cX0_exponential 36 = .ok (.iastore, 1) := by decide +kernel
theorem dX0_exponential_37 : decode cX0_exponential 37 = .ok (.iinc 3 1, 3) := by decide +kernel
theorem dX0_exponential_40 : decode cX0_exponential 40 = .ok (.goto (-32), 3) := by decide +kernel
theorem dX0_exponential_43 : decode cX0_exponential 43 = .ok (.return_, 1) := by decide +kernel
theorem dX0_logarithm_0 : decode cX0_logarithm 0 = .ok (.aload_n 0, 1) := by decide +kernel
theorem dX0_logarithm_1 : decode cX0_logarithm 1 = .ok (.iload_n 1, 1) := by decide +kernel
theorem dX0_logarithm_2 : decode cX0_logarithm 2 = .ok (.ineg, 1) := by decide +kernel
theorem dX0_logarithm_3 : decode cX0_logarithm 3 = .ok (.invokestatic 78, 3) := by decide +kernel
theorem dX0_logarithm_6 : decode cX0_logarithm 6 = .ok (.aload_n 2, 1) := by decide +kernel
theorem dX0_logarithm_7 : decode cX0_logarithm 7 = .ok (.invokevirtual 68, 3) := by decide +kernel
theorem dX0_logarithm_10 : decode cX0_logarithm 10 = .ok (.aload_n 2, 1) := by decide +kernel
theorem dX0_logarithm_11 : decode cX0_logarithm 11 = .ok (.getfield 61, 3) := by decide +kernel
theorem dX0_logarithm_14 : decode cX0_logarithm 14 = .ok (.iconst 0, 1) := by decide +kernel
theorem dX0_logarithm_15 : decode cX0_logarithm 15 = .ok (.iconst 0, 1) := by decide +kernel
theorem dX0_logarithm_16 : decode cX0_logarithm 16 = .ok (.iastore, 1) := by decide +kernel
theorem dX0_logarithm_17 : decode cX0_logarithm 17 = .ok (.iconst 1, 1) := by decide +kernel
theorem dX0_logarithm_18 : decode cX0_logarithm 18 = .ok (.istore_n 3, 1) := by decide +kernel
theorem dX0_logarithm_19 : decode cX0_logarithm 19 = .ok (.iload_n 3, 1) := by decide +kernel
theorem dX0_logarithm_20 : decode cX0_logarithm 20 = .ok (.bipush 10, 2) := by decide +kernel
theorem dX0_logarithm_22 : decode cX0_logarithm 22 = .ok (.if_icmp .ge 32, 3) := by decide +kernel
theorem dX0_logarithm_25 : decode cX0_logarithm 25 = .ok (.aload_n 2, 1) := by decide +kernel
theorem dX0_logarithm_26 : decode cX0_logarithm 26 = .ok (.getfield 61, 3) := by decide +kernel
theorem dX0_logarithm_29 : decode cX0_logarithm 29 = .ok (.iload_n 3, 1) := by decide +kernel
theorem dX0_logarithm_30 : decode cX0_logarithm 30 = .ok (.aload_n 2, 1) := by decide +kernel
theorem dX0_logarithm_31 : decode cX0_logarithm 31 = .ok (.getfield 61, 3) := by decide +kernel
theorem dX0_logarithm_34 : decode cX0_logarithm 34 = .ok (.iload_n 3, 1) := by decide +kernel
theorem dX0_logarithm_35 : decode cX0_logarithm 35 = .ok (.iaload, 1) := by decide +kernel
theorem dX0_logarithm_36 : decode cX0_logarithm 36 = .ok (.aload_n 0, 1) := by decide +kernel
theorem dX0_logarithm_37 : decode cX0_logarithm 37 = .ok (.getfield 9, 3) := by decide +kernel
theorem dX0_logarithm_40 : decode cX0_logarithm 40 = .ok (.iload_n 3, 1) := by decide +kernel
theorem dX0_logarithm_41 : decode cX0_logarithm 41 = .ok (.iaload, 1) := by decide +kernel
theorem dX0_logarithm_42 : decode cX0_logarithm 42 = .ok (.imul, 1) := by decide +kernel
theorem dX0_logarithm_43 : decode cX0_logarithm 43 = .ok (.ineg, 1) := by decide +kernel
theorem dX0_logarithm_44 : decode cX0_logarithm 44 = .ok (.invokestatic 78, 3) := by decide +kernel
theorem dX0_logarithm_47 : decode cX0_logarithm 47 = .ok (.iastore, 1) := by decide +kernel
theorem dX0_logarithm_48 : decode cX0_logarithm 48 = .ok (.iinc 3 1, 3) := by decide +kernel
theorem dX0_logarithm_51 : decode cX0_logarithm 51 = .ok (.goto (-32), 3) := by decide +kernel
theorem dX0_logarithm_54 : decode cX0_logarithm 54 = .ok (.return_, 1) := by decide +kernel
theorem dX0_turned_0 : decode cX0_turned 0 = .ok (.aload_n 0, 1) := by decide +kernel
theorem dX0_turned_1 : decode cX0_turned 1 = .ok (.aload_n 1, 1) := by decide +kernel
theorem dX0_turned_2 : decode cX0_turned 2 = .ok (.aload_n 0, 1) := by decide +kernel
theorem dX0_turned_3 : decode cX0_turned 3 = .ok (.getfield 42, 3) := by decide +kernel
theorem dX0_turned_6 : decode cX0_turned 6 = .ok (.invokevirtual 81, 3) := by decide +kernel
theorem dX0_turned_9 : decode cX0_turned 9 = .ok (.aload_n 0, 1) := by decide +kernel
theorem dX0_turned_10 : decode cX0_turned 10 = .ok (.getfield 45, 3) := by decide +kernel
theorem dX0_turned_13 : decode cX0_turned 13 = .ok (.iconst 1, 1) := by decide +kernel
theorem dX0_turned_14 : decode cX0_turned 14 = .ok (.invokevirtual 51, 3) := by decide +kernel
theorem dX0_turned_17 : decode cX0_turned 17 = .ok (.aload_n 2, 1) := by decide +kernel
theorem dX0_turned_18 : decode cX0_turned 18 = .ok (.getfield 61, 3) := by decide +kernel
theorem dX0_turned_21 : decode cX0_turned 21 = .ok (.iconst 0, 1) := by decide +kernel
theorem dX0_turned_22 : decode cX0_turned 22 = .ok (.iconst 0, 1) := by decide +kernel
theorem dX0_turned_23 : decode cX0_turned 23 = .ok (.iastore, 1) := by decide +kernel
theorem dX0_turned_24 : decode cX0_turned 24 = .ok (.iconst 1, 1) := by decide +kernel
theorem dX0_turned_25 : decode cX0_turned 25 = .ok (.istore_n 3, 1) := by decide +kernel
theorem dX0_turned_26 : decode cX0_turned 26 = .ok (.iload_n 3, 1) := by decide +kernel
theorem dX0_turned_27 : decode cX0_turned 27 = .ok (.bipush 10, 2) := by decide +kernel
theorem dX0_turned_29 : decode cX0_turned 29 = .ok (.if_icmp .ge 52, 3) := by decide +kernel
theorem dX0_turned_32 : decode cX0_turned 32 = .ok (.aload_n 0, 1) := by decide +kernel
theorem dX0_turned_33 : decode cX0_turned 33 = .ok (.getfield 45, 3) := by decide +kernel
theorem dX0_turned_36 : decode cX0_turned 36 = .ok (.aload_n 0, 1) := by decide +kernel
theorem dX0_turned_37 : decode cX0_turned 37 = .ok (.getfield 45, 3) := by decide +kernel
theorem dX0_turned_40 : decode cX0_turned 40 = .ok (.aload_n 0, 1) := by decide +kernel
theorem dX0_turned_41 : decode cX0_turned 41 = .ok (.getfield 42, 3) := by decide +kernel
theorem dX0_turned_44 : decode cX0_turned 44 = .ok (.invokevirtual 85, 3) := by decide +kernel
theorem dX0_turned_47 : decode cX0_turned 47 = .ok (.aload_n 2, 1) := by decide +kernel
theorem dX0_turned_48 : decode cX0_turned 48 = .ok (.getfield 61, 3) := by decide +kernel
theorem dX0_turned_51 : decode cX0_turned 51 = .ok (.iload_n 3, 1) := by decide +kernel
theorem dX0_turned_52 : decode cX0_turned 52 = .ok (.aload_n 0, 1) := by decide +kernel
theorem dX0_turned_53 : decode cX0_turned 53 = .ok (.getfield 45, 3) := by decide +kernel
theorem dX0_turned_56 : decode cX0_turned 56 = .ok (.getfield 61, 3) := by decide +kernel
theorem dX0_turned_59 : decode cX0_turned 59 = .ok (.iload_n 3, 1) := by decide +kernel
theorem dX0_turned_60 : decode cX0_turned 60 = .ok (.iconst 1, 1) := by decide +kernel
theorem dX0_turned_61 : decode cX0_turned 61 = .ok (.isub, 1) := by decide +kernel
theorem dX0_turned_62 : decode cX0_turned 62 = .ok (.iaload, 1) := by decide +kernel
theorem dX0_turned_63 : decode cX0_turned 63 = .ok (.aload_n 0, 1) := by decide +kernel
theorem dX0_turned_64 : decode cX0_turned 64 = .ok (.getfield 9, 3) := by decide +kernel
theorem dX0_turned_67 : decode cX0_turned 67 = .ok (.iload_n 3, 1) := by decide +kernel
theorem dX0_turned_68 : decode cX0_turned 68 = .ok (.iaload, 1) := by decide +kernel
theorem dX0_turned_69 : decode cX0_turned 69 = .ok (.imul, 1) := by decide +kernel
theorem dX0_turned_70 : decode cX0_turned 70 = .ok (.sipush 10007, 3) := by decide +kernel
theorem dX0_turned_73 : decode cX0_turned 73 = .ok (.irem, 1) := by decide +kernel
theorem dX0_turned_74 : decode cX0_turned 74 = .ok (.iastore, 1) := by decide +kernel
theorem dX0_turned_75 : decode cX0_turned 75 = .ok (.iinc 3 1, 3) := by decide +kernel
theorem dX0_turned_78 : decode cX0_turned 78 = .ok (.goto (-52), 3) := by decide +kernel
theorem dX0_turned_81 : decode cX0_turned 81 = .ok (.return_, 1) := by decide +kernel
theorem dX0_tBy_0 : decode cX0_tBy 0 = .ok (.aload_n 0, 1) := by decide +kernel
theorem dX0_tBy_1 : decode cX0_tBy 1 = .ok (.getfield 39, 3) := by decide +kernel
theorem dX0_tBy_4 : decode cX0_tBy 4 = .ok (.aload_n 1, 1) := by decide +kernel
theorem dX0_tBy_5 : decode cX0_tBy 5 = .ok (.invokevirtual 88, 3) := by decide +kernel
theorem dX0_tBy_8 : decode cX0_tBy 8 = .ok (.aload_n 2, 1) := by decide +kernel
theorem dX0_tBy_9 : decode cX0_tBy 9 = .ok (.aload_n 0, 1) := by decide +kernel
theorem dX0_tBy_10 : decode cX0_tBy 10 = .ok (.getfield 35, 3) := by decide +kernel
theorem dX0_tBy_13 : decode cX0_tBy 13 = .ok (.aload_n 0, 1) := by decide +kernel
theorem dX0_tBy_14 : decode cX0_tBy 14 = .ok (.getfield 39, 3) := by decide +kernel
theorem dX0_tBy_17 : decode cX0_tBy 17 = .ok (.invokevirtual 91, 3) := by decide +kernel
theorem dX0_tBy_20 : decode cX0_tBy 20 = .ok (.aload_n 2, 1) := by decide +kernel
theorem dX0_tBy_21 : decode cX0_tBy 21 = .ok (.getfield 61, 3) := by decide +kernel
theorem dX0_tBy_24 : decode cX0_tBy 24 = .ok (.bipush 9, 2) := by decide +kernel
theorem dX0_tBy_26 : decode cX0_tBy 26 = .ok (.iconst 0, 1) := by decide +kernel
theorem dX0_tBy_27 : decode cX0_tBy 27 = .ok (.iastore, 1) := by decide +kernel
theorem dX0_tBy_28 : decode cX0_tBy 28 = .ok (.return_, 1) := by decide +kernel
theorem dX0_oneByInto_0 : decode cX0_oneByInto 0 = .ok (.aload_n 0, 1) := by decide +kernel
theorem dX0_oneByInto_1 : decode cX0_oneByInto 1 = .ok (.getfield 45, 3) := by decide +kernel
theorem dX0_oneByInto_4 : decode cX0_oneByInto 4 = .ok (.aload_n 1, 1) := by decide +kernel
theorem dX0_oneByInto_5 : decode cX0_oneByInto 5 = .ok (.aload_n 2, 1) := by decide +kernel
theorem dX0_oneByInto_6 : decode cX0_oneByInto 6 = .ok (.invokevirtual 94, 3) := by decide +kernel
theorem dX0_oneByInto_9 : decode cX0_oneByInto 9 = .ok (.aload_n 3, 1) := by decide +kernel
theorem dX0_oneByInto_10 : decode cX0_oneByInto 10 = .ok (.aload_n 0, 1) := by decide +kernel
theorem dX0_oneByInto_11 : decode cX0_oneByInto 11 = .ok (.getfield 35, 3) := by decide +kernel
theorem dX0_oneByInto_14 : decode cX0_oneByInto 14 = .ok (.aload_n 0, 1) := by decide +kernel
theorem dX0_oneByInto_15 : decode cX0_oneByInto 15 = .ok (.getfield 45, 3) := by decide +kernel
theorem dX0_oneByInto_18 : decode cX0_oneByInto 18 = .ok (.invokevirtual 91, 3) := by decide +kernel
theorem dX0_oneByInto_21 : decode cX0_oneByInto 21 = .ok (.return_, 1) := by decide +kernel
theorem dX0_operated_0 : decode cX0_operated 0 = .ok (.iconst 0, 1) := by decide +kernel
theorem dX0_operated_1 : decode cX0_operated 1 = .ok (.istore 4, 2) := by decide +kernel
theorem dX0_operated_3 : decode cX0_operated 3 = .ok (.iload 4, 2) := by decide +kernel
theorem dX0_operated_5 : decode cX0_operated 5 = .ok (.bipush 10, 2) := by decide +kernel
theorem dX0_operated_7 : decode cX0_operated 7 = .ok (.if_icmp .ge 89, 3) := by decide +kernel
theorem dX0_operated_10 : decode cX0_operated 10 = .ok (.iconst 0, 1) := by decide +kernel
theorem dX0_operated_11 : decode cX0_operated 11 = .ok (.istore 5, 2) := by decide +kernel
theorem dX0_operated_13 : decode cX0_operated 13 = .ok (.iload 4, 2) := by decide +kernel
theorem dX0_operated_15 : decode cX0_operated 15 = .ok (.istore 6, 2) := by decide +kernel
theorem dX0_operated_17 : decode cX0_operated 17 = .ok (.iload 6, 2) := by decide +kernel
theorem dX0_operated_19 : decode cX0_operated 19 = .ok (.bipush 10, 2) := by decide +kernel
theorem dX0_operated_21 : decode cX0_operated 21 = .ok (.if_icmp .ge 44, 3) := by decide +kernel
theorem dX0_operated_24 : decode cX0_operated 24 = .ok (.iload 5, 2) := by decide +kernel
theorem dX0_operated_26 : decode cX0_operated 26 = .ok (.aload_n 1, 1) := by decide +kernel
theorem dX0_operated_27 : decode cX0_operated 27 = .ok (.getfield 61, 3) := by decide +kernel
theorem dX0_operated_30 : decode cX0_operated 30 = .ok (.iload 6, 2) := by decide +kernel
theorem dX0_operated_32 : decode cX0_operated 32 = .ok (.iload 4, 2) := by decide +kernel
theorem dX0_operated_34 : decode cX0_operated 34 = .ok (.isub, 1) := by decide +kernel
theorem dX0_operated_35 : decode cX0_operated 35 = .ok (.iaload, 1) := by decide +kernel
theorem dX0_operated_36 : decode cX0_operated 36 = .ok (.aload_n 2, 1) := by decide +kernel
theorem dX0_operated_37 : decode cX0_operated 37 = .ok (.getfield 61, 3) := by decide +kernel
theorem dX0_operated_40 : decode cX0_operated 40 = .ok (.iload 6, 2) := by decide +kernel
theorem dX0_operated_42 : decode cX0_operated 42 = .ok (.iaload, 1) := by decide +kernel
theorem dX0_operated_43 : decode cX0_operated 43 = .ok (.aload_n 0, 1) := by decide +kernel
theorem dX0_operated_44 : decode cX0_operated 44 = .ok (.getfield 15, 3) := by decide +kernel
theorem dX0_operated_47 : decode cX0_operated 47 = .ok (.iload 6, 2) := by decide +kernel
theorem dX0_operated_49 : decode cX0_operated 49 = .ok (.iaload, 1) := by decide +kernel
theorem dX0_operated_50 : decode cX0_operated 50 = .ok (.imul, 1) := by decide +kernel
theorem dX0_operated_51 : decode cX0_operated 51 = .ok (.sipush 10007, 3) := by decide +kernel
theorem dX0_operated_54 : decode cX0_operated 54 = .ok (.irem, 1) := by decide +kernel
theorem dX0_operated_55 : decode cX0_operated 55 = .ok (.imul, 1) := by decide +kernel
theorem dX0_operated_56 : decode cX0_operated 56 = .ok (.iadd, 1) := by decide +kernel
theorem dX0_operated_57 : decode cX0_operated 57 = .ok (.istore 5, 2) := by decide +kernel
theorem dX0_operated_59 : decode cX0_operated 59 = .ok (.iinc 6 1, 3) := by decide +kernel
theorem dX0_operated_62 : decode cX0_operated 62 = .ok (.goto (-45), 3) := by decide +kernel
theorem dX0_operated_65 : decode cX0_operated 65 = .ok (.aload_n 3, 1) := by decide +kernel
theorem dX0_operated_66 : decode cX0_operated 66 = .ok (.getfield 61, 3) := by decide +kernel
theorem dX0_operated_69 : decode cX0_operated 69 = .ok (.iload 4, 2) := by decide +kernel
theorem dX0_operated_71 : decode cX0_operated 71 = .ok (.iload 5, 2) := by decide +kernel
theorem dX0_operated_73 : decode cX0_operated 73 = .ok (.sipush 10007, 3) := by decide +kernel
theorem dX0_operated_76 : decode cX0_operated 76 = .ok (.irem, 1) := by decide +kernel
theorem dX0_operated_77 : decode cX0_operated 77 = .ok (.aload_n 0, 1) := by decide +kernel
theorem dX0_operated_78 : decode cX0_operated 78 = .ok (.getfield 18, 3) := by decide +kernel
theorem dX0_operated_81 : decode cX0_operated 81 = .ok (.iload 4, 2) := by decide +kernel
theorem dX0_operated_83 : decode cX0_operated 83 = .ok (.iaload, 1) := by decide +kernel
theorem dX0_operated_84 : decode cX0_operated 84 = .ok (.imul, 1) := by decide +kernel
theorem dX0_operated_85 : decode cX0_operated 85 = .ok (.sipush 10007, 3) := by decide +kernel
theorem dX0_operated_88 : decode cX0_operated 88 = .ok (.irem, 1) := by decide +kernel
theorem dX0_operated_89 : decode cX0_operated 89 = .ok (.iastore, 1) := by decide +kernel
theorem dX0_operated_90 : decode cX0_operated 90 = .ok (.iinc 4 1, 3) := by decide +kernel
theorem dX0_operated_93 : decode cX0_operated 93 = .ok (.goto (-90), 3) := by decide +kernel
theorem dX0_operated_96 : decode cX0_operated 96 = .ok (.return_, 1) := by decide +kernel
theorem dX0_build_0 : decode cX0_build 0 = .ok (.aload_n 0, 1) := by decide +kernel
theorem dX0_build_1 : decode cX0_build 1 = .ok (.aload_n 3, 1) := by decide +kernel
theorem dX0_build_2 : decode cX0_build 2 = .ok (.aload_n 0, 1) := by decide +kernel
theorem dX0_build_3 : decode cX0_build 3 = .ok (.getfield 48, 3) := by decide +kernel
theorem dX0_build_6 : decode cX0_build 6 = .ok (.invokevirtual 97, 3) := by decide +kernel
theorem dX0_build_9 : decode cX0_build 9 = .ok (.aload_n 0, 1) := by decide +kernel
theorem dX0_build_10 : decode cX0_build 10 = .ok (.aload_n 2, 1) := by decide +kernel
theorem dX0_build_11 : decode cX0_build 11 = .ok (.aload_n 0, 1) := by decide +kernel
theorem dX0_build_12 : decode cX0_build 12 = .ok (.getfield 48, 3) := by decide +kernel
theorem dX0_build_15 : decode cX0_build 15 = .ok (.aload_n 0, 1) := by decide +kernel
theorem dX0_build_16 : decode cX0_build 16 = .ok (.getfield 42, 3) := by decide +kernel
theorem dX0_build_19 : decode cX0_build 19 = .ok (.invokevirtual 100, 3) := by decide +kernel
theorem dX0_build_22 : decode cX0_build 22 = .ok (.iconst 0, 1) := by decide +kernel
theorem dX0_build_23 : decode cX0_build 23 = .ok (.istore 4, 2) := by decide +kernel
theorem dX0_build_25 : decode cX0_build 25 = .ok (.iload 4, 2) := by decide +kernel
theorem dX0_build_27 : decode cX0_build 27 = .ok (.bipush 10, 2) := by decide +kernel
theorem dX0_build_29 : decode cX0_build 29 = .ok (.if_icmp .ge 91, 3) := by decide +kernel
theorem dX0_build_32 : decode cX0_build 32 = .ok (.iconst 0, 1) := by decide +kernel
theorem dX0_build_33 : decode cX0_build 33 = .ok (.istore 5, 2) := by decide +kernel
theorem dX0_build_35 : decode cX0_build 35 = .ok (.iload 5, 2) := by decide +kernel
theorem dX0_build_37 : decode cX0_build 37 = .ok (.bipush 10, 2) := by decide +kernel
theorem dX0_build_39 : decode cX0_build 39 = .ok (.if_icmp .ge 60, 3) := by decide +kernel
theorem dX0_build_42 : decode cX0_build 42 = .ok (.aload_n 0, 1) := by decide +kernel
theorem dX0_build_43 : decode cX0_build 43 = .ok (.getfield 42, 3) := by decide +kernel
theorem dX0_build_46 : decode cX0_build 46 = .ok (.getfield 61, 3) := by decide +kernel
theorem dX0_build_49 : decode cX0_build 49 = .ok (.iload 5, 2) := by decide +kernel
theorem dX0_build_51 : decode cX0_build 51 = .ok (.iaload, 1) := by decide +kernel
theorem dX0_build_52 : decode cX0_build 52 = .ok (.aload_n 0, 1) := by decide +kernel
theorem dX0_build_53 : decode cX0_build 53 = .ok (.getfield 15, 3) := by decide +kernel
theorem dX0_build_56 : decode cX0_build 56 = .ok (.iload 5, 2) := by decide +kernel
theorem dX0_build_58 : decode cX0_build 58 = .ok (.iaload, 1) := by decide +kernel
theorem dX0_build_59 : decode cX0_build 59 = .ok (.imul, 1) := by decide +kernel
theorem dX0_build_60 : decode cX0_build 60 = .ok (.sipush 10007, 3) := by decide +kernel
theorem dX0_build_63 : decode cX0_build 63 = .ok (.irem, 1) := by decide +kernel
theorem dX0_build_64 : decode cX0_build 64 = .ok (.istore 6, 2) := by decide +kernel
theorem dX0_build_66 : decode cX0_build 66 = .ok (.aload_n 1, 1) := by decide +kernel
theorem dX0_build_67 : decode cX0_build 67 = .ok (.getfield 104, 3) := by decide +kernel
theorem dX0_build_70 : decode cX0_build 70 = .ok (.iload 5, 2) := by decide +kernel
theorem dX0_build_72 : decode cX0_build 72 = .ok (.aaload, 1) := by decide +kernel
theorem dX0_build_73 : decode cX0_build 73 = .ok (.getfield 61, 3) := by decide +kernel
theorem dX0_build_76 : decode cX0_build 76 = .ok (.iload 4, 2) := by decide +kernel
theorem dX0_build_78 : decode cX0_build 78 = .ok (.iload 6, 2) := by decide +kernel
theorem dX0_build_80 : decode cX0_build 80 = .ok (.aload_n 0, 1) := by decide +kernel
theorem dX0_build_81 : decode cX0_build 81 = .ok (.getfield 18, 3) := by decide +kernel
theorem dX0_build_84 : decode cX0_build 84 = .ok (.iload 4, 2) := by decide +kernel
theorem dX0_build_86 : decode cX0_build 86 = .ok (.iaload, 1) := by decide +kernel
theorem dX0_build_87 : decode cX0_build 87 = .ok (.imul, 1) := by decide +kernel
theorem dX0_build_88 : decode cX0_build 88 = .ok (.sipush 10007, 3) := by decide +kernel
theorem dX0_build_91 : decode cX0_build 91 = .ok (.irem, 1) := by decide +kernel
theorem dX0_build_92 : decode cX0_build 92 = .ok (.iastore, 1) := by decide +kernel
theorem dX0_build_93 : decode cX0_build 93 = .ok (.iinc 5 1, 3) := by decide +kernel
theorem dX0_build_96 : decode cX0_build 96 = .ok (.goto (-61), 3) := by decide +kernel
theorem dX0_build_99 : decode cX0_build 99 = .ok (.aload_n 0, 1) := by decide +kernel
theorem dX0_build_100 : decode cX0_build 100 = .ok (.getfield 42, 3) := by decide +kernel
theorem dX0_build_103 : decode cX0_build 103 = .ok (.aload_n 0, 1) := by decide +kernel
theorem dX0_build_104 : decode cX0_build 104 = .ok (.getfield 42, 3) := by decide +kernel
theorem dX0_build_107 : decode cX0_build 107 = .ok (.aload_n 0, 1) := by decide +kernel
theorem dX0_build_108 : decode cX0_build 108 = .ok (.getfield 48, 3) := by decide +kernel
theorem dX0_build_111 : decode cX0_build 111 = .ok (.invokevirtual 85, 3) := by decide +kernel
theorem dX0_build_114 : decode cX0_build 114 = .ok (.iinc 4 1, 3) := by decide +kernel
theorem dX0_build_117 : decode cX0_build 117 = .ok (.goto (-92), 3) := by decide +kernel
theorem dX0_build_120 : decode cX0_build 120 = .ok (.aload_n 1, 1) := by decide +kernel
theorem dX0_build_121 : decode cX0_build 121 = .ok (.iconst 1, 1) := by decide +kernel
theorem dX0_build_122 : decode cX0_build 122 = .ok (.putfield 110, 3) := by decide +kernel
theorem dX0_build_125 : decode cX0_build 125 = .ok (.return_, 1) := by decide +kernel
theorem dX0_firstNotLowered_0 : decode cX0_firstNotLowered 0 = .ok (.iconst 1, 1) := by decide +kernel
theorem dX0_firstNotLowered_1 : decode cX0_firstNotLowered 1 = .ok (.istore_n 3, 1) := by decide +kernel
theorem dX0_firstNotLowered_2 : decode cX0_firstNotLowered 2 = .ok (.iload_n 3, 1) := by decide +kernel
theorem dX0_firstNotLowered_3 : decode cX0_firstNotLowered 3 = .ok (.bipush 10, 2) := by decide +kernel
theorem dX0_firstNotLowered_5 : decode cX0_firstNotLowered 5 = .ok (.if_icmp .ge 45, 3) := by decide +kernel
theorem dX0_firstNotLowered_8 : decode cX0_firstNotLowered 8 = .ok (.aload_n 0, 1) := by decide +kernel
theorem dX0_firstNotLowered_9 : decode cX0_firstNotLowered 9 = .ok (.aload_n 2, 1) := by decide +kernel
theorem dX0_firstNotLowered_10 : decode cX0_firstNotLowered 10 = .ok (.aload_n 1, 1) := by decide +kernel
theorem dX0_firstNotLowered_11 : decode cX0_firstNotLowered 11 = .ok (.getfield 104, 3) := by decide +kernel
theorem dX0_firstNotLowered_14 : decode cX0_firstNotLowered 14 = .ok (.iload_n 3, 1) := by decide +kernel
theorem dX0_firstNotLowered_15 : decode cX0_firstNotLowered 15 = .ok (.aaload, 1) := by decide +kernel
theorem dX0_firstNotLowered_16 : decode cX0_firstNotLowered 16 = .ok (.aload_n 0, 1) := by decide +kernel
theorem dX0_firstNotLowered_17 : decode cX0_firstNotLowered 17 = .ok (.getfield 45, 3) := by decide +kernel
theorem dX0_firstNotLowered_20 : decode cX0_firstNotLowered 20 = .ok (.invokevirtual 114, 3) := by decide +kernel
theorem dX0_firstNotLowered_23 : decode cX0_firstNotLowered 23 = .ok (.aload_n 0, 1) := by decide +kernel
theorem dX0_firstNotLowered_24 : decode cX0_firstNotLowered 24 = .ok (.getfield 45, 3) := by decide +kernel
theorem dX0_firstNotLowered_27 : decode cX0_firstNotLowered 27 = .ok (.iload_n 3, 1) := by decide +kernel
theorem dX0_firstNotLowered_28 : decode cX0_firstNotLowered 28 = .ok (.aload_n 1, 1) := by decide +kernel
theorem dX0_firstNotLowered_29 : decode cX0_firstNotLowered 29 = .ok (.getfield 104, 3) := by decide +kernel
theorem dX0_firstNotLowered_32 : decode cX0_firstNotLowered 32 = .ok (.iload_n 3, 1) := by decide +kernel
theorem dX0_firstNotLowered_33 : decode cX0_firstNotLowered 33 = .ok (.iconst 1, 1) := by decide +kernel
theorem dX0_firstNotLowered_34 : decode cX0_firstNotLowered 34 = .ok (.isub, 1) := by decide +kernel
theorem dX0_firstNotLowered_35 : decode cX0_firstNotLowered 35 = .ok (.aaload, 1) := by decide +kernel
theorem dX0_firstNotLowered_36 : decode cX0_firstNotLowered 36 = .ok (.invokestatic 117, 3) := by decide +kernel
theorem dX0_firstNotLowered_39 : decode cX0_firstNotLowered 39 = .ok (.ifCond .ne 5, 3) := by decide +kernel
theorem dX0_firstNotLowered_42 : decode cX0_firstNotLowered 42 = .ok (.iload_n 3, 1) := by decide +kernel
theorem dX0_firstNotLowered_43 : decode cX0_firstNotLowered 43 = .ok (.ireturn, 1) := by decide +kernel
theorem dX0_firstNotLowered_44 : decode cX0_firstNotLowered 44 = .ok (.iinc 3 1, 3) := by decide +kernel
theorem dX0_firstNotLowered_47 : decode cX0_firstNotLowered 47 = .ok (.goto (-45), 3) := by decide +kernel
theorem dX0_firstNotLowered_50 : decode cX0_firstNotLowered 50 = .ok (.iconst (-1), 1) := by decide +kernel
theorem dX0_firstNotLowered_51 : decode cX0_firstNotLowered 51 = .ok (.ireturn, 1) := by decide +kernel
theorem dX0_isTimes_0 : decode cX0_isTimes 0 = .ok (.iconst 0, 1) := by decide +kernel
theorem dX0_isTimes_1 : decode cX0_isTimes 1 = .ok (.istore_n 3, 1) := by decide +kernel
theorem dX0_isTimes_2 : decode cX0_isTimes 2 = .ok (.iload_n 3, 1) := by decide +kernel
theorem dX0_isTimes_3 : decode cX0_isTimes 3 = .ok (.bipush 10, 2) := by decide +kernel
theorem dX0_isTimes_5 : decode cX0_isTimes 5 = .ok (.if_icmp .ge 32, 3) := by decide +kernel
theorem dX0_isTimes_8 : decode cX0_isTimes 8 = .ok (.aload_n 0, 1) := by decide +kernel
theorem dX0_isTimes_9 : decode cX0_isTimes 9 = .ok (.getfield 61, 3) := by decide +kernel
theorem dX0_isTimes_12 : decode cX0_isTimes 12 = .ok (.iload_n 3, 1) := by decide +kernel
theorem dX0_isTimes_13 : decode cX0_isTimes 13 = .ok (.iaload, 1) := by decide +kernel
theorem dX0_isTimes_14 : decode cX0_isTimes 14 = .ok (.iload_n 1, 1) := by decide +kernel
theorem dX0_isTimes_15 : decode cX0_isTimes 15 = .ok (.aload_n 2, 1) := by decide +kernel
theorem dX0_isTimes_16 : decode cX0_isTimes 16 = .ok (.getfield 61, 3) := by decide +kernel
theorem dX0_isTimes_19 : decode cX0_isTimes 19 = .ok (.iload_n 3, 1) := by decide +kernel
theorem dX0_isTimes_20 : decode cX0_isTimes 20 = .ok (.iaload, 1) := by decide +kernel
theorem dX0_isTimes_21 : decode cX0_isTimes 21 = .ok (.imul, 1) := by decide +kernel
theorem dX0_isTimes_22 : decode cX0_isTimes 22 = .ok (.sipush 10007, 3) := by decide +kernel
theorem dX0_isTimes_25 : decode cX0_isTimes 25 = .ok (.irem, 1) := by decide +kernel
theorem dX0_isTimes_26 : decode cX0_isTimes 26 = .ok (.if_icmp .eq 5, 3) := by decide +kernel
theorem dX0_isTimes_29 : decode cX0_isTimes 29 = .ok (.iconst 0, 1) := by decide +kernel
theorem dX0_isTimes_30 : decode cX0_isTimes 30 = .ok (.ireturn, 1) := by decide +kernel
theorem dX0_isTimes_31 : decode cX0_isTimes 31 = .ok (.iinc 3 1, 3) := by decide +kernel
theorem dX0_isTimes_34 : decode cX0_isTimes 34 = .ok (.goto (-32), 3) := by decide +kernel
theorem dX0_isTimes_37 : decode cX0_isTimes 37 = .ok (.iconst 1, 1) := by decide +kernel
theorem dX0_isTimes_38 : decode cX0_isTimes 38 = .ok (.ireturn, 1) := by decide +kernel
theorem dX0_toldIn_0 : decode cX0_toldIn 0 = .ok (.aload_n 0, 1) := by decide +kernel
theorem dX0_toldIn_1 : decode cX0_toldIn 1 = .ok (.getfield 45, 3) := by decide +kernel
theorem dX0_toldIn_4 : decode cX0_toldIn 4 = .ok (.aload_n 1, 1) := by decide +kernel
theorem dX0_toldIn_5 : decode cX0_toldIn 5 = .ok (.invokevirtual 121, 3) := by decide +kernel
theorem dX0_toldIn_8 : decode cX0_toldIn 8 = .ok (.iconst 0, 1) := by decide +kernel
theorem dX0_toldIn_9 : decode cX0_toldIn 9 = .ok (.istore 4, 2) := by decide +kernel
theorem dX0_toldIn_11 : decode cX0_toldIn 11 = .ok (.bipush 9, 2) := by decide +kernel
theorem dX0_toldIn_13 : decode cX0_toldIn 13 = .ok (.istore 5, 2) := by decide +kernel
theorem dX0_toldIn_15 : decode cX0_toldIn 15 = .ok (.iload 5, 2) := by decide +kernel
theorem dX0_toldIn_17 : decode cX0_toldIn 17 = .ok (.iload_n 3, 1) := by decide +kernel
theorem dX0_toldIn_18 : decode cX0_toldIn 18 = .ok (.if_icmp .lt 97, 3) := by decide +kernel
theorem dX0_toldIn_21 : decode cX0_toldIn 21 = .ok (.aload_n 2, 1) := by decide +kernel
theorem dX0_toldIn_22 : decode cX0_toldIn 22 = .ok (.getfield 104, 3) := by decide +kernel
theorem dX0_toldIn_25 : decode cX0_toldIn 25 = .ok (.iload 5, 2) := by decide +kernel
theorem dX0_toldIn_27 : decode cX0_toldIn 27 = .ok (.aaload, 1) := by decide +kernel
theorem dX0_toldIn_28 : decode cX0_toldIn 28 = .ok (.astore 6, 2) := by decide +kernel
theorem dX0_toldIn_30 : decode cX0_toldIn 30 = .ok (.aload_n 0, 1) := by decide +kernel
theorem dX0_toldIn_31 : decode cX0_toldIn 31 = .ok (.getfield 45, 3) := by decide +kernel
theorem dX0_toldIn_34 : decode cX0_toldIn 34 = .ok (.getfield 61, 3) := by decide +kernel
theorem dX0_toldIn_37 : decode cX0_toldIn 37 = .ok (.iload 5, 2) := by decide +kernel
theorem dX0_toldIn_39 : decode cX0_toldIn 39 = .ok (.iaload, 1) := by decide +kernel
theorem dX0_toldIn_40 : decode cX0_toldIn 40 = .ok (.aload 6, 2) := by decide +kernel
theorem dX0_toldIn_42 : decode cX0_toldIn 42 = .ok (.getfield 61, 3) := by decide +kernel
theorem dX0_toldIn_45 : decode cX0_toldIn 45 = .ok (.iload 5, 2) := by decide +kernel
theorem dX0_toldIn_47 : decode cX0_toldIn 47 = .ok (.iaload, 1) := by decide +kernel
theorem dX0_toldIn_48 : decode cX0_toldIn 48 = .ok (.invokestatic 55, 3) := by decide +kernel
theorem dX0_toldIn_51 : decode cX0_toldIn 51 = .ok (.imul, 1) := by decide +kernel
theorem dX0_toldIn_52 : decode cX0_toldIn 52 = .ok (.sipush 10007, 3) := by decide +kernel
theorem dX0_toldIn_55 : decode cX0_toldIn 55 = .ok (.irem, 1) := by decide +kernel
theorem dX0_toldIn_56 : decode cX0_toldIn 56 = .ok (.istore 4, 2) := by decide +kernel
theorem dX0_toldIn_58 : decode cX0_toldIn 58 = .ok (.iconst 0, 1) := by decide +kernel
theorem dX0_toldIn_59 : decode cX0_toldIn 59 = .ok (.istore 7, 2) := by decide +kernel
theorem dX0_toldIn_61 : decode cX0_toldIn 61 = .ok (.iload 7, 2) := by decide +kernel
theorem dX0_toldIn_63 : decode cX0_toldIn 63 = .ok (.iload 5, 2) := by decide +kernel
theorem dX0_toldIn_65 : decode cX0_toldIn 65 = .ok (.if_icmp .gt 44, 3) := by decide +kernel
theorem dX0_toldIn_68 : decode cX0_toldIn 68 = .ok (.aload_n 0, 1) := by decide +kernel
theorem dX0_toldIn_69 : decode cX0_toldIn 69 = .ok (.getfield 45, 3) := by decide +kernel
theorem dX0_toldIn_72 : decode cX0_toldIn 72 = .ok (.getfield 61, 3) := by decide +kernel
theorem dX0_toldIn_75 : decode cX0_toldIn 75 = .ok (.iload 7, 2) := by decide +kernel
theorem dX0_toldIn_77 : decode cX0_toldIn 77 = .ok (.aload_n 0, 1) := by decide +kernel
theorem dX0_toldIn_78 : decode cX0_toldIn 78 = .ok (.getfield 45, 3) := by decide +kernel
theorem dX0_toldIn_81 : decode cX0_toldIn 81 = .ok (.getfield 61, 3) := by decide +kernel
theorem dX0_toldIn_84 : decode cX0_toldIn 84 = .ok (.iload 7, 2) := by decide +kernel
theorem dX0_toldIn_86 : decode cX0_toldIn 86 = .ok (.iaload, 1) := by decide +kernel
theorem dX0_toldIn_87 : decode cX0_toldIn 87 = .ok (.iload 4, 2) := by decide +kernel
theorem dX0_toldIn_89 : decode cX0_toldIn 89 = .ok (.aload 6, 2) := by decide +kernel
theorem dX0_toldIn_91 : decode cX0_toldIn 91 = .ok (.getfield 61, 3) := by decide +kernel
theorem dX0_toldIn_94 : decode cX0_toldIn 94 = .ok (.iload 7, 2) := by decide +kernel
theorem dX0_toldIn_96 : decode cX0_toldIn 96 = .ok (.iaload, 1) := by decide +kernel
theorem dX0_toldIn_97 : decode cX0_toldIn 97 = .ok (.imul, 1) := by decide +kernel
theorem dX0_toldIn_98 : decode cX0_toldIn 98 = .ok (.isub, 1) := by decide +kernel
theorem dX0_toldIn_99 : decode cX0_toldIn 99 = .ok (.invokestatic 78, 3) := by decide +kernel
theorem dX0_toldIn_102 : decode cX0_toldIn 102 = .ok (.iastore, 1) := by decide +kernel
theorem dX0_toldIn_103 : decode cX0_toldIn 103 = .ok (.iinc 7 1, 3) := by decide +kernel
theorem dX0_toldIn_106 : decode cX0_toldIn 106 = .ok (.goto (-45), 3) := by decide +kernel
theorem dX0_toldIn_109 : decode cX0_toldIn 109 = .ok (.iinc 5 (-1), 3) := by decide +kernel
theorem dX0_toldIn_112 : decode cX0_toldIn 112 = .ok (.goto (-97), 3) := by decide +kernel
theorem dX0_toldIn_115 : decode cX0_toldIn 115 = .ok (.iload 4, 2) := by decide +kernel
theorem dX0_toldIn_117 : decode cX0_toldIn 117 = .ok (.ireturn, 1) := by decide +kernel
theorem dX0_binomialUpTo_0 : decode cX0_binomialUpTo 0 = .ok (.iconst 0, 1) := by decide +kernel
theorem dX0_binomialUpTo_1 : decode cX0_binomialUpTo 1 = .ok (.istore_n 2, 1) := by decide +kernel
theorem dX0_binomialUpTo_2 : decode cX0_binomialUpTo 2 = .ok (.iload_n 2, 1) := by decide +kernel
theorem dX0_binomialUpTo_3 : decode cX0_binomialUpTo 3 = .ok (.bipush 10, 2) := by decide +kernel
theorem dX0_binomialUpTo_5 : decode cX0_binomialUpTo 5 = .ok (.if_icmp .ge 41, 3) := by decide +kernel
theorem dX0_binomialUpTo_8 : decode cX0_binomialUpTo 8 = .ok (.iconst 0, 1) := by decide +kernel
theorem dX0_binomialUpTo_9 : decode cX0_binomialUpTo 9 = .ok (.istore_n 3, 1) := by decide +kernel
theorem dX0_binomialUpTo_10 : decode cX0_binomialUpTo 10 = .ok (.iload_n 3, 1) := by decide +kernel
theorem dX0_binomialUpTo_11 : decode cX0_binomialUpTo 11 = .ok (.bipush 19, 2) := by decide +kernel
theorem dX0_binomialUpTo_13 : decode cX0_binomialUpTo 13 = .ok (.if_icmp .ge 27, 3) := by decide +kernel
theorem dX0_binomialUpTo_16 : decode cX0_binomialUpTo 16 = .ok (.aload_n 0, 1) := by decide +kernel
theorem dX0_binomialUpTo_17 : decode cX0_binomialUpTo 17 = .ok (.getfield 26, 3) := by decide +kernel
theorem dX0_binomialUpTo_20 : decode cX0_binomialUpTo 20 = .ok (.iload_n 2, 1) := by decide +kernel
theorem dX0_binomialUpTo_21 : decode cX0_binomialUpTo 21 = .ok (.aaload, 1) := by decide +kernel
theorem dX0_binomialUpTo_22 : decode cX0_binomialUpTo 22 = .ok (.iload_n 3, 1) := by decide +kernel
theorem dX0_binomialUpTo_23 : decode cX0_binomialUpTo 23 = .ok (.aload_n 1, 1) := by decide +kernel
theorem dX0_binomialUpTo_24 : decode cX0_binomialUpTo 24 = .ok (.getfield 104, 3) := by decide +kernel
theorem dX0_binomialUpTo_27 : decode cX0_binomialUpTo 27 = .ok (.iload_n 2, 1) := by decide +kernel
theorem dX0_binomialUpTo_28 : decode cX0_binomialUpTo 28 = .ok (.aaload, 1) := by decide +kernel
theorem dX0_binomialUpTo_29 : decode cX0_binomialUpTo 29 = .ok (.iload_n 3, 1) := by decide +kernel
theorem dX0_binomialUpTo_30 : decode cX0_binomialUpTo 30 = .ok (.invokevirtual 124, 3) := by decide +kernel
theorem dX0_binomialUpTo_33 : decode cX0_binomialUpTo 33 = .ok (.iastore, 1) := by decide +kernel
theorem dX0_binomialUpTo_34 : decode cX0_binomialUpTo 34 = .ok (.iinc 3 1, 3) := by decide +kernel
theorem dX0_binomialUpTo_37 : decode cX0_binomialUpTo 37 = .ok (.goto (-27), 3) := by decide +kernel
theorem dX0_binomialUpTo_40 : decode cX0_binomialUpTo 40 = .ok (.iinc 2 1, 3) := by decide +kernel
theorem dX0_binomialUpTo_43 : decode cX0_binomialUpTo 43 = .ok (.goto (-41), 3) := by decide +kernel
theorem dX0_binomialUpTo_46 : decode cX0_binomialUpTo 46 = .ok (.iconst (-1), 1) := by decide +kernel
theorem dX0_binomialUpTo_47 : decode cX0_binomialUpTo 47 = .ok (.istore_n 2, 1) := by decide +kernel
theorem dX0_binomialUpTo_48 : decode cX0_binomialUpTo 48 = .ok (.iconst 0, 1) := by decide +kernel
theorem dX0_binomialUpTo_49 : decode cX0_binomialUpTo 49 = .ok (.istore_n 3, 1) := by decide +kernel
theorem dX0_binomialUpTo_50 : decode cX0_binomialUpTo 50 = .ok (.iload_n 3, 1) := by decide +kernel
theorem dX0_binomialUpTo_51 : decode cX0_binomialUpTo 51 = .ok (.bipush 10, 2) := by decide +kernel
theorem dX0_binomialUpTo_53 : decode cX0_binomialUpTo 53 = .ok (.if_icmp .ge 19, 3) := by decide +kernel
theorem dX0_binomialUpTo_56 : decode cX0_binomialUpTo 56 = .ok (.aload_n 0, 1) := by decide +kernel
theorem dX0_binomialUpTo_57 : decode cX0_binomialUpTo 57 = .ok (.iload_n 3, 1) := by decide +kernel
theorem dX0_binomialUpTo_58 : decode cX0_binomialUpTo 58 = .ok (.invokevirtual 127, 3) := by decide +kernel
theorem dX0_binomialUpTo_61 : decode cX0_binomialUpTo 61 = .ok (.ifCond .eq 11, 3) := by decide +kernel
theorem dX0_binomialUpTo_64 : decode cX0_binomialUpTo 64 = .ok (.iload_n 3, 1) := by decide +kernel
theorem dX0_binomialUpTo_65 : decode cX0_binomialUpTo 65 = .ok (.istore_n 2, 1) := by decide +kernel
theorem dX0_binomialUpTo_66 : decode cX0_binomialUpTo 66 = .ok (.iinc 3 1, 3) := by decide +kernel
theorem dX0_binomialUpTo_69 : decode cX0_binomialUpTo 69 = .ok (.goto (-19), 3) := by decide +kernel
theorem dX0_binomialUpTo_72 : decode cX0_binomialUpTo 72 = .ok (.iload_n 2, 1) := by decide +kernel
theorem dX0_binomialUpTo_73 : decode cX0_binomialUpTo 73 = .ok (.ireturn, 1) := by decide +kernel
theorem dX0_isBinomialAt_0 : decode cX0_isBinomialAt 0 = .ok (.iconst 0, 1) := by decide +kernel
theorem dX0_isBinomialAt_1 : decode cX0_isBinomialAt 1 = .ok (.istore_n 2, 1) := by decide +kernel
theorem dX0_isBinomialAt_2 : decode cX0_isBinomialAt 2 = .ok (.iload_n 2, 1) := by decide +kernel
theorem dX0_isBinomialAt_3 : decode cX0_isBinomialAt 3 = .ok (.iload_n 1, 1) := by decide +kernel
theorem dX0_isBinomialAt_4 : decode cX0_isBinomialAt 4 = .ok (.if_icmp .gt 101, 3) := by decide +kernel
theorem dX0_isBinomialAt_7 : decode cX0_isBinomialAt 7 = .ok (.iconst 0, 1) := by decide +kernel
theorem dX0_isBinomialAt_8 : decode cX0_isBinomialAt 8 = .ok (.istore_n 3, 1) := by decide +kernel
theorem dX0_isBinomialAt_9 : decode cX0_isBinomialAt 9 = .ok (.iload_n 3, 1) := by decide +kernel
theorem dX0_isBinomialAt_10 : decode cX0_isBinomialAt 10 = .ok (.iload_n 1, 1) := by decide +kernel
theorem dX0_isBinomialAt_11 : decode cX0_isBinomialAt 11 = .ok (.if_icmp .gt 88, 3) := by decide +kernel
theorem dX0_isBinomialAt_14 : decode cX0_isBinomialAt 14 = .ok (.iconst 0, 1) := by decide +kernel
theorem dX0_isBinomialAt_15 : decode cX0_isBinomialAt 15 = .ok (.istore 4, 2) := by decide +kernel
theorem dX0_isBinomialAt_17 : decode cX0_isBinomialAt 17 = .ok (.iconst 0, 1) := by decide +kernel
theorem dX0_isBinomialAt_18 : decode cX0_isBinomialAt 18 = .ok (.istore 5, 2) := by decide +kernel
theorem dX0_isBinomialAt_20 : decode cX0_isBinomialAt 20 = .ok (.iload 5, 2) := by decide +kernel
theorem dX0_isBinomialAt_22 : decode cX0_isBinomialAt 22 = .ok (.iload_n 1, 1) := by decide +kernel
theorem dX0_isBinomialAt_23 : decode cX0_isBinomialAt 23 = .ok (.if_icmp .gt 49, 3) := by decide +kernel
theorem dX0_isBinomialAt_26 : decode cX0_isBinomialAt 26 = .ok (.iload 4, 2) := by decide +kernel
theorem dX0_isBinomialAt_28 : decode cX0_isBinomialAt 28 = .ok (.aload_n 0, 1) := by decide +kernel
theorem dX0_isBinomialAt_29 : decode cX0_isBinomialAt 29 = .ok (.getfield 23, 3) := by decide +kernel
theorem dX0_isBinomialAt_32 : decode cX0_isBinomialAt 32 = .ok (.iload_n 1, 1) := by decide +kernel
theorem dX0_isBinomialAt_33 : decode cX0_isBinomialAt 33 = .ok (.aaload, 1) := by decide +kernel
theorem dX0_isBinomialAt_34 : decode cX0_isBinomialAt 34 = .ok (.iload 5, 2) := by decide +kernel
theorem dX0_isBinomialAt_36 : decode cX0_isBinomialAt 36 = .ok (.iaload, 1) := by decide +kernel
theorem dX0_isBinomialAt_37 : decode cX0_isBinomialAt 37 = .ok (.aload_n 0, 1) := by decide +kernel
theorem dX0_isBinomialAt_38 : decode cX0_isBinomialAt 38 = .ok (.getfield 26, 3) := by decide +kernel
theorem dX0_isBinomialAt_41 : decode cX0_isBinomialAt 41 = .ok (.iload 5, 2) := by decide +kernel
theorem dX0_isBinomialAt_43 : decode cX0_isBinomialAt 43 = .ok (.aaload, 1) := by decide +kernel
theorem dX0_isBinomialAt_44 : decode cX0_isBinomialAt 44 = .ok (.iload_n 2, 1) := by decide +kernel
theorem dX0_isBinomialAt_45 : decode cX0_isBinomialAt 45 = .ok (.iaload, 1) := by decide +kernel
theorem dX0_isBinomialAt_46 : decode cX0_isBinomialAt 46 = .ok (.imul, 1) := by decide +kernel
theorem dX0_isBinomialAt_47 : decode cX0_isBinomialAt 47 = .ok (.sipush 10007, 3) := by decide +kernel
theorem dX0_isBinomialAt_50 : decode cX0_isBinomialAt 50 = .ok (.irem, 1) := by decide +kernel
theorem dX0_isBinomialAt_51 : decode cX0_isBinomialAt 51 = .ok (.aload_n 0, 1) := by decide +kernel
theorem dX0_isBinomialAt_52 : decode cX0_isBinomialAt 52 = .ok (.getfield 26, 3) := by decide +kernel
theorem dX0_isBinomialAt_55 : decode cX0_isBinomialAt 55 = .ok (.iload_n 1, 1) := by decide +kernel
theorem dX0_isBinomialAt_56 : decode cX0_isBinomialAt 56 = .ok (.iload 5, 2) := by decide +kernel
theorem dX0_isBinomialAt_58 : decode cX0_isBinomialAt 58 = .ok (.isub, 1) := by decide +kernel
theorem dX0_isBinomialAt_59 : decode cX0_isBinomialAt 59 = .ok (.aaload, 1) := by decide +kernel
theorem dX0_isBinomialAt_60 : decode cX0_isBinomialAt 60 = .ok (.iload_n 3, 1) := by decide +kernel
theorem dX0_isBinomialAt_61 : decode cX0_isBinomialAt 61 = .ok (.iaload, 1) := by decide +kernel
theorem dX0_isBinomialAt_62 : decode cX0_isBinomialAt 62 = .ok (.imul, 1) := by decide +kernel
theorem dX0_isBinomialAt_63 : decode cX0_isBinomialAt 63 = .ok (.iadd, 1) := by decide +kernel
theorem dX0_isBinomialAt_64 : decode cX0_isBinomialAt 64 = .ok (.istore 4, 2) := by decide +kernel
theorem dX0_isBinomialAt_66 : decode cX0_isBinomialAt 66 = .ok (.iinc 5 1, 3) := by decide +kernel
theorem dX0_isBinomialAt_69 : decode cX0_isBinomialAt 69 = .ok (.goto (-49), 3) := by decide +kernel
theorem dX0_isBinomialAt_72 : decode cX0_isBinomialAt 72 = .ok (.iload 4, 2) := by decide +kernel
theorem dX0_isBinomialAt_74 : decode cX0_isBinomialAt 74 = .ok (.sipush 10007, 3) := by decide +kernel
theorem dX0_isBinomialAt_77 : decode cX0_isBinomialAt 77 = .ok (.irem, 1) := by decide +kernel
theorem dX0_isBinomialAt_78 : decode cX0_isBinomialAt 78 = .ok (.aload_n 0, 1) := by decide +kernel
theorem dX0_isBinomialAt_79 : decode cX0_isBinomialAt 79 = .ok (.getfield 26, 3) := by decide +kernel
theorem dX0_isBinomialAt_82 : decode cX0_isBinomialAt 82 = .ok (.iload_n 1, 1) := by decide +kernel
theorem dX0_isBinomialAt_83 : decode cX0_isBinomialAt 83 = .ok (.aaload, 1) := by decide +kernel
theorem dX0_isBinomialAt_84 : decode cX0_isBinomialAt 84 = .ok (.iload_n 2, 1) := by decide +kernel
theorem dX0_isBinomialAt_85 : decode cX0_isBinomialAt 85 = .ok (.iload_n 3, 1) := by decide +kernel
theorem dX0_isBinomialAt_86 : decode cX0_isBinomialAt 86 = .ok (.iadd, 1) := by decide +kernel
theorem dX0_isBinomialAt_87 : decode cX0_isBinomialAt 87 = .ok (.iaload, 1) := by decide +kernel
theorem dX0_isBinomialAt_88 : decode cX0_isBinomialAt 88 = .ok (.if_icmp .eq 5, 3) := by decide +kernel
theorem dX0_isBinomialAt_91 : decode cX0_isBinomialAt 91 = .ok (.iconst 0, 1) := by decide +kernel
theorem dX0_isBinomialAt_92 : decode cX0_isBinomialAt 92 = .ok (.ireturn, 1) := by decide +kernel
theorem dX0_isBinomialAt_93 : decode cX0_isBinomialAt 93 = .ok (.iinc 3 1, 3) := by decide +kernel
theorem dX0_isBinomialAt_96 : decode cX0_isBinomialAt 96 = .ok (.goto (-87), 3) := by decide +kernel
theorem dX0_isBinomialAt_99 : decode cX0_isBinomialAt 99 = .ok (.iinc 2 1, 3) := by decide +kernel
theorem dX0_isBinomialAt_102 : decode cX0_isBinomialAt 102 = .ok (.goto (-100), 3) := by decide +kernel
theorem dX0_isBinomialAt_105 : decode cX0_isBinomialAt 105 = .ok (.iconst 1, 1) := by decide +kernel
theorem dX0_isBinomialAt_106 : decode cX0_isBinomialAt 106 = .ok (.ireturn, 1) := by decide +kernel
theorem dX0_summed_0 : decode cX0_summed 0 = .ok (.aload_n 0, 1) := by decide +kernel
theorem dX0_summed_1 : decode cX0_summed 1 = .ok (.aload_n 1, 1) := by decide +kernel
theorem dX0_summed_2 : decode cX0_summed 2 = .ok (.iload_n 2, 1) := by decide +kernel
theorem dX0_summed_3 : decode cX0_summed 3 = .ok (.invokevirtual 131, 3) := by decide +kernel
theorem dX0_summed_6 : decode cX0_summed 6 = .ok (.iload_n 3, 1) := by decide +kernel
theorem dX0_summed_7 : decode cX0_summed 7 = .ok (.invokestatic 78, 3) := by decide +kernel
theorem dX0_summed_10 : decode cX0_summed 10 = .ok (.istore 4, 2) := by decide +kernel
theorem dX0_summed_12 : decode cX0_summed 12 = .ok (.iconst 1, 1) := by decide +kernel
theorem dX0_summed_13 : decode cX0_summed 13 = .ok (.istore 5, 2) := by decide +kernel
theorem dX0_summed_15 : decode cX0_summed 15 = .ok (.iconst 0, 1) := by decide +kernel
theorem dX0_summed_16 : decode cX0_summed 16 = .ok (.istore 6, 2) := by decide +kernel
theorem dX0_summed_18 : decode cX0_summed 18 = .ok (.iconst 0, 1) := by decide +kernel
theorem dX0_summed_19 : decode cX0_summed 19 = .ok (.istore 7, 2) := by decide +kernel
theorem dX0_summed_21 : decode cX0_summed 21 = .ok (.iload 7, 2) := by decide +kernel
theorem dX0_summed_23 : decode cX0_summed 23 = .ok (.bipush 10, 2) := by decide +kernel
theorem dX0_summed_25 : decode cX0_summed 25 = .ok (.if_icmp .ge 59, 3) := by decide +kernel
theorem dX0_summed_28 : decode cX0_summed 28 = .ok (.iload 5, 2) := by decide +kernel
theorem dX0_summed_30 : decode cX0_summed 30 = .ok (.iload 4, 2) := by decide +kernel
theorem dX0_summed_32 : decode cX0_summed 32 = .ok (.iload 7, 2) := by decide +kernel
theorem dX0_summed_34 : decode cX0_summed 34 = .ok (.isub, 1) := by decide +kernel
theorem dX0_summed_35 : decode cX0_summed 35 = .ok (.invokestatic 78, 3) := by decide +kernel
theorem dX0_summed_38 : decode cX0_summed 38 = .ok (.imul, 1) := by decide +kernel
theorem dX0_summed_39 : decode cX0_summed 39 = .ok (.sipush 10007, 3) := by decide +kernel
theorem dX0_summed_42 : decode cX0_summed 42 = .ok (.irem, 1) := by decide +kernel
theorem dX0_summed_43 : decode cX0_summed 43 = .ok (.aload_n 0, 1) := by decide +kernel
theorem dX0_summed_44 : decode cX0_summed 44 = .ok (.getfield 9, 3) := by decide +kernel
theorem dX0_summed_47 : decode cX0_summed 47 = .ok (.iload 7, 2) := by decide +kernel
theorem dX0_summed_49 : decode cX0_summed 49 = .ok (.iconst 1, 1) := by decide +kernel
theorem dX0_summed_50 : decode cX0_summed 50 = .ok (.iadd, 1) := by decide +kernel
theorem dX0_summed_51 : decode cX0_summed 51 = .ok (.iaload, 1) := by decide +kernel
theorem dX0_summed_52 : decode cX0_summed 52 = .ok (.imul, 1) := by decide +kernel
theorem dX0_summed_53 : decode cX0_summed 53 = .ok (.sipush 10007, 3) := by decide +kernel
theorem dX0_summed_56 : decode cX0_summed 56 = .ok (.irem, 1) := by decide +kernel
theorem dX0_summed_57 : decode cX0_summed 57 = .ok (.istore 5, 2) := by decide +kernel
theorem dX0_summed_59 : decode cX0_summed 59 = .ok (.iload 6, 2) := by decide +kernel
theorem dX0_summed_61 : decode cX0_summed 61 = .ok (.aload_n 0, 1) := by decide +kernel
theorem dX0_summed_62 : decode cX0_summed 62 = .ok (.getfield 29, 3) := by decide +kernel
theorem dX0_summed_65 : decode cX0_summed 65 = .ok (.iload 7, 2) := by decide +kernel
theorem dX0_summed_67 : decode cX0_summed 67 = .ok (.iaload, 1) := by decide +kernel
theorem dX0_summed_68 : decode cX0_summed 68 = .ok (.iload 5, 2) := by decide +kernel
theorem dX0_summed_70 : decode cX0_summed 70 = .ok (.imul, 1) := by decide +kernel
theorem dX0_summed_71 : decode cX0_summed 71 = .ok (.iadd, 1) := by decide +kernel
theorem dX0_summed_72 : decode cX0_summed 72 = .ok (.sipush 10007, 3) := by decide +kernel
theorem dX0_summed_75 : decode cX0_summed 75 = .ok (.irem, 1) := by decide +kernel
theorem dX0_summed_76 : decode cX0_summed 76 = .ok (.istore 6, 2) := by decide +kernel
theorem dX0_summed_78 : decode cX0_summed 78 = .ok (.iinc 7 1, 3) := by decide +kernel
theorem dX0_summed_81 : decode cX0_summed 81 = .ok (.goto (-60), 3) := by decide +kernel
theorem dX0_summed_84 : decode cX0_summed 84 = .ok (.iload 6, 2) := by decide +kernel
theorem dX0_summed_86 : decode cX0_summed 86 = .ok (.ireturn, 1) := by decide +kernel
theorem dX0_differenceAt_0 : decode cX0_differenceAt 0 = .ok (.aload_n 0, 1) := by decide +kernel
theorem dX0_differenceAt_1 : decode cX0_differenceAt 1 = .ok (.aload_n 1, 1) := by decide +kernel
theorem dX0_differenceAt_2 : decode cX0_differenceAt 2 = .ok (.iload_n 3, 1) := by decide +kernel
theorem dX0_differenceAt_3 : decode cX0_differenceAt 3 = .ok (.invokevirtual 131, 3) := by decide +kernel
theorem dX0_differenceAt_6 : decode cX0_differenceAt 6 = .ok (.aload_n 0, 1) := by decide +kernel
theorem dX0_differenceAt_7 : decode cX0_differenceAt 7 = .ok (.getfield 29, 3) := by decide +kernel
theorem dX0_differenceAt_10 : decode cX0_differenceAt 10 = .ok (.iload_n 2, 1) := by decide +kernel
theorem dX0_differenceAt_11 : decode cX0_differenceAt 11 = .ok (.iaload, 1) := by decide +kernel
theorem dX0_differenceAt_12 : decode cX0_differenceAt 12 = .ok (.ireturn, 1) := by decide +kernel
theorem dX0_fillDifferencesAt_0 : decode cX0_fillDifferencesAt 0 = .ok (.iload_n 2, 1) := by decide +kernel
theorem dX0_fillDifferencesAt_1 : decode cX0_fillDifferencesAt 1 = .ok (.invokestatic 78, 3) := by decide +kernel
theorem dX0_fillDifferencesAt_4 : decode cX0_fillDifferencesAt 4 = .ok (.istore_n 3, 1) := by decide +kernel
theorem dX0_fillDifferencesAt_5 : decode cX0_fillDifferencesAt 5 = .ok (.iconst 0, 1) := by decide +kernel
theorem dX0_fillDifferencesAt_6 : decode cX0_fillDifferencesAt 6 = .ok (.istore 4, 2) := by decide +kernel
theorem dX0_fillDifferencesAt_8 : decode cX0_fillDifferencesAt 8 = .ok (.iload 4, 2) := by decide +kernel
theorem dX0_fillDifferencesAt_10 : decode cX0_fillDifferencesAt 10 = .ok (.bipush 10, 2) := by decide +kernel
theorem dX0_fillDifferencesAt_12 : decode cX0_fillDifferencesAt 12 = .ok (.if_icmp .ge 24, 3) := by decide +kernel
theorem dX0_fillDifferencesAt_15 : decode cX0_fillDifferencesAt 15 = .ok (.aload_n 0, 1) := by decide +kernel
theorem dX0_fillDifferencesAt_16 : decode cX0_fillDifferencesAt 16 = .ok (.getfield 29, 3) := by decide +kernel
theorem dX0_fillDifferencesAt_19 : decode cX0_fillDifferencesAt 19 = .ok (.iload 4, 2) := by decide +kernel
theorem dX0_fillDifferencesAt_21 : decode cX0_fillDifferencesAt 21 = .ok (.aload_n 1, 1) := by decide +kernel
theorem dX0_fillDifferencesAt_22 : decode cX0_fillDifferencesAt 22 = .ok (.iload_n 3, 1) := by decide +kernel
theorem dX0_fillDifferencesAt_23 : decode cX0_fillDifferencesAt 23 = .ok (.iload 4, 2) := by decide +kernel
theorem dX0_fillDifferencesAt_25 : decode cX0_fillDifferencesAt 25 = .ok (.iadd, 1) := by decide +kernel
theorem dX0_fillDifferencesAt_26 : decode cX0_fillDifferencesAt 26 = .ok (.invokevirtual 124, 3) := by decide +kernel
theorem dX0_fillDifferencesAt_29 : decode cX0_fillDifferencesAt 29 = .ok (.iastore, 1) := by decide +kernel
theorem dX0_fillDifferencesAt_30 : decode cX0_fillDifferencesAt 30 = .ok (.iinc 4 1, 3) := by decide +kernel
theorem dX0_fillDifferencesAt_33 : decode cX0_fillDifferencesAt 33 = .ok (.goto (-25), 3) := by decide +kernel
theorem dX0_fillDifferencesAt_36 : decode cX0_fillDifferencesAt 36 = .ok (.aload_n 0, 1) := by decide +kernel
theorem dX0_fillDifferencesAt_37 : decode cX0_fillDifferencesAt 37 = .ok (.invokevirtual 135, 3) := by decide +kernel
theorem dX0_fillDifferencesAt_40 : decode cX0_fillDifferencesAt 40 = .ok (.return_, 1) := by decide +kernel
theorem dX0_valuesToDifferences_0 : decode cX0_valuesToDifferences 0 = .ok (.iconst 1, 1) := by decide +kernel
theorem dX0_valuesToDifferences_1 : decode cX0_valuesToDifferences 1 = .ok (.istore_n 1, 1) := by decide +kernel
theorem dX0_valuesToDifferences_2 : decode cX0_valuesToDifferences 2 = .ok (.iload_n 1, 1) := by decide +kernel
theorem dX0_valuesToDifferences_3 : decode cX0_valuesToDifferences 3 = .ok (.bipush 10, 2) := by decide +kernel
theorem dX0_valuesToDifferences_5 : decode cX0_valuesToDifferences 5 = .ok (.if_icmp .ge 47, 3) := by decide +kernel
theorem dX0_valuesToDifferences_8 : decode cX0_valuesToDifferences 8 = .ok (.bipush 9, 2) := by decide +kernel
theorem dX0_valuesToDifferences_10 : decode cX0_valuesToDifferences 10 = .ok (.istore_n 2, 1) := by decide +kernel
theorem dX0_valuesToDifferences_11 : decode cX0_valuesToDifferences 11 = .ok (.iload_n 2, 1) := by decide +kernel
theorem dX0_valuesToDifferences_12 : decode cX0_valuesToDifferences 12 = .ok (.iload_n 1, 1) := by decide +kernel
theorem dX0_valuesToDifferences_13 : decode cX0_valuesToDifferences 13 = .ok (.if_icmp .lt 33, 3) := by decide +kernel
theorem dX0_valuesToDifferences_16 : decode cX0_valuesToDifferences 16 = .ok (.aload_n 0, 1) := by decide +kernel
theorem dX0_valuesToDifferences_17 : decode cX0_valuesToDifferences 17 = .ok (.getfield 29, 3) := by decide +kernel
theorem dX0_valuesToDifferences_20 : decode cX0_valuesToDifferences 20 = .ok (.iload_n 2, 1) := by decide +kernel
theorem dX0_valuesToDifferences_21 : decode cX0_valuesToDifferences 21 = .ok (.aload_n 0, 1) := by decide +kernel
theorem dX0_valuesToDifferences_22 : decode cX0_valuesToDifferences 22 = .ok (.getfield 29, 3) := by decide +kernel
theorem dX0_valuesToDifferences_25 : decode cX0_valuesToDifferences 25 = .ok (.iload_n 2, 1) := by decide +kernel
theorem dX0_valuesToDifferences_26 : decode cX0_valuesToDifferences 26 = .ok (.iaload, 1) := by decide +kernel
theorem dX0_valuesToDifferences_27 : decode cX0_valuesToDifferences 27 = .ok (.aload_n 0, 1) := by decide +kernel
theorem dX0_valuesToDifferences_28 : decode cX0_valuesToDifferences 28 = .ok (.getfield 29, 3) := by decide +kernel
theorem dX0_valuesToDifferences_31 : decode cX0_valuesToDifferences 31 = .ok (.iload_n 2, 1) := by decide +kernel
theorem dX0_valuesToDifferences_32 : decode cX0_valuesToDifferences 32 = .ok (.iconst 1, 1) := by decide +kernel
theorem dX0_valuesToDifferences_33 : decode cX0_valuesToDifferences 33 = .ok (.isub, 1) := by decide +kernel
theorem dX0_valuesToDifferences_34 : decode cX0_valuesToDifferences 34 = .ok (.iaload, 1) := by decide +kernel
theorem dX0_valuesToDifferences_35 : decode cX0_valuesToDifferences 35 = .ok (.isub, 1) := by decide +kernel
theorem dX0_valuesToDifferences_36 : decode cX0_valuesToDifferences 36 = .ok (.invokestatic 78, 3) := by decide +kernel
theorem dX0_valuesToDifferences_39 : decode cX0_valuesToDifferences 39 = .ok (.iastore, 1) := by decide +kernel
theorem dX0_valuesToDifferences_40 : decode cX0_valuesToDifferences 40 = .ok (.iinc 2 (-1), 3) := by decide +kernel
theorem dX0_valuesToDifferences_43 : decode cX0_valuesToDifferences 43 = .ok (.goto (-32), 3) := by decide +kernel
theorem dX0_valuesToDifferences_46 : decode cX0_valuesToDifferences 46 = .ok (.iinc 1 1, 3) := by decide +kernel
theorem dX0_valuesToDifferences_49 : decode cX0_valuesToDifferences 49 = .ok (.goto (-47), 3) := by decide +kernel
theorem dX0_valuesToDifferences_52 : decode cX0_valuesToDifferences 52 = .ok (.return_, 1) := by decide +kernel
theorem dX0_throughValues_0 : decode cX0_throughValues 0 = .ok (.aload_n 1, 1) := by decide +kernel
theorem dX0_throughValues_1 : decode cX0_throughValues 1 = .ok (.getfield 61, 3) := by decide +kernel
theorem dX0_throughValues_4 : decode cX0_throughValues 4 = .ok (.iconst 0, 1) := by decide +kernel
theorem dX0_throughValues_5 : decode cX0_throughValues 5 = .ok (.aload_n 0, 1) := by decide +kernel
theorem dX0_throughValues_6 : decode cX0_throughValues 6 = .ok (.getfield 29, 3) := by decide +kernel
theorem dX0_throughValues_9 : decode cX0_throughValues 9 = .ok (.iconst 0, 1) := by decide +kernel
theorem dX0_throughValues_10 : decode cX0_throughValues 10 = .ok (.bipush 10, 2) := by decide +kernel
theorem dX0_throughValues_12 : decode cX0_throughValues 12 = .ok (.invokestatic 138, 3) := by decide +kernel
theorem dX0_throughValues_15 : decode cX0_throughValues 15 = .ok (.aload_n 0, 1) := by decide +kernel
theorem dX0_throughValues_16 : decode cX0_throughValues 16 = .ok (.invokevirtual 135, 3) := by decide +kernel
theorem dX0_throughValues_19 : decode cX0_throughValues 19 = .ok (.aload_n 3, 1) := by decide +kernel
theorem dX0_throughValues_20 : decode cX0_throughValues 20 = .ok (.iconst 0, 1) := by decide +kernel
theorem dX0_throughValues_21 : decode cX0_throughValues 21 = .ok (.invokevirtual 51, 3) := by decide +kernel
theorem dX0_throughValues_24 : decode cX0_throughValues 24 = .ok (.iload_n 2, 1) := by decide +kernel
theorem dX0_throughValues_25 : decode cX0_throughValues 25 = .ok (.iconst 1, 1) := by decide +kernel
theorem dX0_throughValues_26 : decode cX0_throughValues 26 = .ok (.isub, 1) := by decide +kernel
theorem dX0_throughValues_27 : decode cX0_throughValues 27 = .ok (.istore 4, 2) := by decide +kernel
theorem dX0_throughValues_29 : decode cX0_throughValues 29 = .ok (.iload 4, 2) := by decide +kernel
theorem dX0_throughValues_31 : decode cX0_throughValues 31 = .ok (.ifCond .lt 55, 3) := by decide +kernel
theorem dX0_throughValues_34 : decode cX0_throughValues 34 = .ok (.aload_n 3, 1) := by decide +kernel
theorem dX0_throughValues_35 : decode cX0_throughValues 35 = .ok (.iload 4, 2) := by decide +kernel
theorem dX0_throughValues_37 : decode cX0_throughValues 37 = .ok (.invokevirtual 144, 3) := by decide +kernel
theorem dX0_throughValues_40 : decode cX0_throughValues 40 = .ok (.aload_n 0, 1) := by decide +kernel
theorem dX0_throughValues_41 : decode cX0_throughValues 41 = .ok (.getfield 29, 3) := by decide +kernel
theorem dX0_throughValues_44 : decode cX0_throughValues 44 = .ok (.iload 4, 2) := by decide +kernel
theorem dX0_throughValues_46 : decode cX0_throughValues 46 = .ok (.iaload, 1) := by decide +kernel
theorem dX0_throughValues_47 : decode cX0_throughValues 47 = .ok (.aload_n 0, 1) := by decide +kernel
theorem dX0_throughValues_48 : decode cX0_throughValues 48 = .ok (.getfield 18, 3) := by decide +kernel
theorem dX0_throughValues_51 : decode cX0_throughValues 51 = .ok (.iload 4, 2) := by decide +kernel
theorem dX0_throughValues_53 : decode cX0_throughValues 53 = .ok (.iaload, 1) := by decide +kernel
theorem dX0_throughValues_54 : decode cX0_throughValues 54 = .ok (.imul, 1) := by decide +kernel
theorem dX0_throughValues_55 : decode cX0_throughValues 55 = .ok (.sipush 10007, 3) := by decide +kernel
theorem dX0_throughValues_58 : decode cX0_throughValues 58 = .ok (.irem, 1) := by decide +kernel
theorem dX0_throughValues_59 : decode cX0_throughValues 59 = .ok (.istore 5, 2) := by decide +kernel
theorem dX0_throughValues_61 : decode cX0_throughValues 61 = .ok (.aload_n 3, 1) := by decide +kernel
theorem dX0_throughValues_62 : decode cX0_throughValues 62 = .ok (.getfield 61, 3) := by decide +kernel
theorem dX0_throughValues_65 : decode cX0_throughValues 65 = .ok (.iconst 0, 1) := by decide +kernel
theorem dX0_throughValues_66 : decode cX0_throughValues 66 = .ok (.aload_n 3, 1) := by decide +kernel
theorem dX0_throughValues_67 : decode cX0_throughValues 67 = .ok (.getfield 61, 3) := by decide +kernel
theorem dX0_throughValues_70 : decode cX0_throughValues 70 = .ok (.iconst 0, 1) := by decide +kernel
theorem dX0_throughValues_71 : decode cX0_throughValues 71 = .ok (.iaload, 1) := by decide +kernel
theorem dX0_throughValues_72 : decode cX0_throughValues 72 = .ok (.iload 5, 2) := by decide +kernel
theorem dX0_throughValues_74 : decode cX0_throughValues 74 = .ok (.iadd, 1) := by decide +kernel
theorem dX0_throughValues_75 : decode cX0_throughValues 75 = .ok (.sipush 10007, 3) := by decide +kernel
theorem dX0_throughValues_78 : decode cX0_throughValues 78 = .ok (.irem, 1) := by decide +kernel
theorem dX0_throughValues_79 : decode cX0_throughValues 79 = .ok (.iastore, 1) := by decide +kernel
theorem dX0_throughValues_80 : decode cX0_throughValues 80 = .ok (.iinc 4 (-1), 3) := by decide +kernel
theorem dX0_throughValues_83 : decode cX0_throughValues 83 = .ok (.goto (-54), 3) := by decide +kernel
theorem dX0_throughValues_86 : decode cX0_throughValues 86 = .ok (.return_, 1) := by decide +kernel
theorem dX1_init_0 : decode cX1_init 0 = .ok (.aload_n 0, 1) := by decide +kernel
theorem dX1_init_1 : decode cX1_init 1 = .ok (.invokespecial 3, 3) := by decide +kernel
theorem dX1_init_4 : decode cX1_init 4 = .ok (.aload_n 0, 1) := by decide +kernel
theorem dX1_init_5 : decode cX1_init 5 = .ok (.bipush 10, 2) := by decide +kernel
theorem dX1_init_7 : decode cX1_init 7 = .ok (.anewarray 9, 3) := by decide +kernel
theorem dX1_init_10 : decode cX1_init 10 = .ok (.putfield 11, 3) := by decide +kernel
theorem dX1_init_13 : decode cX1_init 13 = .ok (.aload_n 0, 1) := by decide +kernel
theorem dX1_init_14 : decode cX1_init 14 = .ok (.iconst 0, 1) := by decide +kernel
theorem dX1_init_15 : decode cX1_init 15 = .ok (.putfield 17, 3) := by decide +kernel
theorem dX1_init_18 : decode cX1_init 18 = .ok (.iconst 0, 1) := by decide +kernel
theorem dX1_init_19 : decode cX1_init 19 = .ok (.istore_n 1, 1) := by decide +kernel
theorem dX1_init_20 : decode cX1_init 20 = .ok (.iload_n 1, 1) := by decide +kernel
theorem dX1_init_21 : decode cX1_init 21 = .ok (.bipush 10, 2) := by decide +kernel
theorem dX1_init_23 : decode cX1_init 23 = .ok (.if_icmp .ge 22, 3) := by decide +kernel
theorem dX1_init_26 : decode cX1_init 26 = .ok (.aload_n 0, 1) := by decide +kernel
theorem dX1_init_27 : decode cX1_init 27 = .ok (.getfield 11, 3) := by decide +kernel
theorem dX1_init_30 : decode cX1_init 30 = .ok (.iload_n 1, 1) := by decide +kernel
theorem dX1_init_31 : decode cX1_init 31 = .ok (.new 9, 3) := by decide +kernel
theorem dX1_init_34 : decode cX1_init 34 = .ok (.dup, 1) := by decide +kernel
theorem dX1_init_35 : decode cX1_init 35 = .ok (.invokespecial 21, 3) := by decide +kernel
theorem dX1_init_38 : decode cX1_init 38 = .ok (.aastore, 1) := by decide +kernel
theorem dX1_init_39 : decode cX1_init 39 = .ok (.iinc 1 1, 3) := by decide +kernel
theorem dX1_init_42 : decode cX1_init 42 = .ok (.goto (-22), 3) := by decide +kernel
theorem dX1_init_45 : decode cX1_init 45 = .ok (.return_, 1) := by decide +kernel
theorem dX2_of_0 : decode cX2_of 0 = .ok (.iload_n 0, 1) := by decide +kernel
theorem dX2_of_1 : decode cX2_of 1 = .ok (.sipush 10007, 3) := by decide +kernel
theorem dX2_of_4 : decode cX2_of 4 = .ok (.invokestatic 9, 3) := by decide +kernel
theorem dX2_of_7 : decode cX2_of 7 = .ok (.ireturn, 1) := by decide +kernel
theorem dX2_inverse_0 : decode cX2_inverse 0 = .ok (.iconst 1, 1) := by decide +kernel
theorem dX2_inverse_1 : decode cX2_inverse 1 = .ok (.istore_n 1, 1) := by decide +kernel
theorem dX2_inverse_2 : decode cX2_inverse 2 = .ok (.bipush 13, 2) := by decide +kernel
theorem dX2_inverse_4 : decode cX2_inverse 4 = .ok (.istore_n 2, 1) := by decide +kernel
theorem dX2_inverse_5 : decode cX2_inverse 5 = .ok (.iload_n 2, 1) := by decide +kernel
theorem dX2_inverse_6 : decode cX2_inverse 6 = .ok (.ifCond .lt 35, 3) := by decide +kernel
theorem dX2_inverse_9 : decode cX2_inverse 9 = .ok (.iload_n 1, 1) := by decide +kernel
theorem dX2_inverse_10 : decode cX2_inverse 10 = .ok (.iload_n 1, 1) := by decide +kernel
theorem dX2_inverse_11 : decode cX2_inverse 11 = .ok (.imul, 1) := by decide +kernel
theorem dX2_inverse_12 : decode cX2_inverse 12 = .ok (.sipush 10007, 3) := by decide +kernel
theorem dX2_inverse_15 : decode cX2_inverse 15 = .ok (.irem, 1) := by decide +kernel
theorem dX2_inverse_16 : decode cX2_inverse 16 = .ok (.istore_n 1, 1) := by decide +kernel
theorem dX2_inverse_17 : decode cX2_inverse 17 = .ok (.sipush 10005, 3) := by decide +kernel
theorem dX2_inverse_20 : decode cX2_inverse 20 = .ok (.iload_n 2, 1) := by decide +kernel
theorem dX2_inverse_21 : decode cX2_inverse 21 = .ok (.ishr, 1) := by decide +kernel
theorem dX2_inverse_22 : decode cX2_inverse 22 = .ok (.iconst 1, 1) := by decide +kernel
theorem dX2_inverse_23 : decode cX2_inverse 23 = .ok (.iand, 1) := by decide +kernel
theorem dX2_inverse_24 : decode cX2_inverse 24 = .ok (.ifCond .eq 11, 3) := by decide +kernel
theorem dX2_inverse_27 : decode cX2_inverse 27 = .ok (.iload_n 1, 1) := by decide +kernel
theorem dX2_inverse_28 : decode cX2_inverse 28 = .ok (.iload_n 0, 1) := by decide +kernel
theorem dX2_inverse_29 : decode cX2_inverse 29 = .ok (.imul, 1) := by decide +kernel
theorem dX2_inverse_30 : decode cX2_inverse 30 = .ok (.sipush 10007, 3) := by decide +kernel
theorem dX2_inverse_33 : decode cX2_inverse 33 = .ok (.irem, 1) := by decide +kernel
theorem dX2_inverse_34 : decode cX2_inverse 34 = .ok (.istore_n 1, 1) := by decide +kernel
theorem dX2_inverse_35 : decode cX2_inverse 35 = .ok (.iinc 2 (-1), 3) := by decide +kernel
theorem dX2_inverse_38 : decode cX2_inverse 38 = .ok (.goto (-33), 3) := by decide +kernel
theorem dX2_inverse_41 : decode cX2_inverse 41 = .ok (.iload_n 1, 1) := by decide +kernel
theorem dX2_inverse_42 : decode cX2_inverse 42 = .ok (.ireturn, 1) := by decide +kernel
theorem dX3_init_0 : decode cX3_init 0 = .ok (.aload_n 0, 1) := by decide +kernel
theorem dX3_init_1 : decode cX3_init 1 = .ok (.invokespecial 3, 3) := by decide +kernel
theorem dX3_init_4 : decode cX3_init 4 = .ok (.aload_n 0, 1) := by decide +kernel
theorem dX3_init_5 : decode cX3_init 5 = .ok (.bipush 10, 2) := by decide +kernel
theorem dX3_init_7 : decode cX3_init 7 = .ok (.newarray .int, 2) := by decide +kernel
theorem dX3_init_9 : decode cX3_init 9 = .ok (.putfield 9, 3) := by decide +kernel
theorem dX3_init_12 : decode cX3_init 12 = .ok (.return_, 1) := by decide +kernel
theorem dX3_canDivide_0 : decode cX3_canDivide 0 = .ok (.aload_n 0, 1) := by decide +kernel
theorem dX3_canDivide_1 : decode cX3_canDivide 1 = .ok (.getfield 9, 3) := by decide +kernel
theorem dX3_canDivide_4 : decode cX3_canDivide 4 = .ok (.iconst 0, 1) := by decide +kernel
theorem dX3_canDivide_5 : decode cX3_canDivide 5 = .ok (.iaload, 1) := by decide +kernel
theorem dX3_canDivide_6 : decode cX3_canDivide 6 = .ok (.ifCond .eq 7, 3) := by decide +kernel
theorem dX3_canDivide_9 : decode cX3_canDivide 9 = .ok (.iconst 1, 1) := by decide +kernel
theorem dX3_canDivide_10 : decode cX3_canDivide 10 = .ok (.goto 4, 3) := by decide +kernel
theorem dX3_canDivide_13 : decode cX3_canDivide 13 = .ok (.iconst 0, 1) := by decide +kernel
theorem dX3_canDivide_14 : decode cX3_canDivide 14 = .ok (.ireturn, 1) := by decide +kernel
theorem dX3_canBePutIn_0 : decode cX3_canBePutIn 0 = .ok (.aload_n 0, 1) := by decide +kernel
theorem dX3_canBePutIn_1 : decode cX3_canBePutIn 1 = .ok (.getfield 9, 3) := by decide +kernel
theorem dX3_canBePutIn_4 : decode cX3_canBePutIn 4 = .ok (.iconst 0, 1) := by decide +kernel
theorem dX3_canBePutIn_5 : decode cX3_canBePutIn 5 = .ok (.iaload, 1) := by decide +kernel
theorem dX3_canBePutIn_6 : decode cX3_canBePutIn 6 = .ok (.ifCond .ne 7, 3) := by decide +kernel
theorem dX3_canBePutIn_9 : decode cX3_canBePutIn 9 = .ok (.iconst 1, 1) := by decide +kernel
theorem dX3_canBePutIn_10 : decode cX3_canBePutIn 10 = .ok (.goto 4, 3) := by decide +kernel
theorem dX3_canBePutIn_13 : decode cX3_canBePutIn 13 = .ok (.iconst 0, 1) := by decide +kernel
theorem dX3_canBePutIn_14 : decode cX3_canBePutIn 14 = .ok (.ireturn, 1) := by decide +kernel
theorem dX3_canTurn_0 : decode cX3_canTurn 0 = .ok (.aload_n 0, 1) := by decide +kernel
theorem dX3_canTurn_1 : decode cX3_canTurn 1 = .ok (.getfield 9, 3) := by decide +kernel
theorem dX3_canTurn_4 : decode cX3_canTurn 4 = .ok (.iconst 0, 1) := by decide +kernel
theorem dX3_canTurn_5 : decode cX3_canTurn 5 = .ok (.iaload, 1) := by decide +kernel
theorem dX3_canTurn_6 : decode cX3_canTurn 6 = .ok (.ifCond .ne 16, 3) := by decide +kernel
theorem dX3_canTurn_9 : decode cX3_canTurn 9 = .ok (.aload_n 0, 1) := by decide +kernel
theorem dX3_canTurn_10 : decode cX3_canTurn 10 = .ok (.getfield 9, 3) := by decide +kernel
theorem dX3_canTurn_13 : decode cX3_canTurn 13 = .ok (.iconst 1, 1) := by decide +kernel
theorem dX3_canTurn_14 : decode cX3_canTurn 14 = .ok (.iaload, 1) := by decide +kernel
theorem dX3_canTurn_15 : decode cX3_canTurn 15 = .ok (.ifCond .eq 7, 3) := by decide +kernel
theorem dX3_canTurn_18 : decode cX3_canTurn 18 = .ok (.iconst 1, 1) := by decide +kernel
theorem dX3_canTurn_19 : decode cX3_canTurn 19 = .ok (.goto 4, 3) := by decide +kernel
theorem dX3_canTurn_22 : decode cX3_canTurn 22 = .ok (.iconst 0, 1) := by decide +kernel
theorem dX3_canTurn_23 : decode cX3_canTurn 23 = .ok (.ireturn, 1) := by decide +kernel
theorem dX3_becomeConstant_0 : decode cX3_becomeConstant 0 = .ok (.aload_n 0, 1) := by decide +kernel
theorem dX3_becomeConstant_1 : decode cX3_becomeConstant 1 = .ok (.getfield 9, 3) := by decide +kernel
theorem dX3_becomeConstant_4 : decode cX3_becomeConstant 4 = .ok (.iconst 0, 1) := by decide +kernel
theorem dX3_becomeConstant_5 : decode cX3_becomeConstant 5 = .ok (.invokestatic 15, 3) := by decide +kernel
theorem dX3_becomeConstant_8 : decode cX3_becomeConstant 8 = .ok (.aload_n 0, 1) := by decide +kernel
theorem dX3_becomeConstant_9 : decode cX3_becomeConstant 9 = .ok (.getfield 9, 3) := by decide +kernel
theorem dX3_becomeConstant_12 : decode cX3_becomeConstant 12 = .ok (.iconst 0, 1) := by decide +kernel
theorem dX3_becomeConstant_13 : decode cX3_becomeConstant 13 = .ok (.iload_n 1, 1) := by decide +kernel
theorem dX3_becomeConstant_14 : decode cX3_becomeConstant 14 = .ok (.iastore, 1) := by decide +kernel
theorem dX3_becomeConstant_15 : decode cX3_becomeConstant 15 = .ok (.return_, 1) := by decide +kernel
theorem dX3_becomeCopyOf_0 : decode cX3_becomeCopyOf 0 = .ok (.aload_n 1, 1) := by decide +kernel
theorem dX3_becomeCopyOf_1 : decode cX3_becomeCopyOf 1 = .ok (.getfield 9, 3) := by decide +kernel
theorem dX3_becomeCopyOf_4 : decode cX3_becomeCopyOf 4 = .ok (.iconst 0, 1) := by decide +kernel
theorem dX3_becomeCopyOf_5 : decode cX3_becomeCopyOf 5 = .ok (.aload_n 0, 1) := by decide +kernel
theorem dX3_becomeCopyOf_6 : decode cX3_becomeCopyOf 6 = .ok (.getfield 9, 3) := by decide +kernel
theorem dX3_becomeCopyOf_9 : decode cX3_becomeCopyOf 9 = .ok (.iconst 0, 1) := by decide +kernel
theorem dX3_becomeCopyOf_10 : decode cX3_becomeCopyOf 10 = .ok (.bipush 10, 2) := by decide +kernel
theorem dX3_becomeCopyOf_12 : decode cX3_becomeCopyOf 12 = .ok (.invokestatic 21, 3) := by decide +kernel
theorem dX3_becomeCopyOf_15 : decode cX3_becomeCopyOf 15 = .ok (.return_, 1) := by decide +kernel
theorem dX3_becomeTotal_0 : decode cX3_becomeTotal 0 = .ok (.iconst 0, 1) := by decide +kernel
theorem dX3_becomeTotal_1 : decode cX3_becomeTotal 1 = .ok (.istore_n 3, 1) := by decide +kernel
theorem dX3_becomeTotal_2 : decode cX3_becomeTotal 2 = .ok (.iload_n 3, 1) := by decide +kernel
theorem dX3_becomeTotal_3 : decode cX3_becomeTotal 3 = .ok (.bipush 10, 2) := by decide +kernel
theorem dX3_becomeTotal_5 : decode cX3_becomeTotal 5 = .ok (.if_icmp .ge 32, 3) := by decide +kernel
theorem dX3_becomeTotal_8 : decode cX3_becomeTotal 8 = .ok (.aload_n 0, 1) := by decide +kernel
theorem dX3_becomeTotal_9 : decode cX3_becomeTotal 9 = .ok (.getfield 9, 3) := by decide +kernel
theorem dX3_becomeTotal_12 : decode cX3_becomeTotal 12 = .ok (.iload_n 3, 1) := by decide +kernel
theorem dX3_becomeTotal_13 : decode cX3_becomeTotal 13 = .ok (.aload_n 1, 1) := by decide +kernel
theorem dX3_becomeTotal_14 : decode cX3_becomeTotal 14 = .ok (.getfield 9, 3) := by decide +kernel
theorem dX3_becomeTotal_17 : decode cX3_becomeTotal 17 = .ok (.iload_n 3, 1) := by decide +kernel
theorem dX3_becomeTotal_18 : decode cX3_becomeTotal 18 = .ok (.iaload, 1) := by decide +kernel
theorem dX3_becomeTotal_19 : decode cX3_becomeTotal 19 = .ok (.aload_n 2, 1) := by decide +kernel
theorem dX3_becomeTotal_20 : decode cX3_becomeTotal 20 = .ok (.getfield 9, 3) := by decide +kernel
theorem dX3_becomeTotal_23 : decode cX3_becomeTotal 23 = .ok (.iload_n 3, 1) := by decide +kernel
theorem dX3_becomeTotal_24 : decode cX3_becomeTotal 24 = .ok (.iaload, 1) := by decide +kernel
theorem dX3_becomeTotal_25 : decode cX3_becomeTotal 25 = .ok (.iadd, 1) := by decide +kernel
theorem dX3_becomeTotal_26 : decode cX3_becomeTotal 26 = .ok (.sipush 10007, 3) := by decide +kernel
theorem dX3_becomeTotal_29 : decode cX3_becomeTotal 29 = .ok (.irem, 1) := by decide +kernel
theorem dX3_becomeTotal_30 : decode cX3_becomeTotal 30 = .ok (.iastore, 1) := by decide +kernel
theorem dX3_becomeTotal_31 : decode cX3_becomeTotal 31 = .ok (.iinc 3 1, 3) := by decide +kernel
theorem dX3_becomeTotal_34 : decode cX3_becomeTotal 34 = .ok (.goto (-32), 3) := by decide +kernel
theorem dX3_becomeTotal_37 : decode cX3_becomeTotal 37 = .ok (.return_, 1) := by decide +kernel
theorem dX3_becomeRest_0 : decode cX3_becomeRest 0 = .ok (.iconst 0, 1) := by decide +kernel
theorem dX3_becomeRest_1 : decode cX3_becomeRest 1 = .ok (.istore_n 3, 1) := by decide +kernel
theorem dX3_becomeRest_2 : decode cX3_becomeRest 2 = .ok (.iload_n 3, 1) := by decide +kernel
theorem dX3_becomeRest_3 : decode cX3_becomeRest 3 = .ok (.bipush 10, 2) := by decide +kernel
theorem dX3_becomeRest_5 : decode cX3_becomeRest 5 = .ok (.if_icmp .ge 31, 3) := by decide +kernel
theorem dX3_becomeRest_8 : decode cX3_becomeRest 8 = .ok (.aload_n 0, 1) := by decide +kernel
theorem dX3_becomeRest_9 : decode cX3_becomeRest 9 = .ok (.getfield 9, 3) := by decide +kernel
theorem dX3_becomeRest_12 : decode cX3_becomeRest 12 = .ok (.iload_n 3, 1) := by decide +kernel
theorem dX3_becomeRest_13 : decode cX3_becomeRest 13 = .ok (.aload_n 1, 1) := by decide +kernel
theorem dX3_becomeRest_14 : decode cX3_becomeRest 14 = .ok (.getfield 9, 3) := by decide +kernel
theorem dX3_becomeRest_17 : decode cX3_becomeRest 17 = .ok (.iload_n 3, 1) := by decide +kernel
theorem dX3_becomeRest_18 : decode cX3_becomeRest 18 = .ok (.iaload, 1) := by decide +kernel
theorem dX3_becomeRest_19 : decode cX3_becomeRest 19 = .ok (.aload_n 2, 1) := by decide +kernel
theorem dX3_becomeRest_20 : decode cX3_becomeRest 20 = .ok (.getfield 9, 3) := by decide +kernel
theorem dX3_becomeRest_23 : decode cX3_becomeRest 23 = .ok (.iload_n 3, 1) := by decide +kernel
theorem dX3_becomeRest_24 : decode cX3_becomeRest 24 = .ok (.iaload, 1) := by decide +kernel
theorem dX3_becomeRest_25 : decode cX3_becomeRest 25 = .ok (.isub, 1) := by decide +kernel
theorem dX3_becomeRest_26 : decode cX3_becomeRest 26 = .ok (.invokestatic 27, 3) := by decide +kernel
theorem dX3_becomeRest_29 : decode cX3_becomeRest 29 = .ok (.iastore, 1) := by decide +kernel
theorem dX3_becomeRest_30 : decode cX3_becomeRest 30 = .ok (.iinc 3 1, 3) := by decide +kernel
theorem dX3_becomeRest_33 : decode cX3_becomeRest 33 = .ok (.goto (-31), 3) := by decide +kernel
theorem dX3_becomeRest_36 : decode cX3_becomeRest 36 = .ok (.return_, 1) := by decide +kernel
theorem dX3_becomeTimes_0 : decode cX3_becomeTimes 0 = .ok (.bipush 9, 2) := by decide +kernel
theorem dX3_becomeTimes_2 : decode cX3_becomeTimes 2 = .ok (.istore_n 3, 1) := by decide +kernel
theorem dX3_becomeTimes_3 : decode cX3_becomeTimes 3 = .ok (.iload_n 3, 1) := by decide +kernel
theorem dX3_becomeTimes_4 : decode cX3_becomeTimes 4 = .ok (.ifCond .lt 61, 3) := by decide +kernel
theorem dX3_becomeTimes_7 : decode cX3_becomeTimes 7 = .ok (.iconst 0, 1) := by decide +kernel
theorem dX3_becomeTimes_8 : decode cX3_becomeTimes 8 = .ok (.istore 4, 2) := by decide +kernel
theorem dX3_becomeTimes_10 : decode cX3_becomeTimes 10 = .ok (.iconst 0, 1) := by decide +kernel
theorem dX3_becomeTimes_11 : decode cX3_becomeTimes 11 = .ok (.istore 5, 2) := by decide +kernel
theorem dX3_becomeTimes_13 : decode cX3_becomeTimes 13 = .ok (.iload 5, 2) := by decide +kernel
theorem dX3_becomeTimes_15 : decode cX3_becomeTimes 15 = .ok (.iload_n 3, 1) := by decide +kernel
theorem dX3_becomeTimes_16 : decode cX3_becomeTimes 16 = .ok (.if_icmp .gt 31, 3) := by decide +kernel
theorem dX3_becomeTimes_19 : decode cX3_becomeTimes 19 = .ok (.iload 4, 2) := by decide +kernel
theorem dX3_becomeTimes_21 : decode cX3_becomeTimes 21 = .ok (.aload_n 1, 1) := by decide +kernel
theorem dX3_becomeTimes_22 : decode cX3_becomeTimes 22 = .ok (.getfield 9, 3) := by decide +kernel
theorem dX3_becomeTimes_25 : decode cX3_becomeTimes 25 = .ok (.iload 5, 2) := by decide +kernel
theorem dX3_becomeTimes_27 : decode cX3_becomeTimes 27 = .ok (.iaload, 1) := by decide +kernel
theorem dX3_becomeTimes_28 : decode cX3_becomeTimes 28 = .ok (.aload_n 2, 1) := by decide +kernel
theorem dX3_becomeTimes_29 : decode cX3_becomeTimes 29 = .ok (.getfield 9, 3) := by decide +kernel
theorem dX3_becomeTimes_32 : decode cX3_becomeTimes 32 = .ok (.iload_n 3, 1) := by decide +kernel
theorem dX3_becomeTimes_33 : decode cX3_becomeTimes 33 = .ok (.iload 5, 2) := by decide +kernel
theorem dX3_becomeTimes_35 : decode cX3_becomeTimes 35 = .ok (.isub, 1) := by decide +kernel
theorem dX3_becomeTimes_36 : decode cX3_becomeTimes 36 = .ok (.iaload, 1) := by decide +kernel
theorem dX3_becomeTimes_37 : decode cX3_becomeTimes 37 = .ok (.imul, 1) := by decide +kernel
theorem dX3_becomeTimes_38 : decode cX3_becomeTimes 38 = .ok (.iadd, 1) := by decide +kernel
theorem dX3_becomeTimes_39 : decode cX3_becomeTimes 39 = .ok (.istore 4, 2) := by decide +kernel
theorem dX3_becomeTimes_41 : decode cX3_becomeTimes 41 = .ok (.iinc 5 1, 3) := by decide +kernel
theorem dX3_becomeTimes_44 : decode cX3_becomeTimes 44 = .ok (.goto (-31), 3) := by decide +kernel
theorem dX3_becomeTimes_47 : decode cX3_becomeTimes 47 = .ok (.aload_n 0, 1) := by decide +kernel
theorem dX3_becomeTimes_48 : decode cX3_becomeTimes 48 = .ok (.getfield 9, 3) := by decide +kernel
theorem dX3_becomeTimes_51 : decode cX3_becomeTimes 51 = .ok (.iload_n 3, 1) := by decide +kernel
theorem dX3_becomeTimes_52 : decode cX3_becomeTimes 52 = .ok (.iload 4, 2) := by decide +kernel
theorem dX3_becomeTimes_54 : decode cX3_becomeTimes 54 = .ok (.sipush 10007, 3) := by decide +kernel
theorem dX3_becomeTimes_57 : decode cX3_becomeTimes 57 = .ok (.irem, 1) := by decide +kernel
theorem dX3_becomeTimes_58 : decode cX3_becomeTimes 58 = .ok (.iastore, 1) := by decide +kernel
theorem dX3_becomeTimes_59 : decode cX3_becomeTimes 59 = .ok (.iinc 3 (-1), 3) := by decide +kernel
theorem dX3_becomeTimes_62 : decode cX3_becomeTimes 62 = .ok (.goto (-59), 3) := by decide +kernel
theorem dX3_becomeTimes_65 : decode cX3_becomeTimes 65 = .ok (.return_, 1) := by decide +kernel
theorem dX3_becomeQuotient_0 : decode cX3_becomeQuotient 0 = .ok (.aload_n 2, 1) := by decide +kernel
theorem dX3_becomeQuotient_1 : decode cX3_becomeQuotient 1 = .ok (.getfield 9, 3) := by decide +kernel
theorem dX3_becomeQuotient_4 : decode cX3_becomeQuotient 4 = .ok (.iconst 0, 1) := by decide +kernel
theorem dX3_becomeQuotient_5 : decode cX3_becomeQuotient 5 = .ok (.iaload, 1) := by decide +kernel
theorem dX3_becomeQuotient_6 : decode cX3_becomeQuotient 6 = .ok (.invokestatic 33, 3) := by decide +kernel
theorem dX3_becomeQuotient_9 : decode cX3_becomeQuotient 9 = .ok (.istore_n 3, 1) := by decide +kernel
theorem dX3_becomeQuotient_10 : decode cX3_becomeQuotient 10 = .ok (.iconst 0, 1) := by decide +kernel
theorem dX3_becomeQuotient_11 : decode cX3_becomeQuotient 11 = .ok (.istore 4, 2) := by decide +kernel
theorem dX3_becomeQuotient_13 : decode cX3_becomeQuotient 13 = .ok (.iload 4, 2) := by decide +kernel
theorem dX3_becomeQuotient_15 : decode cX3_becomeQuotient 15 = .ok (.bipush 10, 2) := by decide +kernel
theorem dX3_becomeQuotient_17 : decode cX3_becomeQuotient 17 = .ok (.if_icmp .ge 77, 3) := by decide +kernel
theorem dX3_becomeQuotient_20 : decode cX3_becomeQuotient 20 = .ok (.iconst 0, 1) := by decide +kernel
theorem dX3_becomeQuotient_21 : decode cX3_becomeQuotient 21 = .ok (.istore 5, 2) := by decide +kernel
theorem dX3_becomeQuotient_23 : decode cX3_becomeQuotient 23 = .ok (.iconst 1, 1) := by decide +kernel
theorem dX3_becomeQuotient_24 : decode cX3_becomeQuotient 24 = .ok (.istore 6, 2) := by decide +kernel
theorem dX3_becomeQuotient_26 : decode cX3_becomeQuotient 26 = .ok (.iload 6, 2) := by decide +kernel
theorem dX3_becomeQuotient_28 : decode cX3_becomeQuotient 28 = .ok (.iload 4, 2) := by decide +kernel
theorem dX3_becomeQuotient_30 : decode cX3_becomeQuotient 30 = .ok (.if_icmp .gt 32, 3) := by decide +kernel
theorem dX3_becomeQuotient_33 : decode cX3_becomeQuotient 33 = .ok (.iload 5, 2) := by decide +kernel
theorem dX3_becomeQuotient_35 : decode cX3_becomeQuotient 35 = .ok (.aload_n 2, 1) := by decide +kernel
theorem dX3_becomeQuotient_36 : decode cX3_becomeQuotient 36 = .ok (.getfield 9, 3) := by decide +kernel
theorem dX3_becomeQuotient_39 : decode cX3_becomeQuotient 39 = .ok (.iload 6, 2) := by decide +kernel
theorem dX3_becomeQuotient_41 : decode cX3_becomeQuotient 41 = .ok (.iaload, 1) := by decide +kernel
theorem dX3_becomeQuotient_42 : decode cX3_becomeQuotient 42 = .ok (.aload_n 0, 1) := by decide +kernel
theorem dX3_becomeQuotient_43 : decode cX3_becomeQuotient 43 = .ok (.getfield 9, 3) := by decide +kernel
theorem dX3_becomeQuotient_46 : decode cX3_becomeQuotient 46 = .ok (.iload 4, 2) := by decide +kernel
theorem dX3_becomeQuotient_48 : decode cX3_becomeQuotient 48 = .ok (.iload 6, 2) := by decide +kernel
theorem dX3_becomeQuotient_50 : decode cX3_becomeQuotient 50 = .ok (.isub, 1) := by decide +kernel
theorem dX3_becomeQuotient_51 : decode cX3_becomeQuotient 51 = .ok (.iaload, 1) := by decide +kernel
theorem dX3_becomeQuotient_52 : decode cX3_becomeQuotient 52 = .ok (.imul, 1) := by decide +kernel
theorem dX3_becomeQuotient_53 : decode cX3_becomeQuotient 53 = .ok (.iadd, 1) := by decide +kernel
theorem dX3_becomeQuotient_54 : decode cX3_becomeQuotient 54 = .ok (.istore 5, 2) := by decide +kernel
theorem dX3_becomeQuotient_56 : decode cX3_becomeQuotient 56 = .ok (.iinc 6 1, 3) := by decide +kernel
theorem dX3_becomeQuotient_59 : decode cX3_becomeQuotient 59 = .ok (.goto (-33), 3) := by decide +kernel
theorem dX3_becomeQuotient_62 : decode cX3_becomeQuotient 62 = .ok (.aload_n 0, 1) := by decide +kernel
theorem dX3_becomeQuotient_63 : decode cX3_becomeQuotient 63 = .ok (.getfield 9, 3) := by decide +kernel
theorem dX3_becomeQuotient_66 : decode cX3_becomeQuotient 66 = .ok (.iload 4, 2) := by decide +kernel
theorem dX3_becomeQuotient_68 : decode cX3_becomeQuotient 68 = .ok (.aload_n 1, 1) := by decide +kernel
theorem dX3_becomeQuotient_69 : decode cX3_becomeQuotient 69 = .ok (.getfield 9, 3) := by decide +kernel
theorem dX3_becomeQuotient_72 : decode cX3_becomeQuotient 72 = .ok (.iload 4, 2) := by decide +kernel
theorem dX3_becomeQuotient_74 : decode cX3_becomeQuotient 74 = .ok (.iaload, 1) := by decide +kernel
theorem dX3_becomeQuotient_75 : decode cX3_becomeQuotient 75 = .ok (.iload 5, 2) := by decide +kernel
theorem dX3_becomeQuotient_77 : decode cX3_becomeQuotient 77 = .ok (.isub, 1) := by decide +kernel
theorem dX3_becomeQuotient_78 : decode cX3_becomeQuotient 78 = .ok (.invokestatic 27, 3) := by decide +kernel
theorem dX3_becomeQuotient_81 : decode cX3_becomeQuotient 81 = .ok (.iload_n 3, 1) := by decide +kernel
theorem dX3_becomeQuotient_82 : decode cX3_becomeQuotient 82 = .ok (.imul, 1) := by decide +kernel
theorem dX3_becomeQuotient_83 : decode cX3_becomeQuotient 83 = .ok (.sipush 10007, 3) := by decide +kernel
theorem dX3_becomeQuotient_86 : decode cX3_becomeQuotient 86 = .ok (.irem, 1) := by decide +kernel
theorem dX3_becomeQuotient_87 : decode cX3_becomeQuotient 87 = .ok (.iastore, 1) := by decide +kernel
theorem dX3_becomeQuotient_88 : decode cX3_becomeQuotient 88 = .ok (.iinc 4 1, 3) := by decide +kernel
theorem dX3_becomeQuotient_91 : decode cX3_becomeQuotient 91 = .ok (.goto (-78), 3) := by decide +kernel
theorem dX3_becomeQuotient_94 : decode cX3_becomeQuotient 94 = .ok (.return_, 1) := by decide +kernel
theorem dX3_becomeInto_0 : decode cX3_becomeInto 0 = .ok (.aload_n 0, 1) := by decide +kernel
theorem dX3_becomeInto_1 : decode cX3_becomeInto 1 = .ok (.aload_n 1, 1) := by decide +kernel
theorem dX3_becomeInto_2 : decode cX3_becomeInto 2 = .ok (.getfield 9, 3) := by decide +kernel
theorem dX3_becomeInto_5 : decode cX3_becomeInto 5 = .ok (.bipush 9, 2) := by decide +kernel
theorem dX3_becomeInto_7 : decode cX3_becomeInto 7 = .ok (.iaload, 1) := by decide +kernel
theorem dX3_becomeInto_8 : decode cX3_becomeInto 8 = .ok (.invokevirtual 36, 3) := by decide +kernel
theorem dX3_becomeInto_11 : decode cX3_becomeInto 11 = .ok (.bipush 8, 2) := by decide +kernel
theorem dX3_becomeInto_13 : decode cX3_becomeInto 13 = .ok (.istore_n 3, 1) := by decide +kernel
theorem dX3_becomeInto_14 : decode cX3_becomeInto 14 = .ok (.iload_n 3, 1) := by decide +kernel
theorem dX3_becomeInto_15 : decode cX3_becomeInto 15 = .ok (.ifCond .lt 38, 3) := by decide +kernel
theorem dX3_becomeInto_18 : decode cX3_becomeInto 18 = .ok (.aload_n 0, 1) := by decide +kernel
theorem dX3_becomeInto_19 : decode cX3_becomeInto 19 = .ok (.aload_n 0, 1) := by decide +kernel
theorem dX3_becomeInto_20 : decode cX3_becomeInto 20 = .ok (.aload_n 2, 1) := by decide +kernel
theorem dX3_becomeInto_21 : decode cX3_becomeInto 21 = .ok (.invokevirtual 40, 3) := by decide +kernel
theorem dX3_becomeInto_24 : decode cX3_becomeInto 24 = .ok (.aload_n 0, 1) := by decide +kernel
theorem dX3_becomeInto_25 : decode cX3_becomeInto 25 = .ok (.getfield 9, 3) := by decide +kernel
theorem dX3_becomeInto_28 : decode cX3_becomeInto 28 = .ok (.iconst 0, 1) := by decide +kernel
theorem dX3_becomeInto_29 : decode cX3_becomeInto 29 = .ok (.aload_n 0, 1) := by decide +kernel
theorem dX3_becomeInto_30 : decode cX3_becomeInto 30 = .ok (.getfield 9, 3) := by decide +kernel
theorem dX3_becomeInto_33 : decode cX3_becomeInto 33 = .ok (.iconst 0, 1) := by decide +kernel
theorem dX3_becomeInto_34 : decode cX3_becomeInto 34 = .ok (.iaload, 1) := by decide +kernel
theorem dX3_becomeInto_35 : decode cX3_becomeInto 35 = .ok (.aload_n 1, 1) := by decide +kernel
theorem dX3_becomeInto_36 : decode cX3_becomeInto 36 = .ok (.getfield 9, 3) := by decide +kernel
theorem dX3_becomeInto_39 : decode cX3_becomeInto 39 = .ok (.iload_n 3, 1) := by decide +kernel
theorem dX3_becomeInto_40 : decode cX3_becomeInto 40 = .ok (.iaload, 1) := by decide +kernel
theorem dX3_becomeInto_41 : decode cX3_becomeInto 41 = .ok (.iadd, 1) := by decide +kernel
theorem dX3_becomeInto_42 : decode cX3_becomeInto 42 = .ok (.sipush 10007, 3) := by decide +kernel
theorem dX3_becomeInto_45 : decode cX3_becomeInto 45 = .ok (.irem, 1) := by decide +kernel
theorem dX3_becomeInto_46 : decode cX3_becomeInto 46 = .ok (.iastore, 1) := by decide +kernel
theorem dX3_becomeInto_47 : decode cX3_becomeInto 47 = .ok (.iinc 3 (-1), 3) := by decide +kernel
theorem dX3_becomeInto_50 : decode cX3_becomeInto 50 = .ok (.goto (-36), 3) := by decide +kernel
theorem dX3_becomeInto_53 : decode cX3_becomeInto 53 = .ok (.return_, 1) := by decide +kernel
theorem dX3_becomeRaised_0 : decode cX3_becomeRaised 0 = .ok (.aload_n 0, 1) := by decide +kernel
theorem dX3_becomeRaised_1 : decode cX3_becomeRaised 1 = .ok (.iconst 1, 1) := by decide +kernel
theorem dX3_becomeRaised_2 : decode cX3_becomeRaised 2 = .ok (.invokevirtual 36, 3) := by decide +kernel
theorem dX3_becomeRaised_5 : decode cX3_becomeRaised 5 = .ok (.bipush 9, 2) := by decide +kernel
theorem dX3_becomeRaised_7 : decode cX3_becomeRaised 7 = .ok (.istore_n 3, 1) := by decide +kernel
theorem dX3_becomeRaised_8 : decode cX3_becomeRaised 8 = .ok (.iload_n 3, 1) := by decide +kernel
theorem dX3_becomeRaised_9 : decode cX3_becomeRaised 9 = .ok (.ifCond .lt 29, 3) := by decide +kernel
theorem dX3_becomeRaised_12 : decode cX3_becomeRaised 12 = .ok (.aload_n 0, 1) := by decide +kernel
theorem dX3_becomeRaised_13 : decode cX3_becomeRaised 13 = .ok (.aload_n 0, 1) := by decide +kernel
theorem dX3_becomeRaised_14 : decode cX3_becomeRaised 14 = .ok (.aload_n 0, 1) := by decide +kernel
theorem dX3_becomeRaised_15 : decode cX3_becomeRaised 15 = .ok (.invokevirtual 40, 3) := by decide +kernel
theorem dX3_becomeRaised_18 : decode cX3_becomeRaised 18 = .ok (.iload_n 2, 1) := by decide +kernel
theorem dX3_becomeRaised_19 : decode cX3_becomeRaised 19 = .ok (.iload_n 3, 1) := by decide +kernel
theorem dX3_becomeRaised_20 : decode cX3_becomeRaised 20 = .ok (.ishr, 1) := by decide +kernel
theorem dX3_becomeRaised_21 : decode cX3_becomeRaised 21 = .ok (.iconst 1, 1) := by decide +kernel
theorem dX3_becomeRaised_22 : decode cX3_becomeRaised 22 = .ok (.iand, 1) := by decide +kernel
theorem dX3_becomeRaised_23 : decode cX3_becomeRaised 23 = .ok (.ifCond .eq 9, 3) := by decide +kernel
theorem dX3_becomeRaised_26 : decode cX3_becomeRaised 26 = .ok (.aload_n 0, 1) := by decide +kernel
theorem dX3_becomeRaised_27 : decode cX3_becomeRaised 27 = .ok (.aload_n 0, 1) := by decide +kernel
theorem dX3_becomeRaised_28 : decode cX3_becomeRaised 28 = .ok (.aload_n 1, 1) := by decide +kernel
theorem dX3_becomeRaised_29 : decode cX3_becomeRaised 29 = .ok (.invokevirtual 40, 3) := by decide +kernel
theorem dX3_becomeRaised_32 : decode cX3_becomeRaised 32 = .ok (.iinc 3 (-1), 3) := by decide +kernel
theorem dX3_becomeRaised_35 : decode cX3_becomeRaised 35 = .ok (.goto (-27), 3) := by decide +kernel
theorem dX3_becomeRaised_38 : decode cX3_becomeRaised 38 = .ok (.return_, 1) := by decide +kernel
theorem dX3_becomeShiftedDown_0 : decode cX3_becomeShiftedDown 0 = .ok (.aload_n 1, 1) := by decide +kernel
theorem dX3_becomeShiftedDown_1 : decode cX3_becomeShiftedDown 1 = .ok (.getfield 9, 3) := by decide +kernel
theorem dX3_becomeShiftedDown_4 : decode cX3_becomeShiftedDown 4 = .ok (.iconst 1, 1) := by decide +kernel
theorem dX3_becomeShiftedDown_5 : decode cX3_becomeShiftedDown 5 = .ok (.aload_n 0, 1) := by decide +kernel
theorem dX3_becomeShiftedDown_6 : decode cX3_becomeShiftedDown 6 = .ok (.getfield 9, 3) := by decide +kernel
theorem dX3_becomeShiftedDown_9 : decode cX3_becomeShiftedDown 9 = .ok (.iconst 0, 1) := by decide +kernel
theorem dX3_becomeShiftedDown_10 : decode cX3_becomeShiftedDown 10 = .ok (.bipush 9, 2) := by decide +kernel
theorem dX3_becomeShiftedDown_12 : decode cX3_becomeShiftedDown 12 = .ok (.invokestatic 21, 3) := by decide +kernel
theorem dX3_becomeShiftedDown_15 : decode cX3_becomeShiftedDown 15 = .ok (.aload_n 0, 1) := by decide +kernel
theorem dX3_becomeShiftedDown_16 : decode cX3_becomeShiftedDown 16 = .ok (.getfield 9, 3) := by decide +kernel
theorem dX3_becomeShiftedDown_19 : decode cX3_becomeShiftedDown 19 = .ok (.bipush 9, 2) := by decide +kernel
theorem dX3_becomeShiftedDown_21 : decode cX3_becomeShiftedDown 21 = .ok (.iconst 0, 1) := by decide +kernel
theorem dX3_becomeShiftedDown_22 : decode cX3_becomeShiftedDown 22 = .ok (.iastore, 1) := by decide +kernel
theorem dX3_becomeShiftedDown_23 : decode cX3_becomeShiftedDown 23 = .ok (.return_, 1) := by decide +kernel
theorem dX3_becomeShiftedUp_0 : decode cX3_becomeShiftedUp 0 = .ok (.aload_n 1, 1) := by decide +kernel
theorem dX3_becomeShiftedUp_1 : decode cX3_becomeShiftedUp 1 = .ok (.getfield 9, 3) := by decide +kernel
theorem dX3_becomeShiftedUp_4 : decode cX3_becomeShiftedUp 4 = .ok (.iconst 0, 1) := by decide +kernel
theorem dX3_becomeShiftedUp_5 : decode cX3_becomeShiftedUp 5 = .ok (.aload_n 0, 1) := by decide +kernel
theorem dX3_becomeShiftedUp_6 : decode cX3_becomeShiftedUp 6 = .ok (.getfield 9, 3) := by decide +kernel
theorem dX3_becomeShiftedUp_9 : decode cX3_becomeShiftedUp 9 = .ok (.iconst 1, 1) := by decide +kernel
theorem dX3_becomeShiftedUp_10 : decode cX3_becomeShiftedUp 10 = .ok (.bipush 9, 2) := by decide +kernel
theorem dX3_becomeShiftedUp_12 : decode cX3_becomeShiftedUp 12 = .ok (.invokestatic 21, 3) := by decide +kernel
theorem dX3_becomeShiftedUp_15 : decode cX3_becomeShiftedUp 15 = .ok (.aload_n 0, 1) := by decide +kernel
theorem dX3_becomeShiftedUp_16 : decode cX3_becomeShiftedUp 16 = .ok (.getfield 9, 3) := by decide +kernel
theorem dX3_becomeShiftedUp_19 : decode cX3_becomeShiftedUp 19 = .ok (.iconst 0, 1) := by decide +kernel
theorem dX3_becomeShiftedUp_20 : decode cX3_becomeShiftedUp 20 = .ok (.iconst 0, 1) := by decide +kernel
theorem dX3_becomeShiftedUp_21 : decode cX3_becomeShiftedUp 21 = .ok (.iastore, 1) := by decide +kernel
theorem dX3_becomeShiftedUp_22 : decode cX3_becomeShiftedUp 22 = .ok (.return_, 1) := by decide +kernel
theorem dX3_becomeTimesFactor_0 : decode cX3_becomeTimesFactor 0 = .ok (.bipush 9, 2) := by decide +kernel
theorem dX3_becomeTimesFactor_2 : decode cX3_becomeTimesFactor 2 = .ok (.istore_n 2, 1) := by decide +kernel
theorem dX3_becomeTimesFactor_3 : decode cX3_becomeTimesFactor 3 = .ok (.iload_n 2, 1) := by decide +kernel
theorem dX3_becomeTimesFactor_4 : decode cX3_becomeTimesFactor 4 = .ok (.ifCond .le 35, 3) := by decide +kernel
theorem dX3_becomeTimesFactor_7 : decode cX3_becomeTimesFactor 7 = .ok (.aload_n 0, 1) := by decide +kernel
theorem dX3_becomeTimesFactor_8 : decode cX3_becomeTimesFactor 8 = .ok (.getfield 9, 3) := by decide +kernel
theorem dX3_becomeTimesFactor_11 : decode cX3_becomeTimesFactor 11 = .ok (.iload_n 2, 1) := by decide +kernel
theorem dX3_becomeTimesFactor_12 : decode cX3_becomeTimesFactor 12 = .ok (.aload_n 0, 1) := by decide +kernel
theorem dX3_becomeTimesFactor_13 : decode cX3_becomeTimesFactor 13 = .ok (.getfield 9, 3) := by decide +kernel
theorem dX3_becomeTimesFactor_16 : decode cX3_becomeTimesFactor 16 = .ok (.iload_n 2, 1) := by decide +kernel
theorem dX3_becomeTimesFactor_17 : decode cX3_becomeTimesFactor 17 = .ok (.iconst 1, 1) := by decide +kernel
theorem dX3_becomeTimesFactor_18 : decode cX3_becomeTimesFactor 18 = .ok (.isub, 1) := by decide +kernel
theorem dX3_becomeTimesFactor_19 : decode cX3_becomeTimesFactor 19 = .ok (.iaload, 1) := by decide +kernel
theorem dX3_becomeTimesFactor_20 : decode cX3_becomeTimesFactor 20 = .ok (.iload_n 1, 1) := by decide +kernel
theorem dX3_becomeTimesFactor_21 : decode cX3_becomeTimesFactor 21 = .ok (.aload_n 0, 1) := by decide +kernel
theorem dX3_becomeTimesFactor_22 : decode cX3_becomeTimesFactor 22 = .ok (.getfield 9, 3) := by decide +kernel
theorem dX3_becomeTimesFactor_25 : decode cX3_becomeTimesFactor 25 = .ok (.iload_n 2, 1) := by decide +kernel
theorem dX3_becomeTimesFactor_26 : decode cX3_becomeTimesFactor 26 = .ok (.iaload, 1) := by decide +kernel
theorem dX3_becomeTimesFactor_27 : decode cX3_becomeTimesFactor 27 = .ok (.imul, 1) := by decide +kernel
theorem dX3_becomeTimesFactor_28 : decode cX3_becomeTimesFactor 28 = .ok (.isub, 1) := by decide +kernel
theorem dX3_becomeTimesFactor_29 : decode cX3_becomeTimesFactor 29 = .ok (.invokestatic 27, 3) := by decide +kernel
theorem dX3_becomeTimesFactor_32 : decode cX3_becomeTimesFactor 32 = .ok (.iastore, 1) := by decide +kernel
theorem dX3_becomeTimesFactor_33 : decode cX3_becomeTimesFactor 33 = .ok (.iinc 2 (-1), 3) := by decide +kernel
theorem dX3_becomeTimesFactor_36 : decode cX3_becomeTimesFactor 36 = .ok (.goto (-33), 3) := by decide +kernel
theorem dX3_becomeTimesFactor_39 : decode cX3_becomeTimesFactor 39 = .ok (.aload_n 0, 1) := by decide +kernel
theorem dX3_becomeTimesFactor_40 : decode cX3_becomeTimesFactor 40 = .ok (.getfield 9, 3) := by decide +kernel
theorem dX3_becomeTimesFactor_43 : decode cX3_becomeTimesFactor 43 = .ok (.iconst 0, 1) := by decide +kernel
theorem dX3_becomeTimesFactor_44 : decode cX3_becomeTimesFactor 44 = .ok (.iload_n 1, 1) := by decide +kernel
theorem dX3_becomeTimesFactor_45 : decode cX3_becomeTimesFactor 45 = .ok (.ineg, 1) := by decide +kernel
theorem dX3_becomeTimesFactor_46 : decode cX3_becomeTimesFactor 46 = .ok (.aload_n 0, 1) := by decide +kernel
theorem dX3_becomeTimesFactor_47 : decode cX3_becomeTimesFactor 47 = .ok (.getfield 9, 3) := by decide +kernel
theorem dX3_becomeTimesFactor_50 : decode cX3_becomeTimesFactor 50 = .ok (.iconst 0, 1) := by decide +kernel
theorem dX3_becomeTimesFactor_51 : decode cX3_becomeTimesFactor 51 = .ok (.iaload, 1) := by decide +kernel
theorem dX3_becomeTimesFactor_52 : decode cX3_becomeTimesFactor 52 = .ok (.imul, 1) := by decide +kernel
theorem dX3_becomeTimesFactor_53 : decode cX3_becomeTimesFactor 53 = .ok (.invokestatic 27, 3) := by decide +kernel
theorem dX3_becomeTimesFactor_56 : decode cX3_becomeTimesFactor 56 = .ok (.iastore, 1) := by decide +kernel
theorem dX3_becomeTimesFactor_57 : decode cX3_becomeTimesFactor 57 = .ok (.return_, 1) := by decide +kernel
theorem dX3_valueAt_0 : decode cX3_valueAt 0 = .ok (.iload_n 1, 1) := by decide +kernel
theorem dX3_valueAt_1 : decode cX3_valueAt 1 = .ok (.invokestatic 27, 3) := by decide +kernel
theorem dX3_valueAt_4 : decode cX3_valueAt 4 = .ok (.istore_n 2, 1) := by decide +kernel
theorem dX3_valueAt_5 : decode cX3_valueAt 5 = .ok (.iconst 0, 1) := by decide +kernel
theorem dX3_valueAt_6 : decode cX3_valueAt 6 = .ok (.istore_n 3, 1) := by decide +kernel
theorem dX3_valueAt_7 : decode cX3_valueAt 7 = .ok (.bipush 9, 2) := by decide +kernel
theorem dX3_valueAt_9 : decode cX3_valueAt 9 = .ok (.istore 4, 2) := by decide +kernel
theorem dX3_valueAt_11 : decode cX3_valueAt 11 = .ok (.iload 4, 2) := by decide +kernel
theorem dX3_valueAt_13 : decode cX3_valueAt 13 = .ok (.ifCond .lt 25, 3) := by decide +kernel
theorem dX3_valueAt_16 : decode cX3_valueAt 16 = .ok (.iload_n 3, 1) := by decide +kernel
theorem dX3_valueAt_17 : decode cX3_valueAt 17 = .ok (.iload_n 2, 1) := by decide +kernel
theorem dX3_valueAt_18 : decode cX3_valueAt 18 = .ok (.imul, 1) := by decide +kernel
theorem dX3_valueAt_19 : decode cX3_valueAt 19 = .ok (.aload_n 0, 1) := by decide +kernel
theorem dX3_valueAt_20 : decode cX3_valueAt 20 = .ok (.getfield 9, 3) := by decide +kernel
theorem dX3_valueAt_23 : decode cX3_valueAt 23 = .ok (.iload 4, 2) := by decide +kernel
theorem dX3_valueAt_25 : decode cX3_valueAt 25 = .ok (.iaload, 1) := by decide +kernel
theorem dX3_valueAt_26 : decode cX3_valueAt 26 = .ok (.iadd, 1) := by decide +kernel
theorem dX3_valueAt_27 : decode cX3_valueAt 27 = .ok (.sipush 10007, 3) := by decide +kernel
theorem dX3_valueAt_30 : decode cX3_valueAt 30 = .ok (.irem, 1) := by decide +kernel
theorem dX3_valueAt_31 : decode cX3_valueAt 31 = .ok (.istore_n 3, 1) := by decide +kernel
theorem dX3_valueAt_32 : decode cX3_valueAt 32 = .ok (.iinc 4 (-1), 3) := by decide +kernel
theorem dX3_valueAt_35 : decode cX3_valueAt 35 = .ok (.goto (-24), 3) := by decide +kernel
theorem dX3_valueAt_38 : decode cX3_valueAt 38 = .ok (.iload_n 3, 1) := by decide +kernel
theorem dX3_valueAt_39 : decode cX3_valueAt 39 = .ok (.ireturn, 1) := by decide +kernel
theorem dX3_degree_0 : decode cX3_degree 0 = .ok (.bipush 9, 2) := by decide +kernel
theorem dX3_degree_2 : decode cX3_degree 2 = .ok (.istore_n 1, 1) := by decide +kernel
theorem dX3_degree_3 : decode cX3_degree 3 = .ok (.iload_n 1, 1) := by decide +kernel
theorem dX3_degree_4 : decode cX3_degree 4 = .ok (.ifCond .le 20, 3) := by decide +kernel
theorem dX3_degree_7 : decode cX3_degree 7 = .ok (.aload_n 0, 1) := by decide +kernel
theorem dX3_degree_8 : decode cX3_degree 8 = .ok (.getfield 9, 3) := by decide +kernel
theorem dX3_degree_11 : decode cX3_degree 11 = .ok (.iload_n 1, 1) := by decide +kernel
theorem dX3_degree_12 : decode cX3_degree 12 = .ok (.iaload, 1) := by decide +kernel
theorem dX3_degree_13 : decode cX3_degree 13 = .ok (.ifCond .eq 5, 3) := by decide +kernel
theorem dX3_degree_16 : decode cX3_degree 16 = .ok (.iload_n 1, 1) := by decide +kernel
theorem dX3_degree_17 : decode cX3_degree 17 = .ok (.ireturn, 1) := by decide +kernel
theorem dX3_degree_18 : decode cX3_degree 18 = .ok (.iinc 1 (-1), 3) := by decide +kernel
theorem dX3_degree_21 : decode cX3_degree 21 = .ok (.goto (-18), 3) := by decide +kernel
theorem dX3_degree_24 : decode cX3_degree 24 = .ok (.iconst 0, 1) := by decide +kernel
theorem dX3_degree_25 : decode cX3_degree 25 = .ok (.ireturn, 1) := by decide +kernel
theorem dX3_mixedInto_0 : decode cX3_mixedInto 0 = .ok (.lload_n 1, 1) := by decide +kernel
theorem dX3_mixedInto_1 : decode cX3_mixedInto 1 = .ok (.lstore_n 3, 1) := by decide +kernel
theorem dX3_mixedInto_2 : decode cX3_mixedInto 2 = .ok (.iconst 0, 1) := by decide +kernel
theorem dX3_mixedInto_3 : decode cX3_mixedInto 3 = .ok (.istore 5, 2) := by decide +kernel
theorem dX3_mixedInto_5 : decode cX3_mixedInto 5 = .ok (.iload 5, 2) := by decide +kernel
theorem dX3_mixedInto_7 : decode cX3_mixedInto 7 = .ok (.bipush 10, 2) := by decide +kernel
theorem dX3_mixedInto_9 : decode cX3_mixedInto 9 = .ok (.if_icmp .ge 24, 3) := by decide +kernel
theorem dX3_mixedInto_12 : decode cX3_mixedInto 12 = .ok (.ldc2_w 44, 3) := by decide +kernel
theorem dX3_mixedInto_15 : decode cX3_mixedInto 15 = .ok (.lload_n 3, 1) := by decide +kernel
theorem dX3_mixedInto_16 : decode cX3_mixedInto 16 = .ok (.lmul, 1) := by decide +kernel
theorem dX3_mixedInto_17 : decode cX3_mixedInto 17 = .ok (.aload_n 0, 1) := by decide +kernel
theorem dX3_mixedInto_18 : decode cX3_mixedInto 18 = .ok (.getfield 9, 3) := by decide +kernel
theorem dX3_mixedInto_21 : decode cX3_mixedInto 21 = .ok (.iload 5, 2) := by decide +kernel
theorem dX3_mixedInto_23 : decode cX3_mixedInto 23 = .ok (.iaload, 1) := by decide +kernel
theorem dX3_mixedInto_24 : decode cX3_mixedInto 24 = .ok (.i2l, 1) := by decide +kernel
theorem dX3_mixedInto_25 : decode cX3_mixedInto 25 = .ok (.ladd, 1) := by decide +kernel
theorem dX3_mixedInto_26 : decode cX3_mixedInto 26 = .ok (.lstore_n 3, 1) := by decide +kernel
theorem dX3_mixedInto_27 : decode cX3_mixedInto 27 = .ok (.iinc 5 1, 3) := by decide +kernel
theorem dX3_mixedInto_30 : decode cX3_mixedInto 30 = .ok (.goto (-25), 3) := by decide +kernel
theorem dX3_mixedInto_33 : decode cX3_mixedInto 33 = .ok (.lload_n 3, 1) := by decide +kernel
theorem dX3_mixedInto_34 : decode cX3_mixedInto 34 = .ok (.lreturn, 1) := by decide +kernel
theorem dX4_init_0 : decode cX4_init 0 = .ok (.aload_n 0, 1) := by decide +kernel
theorem dX4_init_1 : decode cX4_init 1 = .ok (.invokespecial 3, 3) := by decide +kernel
theorem dX4_init_4 : decode cX4_init 4 = .ok (.aload_n 0, 1) := by decide +kernel
theorem dX4_init_5 : decode cX4_init 5 = .ok (.bipush 20, 2) := by decide +kernel
theorem dX4_init_7 : decode cX4_init 7 = .ok (.newarray .int, 2) := by decide +kernel
theorem dX4_init_9 : decode cX4_init 9 = .ok (.putfield 9, 3) := by decide +kernel
theorem dX4_init_12 : decode cX4_init 12 = .ok (.aload_n 0, 1) := by decide +kernel
theorem dX4_init_13 : decode cX4_init 13 = .ok (.iconst 1, 1) := by decide +kernel
theorem dX4_init_14 : decode cX4_init 14 = .ok (.putfield 15, 3) := by decide +kernel
theorem dX4_init_17 : decode cX4_init 17 = .ok (.aload_n 0, 1) := by decide +kernel
theorem dX4_init_18 : decode cX4_init 18 = .ok (.iconst 0, 1) := by decide +kernel
theorem dX4_init_19 : decode cX4_init 19 = .ok (.putfield 19, 3) := by decide +kernel
theorem dX4_init_22 : decode cX4_init 22 = .ok (.aload_n 0, 1) := by decide +kernel
theorem dX4_init_23 : decode cX4_init 23 = .ok (.iconst 0, 1) := by decide +kernel
theorem dX4_init_24 : decode cX4_init 24 = .ok (.putfield 23, 3) := by decide +kernel
theorem dX4_init_27 : decode cX4_init 27 = .ok (.return_, 1) := by decide +kernel
theorem dX4_renew_0 : decode cX4_renew 0 = .ok (.aload_n 0, 1) := by decide +kernel
theorem dX4_renew_1 : decode cX4_renew 1 = .ok (.getfield 9, 3) := by decide +kernel
theorem dX4_renew_4 : decode cX4_renew 4 = .ok (.iconst 0, 1) := by decide +kernel
theorem dX4_renew_5 : decode cX4_renew 5 = .ok (.invokestatic 26, 3) := by decide +kernel
theorem dX4_renew_8 : decode cX4_renew 8 = .ok (.aload_n 0, 1) := by decide +kernel
theorem dX4_renew_9 : decode cX4_renew 9 = .ok (.iconst 0, 1) := by decide +kernel
theorem dX4_renew_10 : decode cX4_renew 10 = .ok (.putfield 15, 3) := by decide +kernel
theorem dX4_renew_13 : decode cX4_renew 13 = .ok (.aload_n 0, 1) := by decide +kernel
theorem dX4_renew_14 : decode cX4_renew 14 = .ok (.iload_n 1, 1) := by decide +kernel
theorem dX4_renew_15 : decode cX4_renew 15 = .ok (.putfield 19, 3) := by decide +kernel
theorem dX4_renew_18 : decode cX4_renew 18 = .ok (.aload_n 0, 1) := by decide +kernel
theorem dX4_renew_19 : decode cX4_renew 19 = .ok (.iload_n 2, 1) := by decide +kernel
theorem dX4_renew_20 : decode cX4_renew 20 = .ok (.putfield 23, 3) := by decide +kernel
theorem dX4_renew_23 : decode cX4_renew 23 = .ok (.return_, 1) := by decide +kernel
theorem dX4_findingAt_0 : decode cX4_findingAt 0 = .ok (.aload_n 0, 1) := by decide +kernel
theorem dX4_findingAt_1 : decode cX4_findingAt 1 = .ok (.getfield 15, 3) := by decide +kernel
theorem dX4_findingAt_4 : decode cX4_findingAt 4 = .ok (.ifCond .eq 5, 3) := by decide +kernel
theorem dX4_findingAt_7 : decode cX4_findingAt 7 = .ok (.iconst 1, 1) := by decide +kernel
theorem dX4_findingAt_8 : decode cX4_findingAt 8 = .ok (.ireturn, 1) := by decide +kernel
theorem dX4_findingAt_9 : decode cX4_findingAt 9 = .ok (.aload_n 0, 1) := by decide +kernel
theorem dX4_findingAt_10 : decode cX4_findingAt 10 = .ok (.getfield 19, 3) := by decide +kernel
theorem dX4_findingAt_13 : decode cX4_findingAt 13 = .ok (.iload_n 1, 1) := by decide +kernel
theorem dX4_findingAt_14 : decode cX4_findingAt 14 = .ok (.if_icmp .eq 5, 3) := by decide +kernel
theorem dX4_findingAt_17 : decode cX4_findingAt 17 = .ok (.iconst 3, 1) := by decide +kernel
theorem dX4_findingAt_18 : decode cX4_findingAt 18 = .ok (.ireturn, 1) := by decide +kernel
theorem dX4_findingAt_19 : decode cX4_findingAt 19 = .ok (.iload_n 2, 1) := by decide +kernel
theorem dX4_findingAt_20 : decode cX4_findingAt 20 = .ok (.ifCond .lt 11, 3) := by decide +kernel
theorem dX4_findingAt_23 : decode cX4_findingAt 23 = .ok (.iload_n 2, 1) := by decide +kernel
theorem dX4_findingAt_24 : decode cX4_findingAt 24 = .ok (.aload_n 0, 1) := by decide +kernel
theorem dX4_findingAt_25 : decode cX4_findingAt 25 = .ok (.getfield 23, 3) := by decide +kernel
theorem dX4_findingAt_28 : decode cX4_findingAt 28 = .ok (.if_icmp .lt 7, 3) := by decide +kernel
theorem dX4_findingAt_31 : decode cX4_findingAt 31 = .ok (.iconst 2, 1) := by decide +kernel
theorem dX4_findingAt_32 : decode cX4_findingAt 32 = .ok (.goto 4, 3) := by decide +kernel
theorem dX4_findingAt_35 : decode cX4_findingAt 35 = .ok (.iconst 0, 1) := by decide +kernel
theorem dX4_findingAt_36 : decode cX4_findingAt 36 = .ok (.ireturn, 1) := by decide +kernel
theorem dX4_hasStretch_0 : decode cX4_hasStretch 0 = .ok (.iload_n 1, 1) := by decide +kernel
theorem dX4_hasStretch_1 : decode cX4_hasStretch 1 = .ok (.ifCond .lt 29, 3) := by decide +kernel
theorem dX4_hasStretch_4 : decode cX4_hasStretch 4 = .ok (.iload_n 2, 1) := by decide +kernel
theorem dX4_hasStretch_5 : decode cX4_hasStretch 5 = .ok (.ifCond .lt 25, 3) := by decide +kernel
theorem dX4_hasStretch_8 : decode cX4_hasStretch 8 = .ok (.iload_n 1, 1) := by decide +kernel
theorem dX4_hasStretch_9 : decode cX4_hasStretch 9 = .ok (.aload_n 0, 1) := by decide +kernel
theorem dX4_hasStretch_10 : decode cX4_hasStretch 10 = .ok (.getfield 23, 3) := by decide +kernel
theorem dX4_hasStretch_13 : decode cX4_hasStretch 13 = .ok (.if_icmp .gt 17, 3) := by decide +kernel
theorem dX4_hasStretch_16 : decode cX4_hasStretch 16 = .ok (.iload_n 2, 1) := by decide +kernel
theorem dX4_hasStretch_17 : decode cX4_hasStretch 17 = .ok (.aload_n 0, 1) := by decide +kernel
theorem dX4_hasStretch_18 : decode cX4_hasStretch 18 = .ok (.getfield 23, 3) := by decide +kernel
theorem dX4_hasStretch_21 : decode cX4_hasStretch 21 = .ok (.iload_n 1, 1) := by decide +kernel
theorem dX4_hasStretch_22 : decode cX4_hasStretch 22 = .ok (.isub, 1) := by decide +kernel
theorem dX4_hasStretch_23 : decode cX4_hasStretch 23 = .ok (.if_icmp .gt 7, 3) := by decide +kernel
theorem dX4_hasStretch_26 : decode cX4_hasStretch 26 = .ok (.iconst 1, 1) := by decide +kernel
theorem dX4_hasStretch_27 : decode cX4_hasStretch 27 = .ok (.goto 4, 3) := by decide +kernel
theorem dX4_hasStretch_30 : decode cX4_hasStretch 30 = .ok (.iconst 0, 1) := by decide +kernel
theorem dX4_hasStretch_31 : decode cX4_hasStretch 31 = .ok (.ireturn, 1) := by decide +kernel
theorem dX4_number_0 : decode cX4_number 0 = .ok (.iload_n 1, 1) := by decide +kernel
theorem dX4_number_1 : decode cX4_number 1 = .ok (.ifCond .lt 23, 3) := by decide +kernel
theorem dX4_number_4 : decode cX4_number 4 = .ok (.iload_n 1, 1) := by decide +kernel
theorem dX4_number_5 : decode cX4_number 5 = .ok (.aload_n 0, 1) := by decide +kernel
theorem dX4_number_6 : decode cX4_number 6 = .ok (.getfield 23, 3) := by decide +kernel
theorem dX4_number_9 : decode cX4_number 9 = .ok (.if_icmp .ge 15, 3) := by decide +kernel
theorem dX4_number_12 : decode cX4_number 12 = .ok (.aload_n 0, 1) := by decide +kernel
theorem dX4_number_13 : decode cX4_number 13 = .ok (.getfield 9, 3) := by decide +kernel
theorem dX4_number_16 : decode cX4_number 16 = .ok (.iload_n 1, 1) := by decide +kernel
theorem dX4_number_17 : decode cX4_number 17 = .ok (.iaload, 1) := by decide +kernel
theorem dX4_number_18 : decode cX4_number 18 = .ok (.invokestatic 32, 3) := by decide +kernel
theorem dX4_number_21 : decode cX4_number 21 = .ok (.goto 4, 3) := by decide +kernel
theorem dX4_number_24 : decode cX4_number 24 = .ok (.iconst 0, 1) := by decide +kernel
theorem dX4_number_25 : decode cX4_number 25 = .ok (.ireturn, 1) := by decide +kernel
theorem dJ9_floorMod_7cf53_0 : decode cJ9_floorMod_7cf53 0 = .ok (.iload_n 0, 1) := by decide +kernel
theorem dJ9_floorMod_7cf53_1 : decode cJ9_floorMod_7cf53 1 = .ok (.iload_n 1, 1) := by decide +kernel
theorem dJ9_floorMod_7cf53_2 : decode cJ9_floorMod_7cf53 2 = .ok (.irem, 1) := by decide +kernel
theorem dJ9_floorMod_7cf53_3 : decode cJ9_floorMod_7cf53 3 = .ok (.istore_n 2, 1) := by decide +kernel
theorem dJ9_floorMod_7cf53_4 : decode cJ9_floorMod_7cf53 4 = .ok (.iload_n 0, 1) := by decide +kernel
theorem dJ9_floorMod_7cf53_5 : decode cJ9_floorMod_7cf53 5 = .ok (.iload_n 1, 1) := by decide +kernel
theorem dJ9_floorMod_7cf53_6 : decode cJ9_floorMod_7cf53 6 = .ok (.ixor, 1) := by decide +kernel
theorem dJ9_floorMod_7cf53_7 : decode cJ9_floorMod_7cf53 7 = .ok (.ifCond .ge 11, 3) := by decide +kernel
theorem dJ9_floorMod_7cf53_10 : decode cJ9_floorMod_7cf53 10 = .ok (.iload_n 2, 1) := by decide +kernel
theorem dJ9_floorMod_7cf53_11 : decode cJ9_floorMod_7cf53 11 = .ok (.ifCond .eq 7, 3) := by decide +kernel
theorem dJ9_floorMod_7cf53_14 : decode cJ9_floorMod_7cf53 14 = .ok (.iload_n 2, 1) := by decide +kernel
theorem dJ9_floorMod_7cf53_15 : decode cJ9_floorMod_7cf53 15 = .ok (.iload_n 1, 1) := by decide +kernel
theorem dJ9_floorMod_7cf53_16 : decode cJ9_floorMod_7cf53 16 = .ok (.iadd, 1) := by decide +kernel
theorem dJ9_floorMod_7cf53_17 : decode cJ9_floorMod_7cf53 17 = .ok (.ireturn, 1) := by decide +kernel
theorem dJ9_floorMod_7cf53_18 : decode cJ9_floorMod_7cf53 18 = .ok (.iload_n 2, 1) := by decide +kernel
theorem dJ9_floorMod_7cf53_19 : decode cJ9_floorMod_7cf53 19 = .ok (.ireturn, 1) := by decide +kernel
theorem dJ7_fill_53178_0 : decode cJ7_fill_53178 0 = .ok (.iconst 0, 1) := by decide +kernel
theorem dJ7_fill_53178_1 : decode cJ7_fill_53178 1 = .ok (.istore_n 2, 1) := by decide +kernel
theorem dJ7_fill_53178_2 : decode cJ7_fill_53178 2 = .ok (.aload_n 0, 1) := by decide +kernel
theorem dJ7_fill_53178_3 : decode cJ7_fill_53178 3 = .ok (.arraylength, 1) := by decide +kernel
theorem dJ7_fill_53178_4 : decode cJ7_fill_53178 4 = .ok (.istore_n 3, 1) := by decide +kernel
theorem dJ7_fill_53178_5 : decode cJ7_fill_53178 5 = .ok (.iload_n 2, 1) := by decide +kernel
theorem dJ7_fill_53178_6 : decode cJ7_fill_53178 6 = .ok (.iload_n 3, 1) := by decide +kernel
theorem dJ7_fill_53178_7 : decode cJ7_fill_53178 7 = .ok (.if_icmp .ge 13, 3) := by decide +kernel
theorem dJ7_fill_53178_10 : decode cJ7_fill_53178 10 = .ok (.aload_n 0, 1) := by decide +kernel
theorem dJ7_fill_53178_11 : decode cJ7_fill_53178 11 = .ok (.iload_n 2, 1) := by decide +kernel
theorem dJ7_fill_53178_12 : decode cJ7_fill_53178 12 = .ok (.iload_n 1, 1) := by decide +kernel
theorem dJ7_fill_53178_13 : decode cJ7_fill_53178 13 = .ok (.iastore, 1) := by decide +kernel
theorem dJ7_fill_53178_14 : decode cJ7_fill_53178 14 = .ok (.iinc 2 1, 3) := by decide +kernel
theorem dJ7_fill_53178_17 : decode cJ7_fill_53178 17 = .ok (.goto (-12), 3) := by decide +kernel
theorem dJ7_fill_53178_20 : decode cJ7_fill_53178 20 = .ok (.return_, 1) := by decide +kernel
end
section
theorem dX5_init_0 : decode cX5_init 0 = .ok (.aload_n 0, 1) := by decide +kernel
theorem dX5_init_1 : decode cX5_init 1 = .ok (.invokespecial 3, 3) := by decide +kernel
theorem dX5_init_4 : decode cX5_init 4 = .ok (.aload_n 0, 1) := by decide +kernel
theorem dX5_init_5 : decode cX5_init 5 = .ok (.bipush 8, 2) := by decide +kernel
theorem dX5_init_7 : decode cX5_init 7 = .ok (.anewarray 9, 3) := by decide +kernel
theorem dX5_init_10 : decode cX5_init 10 = .ok (.putfield 11, 3) := by decide +kernel
theorem dX5_init_13 : decode cX5_init 13 = .ok (.aload_n 0, 1) := by decide +kernel
theorem dX5_init_14 : decode cX5_init 14 = .ok (.iconst 4, 1) := by decide +kernel
theorem dX5_init_15 : decode cX5_init 15 = .ok (.anewarray 15, 3) := by decide +kernel
theorem dX5_init_18 : decode cX5_init 18 = .ok (.putfield 17, 3) := by decide +kernel
theorem dX5_init_21 : decode cX5_init 21 = .ok (.aload_n 0, 1) := by decide +kernel
theorem dX5_init_22 : decode cX5_init 22 = .ok (.new 21, 3) := by decide +kernel
theorem dX5_init_25 : decode cX5_init 25 = .ok (.dup, 1) := by decide +kernel
theorem dX5_init_26 : decode cX5_init 26 = .ok (.invokespecial 23, 3) := by decide +kernel
theorem dX5_init_29 : decode cX5_init 29 = .ok (.putfield 24, 3) := by decide +kernel
theorem dX5_init_32 : decode cX5_init 32 = .ok (.aload_n 0, 1) := by decide +kernel
theorem dX5_init_33 : decode cX5_init 33 = .ok (.new 28, 3) := by decide +kernel
theorem dX5_init_36 : decode cX5_init 36 = .ok (.dup, 1) := by decide +kernel
theorem dX5_init_37 : decode cX5_init 37 = .ok (.invokespecial 30, 3) := by decide +kernel
theorem dX5_init_40 : decode cX5_init 40 = .ok (.putfield 31, 3) := by decide +kernel
theorem dX5_init_43 : decode cX5_init 43 = .ok (.aload_n 0, 1) := by decide +kernel
theorem dX5_init_44 : decode cX5_init 44 = .ok (.new 28, 3) := by decide +kernel
theorem dX5_init_47 : decode cX5_init 47 = .ok (.dup, 1) := by decide +kernel
theorem dX5_init_48 : decode cX5_init 48 = .ok (.invokespecial 30, 3) := by decide +kernel
theorem dX5_init_51 : decode cX5_init 51 = .ok (.putfield 35, 3) := by decide +kernel
theorem dX5_init_54 : decode cX5_init 54 = .ok (.aload_n 0, 1) := by decide +kernel
theorem dX5_init_55 : decode cX5_init 55 = .ok (.new 28, 3) := by decide +kernel
theorem dX5_init_58 : decode cX5_init 58 = .ok (.dup, 1) := by decide +kernel
theorem dX5_init_59 : decode cX5_init 59 = .ok (.invokespecial 30, 3) := by decide +kernel
theorem dX5_init_62 : decode cX5_init 62 = .ok (.putfield 38, 3) := by decide +kernel
theorem dX5_init_65 : decode cX5_init 65 = .ok (.aload_n 0, 1) := by decide +kernel
theorem dX5_init_66 : decode cX5_init 66 = .ok (.new 28, 3) := by decide +kernel
theorem dX5_init_69 : decode cX5_init 69 = .ok (.dup, 1) := by decide +kernel
theorem dX5_init_70 : decode cX5_init 70 = .ok (.invokespecial 30, 3) := by decide +kernel
theorem dX5_init_73 : decode cX5_init 73 = .ok (.putfield 41, 3) := by decide +kernel
theorem dX5_init_76 : decode cX5_init 76 = .ok (.aload_n 0, 1) := by decide +kernel
theorem dX5_init_77 : decode cX5_init 77 = .ok (.new 28, 3) := by decide +kernel
theorem dX5_init_80 : decode cX5_init 80 = .ok (.dup, 1) := by decide +kernel
theorem dX5_init_81 : decode cX5_init 81 = .ok (.invokespecial 30, 3) := by decide +kernel
theorem dX5_init_84 : decode cX5_init 84 = .ok (.putfield 44, 3) := by decide +kernel
theorem dX5_init_87 : decode cX5_init 87 = .ok (.aload_n 0, 1) := by decide +kernel
theorem dX5_init_88 : decode cX5_init 88 = .ok (.new 28, 3) := by decide +kernel
theorem dX5_init_91 : decode cX5_init 91 = .ok (.dup, 1) := by decide +kernel
theorem dX5_init_92 : decode cX5_init 92 = .ok (.invokespecial 30, 3) := by decide +kernel
theorem dX5_init_95 : decode cX5_init 95 = .ok (.putfield 47, 3) := by decide +kernel
theorem dX5_init_98 : decode cX5_init 98 = .ok (.aload_n 0, 1) := by decide +kernel
theorem dX5_init_99 : decode cX5_init 99 = .ok (.iconst 0, 1) := by decide +kernel
theorem dX5_init_100 : decode cX5_init 100 = .ok (.putfield 50, 3) := by decide +kernel
theorem dX5_init_103 : decode cX5_init 103 = .ok (.iconst 0, 1) := by decide +kernel
theorem dX5_init_104 : decode cX5_init 104 = .ok (.istore_n 1, 1) := by decide +kernel
theorem dX5_init_105 : decode cX5_init 105 = .ok (.iload_n 1, 1) := by decide +kernel
theorem dX5_init_106 : decode cX5_init 106 = .ok (.bipush 8, 2) := by decide +kernel
theorem dX5_init_108 : decode cX5_init 108 = .ok (.if_icmp .ge 22, 3) := by decide +kernel
theorem dX5_init_111 : decode cX5_init 111 = .ok (.aload_n 0, 1) := by decide +kernel
theorem dX5_init_112 : decode cX5_init 112 = .ok (.getfield 11, 3) := by decide +kernel
theorem dX5_init_115 : decode cX5_init 115 = .ok (.iload_n 1, 1) := by decide +kernel
theorem dX5_init_116 : decode cX5_init 116 = .ok (.new 9, 3) := by decide +kernel
theorem dX5_init_119 : decode cX5_init 119 = .ok (.dup, 1) := by decide +kernel
theorem dX5_init_120 : decode cX5_init 120 = .ok (.invokespecial 54, 3) := by decide +kernel
theorem dX5_init_123 : decode cX5_init 123 = .ok (.aastore, 1) := by decide +kernel
theorem dX5_init_124 : decode cX5_init 124 = .ok (.iinc 1 1, 3) := by decide +kernel
theorem dX5_init_127 : decode cX5_init 127 = .ok (.goto (-22), 3) := by decide +kernel
theorem dX5_init_130 : decode cX5_init 130 = .ok (.iconst 0, 1) := by decide +kernel
theorem dX5_init_131 : decode cX5_init 131 = .ok (.istore_n 1, 1) := by decide +kernel
theorem dX5_init_132 : decode cX5_init 132 = .ok (.iload_n 1, 1) := by decide +kernel
theorem dX5_init_133 : decode cX5_init 133 = .ok (.iconst 4, 1) := by decide +kernel
theorem dX5_init_134 : decode cX5_init 134 = .ok (.if_icmp .ge 22, 3) := by decide +kernel
theorem dX5_init_137 : decode cX5_init 137 = .ok (.aload_n 0, 1) := by decide +kernel
theorem dX5_init_138 : decode cX5_init 138 = .ok (.getfield 17, 3) := by decide +kernel
theorem dX5_init_141 : decode cX5_init 141 = .ok (.iload_n 1, 1) := by decide +kernel
theorem dX5_init_142 : decode cX5_init 142 = .ok (.new 15, 3) := by decide +kernel
theorem dX5_init_145 : decode cX5_init 145 = .ok (.dup, 1) := by decide +kernel
theorem dX5_init_146 : decode cX5_init 146 = .ok (.invokespecial 55, 3) := by decide +kernel
theorem dX5_init_149 : decode cX5_init 149 = .ok (.aastore, 1) := by decide +kernel
theorem dX5_init_150 : decode cX5_init 150 = .ok (.iinc 1 1, 3) := by decide +kernel
theorem dX5_init_153 : decode cX5_init 153 = .ok (.goto (-21), 3) := by decide +kernel
theorem dX5_init_156 : decode cX5_init 156 = .ok (.return_, 1) := by decide +kernel
theorem dX5_sheet_0 : decode cX5_sheet 0 = .ok (.iload_n 1, 1) := by decide +kernel
theorem dX5_sheet_1 : decode cX5_sheet 1 = .ok (.invokestatic 56, 3) := by decide +kernel
theorem dX5_sheet_4 : decode cX5_sheet 4 = .ok (.ifCond .eq 16, 3) := by decide +kernel
theorem dX5_sheet_7 : decode cX5_sheet 7 = .ok (.iload_n 2, 1) := by decide +kernel
theorem dX5_sheet_8 : decode cX5_sheet 8 = .ok (.invokestatic 60, 3) := by decide +kernel
theorem dX5_sheet_11 : decode cX5_sheet 11 = .ok (.ifCond .eq 9, 3) := by decide +kernel
theorem dX5_sheet_14 : decode cX5_sheet 14 = .ok (.iload_n 3, 1) := by decide +kernel
theorem dX5_sheet_15 : decode cX5_sheet 15 = .ok (.bipush 20, 2) := by decide +kernel
theorem dX5_sheet_17 : decode cX5_sheet 17 = .ok (.if_icmp .le 6, 3) := by decide +kernel
theorem dX5_sheet_20 : decode cX5_sheet 20 = .ok (.bipush (-2), 2) := by decide +kernel
theorem dX5_sheet_22 : decode cX5_sheet 22 = .ok (.ireturn, 1) := by decide +kernel
theorem dX5_sheet_23 : decode cX5_sheet 23 = .ok (.iload_n 3, 1) := by decide +kernel
theorem dX5_sheet_24 : decode cX5_sheet 24 = .ok (.ifCond .ge 9, 3) := by decide +kernel
theorem dX5_sheet_27 : decode cX5_sheet 27 = .ok (.aload_n 0, 1) := by decide +kernel
theorem dX5_sheet_28 : decode cX5_sheet 28 = .ok (.iconst 5, 1) := by decide +kernel
theorem dX5_sheet_29 : decode cX5_sheet 29 = .ok (.invokevirtual 63, 3) := by decide +kernel
theorem dX5_sheet_32 : decode cX5_sheet 32 = .ok (.ireturn, 1) := by decide +kernel
theorem dX5_sheet_33 : decode cX5_sheet 33 = .ok (.aload_n 0, 1) := by decide +kernel
theorem dX5_sheet_34 : decode cX5_sheet 34 = .ok (.getfield 11, 3) := by decide +kernel
theorem dX5_sheet_37 : decode cX5_sheet 37 = .ok (.iload_n 1, 1) := by decide +kernel
theorem dX5_sheet_38 : decode cX5_sheet 38 = .ok (.aaload, 1) := by decide +kernel
theorem dX5_sheet_39 : decode cX5_sheet 39 = .ok (.iload_n 2, 1) := by decide +kernel
theorem dX5_sheet_40 : decode cX5_sheet 40 = .ok (.iload_n 3, 1) := by decide +kernel
theorem dX5_sheet_41 : decode cX5_sheet 41 = .ok (.invokevirtual 67, 3) := by decide +kernel
theorem dX5_sheet_44 : decode cX5_sheet 44 = .ok (.iload_n 3, 1) := by decide +kernel
theorem dX5_sheet_45 : decode cX5_sheet 45 = .ok (.ireturn, 1) := by decide +kernel
theorem dX5_lose_0 : decode cX5_lose 0 = .ok (.iload_n 1, 1) := by decide +kernel
theorem dX5_lose_1 : decode cX5_lose 1 = .ok (.invokestatic 56, 3) := by decide +kernel
theorem dX5_lose_4 : decode cX5_lose 4 = .ok (.ifCond .ne 6, 3) := by decide +kernel
theorem dX5_lose_7 : decode cX5_lose 7 = .ok (.bipush (-2), 2) := by decide +kernel
theorem dX5_lose_9 : decode cX5_lose 9 = .ok (.ireturn, 1) := by decide +kernel
theorem dX5_lose_10 : decode cX5_lose 10 = .ok (.aload_n 0, 1) := by decide +kernel
theorem dX5_lose_11 : decode cX5_lose 11 = .ok (.getfield 11, 3) := by decide +kernel
theorem dX5_lose_14 : decode cX5_lose 14 = .ok (.iload_n 1, 1) := by decide +kernel
theorem dX5_lose_15 : decode cX5_lose 15 = .ok (.aaload, 1) := by decide +kernel
theorem dX5_lose_16 : decode cX5_lose 16 = .ok (.getfield 71, 3) := by decide +kernel
theorem dX5_lose_19 : decode cX5_lose 19 = .ok (.ifCond .eq 9, 3) := by decide +kernel
theorem dX5_lose_22 : decode cX5_lose 22 = .ok (.aload_n 0, 1) := by decide +kernel
theorem dX5_lose_23 : decode cX5_lose 23 = .ok (.iconst 1, 1) := by decide +kernel
theorem dX5_lose_24 : decode cX5_lose 24 = .ok (.invokevirtual 63, 3) := by decide +kernel
theorem dX5_lose_27 : decode cX5_lose 27 = .ok (.ireturn, 1) := by decide +kernel
theorem dX5_lose_28 : decode cX5_lose 28 = .ok (.aload_n 0, 1) := by decide +kernel
theorem dX5_lose_29 : decode cX5_lose 29 = .ok (.getfield 11, 3) := by decide +kernel
theorem dX5_lose_32 : decode cX5_lose 32 = .ok (.iload_n 1, 1) := by decide +kernel
theorem dX5_lose_33 : decode cX5_lose 33 = .ok (.aaload, 1) := by decide +kernel
theorem dX5_lose_34 : decode cX5_lose 34 = .ok (.iconst 1, 1) := by decide +kernel
theorem dX5_lose_35 : decode cX5_lose 35 = .ok (.putfield 71, 3) := by decide +kernel
theorem dX5_lose_38 : decode cX5_lose 38 = .ok (.aload_n 0, 1) := by decide +kernel
theorem dX5_lose_39 : decode cX5_lose 39 = .ok (.getfield 11, 3) := by decide +kernel
theorem dX5_lose_42 : decode cX5_lose 42 = .ok (.iload_n 1, 1) := by decide +kernel
theorem dX5_lose_43 : decode cX5_lose 43 = .ok (.aaload, 1) := by decide +kernel
theorem dX5_lose_44 : decode cX5_lose 44 = .ok (.getfield 75, 3) := by decide +kernel
theorem dX5_lose_47 : decode cX5_lose 47 = .ok (.ireturn, 1) := by decide +kernel
theorem dX5_put_0 : decode cX5_put 0 = .ok (.iload_n 1, 1) := by decide +kernel
theorem dX5_put_1 : decode cX5_put 1 = .ok (.invokestatic 56, 3) := by decide +kernel
theorem dX5_put_4 : decode cX5_put 4 = .ok (.ifCond .eq 10, 3) := by decide +kernel
theorem dX5_put_7 : decode cX5_put 7 = .ok (.iload_n 2, 1) := by decide +kernel
theorem dX5_put_8 : decode cX5_put 8 = .ok (.invokestatic 60, 3) := by decide +kernel
theorem dX5_put_11 : decode cX5_put 11 = .ok (.ifCond .ne 6, 3) := by decide +kernel
theorem dX5_put_14 : decode cX5_put 14 = .ok (.bipush (-2), 2) := by decide +kernel
theorem dX5_put_16 : decode cX5_put 16 = .ok (.ireturn, 1) := by decide +kernel
theorem dX5_put_17 : decode cX5_put 17 = .ok (.aload_n 0, 1) := by decide +kernel
theorem dX5_put_18 : decode cX5_put 18 = .ok (.getfield 11, 3) := by decide +kernel
theorem dX5_put_21 : decode cX5_put 21 = .ok (.iload_n 1, 1) := by decide +kernel
theorem dX5_put_22 : decode cX5_put 22 = .ok (.aaload, 1) := by decide +kernel
theorem dX5_put_23 : decode cX5_put 23 = .ok (.iload_n 2, 1) := by decide +kernel
theorem dX5_put_24 : decode cX5_put 24 = .ok (.iload_n 3, 1) := by decide +kernel
theorem dX5_put_25 : decode cX5_put 25 = .ok (.invokevirtual 78, 3) := by decide +kernel
theorem dX5_put_28 : decode cX5_put 28 = .ok (.istore 5, 2) := by decide +kernel
theorem dX5_put_30 : decode cX5_put 30 = .ok (.iload 5, 2) := by decide +kernel
theorem dX5_put_32 : decode cX5_put 32 = .ok (.ifCond .eq 10, 3) := by decide +kernel
theorem dX5_put_35 : decode cX5_put 35 = .ok (.aload_n 0, 1) := by decide +kernel
theorem dX5_put_36 : decode cX5_put 36 = .ok (.iload 5, 2) := by decide +kernel
theorem dX5_put_38 : decode cX5_put 38 = .ok (.invokevirtual 63, 3) := by decide +kernel
theorem dX5_put_41 : decode cX5_put 41 = .ok (.ireturn, 1) := by decide +kernel
theorem dX5_put_42 : decode cX5_put 42 = .ok (.aload_n 0, 1) := by decide +kernel
theorem dX5_put_43 : decode cX5_put 43 = .ok (.getfield 11, 3) := by decide +kernel
theorem dX5_put_46 : decode cX5_put 46 = .ok (.iload_n 1, 1) := by decide +kernel
theorem dX5_put_47 : decode cX5_put 47 = .ok (.aaload, 1) := by decide +kernel
theorem dX5_put_48 : decode cX5_put 48 = .ok (.getfield 82, 3) := by decide +kernel
theorem dX5_put_51 : decode cX5_put 51 = .ok (.iload_n 3, 1) := by decide +kernel
theorem dX5_put_52 : decode cX5_put 52 = .ok (.iload_n 2, 1) := by decide +kernel
theorem dX5_put_53 : decode cX5_put 53 = .ok (.iload 4, 2) := by decide +kernel
theorem dX5_put_55 : decode cX5_put 55 = .ok (.invokestatic 86, 3) := by decide +kernel
theorem dX5_put_58 : decode cX5_put 58 = .ok (.iastore, 1) := by decide +kernel
theorem dX5_put_59 : decode cX5_put 59 = .ok (.iconst 1, 1) := by decide +kernel
theorem dX5_put_60 : decode cX5_put 60 = .ok (.ireturn, 1) := by decide +kernel
theorem dX5_get_0 : decode cX5_get 0 = .ok (.iload_n 1, 1) := by decide +kernel
theorem dX5_get_1 : decode cX5_get 1 = .ok (.invokestatic 56, 3) := by decide +kernel
theorem dX5_get_4 : decode cX5_get 4 = .ok (.ifCond .eq 10, 3) := by decide +kernel
theorem dX5_get_7 : decode cX5_get 7 = .ok (.iload_n 2, 1) := by decide +kernel
theorem dX5_get_8 : decode cX5_get 8 = .ok (.invokestatic 60, 3) := by decide +kernel
theorem dX5_get_11 : decode cX5_get 11 = .ok (.ifCond .ne 6, 3) := by decide +kernel
theorem dX5_get_14 : decode cX5_get 14 = .ok (.ldc 89, 2) := by decide +kernel
theorem dX5_get_16 : decode cX5_get 16 = .ok (.ireturn, 1) := by decide +kernel
theorem dX5_get_17 : decode cX5_get 17 = .ok (.aload_n 0, 1) := by decide +kernel
theorem dX5_get_18 : decode cX5_get 18 = .ok (.getfield 11, 3) := by decide +kernel
theorem dX5_get_21 : decode cX5_get 21 = .ok (.iload_n 1, 1) := by decide +kernel
theorem dX5_get_22 : decode cX5_get 22 = .ok (.aaload, 1) := by decide +kernel
theorem dX5_get_23 : decode cX5_get 23 = .ok (.iload_n 2, 1) := by decide +kernel
theorem dX5_get_24 : decode cX5_get 24 = .ok (.iload_n 3, 1) := by decide +kernel
theorem dX5_get_25 : decode cX5_get 25 = .ok (.invokevirtual 78, 3) := by decide +kernel
theorem dX5_get_28 : decode cX5_get 28 = .ok (.istore 4, 2) := by decide +kernel
theorem dX5_get_30 : decode cX5_get 30 = .ok (.iload 4, 2) := by decide +kernel
theorem dX5_get_32 : decode cX5_get 32 = .ok (.ifCond .eq 13, 3) := by decide +kernel
theorem dX5_get_35 : decode cX5_get 35 = .ok (.aload_n 0, 1) := by decide +kernel
theorem dX5_get_36 : decode cX5_get 36 = .ok (.iload 4, 2) := by decide +kernel
theorem dX5_get_38 : decode cX5_get 38 = .ok (.invokevirtual 63, 3) := by decide +kernel
theorem dX5_get_41 : decode cX5_get 41 = .ok (.pop, 1) := by decide +kernel
theorem dX5_get_42 : decode cX5_get 42 = .ok (.ldc 89, 2) := by decide +kernel
theorem dX5_get_44 : decode cX5_get 44 = .ok (.ireturn, 1) := by decide +kernel
theorem dX5_get_45 : decode cX5_get 45 = .ok (.aload_n 0, 1) := by decide +kernel
theorem dX5_get_46 : decode cX5_get 46 = .ok (.getfield 11, 3) := by decide +kernel
theorem dX5_get_49 : decode cX5_get 49 = .ok (.iload_n 1, 1) := by decide +kernel
theorem dX5_get_50 : decode cX5_get 50 = .ok (.aaload, 1) := by decide +kernel
theorem dX5_get_51 : decode cX5_get 51 = .ok (.getfield 82, 3) := by decide +kernel
theorem dX5_get_54 : decode cX5_get 54 = .ok (.iload_n 3, 1) := by decide +kernel
theorem dX5_get_55 : decode cX5_get 55 = .ok (.iaload, 1) := by decide +kernel
theorem dX5_get_56 : decode cX5_get 56 = .ok (.ireturn, 1) := by decide +kernel
theorem dX5_copy_0 : decode cX5_copy 0 = .ok (.iload_n 1, 1) := by decide +kernel
theorem dX5_copy_1 : decode cX5_copy 1 = .ok (.invokestatic 56, 3) := by decide +kernel
theorem dX5_copy_4 : decode cX5_copy 4 = .ok (.ifCond .eq 10, 3) := by decide +kernel
theorem dX5_copy_7 : decode cX5_copy 7 = .ok (.iload_n 3, 1) := by decide +kernel
theorem dX5_copy_8 : decode cX5_copy 8 = .ok (.invokestatic 56, 3) := by decide +kernel
theorem dX5_copy_11 : decode cX5_copy 11 = .ok (.ifCond .ne 6, 3) := by decide +kernel
theorem dX5_copy_14 : decode cX5_copy 14 = .ok (.bipush (-2), 2) := by decide +kernel
theorem dX5_copy_16 : decode cX5_copy 16 = .ok (.ireturn, 1) := by decide +kernel
theorem dX5_copy_17 : decode cX5_copy 17 = .ok (.aload_n 0, 1) := by decide +kernel
theorem dX5_copy_18 : decode cX5_copy 18 = .ok (.getfield 11, 3) := by decide +kernel
theorem dX5_copy_21 : decode cX5_copy 21 = .ok (.iload_n 1, 1) := by decide +kernel
theorem dX5_copy_22 : decode cX5_copy 22 = .ok (.aaload, 1) := by decide +kernel
theorem dX5_copy_23 : decode cX5_copy 23 = .ok (.getfield 71, 3) := by decide +kernel
theorem dX5_copy_26 : decode cX5_copy 26 = .ok (.ifCond .ne 15, 3) := by decide +kernel
theorem dX5_copy_29 : decode cX5_copy 29 = .ok (.aload_n 0, 1) := by decide +kernel
theorem dX5_copy_30 : decode cX5_copy 30 = .ok (.getfield 11, 3) := by decide +kernel
theorem dX5_copy_33 : decode cX5_copy 33 = .ok (.iload_n 3, 1) := by decide +kernel
theorem dX5_copy_34 : decode cX5_copy 34 = .ok (.aaload, 1) := by decide +kernel
theorem dX5_copy_35 : decode cX5_copy 35 = .ok (.getfield 71, 3) := by decide +kernel
theorem dX5_copy_38 : decode cX5_copy 38 = .ok (.ifCond .eq 9, 3) := by decide +kernel
theorem dX5_copy_41 : decode cX5_copy 41 = .ok (.aload_n 0, 1) := by decide +kernel
theorem dX5_copy_42 : decode cX5_copy 42 = .ok (.iconst 1, 1) := by decide +kernel
theorem dX5_copy_43 : decode cX5_copy 43 = .ok (.invokevirtual 63, 3) := by decide +kernel
theorem dX5_copy_46 : decode cX5_copy 46 = .ok (.ireturn, 1) := by decide +kernel
theorem dX5_copy_47 : decode cX5_copy 47 = .ok (.aload_n 0, 1) := by decide +kernel
theorem dX5_copy_48 : decode cX5_copy 48 = .ok (.getfield 11, 3) := by decide +kernel
theorem dX5_copy_51 : decode cX5_copy 51 = .ok (.iload_n 1, 1) := by decide +kernel
theorem dX5_copy_52 : decode cX5_copy 52 = .ok (.aaload, 1) := by decide +kernel
theorem dX5_copy_53 : decode cX5_copy 53 = .ok (.getfield 90, 3) := by decide +kernel
theorem dX5_copy_56 : decode cX5_copy 56 = .ok (.aload_n 0, 1) := by decide +kernel
theorem dX5_copy_57 : decode cX5_copy 57 = .ok (.getfield 11, 3) := by decide +kernel
theorem dX5_copy_60 : decode cX5_copy 60 = .ok (.iload_n 3, 1) := by decide +kernel
theorem dX5_copy_61 : decode cX5_copy 61 = .ok (.aaload, 1) := by decide +kernel
theorem dX5_copy_62 : decode cX5_copy 62 = .ok (.getfield 90, 3) := by decide +kernel
theorem dX5_copy_65 : decode cX5_copy 65 = .ok (.if_icmp .eq 9, 3) := by decide +kernel
theorem dX5_copy_68 : decode cX5_copy 68 = .ok (.aload_n 0, 1) := by decide +kernel
theorem dX5_copy_69 : decode cX5_copy 69 = .ok (.iconst 4, 1) := by decide +kernel
theorem dX5_copy_70 : decode cX5_copy 70 = .ok (.invokevirtual 63, 3) := by decide +kernel
theorem dX5_copy_73 : decode cX5_copy 73 = .ok (.ireturn, 1) := by decide +kernel
theorem dX5_copy_74 : decode cX5_copy 74 = .ok (.aload_n 0, 1) := by decide +kernel
theorem dX5_copy_75 : decode cX5_copy 75 = .ok (.getfield 11, 3) := by decide +kernel
theorem dX5_copy_78 : decode cX5_copy 78 = .ok (.iload_n 1, 1) := by decide +kernel
theorem dX5_copy_79 : decode cX5_copy 79 = .ok (.aaload, 1) := by decide +kernel
theorem dX5_copy_80 : decode cX5_copy 80 = .ok (.iload_n 2, 1) := by decide +kernel
theorem dX5_copy_81 : decode cX5_copy 81 = .ok (.iload 5, 2) := by decide +kernel
theorem dX5_copy_83 : decode cX5_copy 83 = .ok (.invokevirtual 93, 3) := by decide +kernel
theorem dX5_copy_86 : decode cX5_copy 86 = .ok (.ifCond .eq 19, 3) := by decide +kernel
theorem dX5_copy_89 : decode cX5_copy 89 = .ok (.aload_n 0, 1) := by decide +kernel
theorem dX5_copy_90 : decode cX5_copy 90 = .ok (.getfield 11, 3) := by decide +kernel
theorem dX5_copy_93 : decode cX5_copy 93 = .ok (.iload_n 3, 1) := by decide +kernel
theorem dX5_copy_94 : decode cX5_copy 94 = .ok (.aaload, 1) := by decide +kernel
theorem dX5_copy_95 : decode cX5_copy 95 = .ok (.iload 4, 2) := by decide +kernel
theorem dX5_copy_97 : decode cX5_copy 97 = .ok (.iload 5, 2) := by decide +kernel
theorem dX5_copy_99 : decode cX5_copy 99 = .ok (.invokevirtual 93, 3) := by decide +kernel
theorem dX5_copy_102 : decode cX5_copy 102 = .ok (.ifCond .ne 9, 3) := by decide +kernel
theorem dX5_copy_105 : decode cX5_copy 105 = .ok (.aload_n 0, 1) := by decide +kernel
theorem dX5_copy_106 : decode cX5_copy 106 = .ok (.iconst 2, 1) := by decide +kernel
theorem dX5_copy_107 : decode cX5_copy 107 = .ok (.invokevirtual 63, 3) := by decide +kernel
theorem dX5_copy_110 : decode cX5_copy 110 = .ok (.ireturn, 1) := by decide +kernel
theorem dX5_copy_111 : decode cX5_copy 111 = .ok (.aload_n 0, 1) := by decide +kernel
theorem dX5_copy_112 : decode cX5_copy 112 = .ok (.getfield 11, 3) := by decide +kernel
theorem dX5_copy_115 : decode cX5_copy 115 = .ok (.iload_n 1, 1) := by decide +kernel
theorem dX5_copy_116 : decode cX5_copy 116 = .ok (.aaload, 1) := by decide +kernel
theorem dX5_copy_117 : decode cX5_copy 117 = .ok (.getfield 82, 3) := by decide +kernel
theorem dX5_copy_120 : decode cX5_copy 120 = .ok (.iload_n 2, 1) := by decide +kernel
theorem dX5_copy_121 : decode cX5_copy 121 = .ok (.aload_n 0, 1) := by decide +kernel
theorem dX5_copy_122 : decode cX5_copy 122 = .ok (.getfield 11, 3) := by decide +kernel
theorem dX5_copy_125 : decode cX5_copy 125 = .ok (.iload_n 3, 1) := by decide +kernel
theorem dX5_copy_126 : decode cX5_copy 126 = .ok (.aaload, 1) := by decide +kernel
theorem dX5_copy_127 : decode cX5_copy 127 = .ok (.getfield 82, 3) := by decide +kernel
theorem dX5_copy_130 : decode cX5_copy 130 = .ok (.iload 4, 2) := by decide +kernel
theorem dX5_copy_132 : decode cX5_copy 132 = .ok (.iload 5, 2) := by decide +kernel
theorem dX5_copy_134 : decode cX5_copy 134 = .ok (.invokestatic 97, 3) := by decide +kernel
theorem dX5_copy_137 : decode cX5_copy 137 = .ok (.iconst 1, 1) := by decide +kernel
theorem dX5_copy_138 : decode cX5_copy 138 = .ok (.ireturn, 1) := by decide +kernel
theorem dX5_term_0 : decode cX5_term 0 = .ok (.iload_n 1, 1) := by decide +kernel
theorem dX5_term_1 : decode cX5_term 1 = .ok (.invokestatic 56, 3) := by decide +kernel
theorem dX5_term_4 : decode cX5_term 4 = .ok (.ifCond .eq 10, 3) := by decide +kernel
theorem dX5_term_7 : decode cX5_term 7 = .ok (.iload_n 2, 1) := by decide +kernel
theorem dX5_term_8 : decode cX5_term 8 = .ok (.invokestatic 103, 3) := by decide +kernel
theorem dX5_term_11 : decode cX5_term 11 = .ok (.ifCond .ne 6, 3) := by decide +kernel
theorem dX5_term_14 : decode cX5_term 14 = .ok (.bipush (-2), 2) := by decide +kernel
theorem dX5_term_16 : decode cX5_term 16 = .ok (.ireturn, 1) := by decide +kernel
theorem dX5_term_17 : decode cX5_term 17 = .ok (.aload_n 0, 1) := by decide +kernel
theorem dX5_term_18 : decode cX5_term 18 = .ok (.getfield 11, 3) := by decide +kernel
theorem dX5_term_21 : decode cX5_term 21 = .ok (.iload_n 1, 1) := by decide +kernel
theorem dX5_term_22 : decode cX5_term 22 = .ok (.aaload, 1) := by decide +kernel
theorem dX5_term_23 : decode cX5_term 23 = .ok (.getfield 71, 3) := by decide +kernel
theorem dX5_term_26 : decode cX5_term 26 = .ok (.ifCond .eq 9, 3) := by decide +kernel
theorem dX5_term_29 : decode cX5_term 29 = .ok (.aload_n 0, 1) := by decide +kernel
theorem dX5_term_30 : decode cX5_term 30 = .ok (.iconst 1, 1) := by decide +kernel
theorem dX5_term_31 : decode cX5_term 31 = .ok (.invokevirtual 63, 3) := by decide +kernel
theorem dX5_term_34 : decode cX5_term 34 = .ok (.ireturn, 1) := by decide +kernel
theorem dX5_term_35 : decode cX5_term 35 = .ok (.aload_n 0, 1) := by decide +kernel
theorem dX5_term_36 : decode cX5_term 36 = .ok (.getfield 11, 3) := by decide +kernel
theorem dX5_term_39 : decode cX5_term 39 = .ok (.iload_n 1, 1) := by decide +kernel
theorem dX5_term_40 : decode cX5_term 40 = .ok (.aaload, 1) := by decide +kernel
theorem dX5_term_41 : decode cX5_term 41 = .ok (.iload_n 2, 1) := by decide +kernel
theorem dX5_term_42 : decode cX5_term 42 = .ok (.invokevirtual 106, 3) := by decide +kernel
theorem dX5_term_45 : decode cX5_term 45 = .ok (.ireturn, 1) := by decide +kernel
theorem dX5_kind_0 : decode cX5_kind 0 = .ok (.iload_n 1, 1) := by decide +kernel
theorem dX5_kind_1 : decode cX5_kind 1 = .ok (.invokestatic 56, 3) := by decide +kernel
theorem dX5_kind_4 : decode cX5_kind 4 = .ok (.ifCond .eq 24, 3) := by decide +kernel
theorem dX5_kind_7 : decode cX5_kind 7 = .ok (.iload_n 2, 1) := by decide +kernel
theorem dX5_kind_8 : decode cX5_kind 8 = .ok (.ifCond .lt 20, 3) := by decide +kernel
theorem dX5_kind_11 : decode cX5_kind 11 = .ok (.iload_n 2, 1) := by decide +kernel
theorem dX5_kind_12 : decode cX5_kind 12 = .ok (.bipush 8, 2) := by decide +kernel
theorem dX5_kind_14 : decode cX5_kind 14 = .ok (.if_icmp .ge 14, 3) := by decide +kernel
theorem dX5_kind_17 : decode cX5_kind 17 = .ok (.iload_n 3, 1) := by decide +kernel
theorem dX5_kind_18 : decode cX5_kind 18 = .ok (.ifCond .lt 10, 3) := by decide +kernel
theorem dX5_kind_21 : decode cX5_kind 21 = .ok (.iload_n 3, 1) := by decide +kernel
theorem dX5_kind_22 : decode cX5_kind 22 = .ok (.sipush 10007, 3) := by decide +kernel
theorem dX5_kind_25 : decode cX5_kind 25 = .ok (.if_icmp .lt 6, 3) := by decide +kernel
theorem dX5_kind_28 : decode cX5_kind 28 = .ok (.bipush (-2), 2) := by decide +kernel
theorem dX5_kind_30 : decode cX5_kind 30 = .ok (.ireturn, 1) := by decide +kernel
theorem dX5_kind_31 : decode cX5_kind 31 = .ok (.aload_n 0, 1) := by decide +kernel
theorem dX5_kind_32 : decode cX5_kind 32 = .ok (.getfield 24, 3) := by decide +kernel
theorem dX5_kind_35 : decode cX5_kind 35 = .ok (.iload_n 2, 1) := by decide +kernel
theorem dX5_kind_36 : decode cX5_kind 36 = .ok (.iload_n 3, 1) := by decide +kernel
theorem dX5_kind_37 : decode cX5_kind 37 = .ok (.aload_n 0, 1) := by decide +kernel
theorem dX5_kind_38 : decode cX5_kind 38 = .ok (.getfield 44, 3) := by decide +kernel
theorem dX5_kind_41 : decode cX5_kind 41 = .ok (.invokevirtual 109, 3) := by decide +kernel
theorem dX5_kind_44 : decode cX5_kind 44 = .ok (.aload_n 0, 1) := by decide +kernel
theorem dX5_kind_45 : decode cX5_kind 45 = .ok (.iload_n 1, 1) := by decide +kernel
theorem dX5_kind_46 : decode cX5_kind 46 = .ok (.aload_n 0, 1) := by decide +kernel
theorem dX5_kind_47 : decode cX5_kind 47 = .ok (.getfield 44, 3) := by decide +kernel
theorem dX5_kind_50 : decode cX5_kind 50 = .ok (.invokevirtual 113, 3) := by decide +kernel
theorem dX5_kind_53 : decode cX5_kind 53 = .ok (.ireturn, 1) := by decide +kernel
theorem dX5_join_0 : decode cX5_join 0 = .ok (.iload_n 1, 1) := by decide +kernel
theorem dX5_join_1 : decode cX5_join 1 = .ok (.invokestatic 56, 3) := by decide +kernel
theorem dX5_join_4 : decode cX5_join 4 = .ok (.ifCond .eq 28, 3) := by decide +kernel
theorem dX5_join_7 : decode cX5_join 7 = .ok (.iload_n 2, 1) := by decide +kernel
theorem dX5_join_8 : decode cX5_join 8 = .ok (.invokestatic 56, 3) := by decide +kernel
theorem dX5_join_11 : decode cX5_join 11 = .ok (.ifCond .eq 21, 3) := by decide +kernel
theorem dX5_join_14 : decode cX5_join 14 = .ok (.iload_n 3, 1) := by decide +kernel
theorem dX5_join_15 : decode cX5_join 15 = .ok (.invokestatic 56, 3) := by decide +kernel
theorem dX5_join_18 : decode cX5_join 18 = .ok (.ifCond .eq 14, 3) := by decide +kernel
theorem dX5_join_21 : decode cX5_join 21 = .ok (.iload 4, 2) := by decide +kernel
theorem dX5_join_23 : decode cX5_join 23 = .ok (.ifCond .lt 9, 3) := by decide +kernel
theorem dX5_join_26 : decode cX5_join 26 = .ok (.iload 4, 2) := by decide +kernel
theorem dX5_join_28 : decode cX5_join 28 = .ok (.iconst 2, 1) := by decide +kernel
theorem dX5_join_29 : decode cX5_join 29 = .ok (.if_icmp .le 6, 3) := by decide +kernel
theorem dX5_join_32 : decode cX5_join 32 = .ok (.bipush (-2), 2) := by decide +kernel
theorem dX5_join_34 : decode cX5_join 34 = .ok (.ireturn, 1) := by decide +kernel
theorem dX5_join_35 : decode cX5_join 35 = .ok (.aload_n 0, 1) := by decide +kernel
theorem dX5_join_36 : decode cX5_join 36 = .ok (.iload_n 1, 1) := by decide +kernel
theorem dX5_join_37 : decode cX5_join 37 = .ok (.aload_n 0, 1) := by decide +kernel
theorem dX5_join_38 : decode cX5_join 38 = .ok (.getfield 31, 3) := by decide +kernel
theorem dX5_join_41 : decode cX5_join 41 = .ok (.invokevirtual 117, 3) := by decide +kernel
theorem dX5_join_44 : decode cX5_join 44 = .ok (.ifCond .eq 15, 3) := by decide +kernel
theorem dX5_join_47 : decode cX5_join 47 = .ok (.aload_n 0, 1) := by decide +kernel
theorem dX5_join_48 : decode cX5_join 48 = .ok (.iload_n 2, 1) := by decide +kernel
theorem dX5_join_49 : decode cX5_join 49 = .ok (.aload_n 0, 1) := by decide +kernel
theorem dX5_join_50 : decode cX5_join 50 = .ok (.getfield 35, 3) := by decide +kernel
theorem dX5_join_53 : decode cX5_join 53 = .ok (.invokevirtual 117, 3) := by decide +kernel
theorem dX5_join_56 : decode cX5_join 56 = .ok (.ifCond .ne 9, 3) := by decide +kernel
theorem dX5_join_59 : decode cX5_join 59 = .ok (.aload_n 0, 1) := by decide +kernel
theorem dX5_join_60 : decode cX5_join 60 = .ok (.iconst 1, 1) := by decide +kernel
theorem dX5_join_61 : decode cX5_join 61 = .ok (.invokevirtual 63, 3) := by decide +kernel
theorem dX5_join_64 : decode cX5_join 64 = .ok (.ireturn, 1) := by decide +kernel
theorem dX5_join_65 : decode cX5_join 65 = .ok (.iload 4, 2) := by decide +kernel
theorem dX5_join_67 : decode cX5_join 67 = .ok (.ifCond .ne 21, 3) := by decide +kernel
theorem dX5_join_70 : decode cX5_join 70 = .ok (.aload_n 0, 1) := by decide +kernel
theorem dX5_join_71 : decode cX5_join 71 = .ok (.getfield 44, 3) := by decide +kernel
theorem dX5_join_74 : decode cX5_join 74 = .ok (.aload_n 0, 1) := by decide +kernel
theorem dX5_join_75 : decode cX5_join 75 = .ok (.getfield 31, 3) := by decide +kernel
theorem dX5_join_78 : decode cX5_join 78 = .ok (.aload_n 0, 1) := by decide +kernel
theorem dX5_join_79 : decode cX5_join 79 = .ok (.getfield 35, 3) := by decide +kernel
theorem dX5_join_82 : decode cX5_join 82 = .ok (.invokevirtual 121, 3) := by decide +kernel
theorem dX5_join_85 : decode cX5_join 85 = .ok (.goto 42, 3) := by decide +kernel
theorem dX5_join_88 : decode cX5_join 88 = .ok (.iload 4, 2) := by decide +kernel
theorem dX5_join_90 : decode cX5_join 90 = .ok (.iconst 1, 1) := by decide +kernel
theorem dX5_join_91 : decode cX5_join 91 = .ok (.if_icmp .ne 21, 3) := by decide +kernel
theorem dX5_join_94 : decode cX5_join 94 = .ok (.aload_n 0, 1) := by decide +kernel
theorem dX5_join_95 : decode cX5_join 95 = .ok (.getfield 44, 3) := by decide +kernel
theorem dX5_join_98 : decode cX5_join 98 = .ok (.aload_n 0, 1) := by decide +kernel
theorem dX5_join_99 : decode cX5_join 99 = .ok (.getfield 31, 3) := by decide +kernel
theorem dX5_join_102 : decode cX5_join 102 = .ok (.aload_n 0, 1) := by decide +kernel
theorem dX5_join_103 : decode cX5_join 103 = .ok (.getfield 35, 3) := by decide +kernel
theorem dX5_join_106 : decode cX5_join 106 = .ok (.invokevirtual 125, 3) := by decide +kernel
theorem dX5_join_109 : decode cX5_join 109 = .ok (.goto 18, 3) := by decide +kernel
theorem dX5_join_112 : decode cX5_join 112 = .ok (.aload_n 0, 1) := by decide +kernel
theorem dX5_join_113 : decode cX5_join 113 = .ok (.getfield 44, 3) := by decide +kernel
theorem dX5_join_116 : decode cX5_join 116 = .ok (.aload_n 0, 1) := by decide +kernel
theorem dX5_join_117 : decode cX5_join 117 = .ok (.getfield 31, 3) := by decide +kernel
theorem dX5_join_120 : decode cX5_join 120 = .ok (.aload_n 0, 1) := by decide +kernel
theorem dX5_join_121 : decode cX5_join 121 = .ok (.getfield 35, 3) := by decide +kernel
theorem dX5_join_124 : decode cX5_join 124 = .ok (.invokevirtual 128, 3) := by decide +kernel
theorem dX5_join_127 : decode cX5_join 127 = .ok (.aload_n 0, 1) := by decide +kernel
theorem dX5_join_128 : decode cX5_join 128 = .ok (.iload_n 3, 1) := by decide +kernel
theorem dX5_join_129 : decode cX5_join 129 = .ok (.aload_n 0, 1) := by decide +kernel
theorem dX5_join_130 : decode cX5_join 130 = .ok (.getfield 44, 3) := by decide +kernel
theorem dX5_join_133 : decode cX5_join 133 = .ok (.invokevirtual 113, 3) := by decide +kernel
theorem dX5_join_136 : decode cX5_join 136 = .ok (.ireturn, 1) := by decide +kernel
theorem dX5_over_0 : decode cX5_over 0 = .ok (.iload_n 1, 1) := by decide +kernel
theorem dX5_over_1 : decode cX5_over 1 = .ok (.invokestatic 56, 3) := by decide +kernel
theorem dX5_over_4 : decode cX5_over 4 = .ok (.ifCond .eq 17, 3) := by decide +kernel
theorem dX5_over_7 : decode cX5_over 7 = .ok (.iload_n 2, 1) := by decide +kernel
theorem dX5_over_8 : decode cX5_over 8 = .ok (.invokestatic 56, 3) := by decide +kernel
theorem dX5_over_11 : decode cX5_over 11 = .ok (.ifCond .eq 10, 3) := by decide +kernel
theorem dX5_over_14 : decode cX5_over 14 = .ok (.iload_n 3, 1) := by decide +kernel
theorem dX5_over_15 : decode cX5_over 15 = .ok (.invokestatic 56, 3) := by decide +kernel
theorem dX5_over_18 : decode cX5_over 18 = .ok (.ifCond .ne 6, 3) := by decide +kernel
theorem dX5_over_21 : decode cX5_over 21 = .ok (.bipush (-2), 2) := by decide +kernel
theorem dX5_over_23 : decode cX5_over 23 = .ok (.ireturn, 1) := by decide +kernel
theorem dX5_over_24 : decode cX5_over 24 = .ok (.aload_n 0, 1) := by decide +kernel
theorem dX5_over_25 : decode cX5_over 25 = .ok (.iload_n 1, 1) := by decide +kernel
theorem dX5_over_26 : decode cX5_over 26 = .ok (.aload_n 0, 1) := by decide +kernel
theorem dX5_over_27 : decode cX5_over 27 = .ok (.getfield 31, 3) := by decide +kernel
theorem dX5_over_30 : decode cX5_over 30 = .ok (.invokevirtual 117, 3) := by decide +kernel
theorem dX5_over_33 : decode cX5_over 33 = .ok (.ifCond .eq 15, 3) := by decide +kernel
theorem dX5_over_36 : decode cX5_over 36 = .ok (.aload_n 0, 1) := by decide +kernel
theorem dX5_over_37 : decode cX5_over 37 = .ok (.iload_n 2, 1) := by decide +kernel
theorem dX5_over_38 : decode cX5_over 38 = .ok (.aload_n 0, 1) := by decide +kernel
theorem dX5_over_39 : decode cX5_over 39 = .ok (.getfield 35, 3) := by decide +kernel
theorem dX5_over_42 : decode cX5_over 42 = .ok (.invokevirtual 117, 3) := by decide +kernel
theorem dX5_over_45 : decode cX5_over 45 = .ok (.ifCond .ne 9, 3) := by decide +kernel
theorem dX5_over_48 : decode cX5_over 48 = .ok (.aload_n 0, 1) := by decide +kernel
theorem dX5_over_49 : decode cX5_over 49 = .ok (.iconst 1, 1) := by decide +kernel
theorem dX5_over_50 : decode cX5_over 50 = .ok (.invokevirtual 63, 3) := by decide +kernel
theorem dX5_over_53 : decode cX5_over 53 = .ok (.ireturn, 1) := by decide +kernel
theorem dX5_over_54 : decode cX5_over 54 = .ok (.aload_n 0, 1) := by decide +kernel
theorem dX5_over_55 : decode cX5_over 55 = .ok (.getfield 35, 3) := by decide +kernel
theorem dX5_over_58 : decode cX5_over 58 = .ok (.invokevirtual 131, 3) := by decide +kernel
theorem dX5_over_61 : decode cX5_over 61 = .ok (.ifCond .ne 6, 3) := by decide +kernel
theorem dX5_over_64 : decode cX5_over 64 = .ok (.bipush (-3), 2) := by decide +kernel
theorem dX5_over_66 : decode cX5_over 66 = .ok (.ireturn, 1) := by decide +kernel
theorem dX5_over_67 : decode cX5_over 67 = .ok (.aload_n 0, 1) := by decide +kernel
theorem dX5_over_68 : decode cX5_over 68 = .ok (.getfield 44, 3) := by decide +kernel
theorem dX5_over_71 : decode cX5_over 71 = .ok (.aload_n 0, 1) := by decide +kernel
theorem dX5_over_72 : decode cX5_over 72 = .ok (.getfield 31, 3) := by decide +kernel
theorem dX5_over_75 : decode cX5_over 75 = .ok (.aload_n 0, 1) := by decide +kernel
theorem dX5_over_76 : decode cX5_over 76 = .ok (.getfield 35, 3) := by decide +kernel
theorem dX5_over_79 : decode cX5_over 79 = .ok (.invokevirtual 135, 3) := by decide +kernel
theorem dX5_over_82 : decode cX5_over 82 = .ok (.aload_n 0, 1) := by decide +kernel
theorem dX5_over_83 : decode cX5_over 83 = .ok (.iload_n 3, 1) := by decide +kernel
theorem dX5_over_84 : decode cX5_over 84 = .ok (.aload_n 0, 1) := by decide +kernel
theorem dX5_over_85 : decode cX5_over 85 = .ok (.getfield 44, 3) := by decide +kernel
theorem dX5_over_88 : decode cX5_over 88 = .ok (.invokevirtual 113, 3) := by decide +kernel
theorem dX5_over_91 : decode cX5_over 91 = .ok (.ireturn, 1) := by decide +kernel
theorem dX5_into_0 : decode cX5_into 0 = .ok (.iload_n 1, 1) := by decide +kernel
theorem dX5_into_1 : decode cX5_into 1 = .ok (.invokestatic 56, 3) := by decide +kernel
theorem dX5_into_4 : decode cX5_into 4 = .ok (.ifCond .eq 17, 3) := by decide +kernel
theorem dX5_into_7 : decode cX5_into 7 = .ok (.iload_n 2, 1) := by decide +kernel
theorem dX5_into_8 : decode cX5_into 8 = .ok (.invokestatic 56, 3) := by decide +kernel
theorem dX5_into_11 : decode cX5_into 11 = .ok (.ifCond .eq 10, 3) := by decide +kernel
theorem dX5_into_14 : decode cX5_into 14 = .ok (.iload_n 3, 1) := by decide +kernel
theorem dX5_into_15 : decode cX5_into 15 = .ok (.invokestatic 56, 3) := by decide +kernel
theorem dX5_into_18 : decode cX5_into 18 = .ok (.ifCond .ne 6, 3) := by decide +kernel
theorem dX5_into_21 : decode cX5_into 21 = .ok (.bipush (-2), 2) := by decide +kernel
theorem dX5_into_23 : decode cX5_into 23 = .ok (.ireturn, 1) := by decide +kernel
theorem dX5_into_24 : decode cX5_into 24 = .ok (.aload_n 0, 1) := by decide +kernel
theorem dX5_into_25 : decode cX5_into 25 = .ok (.iload_n 1, 1) := by decide +kernel
theorem dX5_into_26 : decode cX5_into 26 = .ok (.aload_n 0, 1) := by decide +kernel
theorem dX5_into_27 : decode cX5_into 27 = .ok (.getfield 31, 3) := by decide +kernel
theorem dX5_into_30 : decode cX5_into 30 = .ok (.invokevirtual 117, 3) := by decide +kernel
theorem dX5_into_33 : decode cX5_into 33 = .ok (.ifCond .eq 15, 3) := by decide +kernel
theorem dX5_into_36 : decode cX5_into 36 = .ok (.aload_n 0, 1) := by decide +kernel
theorem dX5_into_37 : decode cX5_into 37 = .ok (.iload_n 2, 1) := by decide +kernel
theorem dX5_into_38 : decode cX5_into 38 = .ok (.aload_n 0, 1) := by decide +kernel
theorem dX5_into_39 : decode cX5_into 39 = .ok (.getfield 35, 3) := by decide +kernel
theorem dX5_into_42 : decode cX5_into 42 = .ok (.invokevirtual 117, 3) := by decide +kernel
theorem dX5_into_45 : decode cX5_into 45 = .ok (.ifCond .ne 9, 3) := by decide +kernel
theorem dX5_into_48 : decode cX5_into 48 = .ok (.aload_n 0, 1) := by decide +kernel
theorem dX5_into_49 : decode cX5_into 49 = .ok (.iconst 1, 1) := by decide +kernel
theorem dX5_into_50 : decode cX5_into 50 = .ok (.invokevirtual 63, 3) := by decide +kernel
theorem dX5_into_53 : decode cX5_into 53 = .ok (.ireturn, 1) := by decide +kernel
theorem dX5_into_54 : decode cX5_into 54 = .ok (.aload_n 0, 1) := by decide +kernel
theorem dX5_into_55 : decode cX5_into 55 = .ok (.getfield 35, 3) := by decide +kernel
theorem dX5_into_58 : decode cX5_into 58 = .ok (.invokevirtual 138, 3) := by decide +kernel
theorem dX5_into_61 : decode cX5_into 61 = .ok (.ifCond .ne 6, 3) := by decide +kernel
theorem dX5_into_64 : decode cX5_into 64 = .ok (.bipush (-3), 2) := by decide +kernel
theorem dX5_into_66 : decode cX5_into 66 = .ok (.ireturn, 1) := by decide +kernel
theorem dX5_into_67 : decode cX5_into 67 = .ok (.aload_n 0, 1) := by decide +kernel
theorem dX5_into_68 : decode cX5_into 68 = .ok (.getfield 44, 3) := by decide +kernel
theorem dX5_into_71 : decode cX5_into 71 = .ok (.aload_n 0, 1) := by decide +kernel
theorem dX5_into_72 : decode cX5_into 72 = .ok (.getfield 31, 3) := by decide +kernel
theorem dX5_into_75 : decode cX5_into 75 = .ok (.aload_n 0, 1) := by decide +kernel
theorem dX5_into_76 : decode cX5_into 76 = .ok (.getfield 35, 3) := by decide +kernel
theorem dX5_into_79 : decode cX5_into 79 = .ok (.invokevirtual 141, 3) := by decide +kernel
theorem dX5_into_82 : decode cX5_into 82 = .ok (.aload_n 0, 1) := by decide +kernel
theorem dX5_into_83 : decode cX5_into 83 = .ok (.iload_n 3, 1) := by decide +kernel
theorem dX5_into_84 : decode cX5_into 84 = .ok (.aload_n 0, 1) := by decide +kernel
theorem dX5_into_85 : decode cX5_into 85 = .ok (.getfield 44, 3) := by decide +kernel
theorem dX5_into_88 : decode cX5_into 88 = .ok (.invokevirtual 113, 3) := by decide +kernel
theorem dX5_into_91 : decode cX5_into 91 = .ok (.ireturn, 1) := by decide +kernel
theorem dX5_turn_0 : decode cX5_turn 0 = .ok (.iload_n 1, 1) := by decide +kernel
theorem dX5_turn_1 : decode cX5_turn 1 = .ok (.invokestatic 56, 3) := by decide +kernel
theorem dX5_turn_4 : decode cX5_turn 4 = .ok (.ifCond .eq 10, 3) := by decide +kernel
theorem dX5_turn_7 : decode cX5_turn 7 = .ok (.iload_n 2, 1) := by decide +kernel
theorem dX5_turn_8 : decode cX5_turn 8 = .ok (.invokestatic 56, 3) := by decide +kernel
theorem dX5_turn_11 : decode cX5_turn 11 = .ok (.ifCond .ne 6, 3) := by decide +kernel
theorem dX5_turn_14 : decode cX5_turn 14 = .ok (.bipush (-2), 2) := by decide +kernel
theorem dX5_turn_16 : decode cX5_turn 16 = .ok (.ireturn, 1) := by decide +kernel
theorem dX5_turn_17 : decode cX5_turn 17 = .ok (.aload_n 0, 1) := by decide +kernel
theorem dX5_turn_18 : decode cX5_turn 18 = .ok (.iload_n 1, 1) := by decide +kernel
theorem dX5_turn_19 : decode cX5_turn 19 = .ok (.aload_n 0, 1) := by decide +kernel
theorem dX5_turn_20 : decode cX5_turn 20 = .ok (.getfield 31, 3) := by decide +kernel
theorem dX5_turn_23 : decode cX5_turn 23 = .ok (.invokevirtual 117, 3) := by decide +kernel
theorem dX5_turn_26 : decode cX5_turn 26 = .ok (.ifCond .ne 9, 3) := by decide +kernel
theorem dX5_turn_29 : decode cX5_turn 29 = .ok (.aload_n 0, 1) := by decide +kernel
theorem dX5_turn_30 : decode cX5_turn 30 = .ok (.iconst 1, 1) := by decide +kernel
theorem dX5_turn_31 : decode cX5_turn 31 = .ok (.invokevirtual 63, 3) := by decide +kernel
theorem dX5_turn_34 : decode cX5_turn 34 = .ok (.ireturn, 1) := by decide +kernel
theorem dX5_turn_35 : decode cX5_turn 35 = .ok (.aload_n 0, 1) := by decide +kernel
theorem dX5_turn_36 : decode cX5_turn 36 = .ok (.getfield 31, 3) := by decide +kernel
theorem dX5_turn_39 : decode cX5_turn 39 = .ok (.invokevirtual 144, 3) := by decide +kernel
theorem dX5_turn_42 : decode cX5_turn 42 = .ok (.ifCond .ne 6, 3) := by decide +kernel
theorem dX5_turn_45 : decode cX5_turn 45 = .ok (.bipush (-3), 2) := by decide +kernel
theorem dX5_turn_47 : decode cX5_turn 47 = .ok (.ireturn, 1) := by decide +kernel
theorem dX5_turn_48 : decode cX5_turn 48 = .ok (.aload_n 0, 1) := by decide +kernel
theorem dX5_turn_49 : decode cX5_turn 49 = .ok (.getfield 24, 3) := by decide +kernel
theorem dX5_turn_52 : decode cX5_turn 52 = .ok (.aload_n 0, 1) := by decide +kernel
theorem dX5_turn_53 : decode cX5_turn 53 = .ok (.getfield 31, 3) := by decide +kernel
theorem dX5_turn_56 : decode cX5_turn 56 = .ok (.aload_n 0, 1) := by decide +kernel
theorem dX5_turn_57 : decode cX5_turn 57 = .ok (.getfield 44, 3) := by decide +kernel
theorem dX5_turn_60 : decode cX5_turn 60 = .ok (.invokevirtual 147, 3) := by decide +kernel
theorem dX5_turn_63 : decode cX5_turn 63 = .ok (.aload_n 0, 1) := by decide +kernel
theorem dX5_turn_64 : decode cX5_turn 64 = .ok (.iload_n 2, 1) := by decide +kernel
theorem dX5_turn_65 : decode cX5_turn 65 = .ok (.aload_n 0, 1) := by decide +kernel
theorem dX5_turn_66 : decode cX5_turn 66 = .ok (.getfield 44, 3) := by decide +kernel
theorem dX5_turn_69 : decode cX5_turn 69 = .ok (.invokevirtual 113, 3) := by decide +kernel
theorem dX5_turn_72 : decode cX5_turn 72 = .ok (.ireturn, 1) := by decide +kernel
theorem dX5_power_0 : decode cX5_power 0 = .ok (.iload_n 1, 1) := by decide +kernel
theorem dX5_power_1 : decode cX5_power 1 = .ok (.invokestatic 56, 3) := by decide +kernel
theorem dX5_power_4 : decode cX5_power 4 = .ok (.ifCond .eq 21, 3) := by decide +kernel
theorem dX5_power_7 : decode cX5_power 7 = .ok (.iload_n 2, 1) := by decide +kernel
theorem dX5_power_8 : decode cX5_power 8 = .ok (.ifCond .lt 17, 3) := by decide +kernel
theorem dX5_power_11 : decode cX5_power 11 = .ok (.iload_n 2, 1) := by decide +kernel
theorem dX5_power_12 : decode cX5_power 12 = .ok (.sipush 1000, 3) := by decide +kernel
theorem dX5_power_15 : decode cX5_power 15 = .ok (.if_icmp .gt 10, 3) := by decide +kernel
theorem dX5_power_18 : decode cX5_power 18 = .ok (.iload_n 3, 1) := by decide +kernel
theorem dX5_power_19 : decode cX5_power 19 = .ok (.invokestatic 56, 3) := by decide +kernel
theorem dX5_power_22 : decode cX5_power 22 = .ok (.ifCond .ne 6, 3) := by decide +kernel
theorem dX5_power_25 : decode cX5_power 25 = .ok (.bipush (-2), 2) := by decide +kernel
theorem dX5_power_27 : decode cX5_power 27 = .ok (.ireturn, 1) := by decide +kernel
theorem dX5_power_28 : decode cX5_power 28 = .ok (.aload_n 0, 1) := by decide +kernel
theorem dX5_power_29 : decode cX5_power 29 = .ok (.iload_n 1, 1) := by decide +kernel
theorem dX5_power_30 : decode cX5_power 30 = .ok (.aload_n 0, 1) := by decide +kernel
theorem dX5_power_31 : decode cX5_power 31 = .ok (.getfield 31, 3) := by decide +kernel
theorem dX5_power_34 : decode cX5_power 34 = .ok (.invokevirtual 117, 3) := by decide +kernel
theorem dX5_power_37 : decode cX5_power 37 = .ok (.ifCond .ne 9, 3) := by decide +kernel
theorem dX5_power_40 : decode cX5_power 40 = .ok (.aload_n 0, 1) := by decide +kernel
theorem dX5_power_41 : decode cX5_power 41 = .ok (.iconst 1, 1) := by decide +kernel
theorem dX5_power_42 : decode cX5_power 42 = .ok (.invokevirtual 63, 3) := by decide +kernel
theorem dX5_power_45 : decode cX5_power 45 = .ok (.ireturn, 1) := by decide +kernel
theorem dX5_power_46 : decode cX5_power 46 = .ok (.aload_n 0, 1) := by decide +kernel
theorem dX5_power_47 : decode cX5_power 47 = .ok (.getfield 44, 3) := by decide +kernel
theorem dX5_power_50 : decode cX5_power 50 = .ok (.aload_n 0, 1) := by decide +kernel
theorem dX5_power_51 : decode cX5_power 51 = .ok (.getfield 31, 3) := by decide +kernel
theorem dX5_power_54 : decode cX5_power 54 = .ok (.iload_n 2, 1) := by decide +kernel
theorem dX5_power_55 : decode cX5_power 55 = .ok (.invokevirtual 150, 3) := by decide +kernel
theorem dX5_power_58 : decode cX5_power 58 = .ok (.aload_n 0, 1) := by decide +kernel
theorem dX5_power_59 : decode cX5_power 59 = .ok (.iload_n 3, 1) := by decide +kernel
theorem dX5_power_60 : decode cX5_power 60 = .ok (.aload_n 0, 1) := by decide +kernel
theorem dX5_power_61 : decode cX5_power 61 = .ok (.getfield 44, 3) := by decide +kernel
theorem dX5_power_64 : decode cX5_power 64 = .ok (.invokevirtual 113, 3) := by decide +kernel
theorem dX5_power_67 : decode cX5_power 67 = .ok (.ireturn, 1) := by decide +kernel
theorem dX5_value_0 : decode cX5_value 0 = .ok (.iload_n 1, 1) := by decide +kernel
theorem dX5_value_1 : decode cX5_value 1 = .ok (.invokestatic 56, 3) := by decide +kernel
theorem dX5_value_4 : decode cX5_value 4 = .ok (.ifCond .ne 6, 3) := by decide +kernel
theorem dX5_value_7 : decode cX5_value 7 = .ok (.bipush (-2), 2) := by decide +kernel
theorem dX5_value_9 : decode cX5_value 9 = .ok (.ireturn, 1) := by decide +kernel
theorem dX5_value_10 : decode cX5_value 10 = .ok (.aload_n 0, 1) := by decide +kernel
theorem dX5_value_11 : decode cX5_value 11 = .ok (.iload_n 1, 1) := by decide +kernel
theorem dX5_value_12 : decode cX5_value 12 = .ok (.aload_n 0, 1) := by decide +kernel
theorem dX5_value_13 : decode cX5_value 13 = .ok (.getfield 31, 3) := by decide +kernel
theorem dX5_value_16 : decode cX5_value 16 = .ok (.invokevirtual 117, 3) := by decide +kernel
theorem dX5_value_19 : decode cX5_value 19 = .ok (.ifCond .ne 9, 3) := by decide +kernel
theorem dX5_value_22 : decode cX5_value 22 = .ok (.aload_n 0, 1) := by decide +kernel
theorem dX5_value_23 : decode cX5_value 23 = .ok (.iconst 1, 1) := by decide +kernel
theorem dX5_value_24 : decode cX5_value 24 = .ok (.invokevirtual 63, 3) := by decide +kernel
theorem dX5_value_27 : decode cX5_value 27 = .ok (.ireturn, 1) := by decide +kernel
theorem dX5_value_28 : decode cX5_value 28 = .ok (.aload_n 0, 1) := by decide +kernel
theorem dX5_value_29 : decode cX5_value 29 = .ok (.getfield 31, 3) := by decide +kernel
theorem dX5_value_32 : decode cX5_value 32 = .ok (.iload_n 2, 1) := by decide +kernel
theorem dX5_value_33 : decode cX5_value 33 = .ok (.invokevirtual 154, 3) := by decide +kernel
theorem dX5_value_36 : decode cX5_value 36 = .ok (.ireturn, 1) := by decide +kernel
theorem dX5_apply_0 : decode cX5_apply 0 = .ok (.iload_n 1, 1) := by decide +kernel
theorem dX5_apply_1 : decode cX5_apply 1 = .ok (.invokestatic 56, 3) := by decide +kernel
theorem dX5_apply_4 : decode cX5_apply 4 = .ok (.ifCond .eq 17, 3) := by decide +kernel
theorem dX5_apply_7 : decode cX5_apply 7 = .ok (.iload_n 2, 1) := by decide +kernel
theorem dX5_apply_8 : decode cX5_apply 8 = .ok (.invokestatic 56, 3) := by decide +kernel
theorem dX5_apply_11 : decode cX5_apply 11 = .ok (.ifCond .eq 10, 3) := by decide +kernel
theorem dX5_apply_14 : decode cX5_apply 14 = .ok (.iload_n 3, 1) := by decide +kernel
theorem dX5_apply_15 : decode cX5_apply 15 = .ok (.invokestatic 56, 3) := by decide +kernel
theorem dX5_apply_18 : decode cX5_apply 18 = .ok (.ifCond .ne 6, 3) := by decide +kernel
theorem dX5_apply_21 : decode cX5_apply 21 = .ok (.bipush (-2), 2) := by decide +kernel
theorem dX5_apply_23 : decode cX5_apply 23 = .ok (.ireturn, 1) := by decide +kernel
theorem dX5_apply_24 : decode cX5_apply 24 = .ok (.aload_n 0, 1) := by decide +kernel
theorem dX5_apply_25 : decode cX5_apply 25 = .ok (.iload_n 1, 1) := by decide +kernel
theorem dX5_apply_26 : decode cX5_apply 26 = .ok (.aload_n 0, 1) := by decide +kernel
theorem dX5_apply_27 : decode cX5_apply 27 = .ok (.getfield 31, 3) := by decide +kernel
theorem dX5_apply_30 : decode cX5_apply 30 = .ok (.invokevirtual 117, 3) := by decide +kernel
theorem dX5_apply_33 : decode cX5_apply 33 = .ok (.ifCond .eq 15, 3) := by decide +kernel
theorem dX5_apply_36 : decode cX5_apply 36 = .ok (.aload_n 0, 1) := by decide +kernel
theorem dX5_apply_37 : decode cX5_apply 37 = .ok (.iload_n 2, 1) := by decide +kernel
theorem dX5_apply_38 : decode cX5_apply 38 = .ok (.aload_n 0, 1) := by decide +kernel
theorem dX5_apply_39 : decode cX5_apply 39 = .ok (.getfield 35, 3) := by decide +kernel
theorem dX5_apply_42 : decode cX5_apply 42 = .ok (.invokevirtual 117, 3) := by decide +kernel
theorem dX5_apply_45 : decode cX5_apply 45 = .ok (.ifCond .ne 9, 3) := by decide +kernel
theorem dX5_apply_48 : decode cX5_apply 48 = .ok (.aload_n 0, 1) := by decide +kernel
theorem dX5_apply_49 : decode cX5_apply 49 = .ok (.iconst 1, 1) := by decide +kernel
theorem dX5_apply_50 : decode cX5_apply 50 = .ok (.invokevirtual 63, 3) := by decide +kernel
theorem dX5_apply_53 : decode cX5_apply 53 = .ok (.ireturn, 1) := by decide +kernel
theorem dX5_apply_54 : decode cX5_apply 54 = .ok (.aload_n 0, 1) := by decide +kernel
theorem dX5_apply_55 : decode cX5_apply 55 = .ok (.getfield 24, 3) := by decide +kernel
theorem dX5_apply_58 : decode cX5_apply 58 = .ok (.aload_n 0, 1) := by decide +kernel
theorem dX5_apply_59 : decode cX5_apply 59 = .ok (.getfield 31, 3) := by decide +kernel
theorem dX5_apply_62 : decode cX5_apply 62 = .ok (.aload_n 0, 1) := by decide +kernel
theorem dX5_apply_63 : decode cX5_apply 63 = .ok (.getfield 35, 3) := by decide +kernel
theorem dX5_apply_66 : decode cX5_apply 66 = .ok (.aload_n 0, 1) := by decide +kernel
theorem dX5_apply_67 : decode cX5_apply 67 = .ok (.getfield 44, 3) := by decide +kernel
theorem dX5_apply_70 : decode cX5_apply 70 = .ok (.invokevirtual 157, 3) := by decide +kernel
theorem dX5_apply_73 : decode cX5_apply 73 = .ok (.aload_n 0, 1) := by decide +kernel
theorem dX5_apply_74 : decode cX5_apply 74 = .ok (.iload_n 3, 1) := by decide +kernel
theorem dX5_apply_75 : decode cX5_apply 75 = .ok (.aload_n 0, 1) := by decide +kernel
theorem dX5_apply_76 : decode cX5_apply 76 = .ok (.getfield 44, 3) := by decide +kernel
theorem dX5_apply_79 : decode cX5_apply 79 = .ok (.invokevirtual 113, 3) := by decide +kernel
theorem dX5_apply_82 : decode cX5_apply 82 = .ok (.ireturn, 1) := by decide +kernel
theorem dX5_ladder_0 : decode cX5_ladder 0 = .ok (.iload_n 1, 1) := by decide +kernel
theorem dX5_ladder_1 : decode cX5_ladder 1 = .ok (.invokestatic 161, 3) := by decide +kernel
theorem dX5_ladder_4 : decode cX5_ladder 4 = .ok (.ifCond .eq 17, 3) := by decide +kernel
theorem dX5_ladder_7 : decode cX5_ladder 7 = .ok (.iload_n 2, 1) := by decide +kernel
theorem dX5_ladder_8 : decode cX5_ladder 8 = .ok (.invokestatic 56, 3) := by decide +kernel
theorem dX5_ladder_11 : decode cX5_ladder 11 = .ok (.ifCond .eq 10, 3) := by decide +kernel
theorem dX5_ladder_14 : decode cX5_ladder 14 = .ok (.iload_n 3, 1) := by decide +kernel
theorem dX5_ladder_15 : decode cX5_ladder 15 = .ok (.invokestatic 56, 3) := by decide +kernel
theorem dX5_ladder_18 : decode cX5_ladder 18 = .ok (.ifCond .ne 6, 3) := by decide +kernel
theorem dX5_ladder_21 : decode cX5_ladder 21 = .ok (.bipush (-2), 2) := by decide +kernel
theorem dX5_ladder_23 : decode cX5_ladder 23 = .ok (.ireturn, 1) := by decide +kernel
theorem dX5_ladder_24 : decode cX5_ladder 24 = .ok (.aload_n 0, 1) := by decide +kernel
theorem dX5_ladder_25 : decode cX5_ladder 25 = .ok (.iload_n 2, 1) := by decide +kernel
theorem dX5_ladder_26 : decode cX5_ladder 26 = .ok (.aload_n 0, 1) := by decide +kernel
theorem dX5_ladder_27 : decode cX5_ladder 27 = .ok (.getfield 31, 3) := by decide +kernel
theorem dX5_ladder_30 : decode cX5_ladder 30 = .ok (.invokevirtual 117, 3) := by decide +kernel
theorem dX5_ladder_33 : decode cX5_ladder 33 = .ok (.ifCond .eq 15, 3) := by decide +kernel
theorem dX5_ladder_36 : decode cX5_ladder 36 = .ok (.aload_n 0, 1) := by decide +kernel
theorem dX5_ladder_37 : decode cX5_ladder 37 = .ok (.iload_n 3, 1) := by decide +kernel
theorem dX5_ladder_38 : decode cX5_ladder 38 = .ok (.aload_n 0, 1) := by decide +kernel
theorem dX5_ladder_39 : decode cX5_ladder 39 = .ok (.getfield 35, 3) := by decide +kernel
theorem dX5_ladder_42 : decode cX5_ladder 42 = .ok (.invokevirtual 117, 3) := by decide +kernel
theorem dX5_ladder_45 : decode cX5_ladder 45 = .ok (.ifCond .ne 9, 3) := by decide +kernel
theorem dX5_ladder_48 : decode cX5_ladder 48 = .ok (.aload_n 0, 1) := by decide +kernel
theorem dX5_ladder_49 : decode cX5_ladder 49 = .ok (.iconst 1, 1) := by decide +kernel
theorem dX5_ladder_50 : decode cX5_ladder 50 = .ok (.invokevirtual 63, 3) := by decide +kernel
theorem dX5_ladder_53 : decode cX5_ladder 53 = .ok (.ireturn, 1) := by decide +kernel
theorem dX5_ladder_54 : decode cX5_ladder 54 = .ok (.aload_n 0, 1) := by decide +kernel
theorem dX5_ladder_55 : decode cX5_ladder 55 = .ok (.getfield 31, 3) := by decide +kernel
theorem dX5_ladder_58 : decode cX5_ladder 58 = .ok (.invokevirtual 131, 3) := by decide +kernel
theorem dX5_ladder_61 : decode cX5_ladder 61 = .ok (.ifCond .eq 13, 3) := by decide +kernel
theorem dX5_ladder_64 : decode cX5_ladder 64 = .ok (.aload_n 0, 1) := by decide +kernel
theorem dX5_ladder_65 : decode cX5_ladder 65 = .ok (.getfield 35, 3) := by decide +kernel
theorem dX5_ladder_68 : decode cX5_ladder 68 = .ok (.invokevirtual 144, 3) := by decide +kernel
theorem dX5_ladder_71 : decode cX5_ladder 71 = .ok (.ifCond .ne 6, 3) := by decide +kernel
theorem dX5_ladder_74 : decode cX5_ladder 74 = .ok (.bipush (-3), 2) := by decide +kernel
theorem dX5_ladder_76 : decode cX5_ladder 76 = .ok (.ireturn, 1) := by decide +kernel
theorem dX5_ladder_77 : decode cX5_ladder 77 = .ok (.aload_n 0, 1) := by decide +kernel
theorem dX5_ladder_78 : decode cX5_ladder 78 = .ok (.getfield 24, 3) := by decide +kernel
theorem dX5_ladder_81 : decode cX5_ladder 81 = .ok (.aload_n 0, 1) := by decide +kernel
theorem dX5_ladder_82 : decode cX5_ladder 82 = .ok (.getfield 17, 3) := by decide +kernel
theorem dX5_ladder_85 : decode cX5_ladder 85 = .ok (.iload_n 1, 1) := by decide +kernel
theorem dX5_ladder_86 : decode cX5_ladder 86 = .ok (.aaload, 1) := by decide +kernel
theorem dX5_ladder_87 : decode cX5_ladder 87 = .ok (.aload_n 0, 1) := by decide +kernel
theorem dX5_ladder_88 : decode cX5_ladder 88 = .ok (.getfield 31, 3) := by decide +kernel
theorem dX5_ladder_91 : decode cX5_ladder 91 = .ok (.aload_n 0, 1) := by decide +kernel
theorem dX5_ladder_92 : decode cX5_ladder 92 = .ok (.getfield 35, 3) := by decide +kernel
theorem dX5_ladder_95 : decode cX5_ladder 95 = .ok (.invokevirtual 164, 3) := by decide +kernel
theorem dX5_ladder_98 : decode cX5_ladder 98 = .ok (.iconst 1, 1) := by decide +kernel
theorem dX5_ladder_99 : decode cX5_ladder 99 = .ok (.ireturn, 1) := by decide +kernel
theorem dX5_step_0 : decode cX5_step 0 = .ok (.iload_n 1, 1) := by decide +kernel
theorem dX5_step_1 : decode cX5_step 1 = .ok (.invokestatic 161, 3) := by decide +kernel
theorem dX5_step_4 : decode cX5_step 4 = .ok (.ifCond .eq 17, 3) := by decide +kernel
theorem dX5_step_7 : decode cX5_step 7 = .ok (.iload_n 2, 1) := by decide +kernel
theorem dX5_step_8 : decode cX5_step 8 = .ok (.invokestatic 103, 3) := by decide +kernel
theorem dX5_step_11 : decode cX5_step 11 = .ok (.ifCond .eq 10, 3) := by decide +kernel
theorem dX5_step_14 : decode cX5_step 14 = .ok (.iload_n 3, 1) := by decide +kernel
theorem dX5_step_15 : decode cX5_step 15 = .ok (.invokestatic 103, 3) := by decide +kernel
theorem dX5_step_18 : decode cX5_step 18 = .ok (.ifCond .ne 6, 3) := by decide +kernel
theorem dX5_step_21 : decode cX5_step 21 = .ok (.bipush (-2), 2) := by decide +kernel
theorem dX5_step_23 : decode cX5_step 23 = .ok (.ireturn, 1) := by decide +kernel
theorem dX5_step_24 : decode cX5_step 24 = .ok (.aload_n 0, 1) := by decide +kernel
theorem dX5_step_25 : decode cX5_step 25 = .ok (.getfield 17, 3) := by decide +kernel
theorem dX5_step_28 : decode cX5_step 28 = .ok (.iload_n 1, 1) := by decide +kernel
theorem dX5_step_29 : decode cX5_step 29 = .ok (.aaload, 1) := by decide +kernel
theorem dX5_step_30 : decode cX5_step 30 = .ok (.getfield 168, 3) := by decide +kernel
theorem dX5_step_33 : decode cX5_step 33 = .ok (.ifCond .ne 6, 3) := by decide +kernel
theorem dX5_step_36 : decode cX5_step 36 = .ok (.bipush (-3), 2) := by decide +kernel
theorem dX5_step_38 : decode cX5_step 38 = .ok (.ireturn, 1) := by decide +kernel
theorem dX5_step_39 : decode cX5_step 39 = .ok (.aload_n 0, 1) := by decide +kernel
theorem dX5_step_40 : decode cX5_step 40 = .ok (.getfield 17, 3) := by decide +kernel
theorem dX5_step_43 : decode cX5_step 43 = .ok (.iload_n 1, 1) := by decide +kernel
theorem dX5_step_44 : decode cX5_step 44 = .ok (.aaload, 1) := by decide +kernel
theorem dX5_step_45 : decode cX5_step 45 = .ok (.getfield 171, 3) := by decide +kernel
theorem dX5_step_48 : decode cX5_step 48 = .ok (.iload_n 2, 1) := by decide +kernel
theorem dX5_step_49 : decode cX5_step 49 = .ok (.aaload, 1) := by decide +kernel
theorem dX5_step_50 : decode cX5_step 50 = .ok (.getfield 175, 3) := by decide +kernel
theorem dX5_step_53 : decode cX5_step 53 = .ok (.iload_n 3, 1) := by decide +kernel
theorem dX5_step_54 : decode cX5_step 54 = .ok (.iaload, 1) := by decide +kernel
theorem dX5_step_55 : decode cX5_step 55 = .ok (.ireturn, 1) := by decide +kernel
theorem dX5_at_0 : decode cX5_at 0 = .ok (.iload_n 1, 1) := by decide +kernel
theorem dX5_at_1 : decode cX5_at 1 = .ok (.invokestatic 161, 3) := by decide +kernel
theorem dX5_at_4 : decode cX5_at 4 = .ok (.ifCond .eq 10, 3) := by decide +kernel
theorem dX5_at_7 : decode cX5_at 7 = .ok (.iload_n 2, 1) := by decide +kernel
theorem dX5_at_8 : decode cX5_at 8 = .ok (.invokestatic 103, 3) := by decide +kernel
theorem dX5_at_11 : decode cX5_at 11 = .ok (.ifCond .ne 6, 3) := by decide +kernel
theorem dX5_at_14 : decode cX5_at 14 = .ok (.bipush (-2), 2) := by decide +kernel
theorem dX5_at_16 : decode cX5_at 16 = .ok (.ireturn, 1) := by decide +kernel
theorem dX5_at_17 : decode cX5_at 17 = .ok (.aload_n 0, 1) := by decide +kernel
theorem dX5_at_18 : decode cX5_at 18 = .ok (.getfield 17, 3) := by decide +kernel
theorem dX5_at_21 : decode cX5_at 21 = .ok (.iload_n 1, 1) := by decide +kernel
theorem dX5_at_22 : decode cX5_at 22 = .ok (.aaload, 1) := by decide +kernel
theorem dX5_at_23 : decode cX5_at 23 = .ok (.getfield 168, 3) := by decide +kernel
theorem dX5_at_26 : decode cX5_at 26 = .ok (.ifCond .ne 6, 3) := by decide +kernel
theorem dX5_at_29 : decode cX5_at 29 = .ok (.bipush (-3), 2) := by decide +kernel
theorem dX5_at_31 : decode cX5_at 31 = .ok (.ireturn, 1) := by decide +kernel
theorem dX5_at_32 : decode cX5_at 32 = .ok (.aload_n 0, 1) := by decide +kernel
theorem dX5_at_33 : decode cX5_at 33 = .ok (.getfield 17, 3) := by decide +kernel
theorem dX5_at_36 : decode cX5_at 36 = .ok (.iload_n 1, 1) := by decide +kernel
theorem dX5_at_37 : decode cX5_at 37 = .ok (.aaload, 1) := by decide +kernel
theorem dX5_at_38 : decode cX5_at 38 = .ok (.getfield 171, 3) := by decide +kernel
theorem dX5_at_41 : decode cX5_at 41 = .ok (.iload_n 2, 1) := by decide +kernel
theorem dX5_at_42 : decode cX5_at 42 = .ok (.aaload, 1) := by decide +kernel
theorem dX5_at_43 : decode cX5_at 43 = .ok (.iload_n 3, 1) := by decide +kernel
theorem dX5_at_44 : decode cX5_at 44 = .ok (.invokevirtual 154, 3) := by decide +kernel
theorem dX5_at_47 : decode cX5_at 47 = .ok (.ireturn, 1) := by decide +kernel
theorem dX5_tell_0 : decode cX5_tell 0 = .ok (.iload_n 1, 1) := by decide +kernel
theorem dX5_tell_1 : decode cX5_tell 1 = .ok (.invokestatic 161, 3) := by decide +kernel
theorem dX5_tell_4 : decode cX5_tell 4 = .ok (.ifCond .eq 17, 3) := by decide +kernel
theorem dX5_tell_7 : decode cX5_tell 7 = .ok (.iload_n 2, 1) := by decide +kernel
theorem dX5_tell_8 : decode cX5_tell 8 = .ok (.invokestatic 103, 3) := by decide +kernel
theorem dX5_tell_11 : decode cX5_tell 11 = .ok (.ifCond .eq 10, 3) := by decide +kernel
theorem dX5_tell_14 : decode cX5_tell 14 = .ok (.iload_n 3, 1) := by decide +kernel
theorem dX5_tell_15 : decode cX5_tell 15 = .ok (.invokestatic 56, 3) := by decide +kernel
theorem dX5_tell_18 : decode cX5_tell 18 = .ok (.ifCond .ne 6, 3) := by decide +kernel
theorem dX5_tell_21 : decode cX5_tell 21 = .ok (.bipush (-2), 2) := by decide +kernel
theorem dX5_tell_23 : decode cX5_tell 23 = .ok (.ireturn, 1) := by decide +kernel
theorem dX5_tell_24 : decode cX5_tell 24 = .ok (.aload_n 0, 1) := by decide +kernel
theorem dX5_tell_25 : decode cX5_tell 25 = .ok (.getfield 17, 3) := by decide +kernel
theorem dX5_tell_28 : decode cX5_tell 28 = .ok (.iload_n 1, 1) := by decide +kernel
theorem dX5_tell_29 : decode cX5_tell 29 = .ok (.aaload, 1) := by decide +kernel
theorem dX5_tell_30 : decode cX5_tell 30 = .ok (.getfield 168, 3) := by decide +kernel
theorem dX5_tell_33 : decode cX5_tell 33 = .ok (.ifCond .ne 6, 3) := by decide +kernel
theorem dX5_tell_36 : decode cX5_tell 36 = .ok (.bipush (-3), 2) := by decide +kernel
theorem dX5_tell_38 : decode cX5_tell 38 = .ok (.ireturn, 1) := by decide +kernel
theorem dX5_tell_39 : decode cX5_tell 39 = .ok (.aload_n 0, 1) := by decide +kernel
theorem dX5_tell_40 : decode cX5_tell 40 = .ok (.iload_n 3, 1) := by decide +kernel
theorem dX5_tell_41 : decode cX5_tell 41 = .ok (.aload_n 0, 1) := by decide +kernel
theorem dX5_tell_42 : decode cX5_tell 42 = .ok (.getfield 17, 3) := by decide +kernel
theorem dX5_tell_45 : decode cX5_tell 45 = .ok (.iload_n 1, 1) := by decide +kernel
theorem dX5_tell_46 : decode cX5_tell 46 = .ok (.aaload, 1) := by decide +kernel
theorem dX5_tell_47 : decode cX5_tell 47 = .ok (.getfield 171, 3) := by decide +kernel
theorem dX5_tell_50 : decode cX5_tell 50 = .ok (.iload_n 2, 1) := by decide +kernel
theorem dX5_tell_51 : decode cX5_tell 51 = .ok (.aaload, 1) := by decide +kernel
theorem dX5_tell_52 : decode cX5_tell 52 = .ok (.invokevirtual 113, 3) := by decide +kernel
theorem dX5_tell_55 : decode cX5_tell 55 = .ok (.ireturn, 1) := by decide +kernel
theorem dX5_lowers_0 : decode cX5_lowers 0 = .ok (.iload_n 1, 1) := by decide +kernel
theorem dX5_lowers_1 : decode cX5_lowers 1 = .ok (.invokestatic 161, 3) := by decide +kernel
theorem dX5_lowers_4 : decode cX5_lowers 4 = .ok (.ifCond .eq 10, 3) := by decide +kernel
theorem dX5_lowers_7 : decode cX5_lowers 7 = .ok (.iload_n 2, 1) := by decide +kernel
theorem dX5_lowers_8 : decode cX5_lowers 8 = .ok (.invokestatic 56, 3) := by decide +kernel
theorem dX5_lowers_11 : decode cX5_lowers 11 = .ok (.ifCond .ne 6, 3) := by decide +kernel
theorem dX5_lowers_14 : decode cX5_lowers 14 = .ok (.bipush (-2), 2) := by decide +kernel
theorem dX5_lowers_16 : decode cX5_lowers 16 = .ok (.ireturn, 1) := by decide +kernel
theorem dX5_lowers_17 : decode cX5_lowers 17 = .ok (.aload_n 0, 1) := by decide +kernel
theorem dX5_lowers_18 : decode cX5_lowers 18 = .ok (.iload_n 2, 1) := by decide +kernel
theorem dX5_lowers_19 : decode cX5_lowers 19 = .ok (.aload_n 0, 1) := by decide +kernel
theorem dX5_lowers_20 : decode cX5_lowers 20 = .ok (.getfield 31, 3) := by decide +kernel
theorem dX5_lowers_23 : decode cX5_lowers 23 = .ok (.invokevirtual 117, 3) := by decide +kernel
theorem dX5_lowers_26 : decode cX5_lowers 26 = .ok (.ifCond .ne 9, 3) := by decide +kernel
theorem dX5_lowers_29 : decode cX5_lowers 29 = .ok (.aload_n 0, 1) := by decide +kernel
theorem dX5_lowers_30 : decode cX5_lowers 30 = .ok (.iconst 1, 1) := by decide +kernel
theorem dX5_lowers_31 : decode cX5_lowers 31 = .ok (.invokevirtual 63, 3) := by decide +kernel
theorem dX5_lowers_34 : decode cX5_lowers 34 = .ok (.ireturn, 1) := by decide +kernel
theorem dX5_lowers_35 : decode cX5_lowers 35 = .ok (.aload_n 0, 1) := by decide +kernel
theorem dX5_lowers_36 : decode cX5_lowers 36 = .ok (.getfield 17, 3) := by decide +kernel
theorem dX5_lowers_39 : decode cX5_lowers 39 = .ok (.iload_n 1, 1) := by decide +kernel
theorem dX5_lowers_40 : decode cX5_lowers 40 = .ok (.aaload, 1) := by decide +kernel
theorem dX5_lowers_41 : decode cX5_lowers 41 = .ok (.getfield 168, 3) := by decide +kernel
theorem dX5_lowers_44 : decode cX5_lowers 44 = .ok (.ifCond .ne 6, 3) := by decide +kernel
theorem dX5_lowers_47 : decode cX5_lowers 47 = .ok (.bipush (-3), 2) := by decide +kernel
theorem dX5_lowers_49 : decode cX5_lowers 49 = .ok (.ireturn, 1) := by decide +kernel
theorem dX5_lowers_50 : decode cX5_lowers 50 = .ok (.aload_n 0, 1) := by decide +kernel
theorem dX5_lowers_51 : decode cX5_lowers 51 = .ok (.getfield 24, 3) := by decide +kernel
theorem dX5_lowers_54 : decode cX5_lowers 54 = .ok (.aload_n 0, 1) := by decide +kernel
theorem dX5_lowers_55 : decode cX5_lowers 55 = .ok (.getfield 17, 3) := by decide +kernel
theorem dX5_lowers_58 : decode cX5_lowers 58 = .ok (.iload_n 1, 1) := by decide +kernel
theorem dX5_lowers_59 : decode cX5_lowers 59 = .ok (.aaload, 1) := by decide +kernel
theorem dX5_lowers_60 : decode cX5_lowers 60 = .ok (.aload_n 0, 1) := by decide +kernel
theorem dX5_lowers_61 : decode cX5_lowers 61 = .ok (.getfield 31, 3) := by decide +kernel
theorem dX5_lowers_64 : decode cX5_lowers 64 = .ok (.invokevirtual 178, 3) := by decide +kernel
theorem dX5_lowers_67 : decode cX5_lowers 67 = .ok (.ireturn, 1) := by decide +kernel
theorem dX5_bound_0 : decode cX5_bound 0 = .ok (.iload_n 1, 1) := by decide +kernel
theorem dX5_bound_1 : decode cX5_bound 1 = .ok (.invokestatic 161, 3) := by decide +kernel
theorem dX5_bound_4 : decode cX5_bound 4 = .ok (.ifCond .eq 25, 3) := by decide +kernel
theorem dX5_bound_7 : decode cX5_bound 7 = .ok (.iload_n 2, 1) := by decide +kernel
theorem dX5_bound_8 : decode cX5_bound 8 = .ok (.invokestatic 161, 3) := by decide +kernel
theorem dX5_bound_11 : decode cX5_bound 11 = .ok (.ifCond .eq 18, 3) := by decide +kernel
theorem dX5_bound_14 : decode cX5_bound 14 = .ok (.iload_n 3, 1) := by decide +kernel
theorem dX5_bound_15 : decode cX5_bound 15 = .ok (.invokestatic 103, 3) := by decide +kernel
theorem dX5_bound_18 : decode cX5_bound 18 = .ok (.ifCond .eq 11, 3) := by decide +kernel
theorem dX5_bound_21 : decode cX5_bound 21 = .ok (.iload 4, 2) := by decide +kernel
theorem dX5_bound_23 : decode cX5_bound 23 = .ok (.invokestatic 103, 3) := by decide +kernel
theorem dX5_bound_26 : decode cX5_bound 26 = .ok (.ifCond .ne 6, 3) := by decide +kernel
theorem dX5_bound_29 : decode cX5_bound 29 = .ok (.bipush (-2), 2) := by decide +kernel
theorem dX5_bound_31 : decode cX5_bound 31 = .ok (.ireturn, 1) := by decide +kernel
theorem dX5_bound_32 : decode cX5_bound 32 = .ok (.aload_n 0, 1) := by decide +kernel
theorem dX5_bound_33 : decode cX5_bound 33 = .ok (.getfield 17, 3) := by decide +kernel
theorem dX5_bound_36 : decode cX5_bound 36 = .ok (.iload_n 1, 1) := by decide +kernel
theorem dX5_bound_37 : decode cX5_bound 37 = .ok (.aaload, 1) := by decide +kernel
theorem dX5_bound_38 : decode cX5_bound 38 = .ok (.getfield 168, 3) := by decide +kernel
theorem dX5_bound_41 : decode cX5_bound 41 = .ok (.ifCond .eq 15, 3) := by decide +kernel
theorem dX5_bound_44 : decode cX5_bound 44 = .ok (.aload_n 0, 1) := by decide +kernel
theorem dX5_bound_45 : decode cX5_bound 45 = .ok (.getfield 17, 3) := by decide +kernel
theorem dX5_bound_48 : decode cX5_bound 48 = .ok (.iload_n 2, 1) := by decide +kernel
theorem dX5_bound_49 : decode cX5_bound 49 = .ok (.aaload, 1) := by decide +kernel
theorem dX5_bound_50 : decode cX5_bound 50 = .ok (.getfield 168, 3) := by decide +kernel
theorem dX5_bound_53 : decode cX5_bound 53 = .ok (.ifCond .ne 6, 3) := by decide +kernel
theorem dX5_bound_56 : decode cX5_bound 56 = .ok (.bipush (-3), 2) := by decide +kernel
theorem dX5_bound_58 : decode cX5_bound 58 = .ok (.ireturn, 1) := by decide +kernel
theorem dX5_bound_59 : decode cX5_bound 59 = .ok (.aload_n 0, 1) := by decide +kernel
theorem dX5_bound_60 : decode cX5_bound 60 = .ok (.getfield 24, 3) := by decide +kernel
theorem dX5_bound_63 : decode cX5_bound 63 = .ok (.aload_n 0, 1) := by decide +kernel
theorem dX5_bound_64 : decode cX5_bound 64 = .ok (.getfield 17, 3) := by decide +kernel
theorem dX5_bound_67 : decode cX5_bound 67 = .ok (.iload_n 1, 1) := by decide +kernel
theorem dX5_bound_68 : decode cX5_bound 68 = .ok (.aaload, 1) := by decide +kernel
theorem dX5_bound_69 : decode cX5_bound 69 = .ok (.getfield 171, 3) := by decide +kernel
theorem dX5_bound_72 : decode cX5_bound 72 = .ok (.iload_n 3, 1) := by decide +kernel
theorem dX5_bound_73 : decode cX5_bound 73 = .ok (.aaload, 1) := by decide +kernel
theorem dX5_bound_74 : decode cX5_bound 74 = .ok (.aload_n 0, 1) := by decide +kernel
theorem dX5_bound_75 : decode cX5_bound 75 = .ok (.getfield 17, 3) := by decide +kernel
theorem dX5_bound_78 : decode cX5_bound 78 = .ok (.iload_n 2, 1) := by decide +kernel
theorem dX5_bound_79 : decode cX5_bound 79 = .ok (.aaload, 1) := by decide +kernel
theorem dX5_bound_80 : decode cX5_bound 80 = .ok (.iload 4, 2) := by decide +kernel
theorem dX5_bound_82 : decode cX5_bound 82 = .ok (.invokevirtual 182, 3) := by decide +kernel
theorem dX5_bound_85 : decode cX5_bound 85 = .ok (.ireturn, 1) := by decide +kernel
theorem dX5_binomial_0 : decode cX5_binomial 0 = .ok (.iload_n 1, 1) := by decide +kernel
theorem dX5_binomial_1 : decode cX5_binomial 1 = .ok (.invokestatic 161, 3) := by decide +kernel
theorem dX5_binomial_4 : decode cX5_binomial 4 = .ok (.ifCond .ne 6, 3) := by decide +kernel
theorem dX5_binomial_7 : decode cX5_binomial 7 = .ok (.bipush (-2), 2) := by decide +kernel
theorem dX5_binomial_9 : decode cX5_binomial 9 = .ok (.ireturn, 1) := by decide +kernel
theorem dX5_binomial_10 : decode cX5_binomial 10 = .ok (.aload_n 0, 1) := by decide +kernel
theorem dX5_binomial_11 : decode cX5_binomial 11 = .ok (.getfield 17, 3) := by decide +kernel
theorem dX5_binomial_14 : decode cX5_binomial 14 = .ok (.iload_n 1, 1) := by decide +kernel
theorem dX5_binomial_15 : decode cX5_binomial 15 = .ok (.aaload, 1) := by decide +kernel
theorem dX5_binomial_16 : decode cX5_binomial 16 = .ok (.getfield 168, 3) := by decide +kernel
theorem dX5_binomial_19 : decode cX5_binomial 19 = .ok (.ifCond .ne 6, 3) := by decide +kernel
theorem dX5_binomial_22 : decode cX5_binomial 22 = .ok (.bipush (-3), 2) := by decide +kernel
theorem dX5_binomial_24 : decode cX5_binomial 24 = .ok (.ireturn, 1) := by decide +kernel
theorem dX5_binomial_25 : decode cX5_binomial 25 = .ok (.aload_n 0, 1) := by decide +kernel
theorem dX5_binomial_26 : decode cX5_binomial 26 = .ok (.getfield 24, 3) := by decide +kernel
theorem dX5_binomial_29 : decode cX5_binomial 29 = .ok (.aload_n 0, 1) := by decide +kernel
theorem dX5_binomial_30 : decode cX5_binomial 30 = .ok (.getfield 17, 3) := by decide +kernel
theorem dX5_binomial_33 : decode cX5_binomial 33 = .ok (.iload_n 1, 1) := by decide +kernel
theorem dX5_binomial_34 : decode cX5_binomial 34 = .ok (.aaload, 1) := by decide +kernel
theorem dX5_binomial_35 : decode cX5_binomial 35 = .ok (.invokevirtual 186, 3) := by decide +kernel
theorem dX5_binomial_38 : decode cX5_binomial 38 = .ok (.ireturn, 1) := by decide +kernel
theorem dX5_sum_0 : decode cX5_sum 0 = .ok (.iload_n 1, 1) := by decide +kernel
theorem dX5_sum_1 : decode cX5_sum 1 = .ok (.invokestatic 56, 3) := by decide +kernel
theorem dX5_sum_4 : decode cX5_sum 4 = .ok (.ifCond .eq 13, 3) := by decide +kernel
theorem dX5_sum_7 : decode cX5_sum 7 = .ok (.iload_n 3, 1) := by decide +kernel
theorem dX5_sum_8 : decode cX5_sum 8 = .ok (.ifCond .lt 9, 3) := by decide +kernel
theorem dX5_sum_11 : decode cX5_sum 11 = .ok (.iload_n 3, 1) := by decide +kernel
theorem dX5_sum_12 : decode cX5_sum 12 = .ok (.ldc 190, 2) := by decide +kernel
theorem dX5_sum_14 : decode cX5_sum 14 = .ok (.if_icmp .le 6, 3) := by decide +kernel
theorem dX5_sum_17 : decode cX5_sum 17 = .ok (.bipush (-2), 2) := by decide +kernel
theorem dX5_sum_19 : decode cX5_sum 19 = .ok (.ireturn, 1) := by decide +kernel
theorem dX5_sum_20 : decode cX5_sum 20 = .ok (.aload_n 0, 1) := by decide +kernel
theorem dX5_sum_21 : decode cX5_sum 21 = .ok (.iload_n 1, 1) := by decide +kernel
theorem dX5_sum_22 : decode cX5_sum 22 = .ok (.aload_n 0, 1) := by decide +kernel
theorem dX5_sum_23 : decode cX5_sum 23 = .ok (.getfield 31, 3) := by decide +kernel
theorem dX5_sum_26 : decode cX5_sum 26 = .ok (.invokevirtual 117, 3) := by decide +kernel
theorem dX5_sum_29 : decode cX5_sum 29 = .ok (.ifCond .ne 9, 3) := by decide +kernel
theorem dX5_sum_32 : decode cX5_sum 32 = .ok (.aload_n 0, 1) := by decide +kernel
theorem dX5_sum_33 : decode cX5_sum 33 = .ok (.iconst 1, 1) := by decide +kernel
theorem dX5_sum_34 : decode cX5_sum 34 = .ok (.invokevirtual 63, 3) := by decide +kernel
theorem dX5_sum_37 : decode cX5_sum 37 = .ok (.ireturn, 1) := by decide +kernel
theorem dX5_sum_38 : decode cX5_sum 38 = .ok (.aload_n 0, 1) := by decide +kernel
theorem dX5_sum_39 : decode cX5_sum 39 = .ok (.getfield 24, 3) := by decide +kernel
theorem dX5_sum_42 : decode cX5_sum 42 = .ok (.aload_n 0, 1) := by decide +kernel
theorem dX5_sum_43 : decode cX5_sum 43 = .ok (.getfield 31, 3) := by decide +kernel
theorem dX5_sum_46 : decode cX5_sum 46 = .ok (.iload_n 2, 1) := by decide +kernel
theorem dX5_sum_47 : decode cX5_sum 47 = .ok (.iload_n 3, 1) := by decide +kernel
theorem dX5_sum_48 : decode cX5_sum 48 = .ok (.invokevirtual 191, 3) := by decide +kernel
theorem dX5_sum_51 : decode cX5_sum 51 = .ok (.ireturn, 1) := by decide +kernel
theorem dX5_through_0 : decode cX5_through 0 = .ok (.iload_n 1, 1) := by decide +kernel
theorem dX5_through_1 : decode cX5_through 1 = .ok (.invokestatic 56, 3) := by decide +kernel
theorem dX5_through_4 : decode cX5_through 4 = .ok (.ifCond .eq 21, 3) := by decide +kernel
theorem dX5_through_7 : decode cX5_through 7 = .ok (.iload_n 2, 1) := by decide +kernel
theorem dX5_through_8 : decode cX5_through 8 = .ok (.iconst 1, 1) := by decide +kernel
theorem dX5_through_9 : decode cX5_through 9 = .ok (.if_icmp .lt 16, 3) := by decide +kernel
theorem dX5_through_12 : decode cX5_through 12 = .ok (.iload_n 2, 1) := by decide +kernel
theorem dX5_through_13 : decode cX5_through 13 = .ok (.bipush 10, 2) := by decide +kernel
theorem dX5_through_15 : decode cX5_through 15 = .ok (.if_icmp .gt 10, 3) := by decide +kernel
theorem dX5_through_18 : decode cX5_through 18 = .ok (.iload_n 3, 1) := by decide +kernel
theorem dX5_through_19 : decode cX5_through 19 = .ok (.invokestatic 56, 3) := by decide +kernel
theorem dX5_through_22 : decode cX5_through 22 = .ok (.ifCond .ne 6, 3) := by decide +kernel
theorem dX5_through_25 : decode cX5_through 25 = .ok (.bipush (-2), 2) := by decide +kernel
theorem dX5_through_27 : decode cX5_through 27 = .ok (.ireturn, 1) := by decide +kernel
theorem dX5_through_28 : decode cX5_through 28 = .ok (.aload_n 0, 1) := by decide +kernel
theorem dX5_through_29 : decode cX5_through 29 = .ok (.iload_n 1, 1) := by decide +kernel
theorem dX5_through_30 : decode cX5_through 30 = .ok (.aload_n 0, 1) := by decide +kernel
theorem dX5_through_31 : decode cX5_through 31 = .ok (.getfield 31, 3) := by decide +kernel
theorem dX5_through_34 : decode cX5_through 34 = .ok (.invokevirtual 117, 3) := by decide +kernel
theorem dX5_through_37 : decode cX5_through 37 = .ok (.ifCond .ne 9, 3) := by decide +kernel
theorem dX5_through_40 : decode cX5_through 40 = .ok (.aload_n 0, 1) := by decide +kernel
theorem dX5_through_41 : decode cX5_through 41 = .ok (.iconst 1, 1) := by decide +kernel
theorem dX5_through_42 : decode cX5_through 42 = .ok (.invokevirtual 63, 3) := by decide +kernel
theorem dX5_through_45 : decode cX5_through 45 = .ok (.ireturn, 1) := by decide +kernel
theorem dX5_through_46 : decode cX5_through 46 = .ok (.aload_n 0, 1) := by decide +kernel
theorem dX5_through_47 : decode cX5_through 47 = .ok (.getfield 24, 3) := by decide +kernel
theorem dX5_through_50 : decode cX5_through 50 = .ok (.aload_n 0, 1) := by decide +kernel
theorem dX5_through_51 : decode cX5_through 51 = .ok (.getfield 31, 3) := by decide +kernel
theorem dX5_through_54 : decode cX5_through 54 = .ok (.iload_n 2, 1) := by decide +kernel
theorem dX5_through_55 : decode cX5_through 55 = .ok (.aload_n 0, 1) := by decide +kernel
theorem dX5_through_56 : decode cX5_through 56 = .ok (.getfield 44, 3) := by decide +kernel
theorem dX5_through_59 : decode cX5_through 59 = .ok (.invokevirtual 195, 3) := by decide +kernel
theorem dX5_through_62 : decode cX5_through 62 = .ok (.aload_n 0, 1) := by decide +kernel
theorem dX5_through_63 : decode cX5_through 63 = .ok (.iload_n 3, 1) := by decide +kernel
theorem dX5_through_64 : decode cX5_through 64 = .ok (.aload_n 0, 1) := by decide +kernel
theorem dX5_through_65 : decode cX5_through 65 = .ok (.getfield 44, 3) := by decide +kernel
theorem dX5_through_68 : decode cX5_through 68 = .ok (.invokevirtual 113, 3) := by decide +kernel
theorem dX5_through_71 : decode cX5_through 71 = .ok (.pop, 1) := by decide +kernel
theorem dX5_through_72 : decode cX5_through 72 = .ok (.aload_n 0, 1) := by decide +kernel
theorem dX5_through_73 : decode cX5_through 73 = .ok (.getfield 44, 3) := by decide +kernel
theorem dX5_through_76 : decode cX5_through 76 = .ok (.invokevirtual 199, 3) := by decide +kernel
theorem dX5_through_79 : decode cX5_through 79 = .ok (.ireturn, 1) := by decide +kernel
theorem dX5_difference_0 : decode cX5_difference 0 = .ok (.iload_n 1, 1) := by decide +kernel
theorem dX5_difference_1 : decode cX5_difference 1 = .ok (.invokestatic 56, 3) := by decide +kernel
theorem dX5_difference_4 : decode cX5_difference 4 = .ok (.ifCond .eq 10, 3) := by decide +kernel
theorem dX5_difference_7 : decode cX5_difference 7 = .ok (.iload_n 2, 1) := by decide +kernel
theorem dX5_difference_8 : decode cX5_difference 8 = .ok (.invokestatic 103, 3) := by decide +kernel
theorem dX5_difference_11 : decode cX5_difference 11 = .ok (.ifCond .ne 6, 3) := by decide +kernel
theorem dX5_difference_14 : decode cX5_difference 14 = .ok (.bipush (-2), 2) := by decide +kernel
theorem dX5_difference_16 : decode cX5_difference 16 = .ok (.ireturn, 1) := by decide +kernel
theorem dX5_difference_17 : decode cX5_difference 17 = .ok (.aload_n 0, 1) := by decide +kernel
theorem dX5_difference_18 : decode cX5_difference 18 = .ok (.iload_n 1, 1) := by decide +kernel
theorem dX5_difference_19 : decode cX5_difference 19 = .ok (.aload_n 0, 1) := by decide +kernel
theorem dX5_difference_20 : decode cX5_difference 20 = .ok (.getfield 31, 3) := by decide +kernel
theorem dX5_difference_23 : decode cX5_difference 23 = .ok (.invokevirtual 117, 3) := by decide +kernel
theorem dX5_difference_26 : decode cX5_difference 26 = .ok (.ifCond .ne 9, 3) := by decide +kernel
theorem dX5_difference_29 : decode cX5_difference 29 = .ok (.aload_n 0, 1) := by decide +kernel
theorem dX5_difference_30 : decode cX5_difference 30 = .ok (.iconst 1, 1) := by decide +kernel
theorem dX5_difference_31 : decode cX5_difference 31 = .ok (.invokevirtual 63, 3) := by decide +kernel
theorem dX5_difference_34 : decode cX5_difference 34 = .ok (.ireturn, 1) := by decide +kernel
theorem dX5_difference_35 : decode cX5_difference 35 = .ok (.aload_n 0, 1) := by decide +kernel
theorem dX5_difference_36 : decode cX5_difference 36 = .ok (.getfield 24, 3) := by decide +kernel
theorem dX5_difference_39 : decode cX5_difference 39 = .ok (.aload_n 0, 1) := by decide +kernel
theorem dX5_difference_40 : decode cX5_difference 40 = .ok (.getfield 31, 3) := by decide +kernel
theorem dX5_difference_43 : decode cX5_difference 43 = .ok (.iload_n 2, 1) := by decide +kernel
theorem dX5_difference_44 : decode cX5_difference 44 = .ok (.iload_n 3, 1) := by decide +kernel
theorem dX5_difference_45 : decode cX5_difference 45 = .ok (.invokevirtual 203, 3) := by decide +kernel
theorem dX5_difference_48 : decode cX5_difference 48 = .ok (.ireturn, 1) := by decide +kernel
theorem dX5_triangle_0 : decode cX5_triangle 0 = .ok (.iload_n 1, 1) := by decide +kernel
theorem dX5_triangle_1 : decode cX5_triangle 1 = .ok (.invokestatic 56, 3) := by decide +kernel
theorem dX5_triangle_4 : decode cX5_triangle 4 = .ok (.ifCond .eq 25, 3) := by decide +kernel
theorem dX5_triangle_7 : decode cX5_triangle 7 = .ok (.iload_n 2, 1) := by decide +kernel
theorem dX5_triangle_8 : decode cX5_triangle 8 = .ok (.invokestatic 56, 3) := by decide +kernel
theorem dX5_triangle_11 : decode cX5_triangle 11 = .ok (.ifCond .eq 18, 3) := by decide +kernel
theorem dX5_triangle_14 : decode cX5_triangle 14 = .ok (.iload_n 3, 1) := by decide +kernel
theorem dX5_triangle_15 : decode cX5_triangle 15 = .ok (.invokestatic 103, 3) := by decide +kernel
theorem dX5_triangle_18 : decode cX5_triangle 18 = .ok (.ifCond .eq 11, 3) := by decide +kernel
theorem dX5_triangle_21 : decode cX5_triangle 21 = .ok (.iload 4, 2) := by decide +kernel
theorem dX5_triangle_23 : decode cX5_triangle 23 = .ok (.invokestatic 103, 3) := by decide +kernel
theorem dX5_triangle_26 : decode cX5_triangle 26 = .ok (.ifCond .ne 6, 3) := by decide +kernel
theorem dX5_triangle_29 : decode cX5_triangle 29 = .ok (.bipush (-2), 2) := by decide +kernel
theorem dX5_triangle_31 : decode cX5_triangle 31 = .ok (.ireturn, 1) := by decide +kernel
theorem dX5_triangle_32 : decode cX5_triangle 32 = .ok (.aload_n 0, 1) := by decide +kernel
theorem dX5_triangle_33 : decode cX5_triangle 33 = .ok (.iload_n 1, 1) := by decide +kernel
theorem dX5_triangle_34 : decode cX5_triangle 34 = .ok (.aload_n 0, 1) := by decide +kernel
theorem dX5_triangle_35 : decode cX5_triangle 35 = .ok (.getfield 31, 3) := by decide +kernel
theorem dX5_triangle_38 : decode cX5_triangle 38 = .ok (.invokevirtual 117, 3) := by decide +kernel
theorem dX5_triangle_41 : decode cX5_triangle 41 = .ok (.ifCond .eq 15, 3) := by decide +kernel
theorem dX5_triangle_44 : decode cX5_triangle 44 = .ok (.aload_n 0, 1) := by decide +kernel
theorem dX5_triangle_45 : decode cX5_triangle 45 = .ok (.iload_n 2, 1) := by decide +kernel
theorem dX5_triangle_46 : decode cX5_triangle 46 = .ok (.aload_n 0, 1) := by decide +kernel
theorem dX5_triangle_47 : decode cX5_triangle 47 = .ok (.getfield 35, 3) := by decide +kernel
theorem dX5_triangle_50 : decode cX5_triangle 50 = .ok (.invokevirtual 117, 3) := by decide +kernel
theorem dX5_triangle_53 : decode cX5_triangle 53 = .ok (.ifCond .ne 9, 3) := by decide +kernel
theorem dX5_triangle_56 : decode cX5_triangle 56 = .ok (.aload_n 0, 1) := by decide +kernel
theorem dX5_triangle_57 : decode cX5_triangle 57 = .ok (.iconst 1, 1) := by decide +kernel
theorem dX5_triangle_58 : decode cX5_triangle 58 = .ok (.invokevirtual 63, 3) := by decide +kernel
theorem dX5_triangle_61 : decode cX5_triangle 61 = .ok (.ireturn, 1) := by decide +kernel
theorem dX5_triangle_62 : decode cX5_triangle 62 = .ok (.aload_n 0, 1) := by decide +kernel
theorem dX5_triangle_63 : decode cX5_triangle 63 = .ok (.getfield 35, 3) := by decide +kernel
theorem dX5_triangle_66 : decode cX5_triangle 66 = .ok (.invokevirtual 138, 3) := by decide +kernel
theorem dX5_triangle_69 : decode cX5_triangle 69 = .ok (.ifCond .ne 6, 3) := by decide +kernel
theorem dX5_triangle_72 : decode cX5_triangle 72 = .ok (.bipush (-3), 2) := by decide +kernel
theorem dX5_triangle_74 : decode cX5_triangle 74 = .ok (.ireturn, 1) := by decide +kernel
theorem dX5_triangle_75 : decode cX5_triangle 75 = .ok (.aload_n 0, 1) := by decide +kernel
theorem dX5_triangle_76 : decode cX5_triangle 76 = .ok (.getfield 44, 3) := by decide +kernel
theorem dX5_triangle_79 : decode cX5_triangle 79 = .ok (.aload_n 0, 1) := by decide +kernel
theorem dX5_triangle_80 : decode cX5_triangle 80 = .ok (.getfield 35, 3) := by decide +kernel
theorem dX5_triangle_83 : decode cX5_triangle 83 = .ok (.iload 4, 2) := by decide +kernel
theorem dX5_triangle_85 : decode cX5_triangle 85 = .ok (.invokevirtual 150, 3) := by decide +kernel
theorem dX5_triangle_88 : decode cX5_triangle 88 = .ok (.aload_n 0, 1) := by decide +kernel
theorem dX5_triangle_89 : decode cX5_triangle 89 = .ok (.getfield 44, 3) := by decide +kernel
theorem dX5_triangle_92 : decode cX5_triangle 92 = .ok (.aload_n 0, 1) := by decide +kernel
theorem dX5_triangle_93 : decode cX5_triangle 93 = .ok (.getfield 31, 3) := by decide +kernel
theorem dX5_triangle_96 : decode cX5_triangle 96 = .ok (.aload_n 0, 1) := by decide +kernel
theorem dX5_triangle_97 : decode cX5_triangle 97 = .ok (.getfield 44, 3) := by decide +kernel
theorem dX5_triangle_100 : decode cX5_triangle 100 = .ok (.invokevirtual 128, 3) := by decide +kernel
theorem dX5_triangle_103 : decode cX5_triangle 103 = .ok (.aload_n 0, 1) := by decide +kernel
theorem dX5_triangle_104 : decode cX5_triangle 104 = .ok (.getfield 44, 3) := by decide +kernel
theorem dX5_triangle_107 : decode cX5_triangle 107 = .ok (.getfield 175, 3) := by decide +kernel
theorem dX5_triangle_110 : decode cX5_triangle 110 = .ok (.iload_n 3, 1) := by decide +kernel
theorem dX5_triangle_111 : decode cX5_triangle 111 = .ok (.iaload, 1) := by decide +kernel
theorem dX5_triangle_112 : decode cX5_triangle 112 = .ok (.ireturn, 1) := by decide +kernel
theorem dX5_product_0 : decode cX5_product 0 = .ok (.iload_n 1, 1) := by decide +kernel
theorem dX5_product_1 : decode cX5_product 1 = .ok (.invokestatic 56, 3) := by decide +kernel
theorem dX5_product_4 : decode cX5_product 4 = .ok (.ifCond .eq 25, 3) := by decide +kernel
theorem dX5_product_7 : decode cX5_product 7 = .ok (.iload_n 2, 1) := by decide +kernel
theorem dX5_product_8 : decode cX5_product 8 = .ok (.invokestatic 56, 3) := by decide +kernel
theorem dX5_product_11 : decode cX5_product 11 = .ok (.ifCond .eq 18, 3) := by decide +kernel
theorem dX5_product_14 : decode cX5_product 14 = .ok (.iload_n 3, 1) := by decide +kernel
theorem dX5_product_15 : decode cX5_product 15 = .ok (.invokestatic 56, 3) := by decide +kernel
theorem dX5_product_18 : decode cX5_product 18 = .ok (.ifCond .eq 11, 3) := by decide +kernel
theorem dX5_product_21 : decode cX5_product 21 = .ok (.iload 4, 2) := by decide +kernel
theorem dX5_product_23 : decode cX5_product 23 = .ok (.invokestatic 56, 3) := by decide +kernel
theorem dX5_product_26 : decode cX5_product 26 = .ok (.ifCond .ne 6, 3) := by decide +kernel
theorem dX5_product_29 : decode cX5_product 29 = .ok (.bipush (-2), 2) := by decide +kernel
theorem dX5_product_31 : decode cX5_product 31 = .ok (.ireturn, 1) := by decide +kernel
theorem dX5_product_32 : decode cX5_product 32 = .ok (.iload 5, 2) := by decide +kernel
theorem dX5_product_34 : decode cX5_product 34 = .ok (.invokestatic 56, 3) := by decide +kernel
theorem dX5_product_37 : decode cX5_product 37 = .ok (.ifCond .eq 18, 3) := by decide +kernel
theorem dX5_product_40 : decode cX5_product 40 = .ok (.iload 6, 2) := by decide +kernel
theorem dX5_product_42 : decode cX5_product 42 = .ok (.invokestatic 56, 3) := by decide +kernel
theorem dX5_product_45 : decode cX5_product 45 = .ok (.ifCond .eq 10, 3) := by decide +kernel
theorem dX5_product_48 : decode cX5_product 48 = .ok (.iload 5, 2) := by decide +kernel
theorem dX5_product_50 : decode cX5_product 50 = .ok (.iload 6, 2) := by decide +kernel
theorem dX5_product_52 : decode cX5_product 52 = .ok (.if_icmp .ne 6, 3) := by decide +kernel
theorem dX5_product_55 : decode cX5_product 55 = .ok (.bipush (-2), 2) := by decide +kernel
theorem dX5_product_57 : decode cX5_product 57 = .ok (.ireturn, 1) := by decide +kernel
theorem dX5_product_58 : decode cX5_product 58 = .ok (.aload_n 0, 1) := by decide +kernel
theorem dX5_product_59 : decode cX5_product 59 = .ok (.iload_n 1, 1) := by decide +kernel
theorem dX5_product_60 : decode cX5_product 60 = .ok (.aload_n 0, 1) := by decide +kernel
theorem dX5_product_61 : decode cX5_product 61 = .ok (.getfield 31, 3) := by decide +kernel
theorem dX5_product_64 : decode cX5_product 64 = .ok (.invokevirtual 117, 3) := by decide +kernel
theorem dX5_product_67 : decode cX5_product 67 = .ok (.ifCond .eq 40, 3) := by decide +kernel
theorem dX5_product_70 : decode cX5_product 70 = .ok (.aload_n 0, 1) := by decide +kernel
theorem dX5_product_71 : decode cX5_product 71 = .ok (.iload_n 2, 1) := by decide +kernel
theorem dX5_product_72 : decode cX5_product 72 = .ok (.aload_n 0, 1) := by decide +kernel
theorem dX5_product_73 : decode cX5_product 73 = .ok (.getfield 35, 3) := by decide +kernel
theorem dX5_product_76 : decode cX5_product 76 = .ok (.invokevirtual 117, 3) := by decide +kernel
theorem dX5_product_79 : decode cX5_product 79 = .ok (.ifCond .eq 28, 3) := by decide +kernel
theorem dX5_product_82 : decode cX5_product 82 = .ok (.aload_n 0, 1) := by decide +kernel
theorem dX5_product_83 : decode cX5_product 83 = .ok (.iload_n 3, 1) := by decide +kernel
theorem dX5_product_84 : decode cX5_product 84 = .ok (.aload_n 0, 1) := by decide +kernel
theorem dX5_product_85 : decode cX5_product 85 = .ok (.getfield 38, 3) := by decide +kernel
theorem dX5_product_88 : decode cX5_product 88 = .ok (.invokevirtual 117, 3) := by decide +kernel
theorem dX5_product_91 : decode cX5_product 91 = .ok (.ifCond .eq 16, 3) := by decide +kernel
theorem dX5_product_94 : decode cX5_product 94 = .ok (.aload_n 0, 1) := by decide +kernel
theorem dX5_product_95 : decode cX5_product 95 = .ok (.iload 4, 2) := by decide +kernel
theorem dX5_product_97 : decode cX5_product 97 = .ok (.aload_n 0, 1) := by decide +kernel
theorem dX5_product_98 : decode cX5_product 98 = .ok (.getfield 41, 3) := by decide +kernel
theorem dX5_product_101 : decode cX5_product 101 = .ok (.invokevirtual 117, 3) := by decide +kernel
theorem dX5_product_104 : decode cX5_product 104 = .ok (.ifCond .ne 9, 3) := by decide +kernel
theorem dX5_product_107 : decode cX5_product 107 = .ok (.aload_n 0, 1) := by decide +kernel
theorem dX5_product_108 : decode cX5_product 108 = .ok (.iconst 1, 1) := by decide +kernel
theorem dX5_product_109 : decode cX5_product 109 = .ok (.invokevirtual 63, 3) := by decide +kernel
theorem dX5_product_112 : decode cX5_product 112 = .ok (.ireturn, 1) := by decide +kernel
theorem dX5_product_113 : decode cX5_product 113 = .ok (.aload_n 0, 1) := by decide +kernel
theorem dX5_product_114 : decode cX5_product 114 = .ok (.getfield 35, 3) := by decide +kernel
theorem dX5_product_117 : decode cX5_product 117 = .ok (.invokevirtual 138, 3) := by decide +kernel
theorem dX5_product_120 : decode cX5_product 120 = .ok (.ifCond .eq 13, 3) := by decide +kernel
theorem dX5_product_123 : decode cX5_product 123 = .ok (.aload_n 0, 1) := by decide +kernel
theorem dX5_product_124 : decode cX5_product 124 = .ok (.getfield 41, 3) := by decide +kernel
theorem dX5_product_127 : decode cX5_product 127 = .ok (.invokevirtual 138, 3) := by decide +kernel
theorem dX5_product_130 : decode cX5_product 130 = .ok (.ifCond .ne 6, 3) := by decide +kernel
theorem dX5_product_133 : decode cX5_product 133 = .ok (.bipush (-3), 2) := by decide +kernel
theorem dX5_product_135 : decode cX5_product 135 = .ok (.ireturn, 1) := by decide +kernel
theorem dX5_product_136 : decode cX5_product 136 = .ok (.aload_n 0, 1) := by decide +kernel
theorem dX5_product_137 : decode cX5_product 137 = .ok (.getfield 44, 3) := by decide +kernel
theorem dX5_product_140 : decode cX5_product 140 = .ok (.aload_n 0, 1) := by decide +kernel
theorem dX5_product_141 : decode cX5_product 141 = .ok (.getfield 38, 3) := by decide +kernel
theorem dX5_product_144 : decode cX5_product 144 = .ok (.aload_n 0, 1) := by decide +kernel
theorem dX5_product_145 : decode cX5_product 145 = .ok (.getfield 35, 3) := by decide +kernel
theorem dX5_product_148 : decode cX5_product 148 = .ok (.invokevirtual 141, 3) := by decide +kernel
theorem dX5_product_151 : decode cX5_product 151 = .ok (.aload_n 0, 1) := by decide +kernel
theorem dX5_product_152 : decode cX5_product 152 = .ok (.getfield 44, 3) := by decide +kernel
theorem dX5_product_155 : decode cX5_product 155 = .ok (.aload_n 0, 1) := by decide +kernel
theorem dX5_product_156 : decode cX5_product 156 = .ok (.getfield 31, 3) := by decide +kernel
theorem dX5_product_159 : decode cX5_product 159 = .ok (.aload_n 0, 1) := by decide +kernel
theorem dX5_product_160 : decode cX5_product 160 = .ok (.getfield 44, 3) := by decide +kernel
theorem dX5_product_163 : decode cX5_product 163 = .ok (.invokevirtual 128, 3) := by decide +kernel
theorem dX5_product_166 : decode cX5_product 166 = .ok (.aload_n 0, 1) := by decide +kernel
theorem dX5_product_167 : decode cX5_product 167 = .ok (.getfield 47, 3) := by decide +kernel
theorem dX5_product_170 : decode cX5_product 170 = .ok (.aload_n 0, 1) := by decide +kernel
theorem dX5_product_171 : decode cX5_product 171 = .ok (.getfield 41, 3) := by decide +kernel
theorem dX5_product_174 : decode cX5_product 174 = .ok (.aload_n 0, 1) := by decide +kernel
theorem dX5_product_175 : decode cX5_product 175 = .ok (.getfield 35, 3) := by decide +kernel
theorem dX5_product_178 : decode cX5_product 178 = .ok (.invokevirtual 141, 3) := by decide +kernel
theorem dX5_product_181 : decode cX5_product 181 = .ok (.aload_n 0, 1) := by decide +kernel
theorem dX5_product_182 : decode cX5_product 182 = .ok (.iload 5, 2) := by decide +kernel
theorem dX5_product_184 : decode cX5_product 184 = .ok (.aload_n 0, 1) := by decide +kernel
theorem dX5_product_185 : decode cX5_product 185 = .ok (.getfield 44, 3) := by decide +kernel
theorem dX5_product_188 : decode cX5_product 188 = .ok (.invokevirtual 113, 3) := by decide +kernel
theorem dX5_product_191 : decode cX5_product 191 = .ok (.pop, 1) := by decide +kernel
theorem dX5_product_192 : decode cX5_product 192 = .ok (.aload_n 0, 1) := by decide +kernel
theorem dX5_product_193 : decode cX5_product 193 = .ok (.iload 6, 2) := by decide +kernel
theorem dX5_product_195 : decode cX5_product 195 = .ok (.aload_n 0, 1) := by decide +kernel
theorem dX5_product_196 : decode cX5_product 196 = .ok (.getfield 47, 3) := by decide +kernel
theorem dX5_product_199 : decode cX5_product 199 = .ok (.invokevirtual 113, 3) := by decide +kernel
theorem dX5_product_202 : decode cX5_product 202 = .ok (.pop, 1) := by decide +kernel
theorem dX5_product_203 : decode cX5_product 203 = .ok (.iconst 1, 1) := by decide +kernel
theorem dX5_product_204 : decode cX5_product 204 = .ok (.ireturn, 1) := by decide +kernel
theorem dX5_back_0 : decode cX5_back 0 = .ok (.iload_n 1, 1) := by decide +kernel
theorem dX5_back_1 : decode cX5_back 1 = .ok (.invokestatic 56, 3) := by decide +kernel
theorem dX5_back_4 : decode cX5_back 4 = .ok (.ifCond .eq 31, 3) := by decide +kernel
theorem dX5_back_7 : decode cX5_back 7 = .ok (.iload_n 2, 1) := by decide +kernel
theorem dX5_back_8 : decode cX5_back 8 = .ok (.invokestatic 56, 3) := by decide +kernel
theorem dX5_back_11 : decode cX5_back 11 = .ok (.ifCond .eq 24, 3) := by decide +kernel
theorem dX5_back_14 : decode cX5_back 14 = .ok (.iload_n 3, 1) := by decide +kernel
theorem dX5_back_15 : decode cX5_back 15 = .ok (.invokestatic 56, 3) := by decide +kernel
theorem dX5_back_18 : decode cX5_back 18 = .ok (.ifCond .eq 17, 3) := by decide +kernel
theorem dX5_back_21 : decode cX5_back 21 = .ok (.iload 4, 2) := by decide +kernel
theorem dX5_back_23 : decode cX5_back 23 = .ok (.invokestatic 56, 3) := by decide +kernel
theorem dX5_back_26 : decode cX5_back 26 = .ok (.ifCond .eq 9, 3) := by decide +kernel
theorem dX5_back_29 : decode cX5_back 29 = .ok (.iload_n 3, 1) := by decide +kernel
theorem dX5_back_30 : decode cX5_back 30 = .ok (.iload 4, 2) := by decide +kernel
theorem dX5_back_32 : decode cX5_back 32 = .ok (.if_icmp .ne 6, 3) := by decide +kernel
theorem dX5_back_35 : decode cX5_back 35 = .ok (.bipush (-2), 2) := by decide +kernel
theorem dX5_back_37 : decode cX5_back 37 = .ok (.ireturn, 1) := by decide +kernel
theorem dX5_back_38 : decode cX5_back 38 = .ok (.aload_n 0, 1) := by decide +kernel
theorem dX5_back_39 : decode cX5_back 39 = .ok (.iload_n 1, 1) := by decide +kernel
theorem dX5_back_40 : decode cX5_back 40 = .ok (.aload_n 0, 1) := by decide +kernel
theorem dX5_back_41 : decode cX5_back 41 = .ok (.getfield 31, 3) := by decide +kernel
theorem dX5_back_44 : decode cX5_back 44 = .ok (.invokevirtual 117, 3) := by decide +kernel
theorem dX5_back_47 : decode cX5_back 47 = .ok (.ifCond .eq 15, 3) := by decide +kernel
theorem dX5_back_50 : decode cX5_back 50 = .ok (.aload_n 0, 1) := by decide +kernel
theorem dX5_back_51 : decode cX5_back 51 = .ok (.iload_n 2, 1) := by decide +kernel
theorem dX5_back_52 : decode cX5_back 52 = .ok (.aload_n 0, 1) := by decide +kernel
theorem dX5_back_53 : decode cX5_back 53 = .ok (.getfield 35, 3) := by decide +kernel
theorem dX5_back_56 : decode cX5_back 56 = .ok (.invokevirtual 117, 3) := by decide +kernel
theorem dX5_back_59 : decode cX5_back 59 = .ok (.ifCond .ne 9, 3) := by decide +kernel
theorem dX5_back_62 : decode cX5_back 62 = .ok (.aload_n 0, 1) := by decide +kernel
theorem dX5_back_63 : decode cX5_back 63 = .ok (.iconst 1, 1) := by decide +kernel
theorem dX5_back_64 : decode cX5_back 64 = .ok (.invokevirtual 63, 3) := by decide +kernel
theorem dX5_back_67 : decode cX5_back 67 = .ok (.ireturn, 1) := by decide +kernel
theorem dX5_back_68 : decode cX5_back 68 = .ok (.aload_n 0, 1) := by decide +kernel
theorem dX5_back_69 : decode cX5_back 69 = .ok (.getfield 31, 3) := by decide +kernel
theorem dX5_back_72 : decode cX5_back 72 = .ok (.invokevirtual 131, 3) := by decide +kernel
theorem dX5_back_75 : decode cX5_back 75 = .ok (.ifCond .eq 13, 3) := by decide +kernel
theorem dX5_back_78 : decode cX5_back 78 = .ok (.aload_n 0, 1) := by decide +kernel
theorem dX5_back_79 : decode cX5_back 79 = .ok (.getfield 35, 3) := by decide +kernel
theorem dX5_back_82 : decode cX5_back 82 = .ok (.invokevirtual 144, 3) := by decide +kernel
theorem dX5_back_85 : decode cX5_back 85 = .ok (.ifCond .ne 6, 3) := by decide +kernel
theorem dX5_back_88 : decode cX5_back 88 = .ok (.bipush (-3), 2) := by decide +kernel
theorem dX5_back_90 : decode cX5_back 90 = .ok (.ireturn, 1) := by decide +kernel
theorem dX5_back_91 : decode cX5_back 91 = .ok (.aload_n 0, 1) := by decide +kernel
theorem dX5_back_92 : decode cX5_back 92 = .ok (.getfield 24, 3) := by decide +kernel
theorem dX5_back_95 : decode cX5_back 95 = .ok (.aload_n 0, 1) := by decide +kernel
theorem dX5_back_96 : decode cX5_back 96 = .ok (.getfield 35, 3) := by decide +kernel
theorem dX5_back_99 : decode cX5_back 99 = .ok (.aload_n 0, 1) := by decide +kernel
theorem dX5_back_100 : decode cX5_back 100 = .ok (.getfield 47, 3) := by decide +kernel
theorem dX5_back_103 : decode cX5_back 103 = .ok (.invokevirtual 147, 3) := by decide +kernel
theorem dX5_back_106 : decode cX5_back 106 = .ok (.aload_n 0, 1) := by decide +kernel
theorem dX5_back_107 : decode cX5_back 107 = .ok (.getfield 24, 3) := by decide +kernel
theorem dX5_back_110 : decode cX5_back 110 = .ok (.aload_n 0, 1) := by decide +kernel
theorem dX5_back_111 : decode cX5_back 111 = .ok (.getfield 31, 3) := by decide +kernel
theorem dX5_back_114 : decode cX5_back 114 = .ok (.aload_n 0, 1) := by decide +kernel
theorem dX5_back_115 : decode cX5_back 115 = .ok (.getfield 47, 3) := by decide +kernel
theorem dX5_back_118 : decode cX5_back 118 = .ok (.aload_n 0, 1) := by decide +kernel
theorem dX5_back_119 : decode cX5_back 119 = .ok (.getfield 44, 3) := by decide +kernel
theorem dX5_back_122 : decode cX5_back 122 = .ok (.invokevirtual 206, 3) := by decide +kernel
theorem dX5_back_125 : decode cX5_back 125 = .ok (.aload_n 0, 1) := by decide +kernel
theorem dX5_back_126 : decode cX5_back 126 = .ok (.iload_n 3, 1) := by decide +kernel
theorem dX5_back_127 : decode cX5_back 127 = .ok (.aload_n 0, 1) := by decide +kernel
theorem dX5_back_128 : decode cX5_back 128 = .ok (.getfield 44, 3) := by decide +kernel
theorem dX5_back_131 : decode cX5_back 131 = .ok (.invokevirtual 113, 3) := by decide +kernel
theorem dX5_back_134 : decode cX5_back 134 = .ok (.pop, 1) := by decide +kernel
theorem dX5_back_135 : decode cX5_back 135 = .ok (.aload_n 0, 1) := by decide +kernel
theorem dX5_back_136 : decode cX5_back 136 = .ok (.iload 4, 2) := by decide +kernel
theorem dX5_back_138 : decode cX5_back 138 = .ok (.aload_n 0, 1) := by decide +kernel
theorem dX5_back_139 : decode cX5_back 139 = .ok (.getfield 47, 3) := by decide +kernel
theorem dX5_back_142 : decode cX5_back 142 = .ok (.invokevirtual 113, 3) := by decide +kernel
theorem dX5_back_145 : decode cX5_back 145 = .ok (.pop, 1) := by decide +kernel
theorem dX5_back_146 : decode cX5_back 146 = .ok (.iconst 1, 1) := by decide +kernel
theorem dX5_back_147 : decode cX5_back 147 = .ok (.ireturn, 1) := by decide +kernel
theorem dX5_aRow_0 : decode cX5_aRow 0 = .ok (.iload_n 1, 1) := by decide +kernel
theorem dX5_aRow_1 : decode cX5_aRow 1 = .ok (.invokestatic 56, 3) := by decide +kernel
theorem dX5_aRow_4 : decode cX5_aRow 4 = .ok (.ifCond .eq 10, 3) := by decide +kernel
theorem dX5_aRow_7 : decode cX5_aRow 7 = .ok (.iload_n 2, 1) := by decide +kernel
theorem dX5_aRow_8 : decode cX5_aRow 8 = .ok (.invokestatic 56, 3) := by decide +kernel
theorem dX5_aRow_11 : decode cX5_aRow 11 = .ok (.ifCond .ne 6, 3) := by decide +kernel
theorem dX5_aRow_14 : decode cX5_aRow 14 = .ok (.bipush (-2), 2) := by decide +kernel
theorem dX5_aRow_16 : decode cX5_aRow 16 = .ok (.ireturn, 1) := by decide +kernel
theorem dX5_aRow_17 : decode cX5_aRow 17 = .ok (.aload_n 0, 1) := by decide +kernel
theorem dX5_aRow_18 : decode cX5_aRow 18 = .ok (.iload_n 1, 1) := by decide +kernel
theorem dX5_aRow_19 : decode cX5_aRow 19 = .ok (.aload_n 0, 1) := by decide +kernel
theorem dX5_aRow_20 : decode cX5_aRow 20 = .ok (.getfield 31, 3) := by decide +kernel
theorem dX5_aRow_23 : decode cX5_aRow 23 = .ok (.invokevirtual 117, 3) := by decide +kernel
theorem dX5_aRow_26 : decode cX5_aRow 26 = .ok (.ifCond .ne 9, 3) := by decide +kernel
theorem dX5_aRow_29 : decode cX5_aRow 29 = .ok (.aload_n 0, 1) := by decide +kernel
theorem dX5_aRow_30 : decode cX5_aRow 30 = .ok (.iconst 1, 1) := by decide +kernel
theorem dX5_aRow_31 : decode cX5_aRow 31 = .ok (.invokevirtual 63, 3) := by decide +kernel
theorem dX5_aRow_34 : decode cX5_aRow 34 = .ok (.ireturn, 1) := by decide +kernel
theorem dX5_aRow_35 : decode cX5_aRow 35 = .ok (.aload_n 0, 1) := by decide +kernel
theorem dX5_aRow_36 : decode cX5_aRow 36 = .ok (.getfield 31, 3) := by decide +kernel
theorem dX5_aRow_39 : decode cX5_aRow 39 = .ok (.invokevirtual 144, 3) := by decide +kernel
theorem dX5_aRow_42 : decode cX5_aRow 42 = .ok (.ifCond .ne 6, 3) := by decide +kernel
theorem dX5_aRow_45 : decode cX5_aRow 45 = .ok (.bipush (-3), 2) := by decide +kernel
theorem dX5_aRow_47 : decode cX5_aRow 47 = .ok (.ireturn, 1) := by decide +kernel
theorem dX5_aRow_48 : decode cX5_aRow 48 = .ok (.aload_n 0, 1) := by decide +kernel
theorem dX5_aRow_49 : decode cX5_aRow 49 = .ok (.getfield 24, 3) := by decide +kernel
theorem dX5_aRow_52 : decode cX5_aRow 52 = .ok (.aload_n 0, 1) := by decide +kernel
theorem dX5_aRow_53 : decode cX5_aRow 53 = .ok (.getfield 31, 3) := by decide +kernel
theorem dX5_aRow_56 : decode cX5_aRow 56 = .ok (.aload_n 0, 1) := by decide +kernel
theorem dX5_aRow_57 : decode cX5_aRow 57 = .ok (.getfield 35, 3) := by decide +kernel
theorem dX5_aRow_60 : decode cX5_aRow 60 = .ok (.invokevirtual 147, 3) := by decide +kernel
theorem dX5_aRow_63 : decode cX5_aRow 63 = .ok (.aload_n 0, 1) := by decide +kernel
theorem dX5_aRow_64 : decode cX5_aRow 64 = .ok (.getfield 24, 3) := by decide +kernel
theorem dX5_aRow_67 : decode cX5_aRow 67 = .ok (.aload_n 0, 1) := by decide +kernel
theorem dX5_aRow_68 : decode cX5_aRow 68 = .ok (.getfield 35, 3) := by decide +kernel
theorem dX5_aRow_71 : decode cX5_aRow 71 = .ok (.aload_n 0, 1) := by decide +kernel
theorem dX5_aRow_72 : decode cX5_aRow 72 = .ok (.getfield 44, 3) := by decide +kernel
theorem dX5_aRow_75 : decode cX5_aRow 75 = .ok (.invokevirtual 209, 3) := by decide +kernel
theorem dX5_aRow_78 : decode cX5_aRow 78 = .ok (.aload_n 0, 1) := by decide +kernel
theorem dX5_aRow_79 : decode cX5_aRow 79 = .ok (.iload_n 2, 1) := by decide +kernel
theorem dX5_aRow_80 : decode cX5_aRow 80 = .ok (.aload_n 0, 1) := by decide +kernel
theorem dX5_aRow_81 : decode cX5_aRow 81 = .ok (.getfield 44, 3) := by decide +kernel
theorem dX5_aRow_84 : decode cX5_aRow 84 = .ok (.invokevirtual 113, 3) := by decide +kernel
theorem dX5_aRow_87 : decode cX5_aRow 87 = .ok (.pop, 1) := by decide +kernel
theorem dX5_aRow_88 : decode cX5_aRow 88 = .ok (.aload_n 0, 1) := by decide +kernel
theorem dX5_aRow_89 : decode cX5_aRow 89 = .ok (.getfield 44, 3) := by decide +kernel
theorem dX5_aRow_92 : decode cX5_aRow 92 = .ok (.getfield 175, 3) := by decide +kernel
theorem dX5_aRow_95 : decode cX5_aRow 95 = .ok (.iconst 0, 1) := by decide +kernel
theorem dX5_aRow_96 : decode cX5_aRow 96 = .ok (.iaload, 1) := by decide +kernel
theorem dX5_aRow_97 : decode cX5_aRow 97 = .ok (.ireturn, 1) := by decide +kernel
theorem dX5_count_0 : decode cX5_count 0 = .ok (.iload_n 1, 1) := by decide +kernel
theorem dX5_count_1 : decode cX5_count 1 = .ok (.tableswitch 42 0 2 #[27, 32, 37], 27) := by decide +kernel
theorem dX5_count_28 : decode cX5_count 28 = .ok (.aload_n 0, 1) := by decide +kernel
theorem dX5_count_29 : decode cX5_count 29 = .ok (.invokevirtual 212, 3) := by decide +kernel
theorem dX5_count_32 : decode cX5_count 32 = .ok (.ireturn, 1) := by decide +kernel
theorem dX5_count_33 : decode cX5_count 33 = .ok (.aload_n 0, 1) := by decide +kernel
theorem dX5_count_34 : decode cX5_count 34 = .ok (.invokevirtual 215, 3) := by decide +kernel
theorem dX5_count_37 : decode cX5_count 37 = .ok (.ireturn, 1) := by decide +kernel
theorem dX5_count_38 : decode cX5_count 38 = .ok (.aload_n 0, 1) := by decide +kernel
theorem dX5_count_39 : decode cX5_count 39 = .ok (.getfield 50, 3) := by decide +kernel
theorem dX5_count_42 : decode cX5_count 42 = .ok (.ireturn, 1) := by decide +kernel
theorem dX5_count_43 : decode cX5_count 43 = .ok (.bipush (-2), 2) := by decide +kernel
theorem dX5_count_45 : decode cX5_count 45 = .ok (.ireturn, 1) := by decide +kernel
theorem dX5_digest_0 : decode cX5_digest 0 = .ok (.ldc2_w 218, 3) := by decide +kernel
theorem dX5_digest_3 : decode cX5_digest 3 = .ok (.lstore_n 1, 1) := by decide +kernel
theorem dX5_digest_4 : decode cX5_digest 4 = .ok (.ldc2_w 220, 3) := by decide +kernel
theorem dX5_digest_7 : decode cX5_digest 7 = .ok (.lload_n 1, 1) := by decide +kernel
theorem dX5_digest_8 : decode cX5_digest 8 = .ok (.lmul, 1) := by decide +kernel
theorem dX5_digest_9 : decode cX5_digest 9 = .ok (.aload_n 0, 1) := by decide +kernel
theorem dX5_digest_10 : decode cX5_digest 10 = .ok (.invokevirtual 212, 3) := by decide +kernel
theorem dX5_digest_13 : decode cX5_digest 13 = .ok (.i2l, 1) := by decide +kernel
theorem dX5_digest_14 : decode cX5_digest 14 = .ok (.ladd, 1) := by decide +kernel
theorem dX5_digest_15 : decode cX5_digest 15 = .ok (.lstore_n 1, 1) := by decide +kernel
theorem dX5_digest_16 : decode cX5_digest 16 = .ok (.ldc2_w 220, 3) := by decide +kernel
theorem dX5_digest_19 : decode cX5_digest 19 = .ok (.lload_n 1, 1) := by decide +kernel
theorem dX5_digest_20 : decode cX5_digest 20 = .ok (.lmul, 1) := by decide +kernel
theorem dX5_digest_21 : decode cX5_digest 21 = .ok (.aload_n 0, 1) := by decide +kernel
theorem dX5_digest_22 : decode cX5_digest 22 = .ok (.invokevirtual 215, 3) := by decide +kernel
theorem dX5_digest_25 : decode cX5_digest 25 = .ok (.i2l, 1) := by decide +kernel
theorem dX5_digest_26 : decode cX5_digest 26 = .ok (.ladd, 1) := by decide +kernel
theorem dX5_digest_27 : decode cX5_digest 27 = .ok (.lstore_n 1, 1) := by decide +kernel
theorem dX5_digest_28 : decode cX5_digest 28 = .ok (.iconst 0, 1) := by decide +kernel
theorem dX5_digest_29 : decode cX5_digest 29 = .ok (.istore_n 3, 1) := by decide +kernel
theorem dX5_digest_30 : decode cX5_digest 30 = .ok (.iload_n 3, 1) := by decide +kernel
theorem dX5_digest_31 : decode cX5_digest 31 = .ok (.bipush 8, 2) := by decide +kernel
theorem dX5_digest_33 : decode cX5_digest 33 = .ok (.if_icmp .ge 37, 3) := by decide +kernel
theorem dX5_digest_36 : decode cX5_digest 36 = .ok (.aload_n 0, 1) := by decide +kernel
theorem dX5_digest_37 : decode cX5_digest 37 = .ok (.iload_n 3, 1) := by decide +kernel
theorem dX5_digest_38 : decode cX5_digest 38 = .ok (.aload_n 0, 1) := by decide +kernel
theorem dX5_digest_39 : decode cX5_digest 39 = .ok (.getfield 31, 3) := by decide +kernel
theorem dX5_digest_42 : decode cX5_digest 42 = .ok (.invokevirtual 117, 3) := by decide +kernel
theorem dX5_digest_45 : decode cX5_digest 45 = .ok (.ifCond .eq 19, 3) := by decide +kernel
theorem dX5_digest_48 : decode cX5_digest 48 = .ok (.aload_n 0, 1) := by decide +kernel
theorem dX5_digest_49 : decode cX5_digest 49 = .ok (.getfield 31, 3) := by decide +kernel
theorem dX5_digest_52 : decode cX5_digest 52 = .ok (.ldc2_w 220, 3) := by decide +kernel
theorem dX5_digest_55 : decode cX5_digest 55 = .ok (.lload_n 1, 1) := by decide +kernel
theorem dX5_digest_56 : decode cX5_digest 56 = .ok (.lmul, 1) := by decide +kernel
theorem dX5_digest_57 : decode cX5_digest 57 = .ok (.iload_n 3, 1) := by decide +kernel
theorem dX5_digest_58 : decode cX5_digest 58 = .ok (.i2l, 1) := by decide +kernel
theorem dX5_digest_59 : decode cX5_digest 59 = .ok (.ladd, 1) := by decide +kernel
theorem dX5_digest_60 : decode cX5_digest 60 = .ok (.invokevirtual 222, 3) := by decide +kernel
theorem dX5_digest_63 : decode cX5_digest 63 = .ok (.lstore_n 1, 1) := by decide +kernel
theorem dX5_digest_64 : decode cX5_digest 64 = .ok (.iinc 3 1, 3) := by decide +kernel
theorem dX5_digest_67 : decode cX5_digest 67 = .ok (.goto (-37), 3) := by decide +kernel
theorem dX5_digest_70 : decode cX5_digest 70 = .ok (.iconst 0, 1) := by decide +kernel
theorem dX5_digest_71 : decode cX5_digest 71 = .ok (.istore_n 3, 1) := by decide +kernel
theorem dX5_digest_72 : decode cX5_digest 72 = .ok (.iload_n 3, 1) := by decide +kernel
theorem dX5_digest_73 : decode cX5_digest 73 = .ok (.iconst 4, 1) := by decide +kernel
theorem dX5_digest_74 : decode cX5_digest 74 = .ok (.if_icmp .ge 45, 3) := by decide +kernel
theorem dX5_digest_77 : decode cX5_digest 77 = .ok (.aload_n 0, 1) := by decide +kernel
theorem dX5_digest_78 : decode cX5_digest 78 = .ok (.getfield 17, 3) := by decide +kernel
theorem dX5_digest_81 : decode cX5_digest 81 = .ok (.iload_n 3, 1) := by decide +kernel
theorem dX5_digest_82 : decode cX5_digest 82 = .ok (.aaload, 1) := by decide +kernel
theorem dX5_digest_83 : decode cX5_digest 83 = .ok (.getfield 168, 3) := by decide +kernel
theorem dX5_digest_86 : decode cX5_digest 86 = .ok (.ifCond .eq 27, 3) := by decide +kernel
theorem dX5_digest_89 : decode cX5_digest 89 = .ok (.aload_n 0, 1) := by decide +kernel
theorem dX5_digest_90 : decode cX5_digest 90 = .ok (.getfield 17, 3) := by decide +kernel
theorem dX5_digest_93 : decode cX5_digest 93 = .ok (.iload_n 3, 1) := by decide +kernel
theorem dX5_digest_94 : decode cX5_digest 94 = .ok (.aaload, 1) := by decide +kernel
theorem dX5_digest_95 : decode cX5_digest 95 = .ok (.getfield 171, 3) := by decide +kernel
theorem dX5_digest_98 : decode cX5_digest 98 = .ok (.bipush 9, 2) := by decide +kernel
theorem dX5_digest_100 : decode cX5_digest 100 = .ok (.aaload, 1) := by decide +kernel
theorem dX5_digest_101 : decode cX5_digest 101 = .ok (.ldc2_w 220, 3) := by decide +kernel
theorem dX5_digest_104 : decode cX5_digest 104 = .ok (.lload_n 1, 1) := by decide +kernel
theorem dX5_digest_105 : decode cX5_digest 105 = .ok (.lmul, 1) := by decide +kernel
theorem dX5_digest_106 : decode cX5_digest 106 = .ok (.iload_n 3, 1) := by decide +kernel
theorem dX5_digest_107 : decode cX5_digest 107 = .ok (.i2l, 1) := by decide +kernel
theorem dX5_digest_108 : decode cX5_digest 108 = .ok (.ladd, 1) := by decide +kernel
theorem dX5_digest_109 : decode cX5_digest 109 = .ok (.invokevirtual 222, 3) := by decide +kernel
theorem dX5_digest_112 : decode cX5_digest 112 = .ok (.lstore_n 1, 1) := by decide +kernel
theorem dX5_digest_113 : decode cX5_digest 113 = .ok (.iinc 3 1, 3) := by decide +kernel
theorem dX5_digest_116 : decode cX5_digest 116 = .ok (.goto (-44), 3) := by decide +kernel
theorem dX5_digest_119 : decode cX5_digest 119 = .ok (.lload_n 1, 1) := by decide +kernel
theorem dX5_digest_120 : decode cX5_digest 120 = .ok (.lreturn, 1) := by decide +kernel
theorem dX5_isSheet_0 : decode cX5_isSheet 0 = .ok (.iload_n 0, 1) := by decide +kernel
theorem dX5_isSheet_1 : decode cX5_isSheet 1 = .ok (.ifCond .lt 13, 3) := by decide +kernel
theorem dX5_isSheet_4 : decode cX5_isSheet 4 = .ok (.iload_n 0, 1) := by decide +kernel
theorem dX5_isSheet_5 : decode cX5_isSheet 5 = .ok (.bipush 8, 2) := by decide +kernel
theorem dX5_isSheet_7 : decode cX5_isSheet 7 = .ok (.if_icmp .ge 7, 3) := by decide +kernel
theorem dX5_isSheet_10 : decode cX5_isSheet 10 = .ok (.iconst 1, 1) := by decide +kernel
theorem dX5_isSheet_11 : decode cX5_isSheet 11 = .ok (.goto 4, 3) := by decide +kernel
theorem dX5_isSheet_14 : decode cX5_isSheet 14 = .ok (.iconst 0, 1) := by decide +kernel
theorem dX5_isSheet_15 : decode cX5_isSheet 15 = .ok (.ireturn, 1) := by decide +kernel
theorem dX5_isForm_0 : decode cX5_isForm 0 = .ok (.iload_n 0, 1) := by decide +kernel
theorem dX5_isForm_1 : decode cX5_isForm 1 = .ok (.ifCond .lt 12, 3) := by decide +kernel
theorem dX5_isForm_4 : decode cX5_isForm 4 = .ok (.iload_n 0, 1) := by decide +kernel
theorem dX5_isForm_5 : decode cX5_isForm 5 = .ok (.iconst 3, 1) := by decide +kernel
theorem dX5_isForm_6 : decode cX5_isForm 6 = .ok (.if_icmp .ge 7, 3) := by decide +kernel
theorem dX5_isForm_9 : decode cX5_isForm 9 = .ok (.iconst 1, 1) := by decide +kernel
theorem dX5_isForm_10 : decode cX5_isForm 10 = .ok (.goto 4, 3) := by decide +kernel
theorem dX5_isForm_13 : decode cX5_isForm 13 = .ok (.iconst 0, 1) := by decide +kernel
theorem dX5_isForm_14 : decode cX5_isForm 14 = .ok (.ireturn, 1) := by decide +kernel
theorem dX5_isLadder_0 : decode cX5_isLadder 0 = .ok (.iload_n 0, 1) := by decide +kernel
theorem dX5_isLadder_1 : decode cX5_isLadder 1 = .ok (.ifCond .lt 12, 3) := by decide +kernel
theorem dX5_isLadder_4 : decode cX5_isLadder 4 = .ok (.iload_n 0, 1) := by decide +kernel
theorem dX5_isLadder_5 : decode cX5_isLadder 5 = .ok (.iconst 4, 1) := by decide +kernel
theorem dX5_isLadder_6 : decode cX5_isLadder 6 = .ok (.if_icmp .ge 7, 3) := by decide +kernel
theorem dX5_isLadder_9 : decode cX5_isLadder 9 = .ok (.iconst 1, 1) := by decide +kernel
theorem dX5_isLadder_10 : decode cX5_isLadder 10 = .ok (.goto 4, 3) := by decide +kernel
theorem dX5_isLadder_13 : decode cX5_isLadder 13 = .ok (.iconst 0, 1) := by decide +kernel
theorem dX5_isLadder_14 : decode cX5_isLadder 14 = .ok (.ireturn, 1) := by decide +kernel
theorem dX5_isPlace_0 : decode cX5_isPlace 0 = .ok (.iload_n 0, 1) := by decide +kernel
theorem dX5_isPlace_1 : decode cX5_isPlace 1 = .ok (.ifCond .lt 13, 3) := by decide +kernel
theorem dX5_isPlace_4 : decode cX5_isPlace 4 = .ok (.iload_n 0, 1) := by decide +kernel
theorem dX5_isPlace_5 : decode cX5_isPlace 5 = .ok (.bipush 10, 2) := by decide +kernel
theorem dX5_isPlace_7 : decode cX5_isPlace 7 = .ok (.if_icmp .ge 7, 3) := by decide +kernel
theorem dX5_isPlace_10 : decode cX5_isPlace 10 = .ok (.iconst 1, 1) := by decide +kernel
theorem dX5_isPlace_11 : decode cX5_isPlace 11 = .ok (.goto 4, 3) := by decide +kernel
theorem dX5_isPlace_14 : decode cX5_isPlace 14 = .ok (.iconst 0, 1) := by decide +kernel
theorem dX5_isPlace_15 : decode cX5_isPlace 15 = .ok (.ireturn, 1) := by decide +kernel
theorem dX5_narrowed_0 : decode cX5_narrowed 0 = .ok (.iload_n 0, 1) := by decide +kernel
theorem dX5_narrowed_1 : decode cX5_narrowed 1 = .ok (.ifCond .ne 6, 3) := by decide +kernel
theorem dX5_narrowed_4 : decode cX5_narrowed 4 = .ok (.iload_n 1, 1) := by decide +kernel
theorem dX5_narrowed_5 : decode cX5_narrowed 5 = .ok (.i2b, 1) := by decide +kernel
theorem dX5_narrowed_6 : decode cX5_narrowed 6 = .ok (.ireturn, 1) := by decide +kernel
theorem dX5_narrowed_7 : decode cX5_narrowed 7 = .ok (.iload_n 0, 1) := by decide +kernel
theorem dX5_narrowed_8 : decode cX5_narrowed 8 = .ok (.iconst 1, 1) := by decide +kernel
theorem dX5_narrowed_9 : decode cX5_narrowed 9 = .ok (.if_icmp .ne 8, 3) := by decide +kernel
theorem dX5_narrowed_12 : decode cX5_narrowed 12 = .ok (.iload_n 1, 1) := by decide +kernel
theorem dX5_narrowed_13 : decode cX5_narrowed 13 = .ok (.i2s, 1) := by decide +kernel
theorem dX5_narrowed_14 : decode cX5_narrowed 14 = .ok (.goto 4, 3) := by decide +kernel
theorem dX5_narrowed_17 : decode cX5_narrowed 17 = .ok (.iload_n 1, 1) := by decide +kernel
theorem dX5_narrowed_18 : decode cX5_narrowed 18 = .ok (.ireturn, 1) := by decide +kernel
theorem dX5_found_0 : decode cX5_found 0 = .ok (.aload_n 0, 1) := by decide +kernel
theorem dX5_found_1 : decode cX5_found 1 = .ok (.iload_n 1, 1) := by decide +kernel
theorem dX5_found_2 : decode cX5_found 2 = .ok (.putfield 50, 3) := by decide +kernel
theorem dX5_found_5 : decode cX5_found 5 = .ok (.bipush (-10), 2) := by decide +kernel
theorem dX5_found_7 : decode cX5_found 7 = .ok (.iload_n 1, 1) := by decide +kernel
theorem dX5_found_8 : decode cX5_found 8 = .ok (.isub, 1) := by decide +kernel
theorem dX5_found_9 : decode cX5_found 9 = .ok (.ireturn, 1) := by decide +kernel
theorem dX5_reads_0 : decode cX5_reads 0 = .ok (.aload_n 0, 1) := by decide +kernel
theorem dX5_reads_1 : decode cX5_reads 1 = .ok (.getfield 11, 3) := by decide +kernel
theorem dX5_reads_4 : decode cX5_reads 4 = .ok (.iload_n 1, 1) := by decide +kernel
theorem dX5_reads_5 : decode cX5_reads 5 = .ok (.aaload, 1) := by decide +kernel
theorem dX5_reads_6 : decode cX5_reads 6 = .ok (.getfield 71, 3) := by decide +kernel
theorem dX5_reads_9 : decode cX5_reads 9 = .ok (.ifCond .eq 5, 3) := by decide +kernel
theorem dX5_reads_12 : decode cX5_reads 12 = .ok (.iconst 0, 1) := by decide +kernel
theorem dX5_reads_13 : decode cX5_reads 13 = .ok (.ireturn, 1) := by decide +kernel
theorem dX5_reads_14 : decode cX5_reads 14 = .ok (.iconst 0, 1) := by decide +kernel
theorem dX5_reads_15 : decode cX5_reads 15 = .ok (.istore_n 3, 1) := by decide +kernel
theorem dX5_reads_16 : decode cX5_reads 16 = .ok (.iload_n 3, 1) := by decide +kernel
theorem dX5_reads_17 : decode cX5_reads 17 = .ok (.bipush 10, 2) := by decide +kernel
theorem dX5_reads_19 : decode cX5_reads 19 = .ok (.if_icmp .ge 25, 3) := by decide +kernel
theorem dX5_reads_22 : decode cX5_reads 22 = .ok (.aload_n 2, 1) := by decide +kernel
theorem dX5_reads_23 : decode cX5_reads 23 = .ok (.getfield 175, 3) := by decide +kernel
theorem dX5_reads_26 : decode cX5_reads 26 = .ok (.iload_n 3, 1) := by decide +kernel
theorem dX5_reads_27 : decode cX5_reads 27 = .ok (.aload_n 0, 1) := by decide +kernel
theorem dX5_reads_28 : decode cX5_reads 28 = .ok (.getfield 11, 3) := by decide +kernel
theorem dX5_reads_31 : decode cX5_reads 31 = .ok (.iload_n 1, 1) := by decide +kernel
theorem dX5_reads_32 : decode cX5_reads 32 = .ok (.aaload, 1) := by decide +kernel
theorem dX5_reads_33 : decode cX5_reads 33 = .ok (.iload_n 3, 1) := by decide +kernel
theorem dX5_reads_34 : decode cX5_reads 34 = .ok (.invokevirtual 106, 3) := by decide +kernel
theorem dX5_reads_37 : decode cX5_reads 37 = .ok (.iastore, 1) := by decide +kernel
theorem dX5_reads_38 : decode cX5_reads 38 = .ok (.iinc 3 1, 3) := by decide +kernel
theorem dX5_reads_41 : decode cX5_reads 41 = .ok (.goto (-25), 3) := by decide +kernel
theorem dX5_reads_44 : decode cX5_reads 44 = .ok (.iconst 1, 1) := by decide +kernel
theorem dX5_reads_45 : decode cX5_reads 45 = .ok (.ireturn, 1) := by decide +kernel
theorem dX5_becomes_0 : decode cX5_becomes 0 = .ok (.aload_n 0, 1) := by decide +kernel
theorem dX5_becomes_1 : decode cX5_becomes 1 = .ok (.getfield 11, 3) := by decide +kernel
theorem dX5_becomes_4 : decode cX5_becomes 4 = .ok (.iload_n 1, 1) := by decide +kernel
theorem dX5_becomes_5 : decode cX5_becomes 5 = .ok (.aaload, 1) := by decide +kernel
theorem dX5_becomes_6 : decode cX5_becomes 6 = .ok (.iconst 2, 1) := by decide +kernel
theorem dX5_becomes_7 : decode cX5_becomes 7 = .ok (.bipush 10, 2) := by decide +kernel
theorem dX5_becomes_9 : decode cX5_becomes 9 = .ok (.invokevirtual 67, 3) := by decide +kernel
theorem dX5_becomes_12 : decode cX5_becomes 12 = .ok (.aload_n 2, 1) := by decide +kernel
theorem dX5_becomes_13 : decode cX5_becomes 13 = .ok (.getfield 175, 3) := by decide +kernel
theorem dX5_becomes_16 : decode cX5_becomes 16 = .ok (.iconst 0, 1) := by decide +kernel
theorem dX5_becomes_17 : decode cX5_becomes 17 = .ok (.aload_n 0, 1) := by decide +kernel
theorem dX5_becomes_18 : decode cX5_becomes 18 = .ok (.getfield 11, 3) := by decide +kernel
theorem dX5_becomes_21 : decode cX5_becomes 21 = .ok (.iload_n 1, 1) := by decide +kernel
theorem dX5_becomes_22 : decode cX5_becomes 22 = .ok (.aaload, 1) := by decide +kernel
theorem dX5_becomes_23 : decode cX5_becomes 23 = .ok (.getfield 82, 3) := by decide +kernel
theorem dX5_becomes_26 : decode cX5_becomes 26 = .ok (.iconst 0, 1) := by decide +kernel
theorem dX5_becomes_27 : decode cX5_becomes 27 = .ok (.bipush 10, 2) := by decide +kernel
theorem dX5_becomes_29 : decode cX5_becomes 29 = .ok (.invokestatic 97, 3) := by decide +kernel
theorem dX5_becomes_32 : decode cX5_becomes 32 = .ok (.aload_n 2, 1) := by decide +kernel
theorem dX5_becomes_33 : decode cX5_becomes 33 = .ok (.getfield 175, 3) := by decide +kernel
theorem dX5_becomes_36 : decode cX5_becomes 36 = .ok (.bipush 9, 2) := by decide +kernel
theorem dX5_becomes_38 : decode cX5_becomes 38 = .ok (.iaload, 1) := by decide +kernel
theorem dX5_becomes_39 : decode cX5_becomes 39 = .ok (.ireturn, 1) := by decide +kernel
theorem dX5_sheetsKept_0 : decode cX5_sheetsKept 0 = .ok (.iconst 0, 1) := by decide +kernel
theorem dX5_sheetsKept_1 : decode cX5_sheetsKept 1 = .ok (.istore_n 1, 1) := by decide +kernel
theorem dX5_sheetsKept_2 : decode cX5_sheetsKept 2 = .ok (.iconst 0, 1) := by decide +kernel
theorem dX5_sheetsKept_3 : decode cX5_sheetsKept 3 = .ok (.istore_n 2, 1) := by decide +kernel
theorem dX5_sheetsKept_4 : decode cX5_sheetsKept 4 = .ok (.iload_n 2, 1) := by decide +kernel
theorem dX5_sheetsKept_5 : decode cX5_sheetsKept 5 = .ok (.bipush 8, 2) := by decide +kernel
theorem dX5_sheetsKept_7 : decode cX5_sheetsKept 7 = .ok (.if_icmp .ge 24, 3) := by decide +kernel
theorem dX5_sheetsKept_10 : decode cX5_sheetsKept 10 = .ok (.aload_n 0, 1) := by decide +kernel
theorem dX5_sheetsKept_11 : decode cX5_sheetsKept 11 = .ok (.getfield 11, 3) := by decide +kernel
theorem dX5_sheetsKept_14 : decode cX5_sheetsKept 14 = .ok (.iload_n 2, 1) := by decide +kernel
theorem dX5_sheetsKept_15 : decode cX5_sheetsKept 15 = .ok (.aaload, 1) := by decide +kernel
theorem dX5_sheetsKept_16 : decode cX5_sheetsKept 16 = .ok (.getfield 71, 3) := by decide +kernel
theorem dX5_sheetsKept_19 : decode cX5_sheetsKept 19 = .ok (.ifCond .ne 6, 3) := by decide +kernel
theorem dX5_sheetsKept_22 : decode cX5_sheetsKept 22 = .ok (.iinc 1 1, 3) := by decide +kernel
theorem dX5_sheetsKept_25 : decode cX5_sheetsKept 25 = .ok (.iinc 2 1, 3) := by decide +kernel
theorem dX5_sheetsKept_28 : decode cX5_sheetsKept 28 = .ok (.goto (-24), 3) := by decide +kernel
theorem dX5_sheetsKept_31 : decode cX5_sheetsKept 31 = .ok (.iload_n 1, 1) := by decide +kernel
theorem dX5_sheetsKept_32 : decode cX5_sheetsKept 32 = .ok (.ireturn, 1) := by decide +kernel
theorem dX5_laddersStanding_0 : decode cX5_laddersStanding 0 = .ok (.iconst 0, 1) := by decide +kernel
theorem dX5_laddersStanding_1 : decode cX5_laddersStanding 1 = .ok (.istore_n 1, 1) := by decide +kernel
theorem dX5_laddersStanding_2 : decode cX5_laddersStanding 2 = .ok (.iconst 0, 1) := by decide +kernel
theorem dX5_laddersStanding_3 : decode cX5_laddersStanding 3 = .ok (.istore_n 2, 1) := by decide +kernel
theorem dX5_laddersStanding_4 : decode cX5_laddersStanding 4 = .ok (.iload_n 2, 1) := by decide +kernel
theorem dX5_laddersStanding_5 : decode cX5_laddersStanding 5 = .ok (.iconst 4, 1) := by decide +kernel
theorem dX5_laddersStanding_6 : decode cX5_laddersStanding 6 = .ok (.if_icmp .ge 24, 3) := by decide +kernel
theorem dX5_laddersStanding_9 : decode cX5_laddersStanding 9 = .ok (.aload_n 0, 1) := by decide +kernel
theorem dX5_laddersStanding_10 : decode cX5_laddersStanding 10 = .ok (.getfield 17, 3) := by decide +kernel
theorem dX5_laddersStanding_13 : decode cX5_laddersStanding 13 = .ok (.iload_n 2, 1) := by decide +kernel
theorem dX5_laddersStanding_14 : decode cX5_laddersStanding 14 = .ok (.aaload, 1) := by decide +kernel
theorem dX5_laddersStanding_15 : decode cX5_laddersStanding 15 = .ok (.getfield 168, 3) := by decide +kernel
theorem dX5_laddersStanding_18 : decode cX5_laddersStanding 18 = .ok (.ifCond .eq 6, 3) := by decide +kernel
theorem dX5_laddersStanding_21 : decode cX5_laddersStanding 21 = .ok (.iinc 1 1, 3) := by decide +kernel
theorem dX5_laddersStanding_24 : decode cX5_laddersStanding 24 = .ok (.iinc 2 1, 3) := by decide +kernel
theorem dX5_laddersStanding_27 : decode cX5_laddersStanding 27 = .ok (.goto (-23), 3) := by decide +kernel
theorem dX5_laddersStanding_30 : decode cX5_laddersStanding 30 = .ok (.iload_n 1, 1) := by decide +kernel
theorem dX5_laddersStanding_31 : decode cX5_laddersStanding 31 = .ok (.ireturn, 1) := by decide +kernel
end
section
theorem dX6_init_0 : decode cX6_init 0 = .ok (.aload_n 0, 1) := by decide +kernel
theorem dX6_init_1 : decode cX6_init 1 = .ok (.invokespecial 1, 3) := by decide +kernel
theorem dX6_init_4 : decode cX6_init 4 = .ok (.aload_n 0, 1) := by decide +kernel
theorem dX6_init_5 : decode cX6_init 5 = .ok (.bipush 8, 2) := by decide +kernel
theorem dX6_init_7 : decode cX6_init 7 = .ok (.newarray .boolean, 2) := by decide +kernel
theorem dX6_init_9 : decode cX6_init 9 = .ok (.putfield 7, 3) := by decide +kernel
theorem dX6_init_12 : decode cX6_init 12 = .ok (.aload_n 0, 1) := by decide +kernel
theorem dX6_init_13 : decode cX6_init 13 = .ok (.bipush 8, 2) := by decide +kernel
theorem dX6_init_15 : decode cX6_init 15 = .ok (.newarray .int, 2) := by decide +kernel
theorem dX6_init_17 : decode cX6_init 17 = .ok (.putfield 13, 3) := by decide +kernel
theorem dX6_init_20 : decode cX6_init 20 = .ok (.aload_n 0, 1) := by decide +kernel
theorem dX6_init_21 : decode cX6_init 21 = .ok (.bipush 8, 2) := by decide +kernel
theorem dX6_init_23 : decode cX6_init 23 = .ok (.newarray .int, 2) := by decide +kernel
theorem dX6_init_25 : decode cX6_init 25 = .ok (.putfield 17, 3) := by decide +kernel
theorem dX6_init_28 : decode cX6_init 28 = .ok (.aload_n 0, 1) := by decide +kernel
theorem dX6_init_29 : decode cX6_init 29 = .ok (.sipush 160, 3) := by decide +kernel
theorem dX6_init_32 : decode cX6_init 32 = .ok (.newarray .int, 2) := by decide +kernel
theorem dX6_init_34 : decode cX6_init 34 = .ok (.putfield 20, 3) := by decide +kernel
theorem dX6_init_37 : decode cX6_init 37 = .ok (.aload_n 0, 1) := by decide +kernel
theorem dX6_init_38 : decode cX6_init 38 = .ok (.bipush 20, 2) := by decide +kernel
theorem dX6_init_40 : decode cX6_init 40 = .ok (.newarray .int, 2) := by decide +kernel
theorem dX6_init_42 : decode cX6_init 42 = .ok (.putfield 23, 3) := by decide +kernel
theorem dX6_init_45 : decode cX6_init 45 = .ok (.aload_n 0, 1) := by decide +kernel
theorem dX6_init_46 : decode cX6_init 46 = .ok (.bipush 10, 2) := by decide +kernel
theorem dX6_init_48 : decode cX6_init 48 = .ok (.newarray .int, 2) := by decide +kernel
theorem dX6_init_50 : decode cX6_init 50 = .ok (.putfield 26, 3) := by decide +kernel
theorem dX6_init_53 : decode cX6_init 53 = .ok (.aload_n 0, 1) := by decide +kernel
theorem dX6_init_54 : decode cX6_init 54 = .ok (.bipush 10, 2) := by decide +kernel
theorem dX6_init_56 : decode cX6_init 56 = .ok (.newarray .int, 2) := by decide +kernel
theorem dX6_init_58 : decode cX6_init 58 = .ok (.putfield 29, 3) := by decide +kernel
theorem dX6_init_61 : decode cX6_init 61 = .ok (.aload_n 0, 1) := by decide +kernel
theorem dX6_init_62 : decode cX6_init 62 = .ok (.bipush 10, 2) := by decide +kernel
theorem dX6_init_64 : decode cX6_init 64 = .ok (.newarray .int, 2) := by decide +kernel
theorem dX6_init_66 : decode cX6_init 66 = .ok (.putfield 32, 3) := by decide +kernel
theorem dX6_init_69 : decode cX6_init 69 = .ok (.aload_n 0, 1) := by decide +kernel
theorem dX6_init_70 : decode cX6_init 70 = .ok (.bipush 10, 2) := by decide +kernel
theorem dX6_init_72 : decode cX6_init 72 = .ok (.newarray .int, 2) := by decide +kernel
theorem dX6_init_74 : decode cX6_init 74 = .ok (.putfield 35, 3) := by decide +kernel
theorem dX6_init_77 : decode cX6_init 77 = .ok (.aload_n 0, 1) := by decide +kernel
theorem dX6_init_78 : decode cX6_init 78 = .ok (.bipush 10, 2) := by decide +kernel
theorem dX6_init_80 : decode cX6_init 80 = .ok (.newarray .int, 2) := by decide +kernel
theorem dX6_init_82 : decode cX6_init 82 = .ok (.putfield 38, 3) := by decide +kernel
theorem dX6_init_85 : decode cX6_init 85 = .ok (.aload_n 0, 1) := by decide +kernel
theorem dX6_init_86 : decode cX6_init 86 = .ok (.bipush 10, 2) := by decide +kernel
theorem dX6_init_88 : decode cX6_init 88 = .ok (.newarray .int, 2) := by decide +kernel
theorem dX6_init_90 : decode cX6_init 90 = .ok (.putfield 41, 3) := by decide +kernel
theorem dX6_init_93 : decode cX6_init 93 = .ok (.aload_n 0, 1) := by decide +kernel
theorem dX6_init_94 : decode cX6_init 94 = .ok (.bipush 10, 2) := by decide +kernel
theorem dX6_init_96 : decode cX6_init 96 = .ok (.newarray .int, 2) := by decide +kernel
theorem dX6_init_98 : decode cX6_init 98 = .ok (.putfield 44, 3) := by decide +kernel
theorem dX6_init_101 : decode cX6_init 101 = .ok (.aload_n 0, 1) := by decide +kernel
theorem dX6_init_102 : decode cX6_init 102 = .ok (.bipush 10, 2) := by decide +kernel
theorem dX6_init_104 : decode cX6_init 104 = .ok (.newarray .int, 2) := by decide +kernel
theorem dX6_init_106 : decode cX6_init 106 = .ok (.putfield 47, 3) := by decide +kernel
theorem dX6_init_109 : decode cX6_init 109 = .ok (.aload_n 0, 1) := by decide +kernel
theorem dX6_init_110 : decode cX6_init 110 = .ok (.iconst 4, 1) := by decide +kernel
theorem dX6_init_111 : decode cX6_init 111 = .ok (.newarray .boolean, 2) := by decide +kernel
theorem dX6_init_113 : decode cX6_init 113 = .ok (.putfield 50, 3) := by decide +kernel
theorem dX6_init_116 : decode cX6_init 116 = .ok (.aload_n 0, 1) := by decide +kernel
theorem dX6_init_117 : decode cX6_init 117 = .ok (.sipush 400, 3) := by decide +kernel
theorem dX6_init_120 : decode cX6_init 120 = .ok (.newarray .int, 2) := by decide +kernel
theorem dX6_init_122 : decode cX6_init 122 = .ok (.putfield 53, 3) := by decide +kernel
theorem dX6_init_125 : decode cX6_init 125 = .ok (.return_, 1) := by decide +kernel
theorem dX6_in_0 : decode cX6_in 0 = .ok (.iload_n 0, 1) := by decide +kernel
theorem dX6_in_1 : decode cX6_in 1 = .ok (.iload_n 1, 1) := by decide +kernel
theorem dX6_in_2 : decode cX6_in 2 = .ok (.if_icmp .lt 12, 3) := by decide +kernel
theorem dX6_in_5 : decode cX6_in 5 = .ok (.iload_n 0, 1) := by decide +kernel
theorem dX6_in_6 : decode cX6_in 6 = .ok (.iload_n 2, 1) := by decide +kernel
theorem dX6_in_7 : decode cX6_in 7 = .ok (.if_icmp .gt 7, 3) := by decide +kernel
theorem dX6_in_10 : decode cX6_in 10 = .ok (.iconst 1, 1) := by decide +kernel
theorem dX6_in_11 : decode cX6_in 11 = .ok (.goto 4, 3) := by decide +kernel
theorem dX6_in_14 : decode cX6_in 14 = .ok (.iconst 0, 1) := by decide +kernel
theorem dX6_in_15 : decode cX6_in 15 = .ok (.ireturn, 1) := by decide +kernel
theorem dX6_mod_0 : decode cX6_mod 0 = .ok (.lload_n 0, 1) := by decide +kernel
theorem dX6_mod_1 : decode cX6_mod 1 = .ok (.ldc2_w 56, 3) := by decide +kernel
theorem dX6_mod_4 : decode cX6_mod 4 = .ok (.lrem, 1) := by decide +kernel
theorem dX6_mod_5 : decode cX6_mod 5 = .ok (.lstore_n 2, 1) := by decide +kernel
theorem dX6_mod_6 : decode cX6_mod 6 = .ok (.lload_n 2, 1) := by decide +kernel
theorem dX6_mod_7 : decode cX6_mod 7 = .ok (.lconst 0, 1) := by decide +kernel
theorem dX6_mod_8 : decode cX6_mod 8 = .ok (.lcmp, 1) := by decide +kernel
theorem dX6_mod_9 : decode cX6_mod 9 = .ok (.ifCond .ge 11, 3) := by decide +kernel
theorem dX6_mod_12 : decode cX6_mod 12 = .ok (.lload_n 2, 1) := by decide +kernel
theorem dX6_mod_13 : decode cX6_mod 13 = .ok (.ldc2_w 56, 3) := by decide +kernel
theorem dX6_mod_16 : decode cX6_mod 16 = .ok (.ladd, 1) := by decide +kernel
theorem dX6_mod_17 : decode cX6_mod 17 = .ok (.goto 4, 3) := by decide +kernel
theorem dX6_mod_20 : decode cX6_mod 20 = .ok (.lload_n 2, 1) := by decide +kernel
theorem dX6_mod_21 : decode cX6_mod 21 = .ok (.l2i, 1) := by decide +kernel
theorem dX6_mod_22 : decode cX6_mod 22 = .ok (.ireturn, 1) := by decide +kernel
theorem dX6_toThe_0 : decode cX6_toThe 0 = .ok (.lconst 1, 1) := by decide +kernel
theorem dX6_toThe_1 : decode cX6_toThe 1 = .ok (.lstore_n 2, 1) := by decide +kernel
theorem dX6_toThe_2 : decode cX6_toThe 2 = .ok (.iload_n 0, 1) := by decide +kernel
theorem dX6_toThe_3 : decode cX6_toThe 3 = .ok (.i2l, 1) := by decide +kernel
theorem dX6_toThe_4 : decode cX6_toThe 4 = .ok (.lstore 4, 2) := by decide +kernel
theorem dX6_toThe_6 : decode cX6_toThe 6 = .ok (.iload_n 1, 1) := by decide +kernel
theorem dX6_toThe_7 : decode cX6_toThe 7 = .ok (.istore 6, 2) := by decide +kernel
theorem dX6_toThe_9 : decode cX6_toThe 9 = .ok (.iload 6, 2) := by decide +kernel
theorem dX6_toThe_11 : decode cX6_toThe 11 = .ok (.ifCond .le 44, 3) := by decide +kernel
theorem dX6_toThe_14 : decode cX6_toThe 14 = .ok (.iload 6, 2) := by decide +kernel
theorem dX6_toThe_16 : decode cX6_toThe 16 = .ok (.iconst 2, 1) := by decide +kernel
theorem dX6_toThe_17 : decode cX6_toThe 17 = .ok (.irem, 1) := by decide +kernel
theorem dX6_toThe_18 : decode cX6_toThe 18 = .ok (.iconst 1, 1) := by decide +kernel
theorem dX6_toThe_19 : decode cX6_toThe 19 = .ok (.if_icmp .ne 14, 3) := by decide +kernel
theorem dX6_toThe_22 : decode cX6_toThe 22 = .ok (.lload_n 2, 1) := by decide +kernel
theorem dX6_toThe_23 : decode cX6_toThe 23 = .ok (.lload 4, 2) := by decide +kernel
theorem dX6_toThe_25 : decode cX6_toThe 25 = .ok (.lmul, 1) := by decide +kernel
theorem dX6_toThe_26 : decode cX6_toThe 26 = .ok (.ldc2_w 56, 3) := by decide +kernel
theorem dX6_toThe_29 : decode cX6_toThe 29 = .ok (.lrem, 1) := by decide +kernel
theorem dX6_toThe_30 : decode cX6_toThe 30 = .ok (.goto 4, 3) := by decide +kernel
theorem dX6_toThe_33 : decode cX6_toThe 33 = .ok (.lload_n 2, 1) := by decide +kernel
theorem dX6_toThe_34 : decode cX6_toThe 34 = .ok (.lstore_n 2, 1) := by decide +kernel
theorem dX6_toThe_35 : decode cX6_toThe 35 = .ok (.lload 4, 2) := by decide +kernel
theorem dX6_toThe_37 : decode cX6_toThe 37 = .ok (.lload 4, 2) := by decide +kernel
theorem dX6_toThe_39 : decode cX6_toThe 39 = .ok (.lmul, 1) := by decide +kernel
theorem dX6_toThe_40 : decode cX6_toThe 40 = .ok (.ldc2_w 56, 3) := by decide +kernel
theorem dX6_toThe_43 : decode cX6_toThe 43 = .ok (.lrem, 1) := by decide +kernel
theorem dX6_toThe_44 : decode cX6_toThe 44 = .ok (.lstore 4, 2) := by decide +kernel
theorem dX6_toThe_46 : decode cX6_toThe 46 = .ok (.iload 6, 2) := by decide +kernel
theorem dX6_toThe_48 : decode cX6_toThe 48 = .ok (.iconst 2, 1) := by decide +kernel
theorem dX6_toThe_49 : decode cX6_toThe 49 = .ok (.idiv, 1) := by decide +kernel
theorem dX6_toThe_50 : decode cX6_toThe 50 = .ok (.istore 6, 2) := by decide +kernel
theorem dX6_toThe_52 : decode cX6_toThe 52 = .ok (.goto (-43), 3) := by decide +kernel
theorem dX6_toThe_55 : decode cX6_toThe 55 = .ok (.lload_n 2, 1) := by decide +kernel
theorem dX6_toThe_56 : decode cX6_toThe 56 = .ok (.l2i, 1) := by decide +kernel
theorem dX6_toThe_57 : decode cX6_toThe 57 = .ok (.ireturn, 1) := by decide +kernel
theorem dX6_turnedNumber_0 : decode cX6_turnedNumber 0 = .ok (.iload_n 0, 1) := by decide +kernel
theorem dX6_turnedNumber_1 : decode cX6_turnedNumber 1 = .ok (.sipush 10005, 3) := by decide +kernel
theorem dX6_turnedNumber_4 : decode cX6_turnedNumber 4 = .ok (.invokestatic 58, 3) := by decide +kernel
theorem dX6_turnedNumber_7 : decode cX6_turnedNumber 7 = .ok (.ireturn, 1) := by decide +kernel
theorem dX6_factorial_0 : decode cX6_factorial 0 = .ok (.iconst 1, 1) := by decide +kernel
theorem dX6_factorial_1 : decode cX6_factorial 1 = .ok (.istore_n 1, 1) := by decide +kernel
theorem dX6_factorial_2 : decode cX6_factorial 2 = .ok (.iconst 2, 1) := by decide +kernel
theorem dX6_factorial_3 : decode cX6_factorial 3 = .ok (.istore_n 2, 1) := by decide +kernel
theorem dX6_factorial_4 : decode cX6_factorial 4 = .ok (.iload_n 2, 1) := by decide +kernel
theorem dX6_factorial_5 : decode cX6_factorial 5 = .ok (.iload_n 0, 1) := by decide +kernel
theorem dX6_factorial_6 : decode cX6_factorial 6 = .ok (.if_icmp .gt 18, 3) := by decide +kernel
theorem dX6_factorial_9 : decode cX6_factorial 9 = .ok (.iload_n 1, 1) := by decide +kernel
theorem dX6_factorial_10 : decode cX6_factorial 10 = .ok (.i2l, 1) := by decide +kernel
theorem dX6_factorial_11 : decode cX6_factorial 11 = .ok (.iload_n 2, 1) := by decide +kernel
theorem dX6_factorial_12 : decode cX6_factorial 12 = .ok (.i2l, 1) := by decide +kernel
theorem dX6_factorial_13 : decode cX6_factorial 13 = .ok (.lmul, 1) := by decide +kernel
theorem dX6_factorial_14 : decode cX6_factorial 14 = .ok (.invokestatic 62, 3) := by decide +kernel
theorem dX6_factorial_17 : decode cX6_factorial 17 = .ok (.istore_n 1, 1) := by decide +kernel
theorem dX6_factorial_18 : decode cX6_factorial 18 = .ok (.iinc 2 1, 3) := by decide +kernel
theorem dX6_factorial_21 : decode cX6_factorial 21 = .ok (.goto (-17), 3) := by decide +kernel
theorem dX6_factorial_24 : decode cX6_factorial 24 = .ok (.iload_n 1, 1) := by decide +kernel
theorem dX6_factorial_25 : decode cX6_factorial 25 = .ok (.ireturn, 1) := by decide +kernel
theorem dX6_meets_0 : decode cX6_meets 0 = .ok (.aload_n 0, 1) := by decide +kernel
theorem dX6_meets_1 : decode cX6_meets 1 = .ok (.iload_n 1, 1) := by decide +kernel
theorem dX6_meets_2 : decode cX6_meets 2 = .ok (.putfield 66, 3) := by decide +kernel
theorem dX6_meets_5 : decode cX6_meets 5 = .ok (.bipush (-10), 2) := by decide +kernel
theorem dX6_meets_7 : decode cX6_meets 7 = .ok (.iload_n 1, 1) := by decide +kernel
theorem dX6_meets_8 : decode cX6_meets 8 = .ok (.isub, 1) := by decide +kernel
theorem dX6_meets_9 : decode cX6_meets 9 = .ok (.ireturn, 1) := by decide +kernel
theorem dX6_isSheet_0 : decode cX6_isSheet 0 = .ok (.iload_n 0, 1) := by decide +kernel
theorem dX6_isSheet_1 : decode cX6_isSheet 1 = .ok (.iconst 0, 1) := by decide +kernel
theorem dX6_isSheet_2 : decode cX6_isSheet 2 = .ok (.bipush 7, 2) := by decide +kernel
theorem dX6_isSheet_4 : decode cX6_isSheet 4 = .ok (.invokestatic 70, 3) := by decide +kernel
theorem dX6_isSheet_7 : decode cX6_isSheet 7 = .ok (.ireturn, 1) := by decide +kernel
theorem dX6_sheet_0 : decode cX6_sheet 0 = .ok (.iload_n 1, 1) := by decide +kernel
theorem dX6_sheet_1 : decode cX6_sheet 1 = .ok (.invokestatic 74, 3) := by decide +kernel
theorem dX6_sheet_4 : decode cX6_sheet 4 = .ok (.ifCond .eq 18, 3) := by decide +kernel
theorem dX6_sheet_7 : decode cX6_sheet 7 = .ok (.iload_n 2, 1) := by decide +kernel
theorem dX6_sheet_8 : decode cX6_sheet 8 = .ok (.iconst 0, 1) := by decide +kernel
theorem dX6_sheet_9 : decode cX6_sheet 9 = .ok (.iconst 2, 1) := by decide +kernel
theorem dX6_sheet_10 : decode cX6_sheet 10 = .ok (.invokestatic 70, 3) := by decide +kernel
theorem dX6_sheet_13 : decode cX6_sheet 13 = .ok (.ifCond .eq 9, 3) := by decide +kernel
theorem dX6_sheet_16 : decode cX6_sheet 16 = .ok (.iload_n 3, 1) := by decide +kernel
theorem dX6_sheet_17 : decode cX6_sheet 17 = .ok (.bipush 20, 2) := by decide +kernel
theorem dX6_sheet_19 : decode cX6_sheet 19 = .ok (.if_icmp .le 6, 3) := by decide +kernel
theorem dX6_sheet_22 : decode cX6_sheet 22 = .ok (.bipush (-2), 2) := by decide +kernel
theorem dX6_sheet_24 : decode cX6_sheet 24 = .ok (.ireturn, 1) := by decide +kernel
theorem dX6_sheet_25 : decode cX6_sheet 25 = .ok (.iload_n 3, 1) := by decide +kernel
theorem dX6_sheet_26 : decode cX6_sheet 26 = .ok (.ifCond .ge 9, 3) := by decide +kernel
theorem dX6_sheet_29 : decode cX6_sheet 29 = .ok (.aload_n 0, 1) := by decide +kernel
theorem dX6_sheet_30 : decode cX6_sheet 30 = .ok (.iconst 5, 1) := by decide +kernel
theorem dX6_sheet_31 : decode cX6_sheet 31 = .ok (.invokevirtual 78, 3) := by decide +kernel
theorem dX6_sheet_34 : decode cX6_sheet 34 = .ok (.ireturn, 1) := by decide +kernel
theorem dX6_sheet_35 : decode cX6_sheet 35 = .ok (.aload_n 0, 1) := by decide +kernel
theorem dX6_sheet_36 : decode cX6_sheet 36 = .ok (.getfield 7, 3) := by decide +kernel
theorem dX6_sheet_39 : decode cX6_sheet 39 = .ok (.iload_n 1, 1) := by decide +kernel
theorem dX6_sheet_40 : decode cX6_sheet 40 = .ok (.iconst 1, 1) := by decide +kernel
theorem dX6_sheet_41 : decode cX6_sheet 41 = .ok (.bastore, 1) := by decide +kernel
theorem dX6_sheet_42 : decode cX6_sheet 42 = .ok (.aload_n 0, 1) := by decide +kernel
theorem dX6_sheet_43 : decode cX6_sheet 43 = .ok (.getfield 13, 3) := by decide +kernel
theorem dX6_sheet_46 : decode cX6_sheet 46 = .ok (.iload_n 1, 1) := by decide +kernel
theorem dX6_sheet_47 : decode cX6_sheet 47 = .ok (.iload_n 2, 1) := by decide +kernel
theorem dX6_sheet_48 : decode cX6_sheet 48 = .ok (.iastore, 1) := by decide +kernel
theorem dX6_sheet_49 : decode cX6_sheet 49 = .ok (.aload_n 0, 1) := by decide +kernel
theorem dX6_sheet_50 : decode cX6_sheet 50 = .ok (.getfield 17, 3) := by decide +kernel
theorem dX6_sheet_53 : decode cX6_sheet 53 = .ok (.iload_n 1, 1) := by decide +kernel
theorem dX6_sheet_54 : decode cX6_sheet 54 = .ok (.iload_n 3, 1) := by decide +kernel
theorem dX6_sheet_55 : decode cX6_sheet 55 = .ok (.iastore, 1) := by decide +kernel
theorem dX6_sheet_56 : decode cX6_sheet 56 = .ok (.iconst 0, 1) := by decide +kernel
theorem dX6_sheet_57 : decode cX6_sheet 57 = .ok (.istore 4, 2) := by decide +kernel
theorem dX6_sheet_59 : decode cX6_sheet 59 = .ok (.iload 4, 2) := by decide +kernel
theorem dX6_sheet_61 : decode cX6_sheet 61 = .ok (.bipush 20, 2) := by decide +kernel
theorem dX6_sheet_63 : decode cX6_sheet 63 = .ok (.if_icmp .ge 22, 3) := by decide +kernel
theorem dX6_sheet_66 : decode cX6_sheet 66 = .ok (.aload_n 0, 1) := by decide +kernel
theorem dX6_sheet_67 : decode cX6_sheet 67 = .ok (.getfield 20, 3) := by decide +kernel
theorem dX6_sheet_70 : decode cX6_sheet 70 = .ok (.bipush 20, 2) := by decide +kernel
theorem dX6_sheet_72 : decode cX6_sheet 72 = .ok (.iload_n 1, 1) := by decide +kernel
theorem dX6_sheet_73 : decode cX6_sheet 73 = .ok (.imul, 1) := by decide +kernel
theorem dX6_sheet_74 : decode cX6_sheet 74 = .ok (.iload 4, 2) := by decide +kernel
theorem dX6_sheet_76 : decode cX6_sheet 76 = .ok (.iadd, 1) := by decide +kernel
theorem dX6_sheet_77 : decode cX6_sheet 77 = .ok (.iconst 0, 1) := by decide +kernel
theorem dX6_sheet_78 : decode cX6_sheet 78 = .ok (.iastore, 1) := by decide +kernel
theorem dX6_sheet_79 : decode cX6_sheet 79 = .ok (.iinc 4 1, 3) := by decide +kernel
theorem dX6_sheet_82 : decode cX6_sheet 82 = .ok (.goto (-23), 3) := by decide +kernel
theorem dX6_sheet_85 : decode cX6_sheet 85 = .ok (.iload_n 3, 1) := by decide +kernel
theorem dX6_sheet_86 : decode cX6_sheet 86 = .ok (.ireturn, 1) := by decide +kernel
theorem dX6_lose_0 : decode cX6_lose 0 = .ok (.iload_n 1, 1) := by decide +kernel
theorem dX6_lose_1 : decode cX6_lose 1 = .ok (.invokestatic 74, 3) := by decide +kernel
theorem dX6_lose_4 : decode cX6_lose 4 = .ok (.ifCond .ne 6, 3) := by decide +kernel
theorem dX6_lose_7 : decode cX6_lose 7 = .ok (.bipush (-2), 2) := by decide +kernel
theorem dX6_lose_9 : decode cX6_lose 9 = .ok (.ireturn, 1) := by decide +kernel
theorem dX6_lose_10 : decode cX6_lose 10 = .ok (.aload_n 0, 1) := by decide +kernel
theorem dX6_lose_11 : decode cX6_lose 11 = .ok (.getfield 7, 3) := by decide +kernel
theorem dX6_lose_14 : decode cX6_lose 14 = .ok (.iload_n 1, 1) := by decide +kernel
theorem dX6_lose_15 : decode cX6_lose 15 = .ok (.baload, 1) := by decide +kernel
theorem dX6_lose_16 : decode cX6_lose 16 = .ok (.ifCond .ne 9, 3) := by decide +kernel
theorem dX6_lose_19 : decode cX6_lose 19 = .ok (.aload_n 0, 1) := by decide +kernel
theorem dX6_lose_20 : decode cX6_lose 20 = .ok (.iconst 1, 1) := by decide +kernel
theorem dX6_lose_21 : decode cX6_lose 21 = .ok (.invokevirtual 78, 3) := by decide +kernel
theorem dX6_lose_24 : decode cX6_lose 24 = .ok (.ireturn, 1) := by decide +kernel
theorem dX6_lose_25 : decode cX6_lose 25 = .ok (.aload_n 0, 1) := by decide +kernel
theorem dX6_lose_26 : decode cX6_lose 26 = .ok (.getfield 7, 3) := by decide +kernel
theorem dX6_lose_29 : decode cX6_lose 29 = .ok (.iload_n 1, 1) := by decide +kernel
theorem dX6_lose_30 : decode cX6_lose 30 = .ok (.iconst 0, 1) := by decide +kernel
theorem dX6_lose_31 : decode cX6_lose 31 = .ok (.bastore, 1) := by decide +kernel
theorem dX6_lose_32 : decode cX6_lose 32 = .ok (.aload_n 0, 1) := by decide +kernel
theorem dX6_lose_33 : decode cX6_lose 33 = .ok (.getfield 17, 3) := by decide +kernel
theorem dX6_lose_36 : decode cX6_lose 36 = .ok (.iload_n 1, 1) := by decide +kernel
theorem dX6_lose_37 : decode cX6_lose 37 = .ok (.iaload, 1) := by decide +kernel
theorem dX6_lose_38 : decode cX6_lose 38 = .ok (.ireturn, 1) := by decide +kernel
theorem dX6_lacks_0 : decode cX6_lacks 0 = .ok (.aload_n 0, 1) := by decide +kernel
theorem dX6_lacks_1 : decode cX6_lacks 1 = .ok (.getfield 7, 3) := by decide +kernel
theorem dX6_lacks_4 : decode cX6_lacks 4 = .ok (.iload_n 1, 1) := by decide +kernel
theorem dX6_lacks_5 : decode cX6_lacks 5 = .ok (.baload, 1) := by decide +kernel
theorem dX6_lacks_6 : decode cX6_lacks 6 = .ok (.ifCond .ne 7, 3) := by decide +kernel
theorem dX6_lacks_9 : decode cX6_lacks 9 = .ok (.iconst 1, 1) := by decide +kernel
theorem dX6_lacks_10 : decode cX6_lacks 10 = .ok (.goto 38, 3) := by decide +kernel
theorem dX6_lacks_13 : decode cX6_lacks 13 = .ok (.aload_n 0, 1) := by decide +kernel
theorem dX6_lacks_14 : decode cX6_lacks 14 = .ok (.getfield 13, 3) := by decide +kernel
theorem dX6_lacks_17 : decode cX6_lacks 17 = .ok (.iload_n 1, 1) := by decide +kernel
theorem dX6_lacks_18 : decode cX6_lacks 18 = .ok (.iaload, 1) := by decide +kernel
theorem dX6_lacks_19 : decode cX6_lacks 19 = .ok (.iload_n 2, 1) := by decide +kernel
theorem dX6_lacks_20 : decode cX6_lacks 20 = .ok (.if_icmp .eq 7, 3) := by decide +kernel
theorem dX6_lacks_23 : decode cX6_lacks 23 = .ok (.iconst 3, 1) := by decide +kernel
theorem dX6_lacks_24 : decode cX6_lacks 24 = .ok (.goto 24, 3) := by decide +kernel
theorem dX6_lacks_27 : decode cX6_lacks 27 = .ok (.iload_n 3, 1) := by decide +kernel
theorem dX6_lacks_28 : decode cX6_lacks 28 = .ok (.iconst 0, 1) := by decide +kernel
theorem dX6_lacks_29 : decode cX6_lacks 29 = .ok (.aload_n 0, 1) := by decide +kernel
theorem dX6_lacks_30 : decode cX6_lacks 30 = .ok (.getfield 17, 3) := by decide +kernel
theorem dX6_lacks_33 : decode cX6_lacks 33 = .ok (.iload_n 1, 1) := by decide +kernel
theorem dX6_lacks_34 : decode cX6_lacks 34 = .ok (.iaload, 1) := by decide +kernel
theorem dX6_lacks_35 : decode cX6_lacks 35 = .ok (.iconst 1, 1) := by decide +kernel
theorem dX6_lacks_36 : decode cX6_lacks 36 = .ok (.isub, 1) := by decide +kernel
theorem dX6_lacks_37 : decode cX6_lacks 37 = .ok (.invokestatic 70, 3) := by decide +kernel
theorem dX6_lacks_40 : decode cX6_lacks 40 = .ok (.ifCond .eq 7, 3) := by decide +kernel
theorem dX6_lacks_43 : decode cX6_lacks 43 = .ok (.iconst 0, 1) := by decide +kernel
theorem dX6_lacks_44 : decode cX6_lacks 44 = .ok (.goto 4, 3) := by decide +kernel
theorem dX6_lacks_47 : decode cX6_lacks 47 = .ok (.iconst 2, 1) := by decide +kernel
theorem dX6_lacks_48 : decode cX6_lacks 48 = .ok (.ireturn, 1) := by decide +kernel
theorem dX6_put_0 : decode cX6_put 0 = .ok (.iload_n 1, 1) := by decide +kernel
theorem dX6_put_1 : decode cX6_put 1 = .ok (.invokestatic 74, 3) := by decide +kernel
theorem dX6_put_4 : decode cX6_put 4 = .ok (.ifCond .eq 12, 3) := by decide +kernel
theorem dX6_put_7 : decode cX6_put 7 = .ok (.iload_n 2, 1) := by decide +kernel
theorem dX6_put_8 : decode cX6_put 8 = .ok (.iconst 0, 1) := by decide +kernel
theorem dX6_put_9 : decode cX6_put 9 = .ok (.iconst 2, 1) := by decide +kernel
theorem dX6_put_10 : decode cX6_put 10 = .ok (.invokestatic 70, 3) := by decide +kernel
theorem dX6_put_13 : decode cX6_put 13 = .ok (.ifCond .ne 6, 3) := by decide +kernel
theorem dX6_put_16 : decode cX6_put 16 = .ok (.bipush (-2), 2) := by decide +kernel
theorem dX6_put_18 : decode cX6_put 18 = .ok (.ireturn, 1) := by decide +kernel
theorem dX6_put_19 : decode cX6_put 19 = .ok (.aload_n 0, 1) := by decide +kernel
theorem dX6_put_20 : decode cX6_put 20 = .ok (.iload_n 1, 1) := by decide +kernel
theorem dX6_put_21 : decode cX6_put 21 = .ok (.iload_n 2, 1) := by decide +kernel
theorem dX6_put_22 : decode cX6_put 22 = .ok (.iload_n 3, 1) := by decide +kernel
theorem dX6_put_23 : decode cX6_put 23 = .ok (.invokevirtual 82, 3) := by decide +kernel
theorem dX6_put_26 : decode cX6_put 26 = .ok (.istore 5, 2) := by decide +kernel
theorem dX6_put_28 : decode cX6_put 28 = .ok (.iload 5, 2) := by decide +kernel
theorem dX6_put_30 : decode cX6_put 30 = .ok (.ifCond .le 10, 3) := by decide +kernel
theorem dX6_put_33 : decode cX6_put 33 = .ok (.aload_n 0, 1) := by decide +kernel
theorem dX6_put_34 : decode cX6_put 34 = .ok (.iload 5, 2) := by decide +kernel
theorem dX6_put_36 : decode cX6_put 36 = .ok (.invokevirtual 78, 3) := by decide +kernel
theorem dX6_put_39 : decode cX6_put 39 = .ok (.ireturn, 1) := by decide +kernel
theorem dX6_put_40 : decode cX6_put 40 = .ok (.aload_n 0, 1) := by decide +kernel
theorem dX6_put_41 : decode cX6_put 41 = .ok (.getfield 20, 3) := by decide +kernel
theorem dX6_put_44 : decode cX6_put 44 = .ok (.bipush 20, 2) := by decide +kernel
theorem dX6_put_46 : decode cX6_put 46 = .ok (.iload_n 1, 1) := by decide +kernel
theorem dX6_put_47 : decode cX6_put 47 = .ok (.imul, 1) := by decide +kernel
theorem dX6_put_48 : decode cX6_put 48 = .ok (.iload_n 3, 1) := by decide +kernel
theorem dX6_put_49 : decode cX6_put 49 = .ok (.iadd, 1) := by decide +kernel
theorem dX6_put_50 : decode cX6_put 50 = .ok (.iload_n 2, 1) := by decide +kernel
theorem dX6_put_51 : decode cX6_put 51 = .ok (.ifCond .ne 9, 3) := by decide +kernel
theorem dX6_put_54 : decode cX6_put 54 = .ok (.iload 4, 2) := by decide +kernel
theorem dX6_put_56 : decode cX6_put 56 = .ok (.i2b, 1) := by decide +kernel
theorem dX6_put_57 : decode cX6_put 57 = .ok (.goto 16, 3) := by decide +kernel
theorem dX6_put_60 : decode cX6_put 60 = .ok (.iload_n 2, 1) := by decide +kernel
theorem dX6_put_61 : decode cX6_put 61 = .ok (.iconst 1, 1) := by decide +kernel
theorem dX6_put_62 : decode cX6_put 62 = .ok (.if_icmp .ne 9, 3) := by decide +kernel
theorem dX6_put_65 : decode cX6_put 65 = .ok (.iload 4, 2) := by decide +kernel
theorem dX6_put_67 : decode cX6_put 67 = .ok (.i2s, 1) := by decide +kernel
theorem dX6_put_68 : decode cX6_put 68 = .ok (.goto 5, 3) := by decide +kernel
theorem dX6_put_71 : decode cX6_put 71 = .ok (.iload 4, 2) := by decide +kernel
theorem dX6_put_73 : decode cX6_put 73 = .ok (.iastore, 1) := by decide +kernel
theorem dX6_put_74 : decode cX6_put 74 = .ok (.iconst 1, 1) := by decide +kernel
theorem dX6_put_75 : decode cX6_put 75 = .ok (.ireturn, 1) := by decide +kernel
theorem dX6_get_0 : decode cX6_get 0 = .ok (.iload_n 1, 1) := by decide +kernel
theorem dX6_get_1 : decode cX6_get 1 = .ok (.invokestatic 74, 3) := by decide +kernel
theorem dX6_get_4 : decode cX6_get 4 = .ok (.ifCond .eq 12, 3) := by decide +kernel
theorem dX6_get_7 : decode cX6_get 7 = .ok (.iload_n 2, 1) := by decide +kernel
theorem dX6_get_8 : decode cX6_get 8 = .ok (.iconst 0, 1) := by decide +kernel
theorem dX6_get_9 : decode cX6_get 9 = .ok (.iconst 2, 1) := by decide +kernel
theorem dX6_get_10 : decode cX6_get 10 = .ok (.invokestatic 70, 3) := by decide +kernel
theorem dX6_get_13 : decode cX6_get 13 = .ok (.ifCond .ne 6, 3) := by decide +kernel
theorem dX6_get_16 : decode cX6_get 16 = .ok (.ldc 86, 2) := by decide +kernel
theorem dX6_get_18 : decode cX6_get 18 = .ok (.ireturn, 1) := by decide +kernel
theorem dX6_get_19 : decode cX6_get 19 = .ok (.aload_n 0, 1) := by decide +kernel
theorem dX6_get_20 : decode cX6_get 20 = .ok (.iload_n 1, 1) := by decide +kernel
theorem dX6_get_21 : decode cX6_get 21 = .ok (.iload_n 2, 1) := by decide +kernel
theorem dX6_get_22 : decode cX6_get 22 = .ok (.iload_n 3, 1) := by decide +kernel
theorem dX6_get_23 : decode cX6_get 23 = .ok (.invokevirtual 82, 3) := by decide +kernel
theorem dX6_get_26 : decode cX6_get 26 = .ok (.istore 4, 2) := by decide +kernel
theorem dX6_get_28 : decode cX6_get 28 = .ok (.iload 4, 2) := by decide +kernel
theorem dX6_get_30 : decode cX6_get 30 = .ok (.ifCond .le 12, 3) := by decide +kernel
theorem dX6_get_33 : decode cX6_get 33 = .ok (.aload_n 0, 1) := by decide +kernel
theorem dX6_get_34 : decode cX6_get 34 = .ok (.iload 4, 2) := by decide +kernel
theorem dX6_get_36 : decode cX6_get 36 = .ok (.putfield 66, 3) := by decide +kernel
theorem dX6_get_39 : decode cX6_get 39 = .ok (.ldc 86, 2) := by decide +kernel
theorem dX6_get_41 : decode cX6_get 41 = .ok (.ireturn, 1) := by decide +kernel
theorem dX6_get_42 : decode cX6_get 42 = .ok (.aload_n 0, 1) := by decide +kernel
theorem dX6_get_43 : decode cX6_get 43 = .ok (.getfield 20, 3) := by decide +kernel
theorem dX6_get_46 : decode cX6_get 46 = .ok (.bipush 20, 2) := by decide +kernel
theorem dX6_get_48 : decode cX6_get 48 = .ok (.iload_n 1, 1) := by decide +kernel
theorem dX6_get_49 : decode cX6_get 49 = .ok (.imul, 1) := by decide +kernel
theorem dX6_get_50 : decode cX6_get 50 = .ok (.iload_n 3, 1) := by decide +kernel
theorem dX6_get_51 : decode cX6_get 51 = .ok (.iadd, 1) := by decide +kernel
theorem dX6_get_52 : decode cX6_get 52 = .ok (.iaload, 1) := by decide +kernel
theorem dX6_get_53 : decode cX6_get 53 = .ok (.ireturn, 1) := by decide +kernel
theorem dX6_copy_0 : decode cX6_copy 0 = .ok (.iload_n 1, 1) := by decide +kernel
theorem dX6_copy_1 : decode cX6_copy 1 = .ok (.invokestatic 74, 3) := by decide +kernel
theorem dX6_copy_4 : decode cX6_copy 4 = .ok (.ifCond .eq 10, 3) := by decide +kernel
theorem dX6_copy_7 : decode cX6_copy 7 = .ok (.iload_n 3, 1) := by decide +kernel
theorem dX6_copy_8 : decode cX6_copy 8 = .ok (.invokestatic 74, 3) := by decide +kernel
theorem dX6_copy_11 : decode cX6_copy 11 = .ok (.ifCond .ne 6, 3) := by decide +kernel
theorem dX6_copy_14 : decode cX6_copy 14 = .ok (.bipush (-2), 2) := by decide +kernel
theorem dX6_copy_16 : decode cX6_copy 16 = .ok (.ireturn, 1) := by decide +kernel
theorem dX6_copy_17 : decode cX6_copy 17 = .ok (.aload_n 0, 1) := by decide +kernel
theorem dX6_copy_18 : decode cX6_copy 18 = .ok (.getfield 7, 3) := by decide +kernel
theorem dX6_copy_21 : decode cX6_copy 21 = .ok (.iload_n 1, 1) := by decide +kernel
theorem dX6_copy_22 : decode cX6_copy 22 = .ok (.baload, 1) := by decide +kernel
theorem dX6_copy_23 : decode cX6_copy 23 = .ok (.ifCond .eq 12, 3) := by decide +kernel
theorem dX6_copy_26 : decode cX6_copy 26 = .ok (.aload_n 0, 1) := by decide +kernel
theorem dX6_copy_27 : decode cX6_copy 27 = .ok (.getfield 7, 3) := by decide +kernel
theorem dX6_copy_30 : decode cX6_copy 30 = .ok (.iload_n 3, 1) := by decide +kernel
theorem dX6_copy_31 : decode cX6_copy 31 = .ok (.baload, 1) := by decide +kernel
theorem dX6_copy_32 : decode cX6_copy 32 = .ok (.ifCond .ne 9, 3) := by decide +kernel
theorem dX6_copy_35 : decode cX6_copy 35 = .ok (.aload_n 0, 1) := by decide +kernel
theorem dX6_copy_36 : decode cX6_copy 36 = .ok (.iconst 1, 1) := by decide +kernel
theorem dX6_copy_37 : decode cX6_copy 37 = .ok (.invokevirtual 78, 3) := by decide +kernel
theorem dX6_copy_40 : decode cX6_copy 40 = .ok (.ireturn, 1) := by decide +kernel
theorem dX6_copy_41 : decode cX6_copy 41 = .ok (.aload_n 0, 1) := by decide +kernel
theorem dX6_copy_42 : decode cX6_copy 42 = .ok (.getfield 13, 3) := by decide +kernel
theorem dX6_copy_45 : decode cX6_copy 45 = .ok (.iload_n 1, 1) := by decide +kernel
theorem dX6_copy_46 : decode cX6_copy 46 = .ok (.iaload, 1) := by decide +kernel
theorem dX6_copy_47 : decode cX6_copy 47 = .ok (.aload_n 0, 1) := by decide +kernel
theorem dX6_copy_48 : decode cX6_copy 48 = .ok (.getfield 13, 3) := by decide +kernel
theorem dX6_copy_51 : decode cX6_copy 51 = .ok (.iload_n 3, 1) := by decide +kernel
theorem dX6_copy_52 : decode cX6_copy 52 = .ok (.iaload, 1) := by decide +kernel
theorem dX6_copy_53 : decode cX6_copy 53 = .ok (.if_icmp .eq 9, 3) := by decide +kernel
theorem dX6_copy_56 : decode cX6_copy 56 = .ok (.aload_n 0, 1) := by decide +kernel
theorem dX6_copy_57 : decode cX6_copy 57 = .ok (.iconst 4, 1) := by decide +kernel
theorem dX6_copy_58 : decode cX6_copy 58 = .ok (.invokevirtual 78, 3) := by decide +kernel
theorem dX6_copy_61 : decode cX6_copy 61 = .ok (.ireturn, 1) := by decide +kernel
theorem dX6_copy_62 : decode cX6_copy 62 = .ok (.iload_n 2, 1) := by decide +kernel
theorem dX6_copy_63 : decode cX6_copy 63 = .ok (.ifCond .lt 48, 3) := by decide +kernel
theorem dX6_copy_66 : decode cX6_copy 66 = .ok (.iload 4, 2) := by decide +kernel
theorem dX6_copy_68 : decode cX6_copy 68 = .ok (.ifCond .lt 43, 3) := by decide +kernel
theorem dX6_copy_71 : decode cX6_copy 71 = .ok (.iload 5, 2) := by decide +kernel
theorem dX6_copy_73 : decode cX6_copy 73 = .ok (.ifCond .lt 38, 3) := by decide +kernel
theorem dX6_copy_76 : decode cX6_copy 76 = .ok (.iload_n 2, 1) := by decide +kernel
theorem dX6_copy_77 : decode cX6_copy 77 = .ok (.i2l, 1) := by decide +kernel
theorem dX6_copy_78 : decode cX6_copy 78 = .ok (.iload 5, 2) := by decide +kernel
theorem dX6_copy_80 : decode cX6_copy 80 = .ok (.i2l, 1) := by decide +kernel
theorem dX6_copy_81 : decode cX6_copy 81 = .ok (.ladd, 1) := by decide +kernel
theorem dX6_copy_82 : decode cX6_copy 82 = .ok (.aload_n 0, 1) := by decide +kernel
theorem dX6_copy_83 : decode cX6_copy 83 = .ok (.getfield 17, 3) := by decide +kernel
theorem dX6_copy_86 : decode cX6_copy 86 = .ok (.iload_n 1, 1) := by decide +kernel
theorem dX6_copy_87 : decode cX6_copy 87 = .ok (.iaload, 1) := by decide +kernel
theorem dX6_copy_88 : decode cX6_copy 88 = .ok (.i2l, 1) := by decide +kernel
theorem dX6_copy_89 : decode cX6_copy 89 = .ok (.lcmp, 1) := by decide +kernel
theorem dX6_copy_90 : decode cX6_copy 90 = .ok (.ifCond .gt 21, 3) := by decide +kernel
theorem dX6_copy_93 : decode cX6_copy 93 = .ok (.iload 4, 2) := by decide +kernel
theorem dX6_copy_95 : decode cX6_copy 95 = .ok (.i2l, 1) := by decide +kernel
theorem dX6_copy_96 : decode cX6_copy 96 = .ok (.iload 5, 2) := by decide +kernel
theorem dX6_copy_98 : decode cX6_copy 98 = .ok (.i2l, 1) := by decide +kernel
theorem dX6_copy_99 : decode cX6_copy 99 = .ok (.ladd, 1) := by decide +kernel
theorem dX6_copy_100 : decode cX6_copy 100 = .ok (.aload_n 0, 1) := by decide +kernel
theorem dX6_copy_101 : decode cX6_copy 101 = .ok (.getfield 17, 3) := by decide +kernel
theorem dX6_copy_104 : decode cX6_copy 104 = .ok (.iload_n 3, 1) := by decide +kernel
theorem dX6_copy_105 : decode cX6_copy 105 = .ok (.iaload, 1) := by decide +kernel
theorem dX6_copy_106 : decode cX6_copy 106 = .ok (.i2l, 1) := by decide +kernel
theorem dX6_copy_107 : decode cX6_copy 107 = .ok (.lcmp, 1) := by decide +kernel
theorem dX6_copy_108 : decode cX6_copy 108 = .ok (.ifCond .le 9, 3) := by decide +kernel
theorem dX6_copy_111 : decode cX6_copy 111 = .ok (.aload_n 0, 1) := by decide +kernel
theorem dX6_copy_112 : decode cX6_copy 112 = .ok (.iconst 2, 1) := by decide +kernel
theorem dX6_copy_113 : decode cX6_copy 113 = .ok (.invokevirtual 78, 3) := by decide +kernel
theorem dX6_copy_116 : decode cX6_copy 116 = .ok (.ireturn, 1) := by decide +kernel
theorem dX6_copy_117 : decode cX6_copy 117 = .ok (.iconst 0, 1) := by decide +kernel
theorem dX6_copy_118 : decode cX6_copy 118 = .ok (.istore 6, 2) := by decide +kernel
theorem dX6_copy_120 : decode cX6_copy 120 = .ok (.iload 6, 2) := by decide +kernel
theorem dX6_copy_122 : decode cX6_copy 122 = .ok (.iload 5, 2) := by decide +kernel
theorem dX6_copy_124 : decode cX6_copy 124 = .ok (.if_icmp .ge 30, 3) := by decide +kernel
theorem dX6_copy_127 : decode cX6_copy 127 = .ok (.aload_n 0, 1) := by decide +kernel
theorem dX6_copy_128 : decode cX6_copy 128 = .ok (.getfield 23, 3) := by decide +kernel
theorem dX6_copy_131 : decode cX6_copy 131 = .ok (.iload 6, 2) := by decide +kernel
theorem dX6_copy_133 : decode cX6_copy 133 = .ok (.aload_n 0, 1) := by decide +kernel
theorem dX6_copy_134 : decode cX6_copy 134 = .ok (.getfield 20, 3) := by decide +kernel
theorem dX6_copy_137 : decode cX6_copy 137 = .ok (.bipush 20, 2) := by decide +kernel
theorem dX6_copy_139 : decode cX6_copy 139 = .ok (.iload_n 1, 1) := by decide +kernel
theorem dX6_copy_140 : decode cX6_copy 140 = .ok (.imul, 1) := by decide +kernel
theorem dX6_copy_141 : decode cX6_copy 141 = .ok (.iload_n 2, 1) := by decide +kernel
theorem dX6_copy_142 : decode cX6_copy 142 = .ok (.iadd, 1) := by decide +kernel
theorem dX6_copy_143 : decode cX6_copy 143 = .ok (.iload 6, 2) := by decide +kernel
theorem dX6_copy_145 : decode cX6_copy 145 = .ok (.iadd, 1) := by decide +kernel
theorem dX6_copy_146 : decode cX6_copy 146 = .ok (.iaload, 1) := by decide +kernel
theorem dX6_copy_147 : decode cX6_copy 147 = .ok (.iastore, 1) := by decide +kernel
theorem dX6_copy_148 : decode cX6_copy 148 = .ok (.iinc 6 1, 3) := by decide +kernel
theorem dX6_copy_151 : decode cX6_copy 151 = .ok (.goto (-31), 3) := by decide +kernel
theorem dX6_copy_154 : decode cX6_copy 154 = .ok (.iconst 0, 1) := by decide +kernel
theorem dX6_copy_155 : decode cX6_copy 155 = .ok (.istore 6, 2) := by decide +kernel
theorem dX6_copy_157 : decode cX6_copy 157 = .ok (.iload 6, 2) := by decide +kernel
theorem dX6_copy_159 : decode cX6_copy 159 = .ok (.iload 5, 2) := by decide +kernel
theorem dX6_copy_161 : decode cX6_copy 161 = .ok (.if_icmp .ge 31, 3) := by decide +kernel
theorem dX6_copy_164 : decode cX6_copy 164 = .ok (.aload_n 0, 1) := by decide +kernel
theorem dX6_copy_165 : decode cX6_copy 165 = .ok (.getfield 20, 3) := by decide +kernel
theorem dX6_copy_168 : decode cX6_copy 168 = .ok (.bipush 20, 2) := by decide +kernel
theorem dX6_copy_170 : decode cX6_copy 170 = .ok (.iload_n 3, 1) := by decide +kernel
theorem dX6_copy_171 : decode cX6_copy 171 = .ok (.imul, 1) := by decide +kernel
theorem dX6_copy_172 : decode cX6_copy 172 = .ok (.iload 4, 2) := by decide +kernel
theorem dX6_copy_174 : decode cX6_copy 174 = .ok (.iadd, 1) := by decide +kernel
theorem dX6_copy_175 : decode cX6_copy 175 = .ok (.iload 6, 2) := by decide +kernel
theorem dX6_copy_177 : decode cX6_copy 177 = .ok (.iadd, 1) := by decide +kernel
theorem dX6_copy_178 : decode cX6_copy 178 = .ok (.aload_n 0, 1) := by decide +kernel
theorem dX6_copy_179 : decode cX6_copy 179 = .ok (.getfield 23, 3) := by decide +kernel
theorem dX6_copy_182 : decode cX6_copy 182 = .ok (.iload 6, 2) := by decide +kernel
theorem dX6_copy_184 : decode cX6_copy 184 = .ok (.iaload, 1) := by decide +kernel
theorem dX6_copy_185 : decode cX6_copy 185 = .ok (.iastore, 1) := by decide +kernel
theorem dX6_copy_186 : decode cX6_copy 186 = .ok (.iinc 6 1, 3) := by decide +kernel
theorem dX6_copy_189 : decode cX6_copy 189 = .ok (.goto (-32), 3) := by decide +kernel
theorem dX6_copy_192 : decode cX6_copy 192 = .ok (.iconst 1, 1) := by decide +kernel
theorem dX6_copy_193 : decode cX6_copy 193 = .ok (.ireturn, 1) := by decide +kernel
theorem dX6_read_0 : decode cX6_read 0 = .ok (.iconst 0, 1) := by decide +kernel
theorem dX6_read_1 : decode cX6_read 1 = .ok (.istore_n 3, 1) := by decide +kernel
theorem dX6_read_2 : decode cX6_read 2 = .ok (.iload_n 3, 1) := by decide +kernel
theorem dX6_read_3 : decode cX6_read 3 = .ok (.bipush 10, 2) := by decide +kernel
theorem dX6_read_5 : decode cX6_read 5 = .ok (.if_icmp .ge 41, 3) := by decide +kernel
theorem dX6_read_8 : decode cX6_read 8 = .ok (.aload_n 2, 1) := by decide +kernel
theorem dX6_read_9 : decode cX6_read 9 = .ok (.iload_n 3, 1) := by decide +kernel
theorem dX6_read_10 : decode cX6_read 10 = .ok (.iload_n 3, 1) := by decide +kernel
theorem dX6_read_11 : decode cX6_read 11 = .ok (.aload_n 0, 1) := by decide +kernel
theorem dX6_read_12 : decode cX6_read 12 = .ok (.getfield 17, 3) := by decide +kernel
theorem dX6_read_15 : decode cX6_read 15 = .ok (.iload_n 1, 1) := by decide +kernel
theorem dX6_read_16 : decode cX6_read 16 = .ok (.iaload, 1) := by decide +kernel
theorem dX6_read_17 : decode cX6_read 17 = .ok (.if_icmp .ge 21, 3) := by decide +kernel
theorem dX6_read_20 : decode cX6_read 20 = .ok (.aload_n 0, 1) := by decide +kernel
theorem dX6_read_21 : decode cX6_read 21 = .ok (.getfield 20, 3) := by decide +kernel
theorem dX6_read_24 : decode cX6_read 24 = .ok (.bipush 20, 2) := by decide +kernel
theorem dX6_read_26 : decode cX6_read 26 = .ok (.iload_n 1, 1) := by decide +kernel
theorem dX6_read_27 : decode cX6_read 27 = .ok (.imul, 1) := by decide +kernel
theorem dX6_read_28 : decode cX6_read 28 = .ok (.iload_n 3, 1) := by decide +kernel
theorem dX6_read_29 : decode cX6_read 29 = .ok (.iadd, 1) := by decide +kernel
theorem dX6_read_30 : decode cX6_read 30 = .ok (.iaload, 1) := by decide +kernel
theorem dX6_read_31 : decode cX6_read 31 = .ok (.i2l, 1) := by decide +kernel
theorem dX6_read_32 : decode cX6_read 32 = .ok (.invokestatic 62, 3) := by decide +kernel
theorem dX6_read_35 : decode cX6_read 35 = .ok (.goto 4, 3) := by decide +kernel
theorem dX6_read_38 : decode cX6_read 38 = .ok (.iconst 0, 1) := by decide +kernel
theorem dX6_read_39 : decode cX6_read 39 = .ok (.iastore, 1) := by decide +kernel
theorem dX6_read_40 : decode cX6_read 40 = .ok (.iinc 3 1, 3) := by decide +kernel
theorem dX6_read_43 : decode cX6_read 43 = .ok (.goto (-41), 3) := by decide +kernel
theorem dX6_read_46 : decode cX6_read 46 = .ok (.return_, 1) := by decide +kernel
theorem dX6_tells_0 : decode cX6_tells 0 = .ok (.aload_n 0, 1) := by decide +kernel
theorem dX6_tells_1 : decode cX6_tells 1 = .ok (.getfield 7, 3) := by decide +kernel
theorem dX6_tells_4 : decode cX6_tells 4 = .ok (.iload_n 2, 1) := by decide +kernel
theorem dX6_tells_5 : decode cX6_tells 5 = .ok (.iconst 1, 1) := by decide +kernel
theorem dX6_tells_6 : decode cX6_tells 6 = .ok (.bastore, 1) := by decide +kernel
theorem dX6_tells_7 : decode cX6_tells 7 = .ok (.aload_n 0, 1) := by decide +kernel
theorem dX6_tells_8 : decode cX6_tells 8 = .ok (.getfield 13, 3) := by decide +kernel
theorem dX6_tells_11 : decode cX6_tells 11 = .ok (.iload_n 2, 1) := by decide +kernel
theorem dX6_tells_12 : decode cX6_tells 12 = .ok (.iconst 2, 1) := by decide +kernel
theorem dX6_tells_13 : decode cX6_tells 13 = .ok (.iastore, 1) := by decide +kernel
theorem dX6_tells_14 : decode cX6_tells 14 = .ok (.aload_n 0, 1) := by decide +kernel
theorem dX6_tells_15 : decode cX6_tells 15 = .ok (.getfield 17, 3) := by decide +kernel
theorem dX6_tells_18 : decode cX6_tells 18 = .ok (.iload_n 2, 1) := by decide +kernel
theorem dX6_tells_19 : decode cX6_tells 19 = .ok (.bipush 10, 2) := by decide +kernel
theorem dX6_tells_21 : decode cX6_tells 21 = .ok (.iastore, 1) := by decide +kernel
theorem dX6_tells_22 : decode cX6_tells 22 = .ok (.iconst 0, 1) := by decide +kernel
theorem dX6_tells_23 : decode cX6_tells 23 = .ok (.istore_n 3, 1) := by decide +kernel
theorem dX6_tells_24 : decode cX6_tells 24 = .ok (.iload_n 3, 1) := by decide +kernel
theorem dX6_tells_25 : decode cX6_tells 25 = .ok (.bipush 20, 2) := by decide +kernel
theorem dX6_tells_27 : decode cX6_tells 27 = .ok (.if_icmp .ge 33, 3) := by decide +kernel
theorem dX6_tells_30 : decode cX6_tells 30 = .ok (.aload_n 0, 1) := by decide +kernel
theorem dX6_tells_31 : decode cX6_tells 31 = .ok (.getfield 20, 3) := by decide +kernel
theorem dX6_tells_34 : decode cX6_tells 34 = .ok (.bipush 20, 2) := by decide +kernel
theorem dX6_tells_36 : decode cX6_tells 36 = .ok (.iload_n 2, 1) := by decide +kernel
theorem dX6_tells_37 : decode cX6_tells 37 = .ok (.imul, 1) := by decide +kernel
theorem dX6_tells_38 : decode cX6_tells 38 = .ok (.iload_n 3, 1) := by decide +kernel
theorem dX6_tells_39 : decode cX6_tells 39 = .ok (.iadd, 1) := by decide +kernel
theorem dX6_tells_40 : decode cX6_tells 40 = .ok (.iload_n 3, 1) := by decide +kernel
theorem dX6_tells_41 : decode cX6_tells 41 = .ok (.bipush 10, 2) := by decide +kernel
theorem dX6_tells_43 : decode cX6_tells 43 = .ok (.if_icmp .ge 9, 3) := by decide +kernel
theorem dX6_tells_46 : decode cX6_tells 46 = .ok (.aload_n 1, 1) := by decide +kernel
theorem dX6_tells_47 : decode cX6_tells 47 = .ok (.iload_n 3, 1) := by decide +kernel
theorem dX6_tells_48 : decode cX6_tells 48 = .ok (.iaload, 1) := by decide +kernel
theorem dX6_tells_49 : decode cX6_tells 49 = .ok (.goto 4, 3) := by decide +kernel
theorem dX6_tells_52 : decode cX6_tells 52 = .ok (.iconst 0, 1) := by decide +kernel
theorem dX6_tells_53 : decode cX6_tells 53 = .ok (.iastore, 1) := by decide +kernel
theorem dX6_tells_54 : decode cX6_tells 54 = .ok (.iinc 3 1, 3) := by decide +kernel
theorem dX6_tells_57 : decode cX6_tells 57 = .ok (.goto (-33), 3) := by decide +kernel
theorem dX6_tells_60 : decode cX6_tells 60 = .ok (.aload_n 1, 1) := by decide +kernel
theorem dX6_tells_61 : decode cX6_tells 61 = .ok (.bipush 9, 2) := by decide +kernel
theorem dX6_tells_63 : decode cX6_tells 63 = .ok (.iaload, 1) := by decide +kernel
theorem dX6_tells_64 : decode cX6_tells 64 = .ok (.ireturn, 1) := by decide +kernel
theorem dX6_set_0 : decode cX6_set 0 = .ok (.iconst 0, 1) := by decide +kernel
theorem dX6_set_1 : decode cX6_set 1 = .ok (.istore_n 2, 1) := by decide +kernel
theorem dX6_set_2 : decode cX6_set 2 = .ok (.iload_n 2, 1) := by decide +kernel
theorem dX6_set_3 : decode cX6_set 3 = .ok (.bipush 10, 2) := by decide +kernel
theorem dX6_set_5 : decode cX6_set 5 = .ok (.if_icmp .ge 15, 3) := by decide +kernel
theorem dX6_set_8 : decode cX6_set 8 = .ok (.aload_n 1, 1) := by decide +kernel
theorem dX6_set_9 : decode cX6_set 9 = .ok (.iload_n 2, 1) := by decide +kernel
theorem dX6_set_10 : decode cX6_set 10 = .ok (.aload_n 0, 1) := by decide +kernel
theorem dX6_set_11 : decode cX6_set 11 = .ok (.iload_n 2, 1) := by decide +kernel
theorem dX6_set_12 : decode cX6_set 12 = .ok (.iaload, 1) := by decide +kernel
theorem dX6_set_13 : decode cX6_set 13 = .ok (.iastore, 1) := by decide +kernel
theorem dX6_set_14 : decode cX6_set 14 = .ok (.iinc 2 1, 3) := by decide +kernel
theorem dX6_set_17 : decode cX6_set 17 = .ok (.goto (-15), 3) := by decide +kernel
theorem dX6_set_20 : decode cX6_set 20 = .ok (.return_, 1) := by decide +kernel
theorem dX6_times_0 : decode cX6_times 0 = .ok (.iconst 0, 1) := by decide +kernel
theorem dX6_times_1 : decode cX6_times 1 = .ok (.istore_n 3, 1) := by decide +kernel
theorem dX6_times_2 : decode cX6_times 2 = .ok (.iload_n 3, 1) := by decide +kernel
theorem dX6_times_3 : decode cX6_times 3 = .ok (.bipush 10, 2) := by decide +kernel
theorem dX6_times_5 : decode cX6_times 5 = .ok (.if_icmp .ge 53, 3) := by decide +kernel
theorem dX6_times_8 : decode cX6_times 8 = .ok (.lconst 0, 1) := by decide +kernel
theorem dX6_times_9 : decode cX6_times 9 = .ok (.lstore 4, 2) := by decide +kernel
theorem dX6_times_11 : decode cX6_times 11 = .ok (.iconst 0, 1) := by decide +kernel
theorem dX6_times_12 : decode cX6_times 12 = .ok (.istore 6, 2) := by decide +kernel
theorem dX6_times_14 : decode cX6_times 14 = .ok (.iload 6, 2) := by decide +kernel
theorem dX6_times_16 : decode cX6_times 16 = .ok (.iload_n 3, 1) := by decide +kernel
theorem dX6_times_17 : decode cX6_times 17 = .ok (.if_icmp .gt 27, 3) := by decide +kernel
theorem dX6_times_20 : decode cX6_times 20 = .ok (.lload 4, 2) := by decide +kernel
theorem dX6_times_22 : decode cX6_times 22 = .ok (.aload_n 0, 1) := by decide +kernel
theorem dX6_times_23 : decode cX6_times 23 = .ok (.iload 6, 2) := by decide +kernel
theorem dX6_times_25 : decode cX6_times 25 = .ok (.iaload, 1) := by decide +kernel
theorem dX6_times_26 : decode cX6_times 26 = .ok (.i2l, 1) := by decide +kernel
theorem dX6_times_27 : decode cX6_times 27 = .ok (.aload_n 1, 1) := by decide +kernel
theorem dX6_times_28 : decode cX6_times 28 = .ok (.iload_n 3, 1) := by decide +kernel
theorem dX6_times_29 : decode cX6_times 29 = .ok (.iload 6, 2) := by decide +kernel
theorem dX6_times_31 : decode cX6_times 31 = .ok (.isub, 1) := by decide +kernel
theorem dX6_times_32 : decode cX6_times 32 = .ok (.iaload, 1) := by decide +kernel
theorem dX6_times_33 : decode cX6_times 33 = .ok (.i2l, 1) := by decide +kernel
theorem dX6_times_34 : decode cX6_times 34 = .ok (.lmul, 1) := by decide +kernel
theorem dX6_times_35 : decode cX6_times 35 = .ok (.ladd, 1) := by decide +kernel
theorem dX6_times_36 : decode cX6_times 36 = .ok (.lstore 4, 2) := by decide +kernel
theorem dX6_times_38 : decode cX6_times 38 = .ok (.iinc 6 1, 3) := by decide +kernel
theorem dX6_times_41 : decode cX6_times 41 = .ok (.goto (-27), 3) := by decide +kernel
theorem dX6_times_44 : decode cX6_times 44 = .ok (.aload_n 2, 1) := by decide +kernel
theorem dX6_times_45 : decode cX6_times 45 = .ok (.iload_n 3, 1) := by decide +kernel
theorem dX6_times_46 : decode cX6_times 46 = .ok (.lload 4, 2) := by decide +kernel
theorem dX6_times_48 : decode cX6_times 48 = .ok (.invokestatic 62, 3) := by decide +kernel
theorem dX6_times_51 : decode cX6_times 51 = .ok (.iastore, 1) := by decide +kernel
theorem dX6_times_52 : decode cX6_times 52 = .ok (.iinc 3 1, 3) := by decide +kernel
theorem dX6_times_55 : decode cX6_times 55 = .ok (.goto (-53), 3) := by decide +kernel
theorem dX6_times_58 : decode cX6_times 58 = .ok (.return_, 1) := by decide +kernel
theorem dX6_by_0 : decode cX6_by 0 = .ok (.aload_n 1, 1) := by decide +kernel
theorem dX6_by_1 : decode cX6_by 1 = .ok (.iconst 0, 1) := by decide +kernel
theorem dX6_by_2 : decode cX6_by 2 = .ok (.iaload, 1) := by decide +kernel
theorem dX6_by_3 : decode cX6_by 3 = .ok (.invokestatic 87, 3) := by decide +kernel
theorem dX6_by_6 : decode cX6_by 6 = .ok (.istore_n 3, 1) := by decide +kernel
theorem dX6_by_7 : decode cX6_by 7 = .ok (.iconst 0, 1) := by decide +kernel
theorem dX6_by_8 : decode cX6_by 8 = .ok (.istore 4, 2) := by decide +kernel
theorem dX6_by_10 : decode cX6_by 10 = .ok (.iload 4, 2) := by decide +kernel
theorem dX6_by_12 : decode cX6_by 12 = .ok (.bipush 10, 2) := by decide +kernel
theorem dX6_by_14 : decode cX6_by 14 = .ok (.if_icmp .ge 67, 3) := by decide +kernel
theorem dX6_by_17 : decode cX6_by 17 = .ok (.aload_n 0, 1) := by decide +kernel
theorem dX6_by_18 : decode cX6_by 18 = .ok (.iload 4, 2) := by decide +kernel
theorem dX6_by_20 : decode cX6_by 20 = .ok (.iaload, 1) := by decide +kernel
theorem dX6_by_21 : decode cX6_by 21 = .ok (.i2l, 1) := by decide +kernel
theorem dX6_by_22 : decode cX6_by 22 = .ok (.lstore 5, 2) := by decide +kernel
theorem dX6_by_24 : decode cX6_by 24 = .ok (.iconst 0, 1) := by decide +kernel
theorem dX6_by_25 : decode cX6_by 25 = .ok (.istore 7, 2) := by decide +kernel
theorem dX6_by_27 : decode cX6_by 27 = .ok (.iload 7, 2) := by decide +kernel
theorem dX6_by_29 : decode cX6_by 29 = .ok (.iload 4, 2) := by decide +kernel
theorem dX6_by_31 : decode cX6_by 31 = .ok (.if_icmp .ge 28, 3) := by decide +kernel
theorem dX6_by_34 : decode cX6_by 34 = .ok (.lload 5, 2) := by decide +kernel
theorem dX6_by_36 : decode cX6_by 36 = .ok (.aload_n 2, 1) := by decide +kernel
theorem dX6_by_37 : decode cX6_by 37 = .ok (.iload 7, 2) := by decide +kernel
theorem dX6_by_39 : decode cX6_by 39 = .ok (.iaload, 1) := by decide +kernel
theorem dX6_by_40 : decode cX6_by 40 = .ok (.i2l, 1) := by decide +kernel
theorem dX6_by_41 : decode cX6_by 41 = .ok (.aload_n 1, 1) := by decide +kernel
theorem dX6_by_42 : decode cX6_by 42 = .ok (.iload 4, 2) := by decide +kernel
theorem dX6_by_44 : decode cX6_by 44 = .ok (.iload 7, 2) := by decide +kernel
theorem dX6_by_46 : decode cX6_by 46 = .ok (.isub, 1) := by decide +kernel
theorem dX6_by_47 : decode cX6_by 47 = .ok (.iaload, 1) := by decide +kernel
theorem dX6_by_48 : decode cX6_by 48 = .ok (.i2l, 1) := by decide +kernel
theorem dX6_by_49 : decode cX6_by 49 = .ok (.lmul, 1) := by decide +kernel
theorem dX6_by_50 : decode cX6_by 50 = .ok (.lsub, 1) := by decide +kernel
theorem dX6_by_51 : decode cX6_by 51 = .ok (.lstore 5, 2) := by decide +kernel
theorem dX6_by_53 : decode cX6_by 53 = .ok (.iinc 7 1, 3) := by decide +kernel
theorem dX6_by_56 : decode cX6_by 56 = .ok (.goto (-29), 3) := by decide +kernel
theorem dX6_by_59 : decode cX6_by 59 = .ok (.aload_n 2, 1) := by decide +kernel
theorem dX6_by_60 : decode cX6_by 60 = .ok (.iload 4, 2) := by decide +kernel
theorem dX6_by_62 : decode cX6_by 62 = .ok (.lload 5, 2) := by decide +kernel
theorem dX6_by_64 : decode cX6_by 64 = .ok (.invokestatic 62, 3) := by decide +kernel
theorem dX6_by_67 : decode cX6_by 67 = .ok (.i2l, 1) := by decide +kernel
theorem dX6_by_68 : decode cX6_by 68 = .ok (.iload_n 3, 1) := by decide +kernel
theorem dX6_by_69 : decode cX6_by 69 = .ok (.i2l, 1) := by decide +kernel
theorem dX6_by_70 : decode cX6_by 70 = .ok (.lmul, 1) := by decide +kernel
theorem dX6_by_71 : decode cX6_by 71 = .ok (.invokestatic 62, 3) := by decide +kernel
theorem dX6_by_74 : decode cX6_by 74 = .ok (.iastore, 1) := by decide +kernel
theorem dX6_by_75 : decode cX6_by 75 = .ok (.iinc 4 1, 3) := by decide +kernel
theorem dX6_by_78 : decode cX6_by 78 = .ok (.goto (-68), 3) := by decide +kernel
theorem dX6_by_81 : decode cX6_by 81 = .ok (.return_, 1) := by decide +kernel
theorem dX6_one_0 : decode cX6_one 0 = .ok (.iconst 0, 1) := by decide +kernel
theorem dX6_one_1 : decode cX6_one 1 = .ok (.istore_n 1, 1) := by decide +kernel
theorem dX6_one_2 : decode cX6_one 2 = .ok (.iload_n 1, 1) := by decide +kernel
theorem dX6_one_3 : decode cX6_one 3 = .ok (.bipush 10, 2) := by decide +kernel
theorem dX6_one_5 : decode cX6_one 5 = .ok (.if_icmp .ge 21, 3) := by decide +kernel
theorem dX6_one_8 : decode cX6_one 8 = .ok (.aload_n 0, 1) := by decide +kernel
theorem dX6_one_9 : decode cX6_one 9 = .ok (.iload_n 1, 1) := by decide +kernel
theorem dX6_one_10 : decode cX6_one 10 = .ok (.iload_n 1, 1) := by decide +kernel
theorem dX6_one_11 : decode cX6_one 11 = .ok (.ifCond .ne 7, 3) := by decide +kernel
theorem dX6_one_14 : decode cX6_one 14 = .ok (.iconst 1, 1) := by decide +kernel
theorem dX6_one_15 : decode cX6_one 15 = .ok (.goto 4, 3) := by decide +kernel
theorem dX6_one_18 : decode cX6_one 18 = .ok (.iconst 0, 1) := by decide +kernel
theorem dX6_one_19 : decode cX6_one 19 = .ok (.iastore, 1) := by decide +kernel
theorem dX6_one_20 : decode cX6_one 20 = .ok (.iinc 1 1, 3) := by decide +kernel
theorem dX6_one_23 : decode cX6_one 23 = .ok (.goto (-21), 3) := by decide +kernel
theorem dX6_one_26 : decode cX6_one 26 = .ok (.return_, 1) := by decide +kernel
theorem dX6_puts_0 : decode cX6_puts 0 = .ok (.aload_n 0, 1) := by decide +kernel
theorem dX6_puts_1 : decode cX6_puts 1 = .ok (.getfield 44, 3) := by decide +kernel
theorem dX6_puts_4 : decode cX6_puts 4 = .ok (.invokestatic 90, 3) := by decide +kernel
theorem dX6_puts_7 : decode cX6_puts 7 = .ok (.iconst 0, 1) := by decide +kernel
theorem dX6_puts_8 : decode cX6_puts 8 = .ok (.istore 4, 2) := by decide +kernel
theorem dX6_puts_10 : decode cX6_puts 10 = .ok (.iload 4, 2) := by decide +kernel
theorem dX6_puts_12 : decode cX6_puts 12 = .ok (.bipush 10, 2) := by decide +kernel
theorem dX6_puts_14 : decode cX6_puts 14 = .ok (.if_icmp .ge 17, 3) := by decide +kernel
theorem dX6_puts_17 : decode cX6_puts 17 = .ok (.aload_n 0, 1) := by decide +kernel
theorem dX6_puts_18 : decode cX6_puts 18 = .ok (.getfield 47, 3) := by decide +kernel
theorem dX6_puts_21 : decode cX6_puts 21 = .ok (.iload 4, 2) := by decide +kernel
theorem dX6_puts_23 : decode cX6_puts 23 = .ok (.iconst 0, 1) := by decide +kernel
theorem dX6_puts_24 : decode cX6_puts 24 = .ok (.iastore, 1) := by decide +kernel
theorem dX6_puts_25 : decode cX6_puts 25 = .ok (.iinc 4 1, 3) := by decide +kernel
theorem dX6_puts_28 : decode cX6_puts 28 = .ok (.goto (-18), 3) := by decide +kernel
theorem dX6_puts_31 : decode cX6_puts 31 = .ok (.iconst 0, 1) := by decide +kernel
theorem dX6_puts_32 : decode cX6_puts 32 = .ok (.istore 4, 2) := by decide +kernel
theorem dX6_puts_34 : decode cX6_puts 34 = .ok (.iload 4, 2) := by decide +kernel
theorem dX6_puts_36 : decode cX6_puts 36 = .ok (.bipush 10, 2) := by decide +kernel
theorem dX6_puts_38 : decode cX6_puts 38 = .ok (.if_icmp .ge 81, 3) := by decide +kernel
theorem dX6_puts_41 : decode cX6_puts 41 = .ok (.iconst 0, 1) := by decide +kernel
theorem dX6_puts_42 : decode cX6_puts 42 = .ok (.istore 5, 2) := by decide +kernel
theorem dX6_puts_44 : decode cX6_puts 44 = .ok (.iload 5, 2) := by decide +kernel
theorem dX6_puts_46 : decode cX6_puts 46 = .ok (.bipush 10, 2) := by decide +kernel
theorem dX6_puts_48 : decode cX6_puts 48 = .ok (.if_icmp .ge 42, 3) := by decide +kernel
theorem dX6_puts_51 : decode cX6_puts 51 = .ok (.aload_n 0, 1) := by decide +kernel
theorem dX6_puts_52 : decode cX6_puts 52 = .ok (.getfield 47, 3) := by decide +kernel
theorem dX6_puts_55 : decode cX6_puts 55 = .ok (.iload 5, 2) := by decide +kernel
theorem dX6_puts_57 : decode cX6_puts 57 = .ok (.aload_n 0, 1) := by decide +kernel
theorem dX6_puts_58 : decode cX6_puts 58 = .ok (.getfield 47, 3) := by decide +kernel
theorem dX6_puts_61 : decode cX6_puts 61 = .ok (.iload 5, 2) := by decide +kernel
theorem dX6_puts_63 : decode cX6_puts 63 = .ok (.iaload, 1) := by decide +kernel
theorem dX6_puts_64 : decode cX6_puts 64 = .ok (.i2l, 1) := by decide +kernel
theorem dX6_puts_65 : decode cX6_puts 65 = .ok (.aload_n 1, 1) := by decide +kernel
theorem dX6_puts_66 : decode cX6_puts 66 = .ok (.iload 4, 2) := by decide +kernel
theorem dX6_puts_68 : decode cX6_puts 68 = .ok (.iaload, 1) := by decide +kernel
theorem dX6_puts_69 : decode cX6_puts 69 = .ok (.i2l, 1) := by decide +kernel
theorem dX6_puts_70 : decode cX6_puts 70 = .ok (.aload_n 0, 1) := by decide +kernel
theorem dX6_puts_71 : decode cX6_puts 71 = .ok (.getfield 44, 3) := by decide +kernel
theorem dX6_puts_74 : decode cX6_puts 74 = .ok (.iload 5, 2) := by decide +kernel
theorem dX6_puts_76 : decode cX6_puts 76 = .ok (.iaload, 1) := by decide +kernel
theorem dX6_puts_77 : decode cX6_puts 77 = .ok (.i2l, 1) := by decide +kernel
theorem dX6_puts_78 : decode cX6_puts 78 = .ok (.lmul, 1) := by decide +kernel
theorem dX6_puts_79 : decode cX6_puts 79 = .ok (.ladd, 1) := by decide +kernel
theorem dX6_puts_80 : decode cX6_puts 80 = .ok (.invokestatic 62, 3) := by decide +kernel
theorem dX6_puts_83 : decode cX6_puts 83 = .ok (.iastore, 1) := by decide +kernel
theorem dX6_puts_84 : decode cX6_puts 84 = .ok (.iinc 5 1, 3) := by decide +kernel
theorem dX6_puts_87 : decode cX6_puts 87 = .ok (.goto (-43), 3) := by decide +kernel
theorem dX6_puts_90 : decode cX6_puts 90 = .ok (.aload_n 0, 1) := by decide +kernel
theorem dX6_puts_91 : decode cX6_puts 91 = .ok (.getfield 44, 3) := by decide +kernel
theorem dX6_puts_94 : decode cX6_puts 94 = .ok (.aload_n 2, 1) := by decide +kernel
theorem dX6_puts_95 : decode cX6_puts 95 = .ok (.aload_n 0, 1) := by decide +kernel
theorem dX6_puts_96 : decode cX6_puts 96 = .ok (.getfield 41, 3) := by decide +kernel
theorem dX6_puts_99 : decode cX6_puts 99 = .ok (.invokestatic 94, 3) := by decide +kernel
theorem dX6_puts_102 : decode cX6_puts 102 = .ok (.aload_n 0, 1) := by decide +kernel
theorem dX6_puts_103 : decode cX6_puts 103 = .ok (.getfield 41, 3) := by decide +kernel
theorem dX6_puts_106 : decode cX6_puts 106 = .ok (.aload_n 0, 1) := by decide +kernel
theorem dX6_puts_107 : decode cX6_puts 107 = .ok (.getfield 44, 3) := by decide +kernel
theorem dX6_puts_110 : decode cX6_puts 110 = .ok (.invokestatic 98, 3) := by decide +kernel
theorem dX6_puts_113 : decode cX6_puts 113 = .ok (.iinc 4 1, 3) := by decide +kernel
theorem dX6_puts_116 : decode cX6_puts 116 = .ok (.goto (-82), 3) := by decide +kernel
theorem dX6_puts_119 : decode cX6_puts 119 = .ok (.aload_n 0, 1) := by decide +kernel
theorem dX6_puts_120 : decode cX6_puts 120 = .ok (.getfield 47, 3) := by decide +kernel
theorem dX6_puts_123 : decode cX6_puts 123 = .ok (.aload_n 3, 1) := by decide +kernel
theorem dX6_puts_124 : decode cX6_puts 124 = .ok (.invokestatic 98, 3) := by decide +kernel
theorem dX6_puts_127 : decode cX6_puts 127 = .ok (.return_, 1) := by decide +kernel
theorem dX6_canTurn_0 : decode cX6_canTurn 0 = .ok (.aload_n 0, 1) := by decide +kernel
theorem dX6_canTurn_1 : decode cX6_canTurn 1 = .ok (.iconst 0, 1) := by decide +kernel
theorem dX6_canTurn_2 : decode cX6_canTurn 2 = .ok (.iaload, 1) := by decide +kernel
theorem dX6_canTurn_3 : decode cX6_canTurn 3 = .ok (.ifCond .ne 13, 3) := by decide +kernel
theorem dX6_canTurn_6 : decode cX6_canTurn 6 = .ok (.aload_n 0, 1) := by decide +kernel
theorem dX6_canTurn_7 : decode cX6_canTurn 7 = .ok (.iconst 1, 1) := by decide +kernel
theorem dX6_canTurn_8 : decode cX6_canTurn 8 = .ok (.iaload, 1) := by decide +kernel
theorem dX6_canTurn_9 : decode cX6_canTurn 9 = .ok (.ifCond .eq 7, 3) := by decide +kernel
theorem dX6_canTurn_12 : decode cX6_canTurn 12 = .ok (.iconst 1, 1) := by decide +kernel
theorem dX6_canTurn_13 : decode cX6_canTurn 13 = .ok (.goto 4, 3) := by decide +kernel
theorem dX6_canTurn_16 : decode cX6_canTurn 16 = .ok (.iconst 0, 1) := by decide +kernel
theorem dX6_canTurn_17 : decode cX6_canTurn 17 = .ok (.ireturn, 1) := by decide +kernel
theorem dX6_turns_0 : decode cX6_turns 0 = .ok (.iconst 0, 1) := by decide +kernel
theorem dX6_turns_1 : decode cX6_turns 1 = .ok (.istore_n 3, 1) := by decide +kernel
theorem dX6_turns_2 : decode cX6_turns 2 = .ok (.iload_n 3, 1) := by decide +kernel
theorem dX6_turns_3 : decode cX6_turns 3 = .ok (.bipush 10, 2) := by decide +kernel
theorem dX6_turns_5 : decode cX6_turns 5 = .ok (.if_icmp .ge 13, 3) := by decide +kernel
theorem dX6_turns_8 : decode cX6_turns 8 = .ok (.aload_n 2, 1) := by decide +kernel
theorem dX6_turns_9 : decode cX6_turns 9 = .ok (.iload_n 3, 1) := by decide +kernel
theorem dX6_turns_10 : decode cX6_turns 10 = .ok (.iconst 0, 1) := by decide +kernel
theorem dX6_turns_11 : decode cX6_turns 11 = .ok (.iastore, 1) := by decide +kernel
theorem dX6_turns_12 : decode cX6_turns 12 = .ok (.iinc 3 1, 3) := by decide +kernel
theorem dX6_turns_15 : decode cX6_turns 15 = .ok (.goto (-13), 3) := by decide +kernel
theorem dX6_turns_18 : decode cX6_turns 18 = .ok (.aload_n 1, 1) := by decide +kernel
theorem dX6_turns_19 : decode cX6_turns 19 = .ok (.iconst 1, 1) := by decide +kernel
theorem dX6_turns_20 : decode cX6_turns 20 = .ok (.iaload, 1) := by decide +kernel
theorem dX6_turns_21 : decode cX6_turns 21 = .ok (.invokestatic 87, 3) := by decide +kernel
theorem dX6_turns_24 : decode cX6_turns 24 = .ok (.istore_n 3, 1) := by decide +kernel
theorem dX6_turns_25 : decode cX6_turns 25 = .ok (.iconst 1, 1) := by decide +kernel
theorem dX6_turns_26 : decode cX6_turns 26 = .ok (.istore 4, 2) := by decide +kernel
theorem dX6_turns_28 : decode cX6_turns 28 = .ok (.iload 4, 2) := by decide +kernel
theorem dX6_turns_30 : decode cX6_turns 30 = .ok (.bipush 10, 2) := by decide +kernel
theorem dX6_turns_32 : decode cX6_turns 32 = .ok (.if_icmp .ge 57, 3) := by decide +kernel
theorem dX6_turns_35 : decode cX6_turns 35 = .ok (.aload_n 0, 1) := by decide +kernel
theorem dX6_turns_36 : decode cX6_turns 36 = .ok (.aload_n 1, 1) := by decide +kernel
theorem dX6_turns_37 : decode cX6_turns 37 = .ok (.aload_n 2, 1) := by decide +kernel
theorem dX6_turns_38 : decode cX6_turns 38 = .ok (.aload_n 0, 1) := by decide +kernel
theorem dX6_turns_39 : decode cX6_turns 39 = .ok (.getfield 38, 3) := by decide +kernel
theorem dX6_turns_42 : decode cX6_turns 42 = .ok (.invokevirtual 102, 3) := by decide +kernel
theorem dX6_turns_45 : decode cX6_turns 45 = .ok (.iload 4, 2) := by decide +kernel
theorem dX6_turns_47 : decode cX6_turns 47 = .ok (.iconst 1, 1) := by decide +kernel
theorem dX6_turns_48 : decode cX6_turns 48 = .ok (.if_icmp .ne 7, 3) := by decide +kernel
theorem dX6_turns_51 : decode cX6_turns 51 = .ok (.iconst 1, 1) := by decide +kernel
theorem dX6_turns_52 : decode cX6_turns 52 = .ok (.goto 4, 3) := by decide +kernel
theorem dX6_turns_55 : decode cX6_turns 55 = .ok (.iconst 0, 1) := by decide +kernel
theorem dX6_turns_56 : decode cX6_turns 56 = .ok (.aload_n 0, 1) := by decide +kernel
theorem dX6_turns_57 : decode cX6_turns 57 = .ok (.getfield 38, 3) := by decide +kernel
theorem dX6_turns_60 : decode cX6_turns 60 = .ok (.iload 4, 2) := by decide +kernel
theorem dX6_turns_62 : decode cX6_turns 62 = .ok (.iaload, 1) := by decide +kernel
theorem dX6_turns_63 : decode cX6_turns 63 = .ok (.isub, 1) := by decide +kernel
theorem dX6_turns_64 : decode cX6_turns 64 = .ok (.i2l, 1) := by decide +kernel
theorem dX6_turns_65 : decode cX6_turns 65 = .ok (.invokestatic 62, 3) := by decide +kernel
theorem dX6_turns_68 : decode cX6_turns 68 = .ok (.istore 5, 2) := by decide +kernel
theorem dX6_turns_70 : decode cX6_turns 70 = .ok (.aload_n 2, 1) := by decide +kernel
theorem dX6_turns_71 : decode cX6_turns 71 = .ok (.iload 4, 2) := by decide +kernel
theorem dX6_turns_73 : decode cX6_turns 73 = .ok (.iload 5, 2) := by decide +kernel
theorem dX6_turns_75 : decode cX6_turns 75 = .ok (.i2l, 1) := by decide +kernel
theorem dX6_turns_76 : decode cX6_turns 76 = .ok (.iload_n 3, 1) := by decide +kernel
theorem dX6_turns_77 : decode cX6_turns 77 = .ok (.i2l, 1) := by decide +kernel
theorem dX6_turns_78 : decode cX6_turns 78 = .ok (.lmul, 1) := by decide +kernel
theorem dX6_turns_79 : decode cX6_turns 79 = .ok (.invokestatic 62, 3) := by decide +kernel
theorem dX6_turns_82 : decode cX6_turns 82 = .ok (.iastore, 1) := by decide +kernel
theorem dX6_turns_83 : decode cX6_turns 83 = .ok (.iinc 4 1, 3) := by decide +kernel
theorem dX6_turns_86 : decode cX6_turns 86 = .ok (.goto (-58), 3) := by decide +kernel
theorem dX6_turns_89 : decode cX6_turns 89 = .ok (.return_, 1) := by decide +kernel
theorem dX6_term_0 : decode cX6_term 0 = .ok (.iload_n 1, 1) := by decide +kernel
theorem dX6_term_1 : decode cX6_term 1 = .ok (.invokestatic 74, 3) := by decide +kernel
theorem dX6_term_4 : decode cX6_term 4 = .ok (.ifCond .eq 13, 3) := by decide +kernel
theorem dX6_term_7 : decode cX6_term 7 = .ok (.iload_n 2, 1) := by decide +kernel
theorem dX6_term_8 : decode cX6_term 8 = .ok (.iconst 0, 1) := by decide +kernel
theorem dX6_term_9 : decode cX6_term 9 = .ok (.bipush 9, 2) := by decide +kernel
theorem dX6_term_11 : decode cX6_term 11 = .ok (.invokestatic 70, 3) := by decide +kernel
theorem dX6_term_14 : decode cX6_term 14 = .ok (.ifCond .ne 6, 3) := by decide +kernel
theorem dX6_term_17 : decode cX6_term 17 = .ok (.bipush (-2), 2) := by decide +kernel
theorem dX6_term_19 : decode cX6_term 19 = .ok (.ireturn, 1) := by decide +kernel
theorem dX6_term_20 : decode cX6_term 20 = .ok (.aload_n 0, 1) := by decide +kernel
theorem dX6_term_21 : decode cX6_term 21 = .ok (.getfield 7, 3) := by decide +kernel
theorem dX6_term_24 : decode cX6_term 24 = .ok (.iload_n 1, 1) := by decide +kernel
theorem dX6_term_25 : decode cX6_term 25 = .ok (.baload, 1) := by decide +kernel
theorem dX6_term_26 : decode cX6_term 26 = .ok (.ifCond .ne 9, 3) := by decide +kernel
theorem dX6_term_29 : decode cX6_term 29 = .ok (.aload_n 0, 1) := by decide +kernel
theorem dX6_term_30 : decode cX6_term 30 = .ok (.iconst 1, 1) := by decide +kernel
theorem dX6_term_31 : decode cX6_term 31 = .ok (.invokevirtual 78, 3) := by decide +kernel
theorem dX6_term_34 : decode cX6_term 34 = .ok (.ireturn, 1) := by decide +kernel
theorem dX6_term_35 : decode cX6_term 35 = .ok (.aload_n 0, 1) := by decide +kernel
theorem dX6_term_36 : decode cX6_term 36 = .ok (.iload_n 1, 1) := by decide +kernel
theorem dX6_term_37 : decode cX6_term 37 = .ok (.aload_n 0, 1) := by decide +kernel
theorem dX6_term_38 : decode cX6_term 38 = .ok (.getfield 26, 3) := by decide +kernel
theorem dX6_term_41 : decode cX6_term 41 = .ok (.invokevirtual 105, 3) := by decide +kernel
theorem dX6_term_44 : decode cX6_term 44 = .ok (.aload_n 0, 1) := by decide +kernel
theorem dX6_term_45 : decode cX6_term 45 = .ok (.getfield 26, 3) := by decide +kernel
theorem dX6_term_48 : decode cX6_term 48 = .ok (.iload_n 2, 1) := by decide +kernel
theorem dX6_term_49 : decode cX6_term 49 = .ok (.iaload, 1) := by decide +kernel
theorem dX6_term_50 : decode cX6_term 50 = .ok (.ireturn, 1) := by decide +kernel
theorem dX6_kind_0 : decode cX6_kind 0 = .ok (.iload_n 1, 1) := by decide +kernel
theorem dX6_kind_1 : decode cX6_kind 1 = .ok (.invokestatic 74, 3) := by decide +kernel
theorem dX6_kind_4 : decode cX6_kind 4 = .ok (.ifCond .eq 24, 3) := by decide +kernel
theorem dX6_kind_7 : decode cX6_kind 7 = .ok (.iload_n 2, 1) := by decide +kernel
theorem dX6_kind_8 : decode cX6_kind 8 = .ok (.iconst 0, 1) := by decide +kernel
theorem dX6_kind_9 : decode cX6_kind 9 = .ok (.bipush 7, 2) := by decide +kernel
theorem dX6_kind_11 : decode cX6_kind 11 = .ok (.invokestatic 70, 3) := by decide +kernel
theorem dX6_kind_14 : decode cX6_kind 14 = .ok (.ifCond .eq 14, 3) := by decide +kernel
theorem dX6_kind_17 : decode cX6_kind 17 = .ok (.iload_n 3, 1) := by decide +kernel
theorem dX6_kind_18 : decode cX6_kind 18 = .ok (.iconst 0, 1) := by decide +kernel
theorem dX6_kind_19 : decode cX6_kind 19 = .ok (.sipush 10006, 3) := by decide +kernel
theorem dX6_kind_22 : decode cX6_kind 22 = .ok (.invokestatic 70, 3) := by decide +kernel
theorem dX6_kind_25 : decode cX6_kind 25 = .ok (.ifCond .ne 6, 3) := by decide +kernel
theorem dX6_kind_28 : decode cX6_kind 28 = .ok (.bipush (-2), 2) := by decide +kernel
theorem dX6_kind_30 : decode cX6_kind 30 = .ok (.ireturn, 1) := by decide +kernel
theorem dX6_kind_31 : decode cX6_kind 31 = .ok (.iconst 0, 1) := by decide +kernel
theorem dX6_kind_32 : decode cX6_kind 32 = .ok (.istore 4, 2) := by decide +kernel
theorem dX6_kind_34 : decode cX6_kind 34 = .ok (.iload 4, 2) := by decide +kernel
theorem dX6_kind_36 : decode cX6_kind 36 = .ok (.bipush 10, 2) := by decide +kernel
theorem dX6_kind_38 : decode cX6_kind 38 = .ok (.if_icmp .ge 243, 3) := by decide +kernel
theorem dX6_kind_41 : decode cX6_kind 41 = .ok (.iload_n 3, 1) := by decide +kernel
theorem dX6_kind_42 : decode cX6_kind 42 = .ok (.iload 4, 2) := by decide +kernel
theorem dX6_kind_44 : decode cX6_kind 44 = .ok (.invokestatic 58, 3) := by decide +kernel
theorem dX6_kind_47 : decode cX6_kind 47 = .ok (.i2l, 1) := by decide +kernel
theorem dX6_kind_48 : decode cX6_kind 48 = .ok (.iload 4, 2) := by decide +kernel
theorem dX6_kind_50 : decode cX6_kind 50 = .ok (.invokestatic 109, 3) := by decide +kernel
theorem dX6_kind_53 : decode cX6_kind 53 = .ok (.invokestatic 87, 3) := by decide +kernel
theorem dX6_kind_56 : decode cX6_kind 56 = .ok (.i2l, 1) := by decide +kernel
theorem dX6_kind_57 : decode cX6_kind 57 = .ok (.lmul, 1) := by decide +kernel
theorem dX6_kind_58 : decode cX6_kind 58 = .ok (.invokestatic 62, 3) := by decide +kernel
theorem dX6_kind_61 : decode cX6_kind 61 = .ok (.istore 5, 2) := by decide +kernel
theorem dX6_kind_63 : decode cX6_kind 63 = .ok (.iload 4, 2) := by decide +kernel
theorem dX6_kind_65 : decode cX6_kind 65 = .ok (.ifCond .ne 7, 3) := by decide +kernel
theorem dX6_kind_68 : decode cX6_kind 68 = .ok (.iconst 0, 1) := by decide +kernel
theorem dX6_kind_69 : decode cX6_kind 69 = .ok (.goto 27, 3) := by decide +kernel
theorem dX6_kind_72 : decode cX6_kind 72 = .ok (.iload_n 3, 1) := by decide +kernel
theorem dX6_kind_73 : decode cX6_kind 73 = .ok (.iload 4, 2) := by decide +kernel
theorem dX6_kind_75 : decode cX6_kind 75 = .ok (.iconst 1, 1) := by decide +kernel
theorem dX6_kind_76 : decode cX6_kind 76 = .ok (.isub, 1) := by decide +kernel
theorem dX6_kind_77 : decode cX6_kind 77 = .ok (.invokestatic 58, 3) := by decide +kernel
theorem dX6_kind_80 : decode cX6_kind 80 = .ok (.i2l, 1) := by decide +kernel
theorem dX6_kind_81 : decode cX6_kind 81 = .ok (.iload 4, 2) := by decide +kernel
theorem dX6_kind_83 : decode cX6_kind 83 = .ok (.iconst 1, 1) := by decide +kernel
theorem dX6_kind_84 : decode cX6_kind 84 = .ok (.isub, 1) := by decide +kernel
theorem dX6_kind_85 : decode cX6_kind 85 = .ok (.invokestatic 109, 3) := by decide +kernel
theorem dX6_kind_88 : decode cX6_kind 88 = .ok (.invokestatic 87, 3) := by decide +kernel
theorem dX6_kind_91 : decode cX6_kind 91 = .ok (.i2l, 1) := by decide +kernel
theorem dX6_kind_92 : decode cX6_kind 92 = .ok (.lmul, 1) := by decide +kernel
theorem dX6_kind_93 : decode cX6_kind 93 = .ok (.invokestatic 62, 3) := by decide +kernel
theorem dX6_kind_96 : decode cX6_kind 96 = .ok (.istore 6, 2) := by decide +kernel
theorem dX6_kind_98 : decode cX6_kind 98 = .ok (.iload 4, 2) := by decide +kernel
theorem dX6_kind_100 : decode cX6_kind 100 = .ok (.ifCond .ne 7, 3) := by decide +kernel
theorem dX6_kind_103 : decode cX6_kind 103 = .ok (.iconst 0, 1) := by decide +kernel
theorem dX6_kind_104 : decode cX6_kind 104 = .ok (.goto 36, 3) := by decide +kernel
theorem dX6_kind_107 : decode cX6_kind 107 = .ok (.iload 4, 2) := by decide +kernel
theorem dX6_kind_109 : decode cX6_kind 109 = .ok (.iconst 2, 1) := by decide +kernel
theorem dX6_kind_110 : decode cX6_kind 110 = .ok (.irem, 1) := by decide +kernel
theorem dX6_kind_111 : decode cX6_kind 111 = .ok (.iconst 1, 1) := by decide +kernel
theorem dX6_kind_112 : decode cX6_kind 112 = .ok (.if_icmp .ne 7, 3) := by decide +kernel
theorem dX6_kind_115 : decode cX6_kind 115 = .ok (.lconst 1, 1) := by decide +kernel
theorem dX6_kind_116 : decode cX6_kind 116 = .ok (.goto 6, 3) := by decide +kernel
theorem dX6_kind_119 : decode cX6_kind 119 = .ok (.ldc2_w 112, 3) := by decide +kernel
theorem dX6_kind_122 : decode cX6_kind 122 = .ok (.iload_n 3, 1) := by decide +kernel
theorem dX6_kind_123 : decode cX6_kind 123 = .ok (.iload 4, 2) := by decide +kernel
theorem dX6_kind_125 : decode cX6_kind 125 = .ok (.invokestatic 58, 3) := by decide +kernel
theorem dX6_kind_128 : decode cX6_kind 128 = .ok (.i2l, 1) := by decide +kernel
theorem dX6_kind_129 : decode cX6_kind 129 = .ok (.lmul, 1) := by decide +kernel
theorem dX6_kind_130 : decode cX6_kind 130 = .ok (.iload 4, 2) := by decide +kernel
theorem dX6_kind_132 : decode cX6_kind 132 = .ok (.invokestatic 87, 3) := by decide +kernel
theorem dX6_kind_135 : decode cX6_kind 135 = .ok (.i2l, 1) := by decide +kernel
theorem dX6_kind_136 : decode cX6_kind 136 = .ok (.lmul, 1) := by decide +kernel
theorem dX6_kind_137 : decode cX6_kind 137 = .ok (.invokestatic 62, 3) := by decide +kernel
theorem dX6_kind_140 : decode cX6_kind 140 = .ok (.istore 7, 2) := by decide +kernel
theorem dX6_kind_142 : decode cX6_kind 142 = .ok (.iload 4, 2) := by decide +kernel
theorem dX6_kind_144 : decode cX6_kind 144 = .ok (.ifCond .ne 7, 3) := by decide +kernel
theorem dX6_kind_147 : decode cX6_kind 147 = .ok (.iconst 0, 1) := by decide +kernel
theorem dX6_kind_148 : decode cX6_kind 148 = .ok (.goto 16, 3) := by decide +kernel
theorem dX6_kind_151 : decode cX6_kind 151 = .ok (.iload_n 3, 1) := by decide +kernel
theorem dX6_kind_152 : decode cX6_kind 152 = .ok (.ineg, 1) := by decide +kernel
theorem dX6_kind_153 : decode cX6_kind 153 = .ok (.i2l, 1) := by decide +kernel
theorem dX6_kind_154 : decode cX6_kind 154 = .ok (.invokestatic 62, 3) := by decide +kernel
theorem dX6_kind_157 : decode cX6_kind 157 = .ok (.iload 4, 2) := by decide +kernel
theorem dX6_kind_159 : decode cX6_kind 159 = .ok (.iconst 1, 1) := by decide +kernel
theorem dX6_kind_160 : decode cX6_kind 160 = .ok (.isub, 1) := by decide +kernel
theorem dX6_kind_161 : decode cX6_kind 161 = .ok (.invokestatic 58, 3) := by decide +kernel
theorem dX6_kind_164 : decode cX6_kind 164 = .ok (.istore 8, 2) := by decide +kernel
theorem dX6_kind_166 : decode cX6_kind 166 = .ok (.aload_n 0, 1) := by decide +kernel
theorem dX6_kind_167 : decode cX6_kind 167 = .ok (.getfield 38, 3) := by decide +kernel
theorem dX6_kind_170 : decode cX6_kind 170 = .ok (.iload 4, 2) := by decide +kernel
theorem dX6_kind_172 : decode cX6_kind 172 = .ok (.iload_n 2, 1) := by decide +kernel
theorem dX6_kind_173 : decode cX6_kind 173 = .ok (.ifCond .ne 17, 3) := by decide +kernel
theorem dX6_kind_176 : decode cX6_kind 176 = .ok (.iload 4, 2) := by decide +kernel
theorem dX6_kind_178 : decode cX6_kind 178 = .ok (.iconst 1, 1) := by decide +kernel
theorem dX6_kind_179 : decode cX6_kind 179 = .ok (.if_icmp .ne 7, 3) := by decide +kernel
theorem dX6_kind_182 : decode cX6_kind 182 = .ok (.iconst 1, 1) := by decide +kernel
theorem dX6_kind_183 : decode cX6_kind 183 = .ok (.goto 91, 3) := by decide +kernel
theorem dX6_kind_186 : decode cX6_kind 186 = .ok (.iconst 0, 1) := by decide +kernel
theorem dX6_kind_187 : decode cX6_kind 187 = .ok (.goto 87, 3) := by decide +kernel
theorem dX6_kind_190 : decode cX6_kind 190 = .ok (.iload_n 2, 1) := by decide +kernel
theorem dX6_kind_191 : decode cX6_kind 191 = .ok (.iconst 1, 1) := by decide +kernel
theorem dX6_kind_192 : decode cX6_kind 192 = .ok (.if_icmp .ne 8, 3) := by decide +kernel
theorem dX6_kind_195 : decode cX6_kind 195 = .ok (.iload 5, 2) := by decide +kernel
theorem dX6_kind_197 : decode cX6_kind 197 = .ok (.goto 77, 3) := by decide +kernel
theorem dX6_kind_200 : decode cX6_kind 200 = .ok (.iload_n 2, 1) := by decide +kernel
theorem dX6_kind_201 : decode cX6_kind 201 = .ok (.iconst 2, 1) := by decide +kernel
theorem dX6_kind_202 : decode cX6_kind 202 = .ok (.if_icmp .ne 17, 3) := by decide +kernel
theorem dX6_kind_205 : decode cX6_kind 205 = .ok (.iload 4, 2) := by decide +kernel
theorem dX6_kind_207 : decode cX6_kind 207 = .ok (.ifCond .ne 7, 3) := by decide +kernel
theorem dX6_kind_210 : decode cX6_kind 210 = .ok (.iconst 0, 1) := by decide +kernel
theorem dX6_kind_211 : decode cX6_kind 211 = .ok (.goto 63, 3) := by decide +kernel
theorem dX6_kind_214 : decode cX6_kind 214 = .ok (.iload 5, 2) := by decide +kernel
theorem dX6_kind_216 : decode cX6_kind 216 = .ok (.goto 58, 3) := by decide +kernel
theorem dX6_kind_219 : decode cX6_kind 219 = .ok (.iload_n 2, 1) := by decide +kernel
theorem dX6_kind_220 : decode cX6_kind 220 = .ok (.iconst 3, 1) := by decide +kernel
theorem dX6_kind_221 : decode cX6_kind 221 = .ok (.if_icmp .ne 12, 3) := by decide +kernel
theorem dX6_kind_224 : decode cX6_kind 224 = .ok (.iload_n 3, 1) := by decide +kernel
theorem dX6_kind_225 : decode cX6_kind 225 = .ok (.iload 4, 2) := by decide +kernel
theorem dX6_kind_227 : decode cX6_kind 227 = .ok (.invokestatic 58, 3) := by decide +kernel
theorem dX6_kind_230 : decode cX6_kind 230 = .ok (.goto 44, 3) := by decide +kernel
theorem dX6_kind_233 : decode cX6_kind 233 = .ok (.iload_n 2, 1) := by decide +kernel
theorem dX6_kind_234 : decode cX6_kind 234 = .ok (.iconst 4, 1) := by decide +kernel
theorem dX6_kind_235 : decode cX6_kind 235 = .ok (.if_icmp .ne 8, 3) := by decide +kernel
theorem dX6_kind_238 : decode cX6_kind 238 = .ok (.iload 6, 2) := by decide +kernel
theorem dX6_kind_240 : decode cX6_kind 240 = .ok (.goto 34, 3) := by decide +kernel
theorem dX6_kind_243 : decode cX6_kind 243 = .ok (.iload_n 2, 1) := by decide +kernel
theorem dX6_kind_244 : decode cX6_kind 244 = .ok (.iconst 5, 1) := by decide +kernel
theorem dX6_kind_245 : decode cX6_kind 245 = .ok (.if_icmp .ne 8, 3) := by decide +kernel
theorem dX6_kind_248 : decode cX6_kind 248 = .ok (.iload 7, 2) := by decide +kernel
theorem dX6_kind_250 : decode cX6_kind 250 = .ok (.goto 24, 3) := by decide +kernel
theorem dX6_kind_253 : decode cX6_kind 253 = .ok (.iload_n 2, 1) := by decide +kernel
theorem dX6_kind_254 : decode cX6_kind 254 = .ok (.bipush 6, 2) := by decide +kernel
theorem dX6_kind_256 : decode cX6_kind 256 = .ok (.if_icmp .ne 8, 3) := by decide +kernel
theorem dX6_kind_259 : decode cX6_kind 259 = .ok (.iload 8, 2) := by decide +kernel
theorem dX6_kind_261 : decode cX6_kind 261 = .ok (.goto 13, 3) := by decide +kernel
theorem dX6_kind_264 : decode cX6_kind 264 = .ok (.iload 4, 2) := by decide +kernel
theorem dX6_kind_266 : decode cX6_kind 266 = .ok (.ifCond .ne 7, 3) := by decide +kernel
theorem dX6_kind_269 : decode cX6_kind 269 = .ok (.iload_n 3, 1) := by decide +kernel
theorem dX6_kind_270 : decode cX6_kind 270 = .ok (.goto 4, 3) := by decide +kernel
theorem dX6_kind_273 : decode cX6_kind 273 = .ok (.iconst 0, 1) := by decide +kernel
theorem dX6_kind_274 : decode cX6_kind 274 = .ok (.iastore, 1) := by decide +kernel
theorem dX6_kind_275 : decode cX6_kind 275 = .ok (.iinc 4 1, 3) := by decide +kernel
theorem dX6_kind_278 : decode cX6_kind 278 = .ok (.goto (-244), 3) := by decide +kernel
theorem dX6_kind_281 : decode cX6_kind 281 = .ok (.aload_n 0, 1) := by decide +kernel
theorem dX6_kind_282 : decode cX6_kind 282 = .ok (.aload_n 0, 1) := by decide +kernel
theorem dX6_kind_283 : decode cX6_kind 283 = .ok (.getfield 38, 3) := by decide +kernel
theorem dX6_kind_286 : decode cX6_kind 286 = .ok (.iload_n 1, 1) := by decide +kernel
theorem dX6_kind_287 : decode cX6_kind 287 = .ok (.invokevirtual 114, 3) := by decide +kernel
theorem dX6_kind_290 : decode cX6_kind 290 = .ok (.ireturn, 1) := by decide +kernel
theorem dX6_isLost_0 : decode cX6_isLost 0 = .ok (.aload_n 0, 1) := by decide +kernel
theorem dX6_isLost_1 : decode cX6_isLost 1 = .ok (.getfield 7, 3) := by decide +kernel
theorem dX6_isLost_4 : decode cX6_isLost 4 = .ok (.iload_n 1, 1) := by decide +kernel
theorem dX6_isLost_5 : decode cX6_isLost 5 = .ok (.baload, 1) := by decide +kernel
theorem dX6_isLost_6 : decode cX6_isLost 6 = .ok (.ifCond .eq 5, 3) := by decide +kernel
theorem dX6_isLost_9 : decode cX6_isLost 9 = .ok (.iconst 0, 1) := by decide +kernel
theorem dX6_isLost_10 : decode cX6_isLost 10 = .ok (.ireturn, 1) := by decide +kernel
theorem dX6_isLost_11 : decode cX6_isLost 11 = .ok (.aload_n 0, 1) := by decide +kernel
theorem dX6_isLost_12 : decode cX6_isLost 12 = .ok (.iconst 1, 1) := by decide +kernel
theorem dX6_isLost_13 : decode cX6_isLost 13 = .ok (.putfield 66, 3) := by decide +kernel
theorem dX6_isLost_16 : decode cX6_isLost 16 = .ok (.iconst 1, 1) := by decide +kernel
theorem dX6_isLost_17 : decode cX6_isLost 17 = .ok (.ireturn, 1) := by decide +kernel
theorem dX6_join_0 : decode cX6_join 0 = .ok (.iload_n 1, 1) := by decide +kernel
theorem dX6_join_1 : decode cX6_join 1 = .ok (.invokestatic 74, 3) := by decide +kernel
theorem dX6_join_4 : decode cX6_join 4 = .ok (.ifCond .eq 27, 3) := by decide +kernel
theorem dX6_join_7 : decode cX6_join 7 = .ok (.iload_n 2, 1) := by decide +kernel
theorem dX6_join_8 : decode cX6_join 8 = .ok (.invokestatic 74, 3) := by decide +kernel
theorem dX6_join_11 : decode cX6_join 11 = .ok (.ifCond .eq 20, 3) := by decide +kernel
theorem dX6_join_14 : decode cX6_join 14 = .ok (.iload_n 3, 1) := by decide +kernel
theorem dX6_join_15 : decode cX6_join 15 = .ok (.invokestatic 74, 3) := by decide +kernel
theorem dX6_join_18 : decode cX6_join 18 = .ok (.ifCond .eq 13, 3) := by decide +kernel
theorem dX6_join_21 : decode cX6_join 21 = .ok (.iload 4, 2) := by decide +kernel
theorem dX6_join_23 : decode cX6_join 23 = .ok (.iconst 0, 1) := by decide +kernel
theorem dX6_join_24 : decode cX6_join 24 = .ok (.iconst 2, 1) := by decide +kernel
theorem dX6_join_25 : decode cX6_join 25 = .ok (.invokestatic 70, 3) := by decide +kernel
theorem dX6_join_28 : decode cX6_join 28 = .ok (.ifCond .ne 6, 3) := by decide +kernel
theorem dX6_join_31 : decode cX6_join 31 = .ok (.bipush (-2), 2) := by decide +kernel
theorem dX6_join_33 : decode cX6_join 33 = .ok (.ireturn, 1) := by decide +kernel
theorem dX6_join_34 : decode cX6_join 34 = .ok (.aload_n 0, 1) := by decide +kernel
theorem dX6_join_35 : decode cX6_join 35 = .ok (.iload_n 1, 1) := by decide +kernel
theorem dX6_join_36 : decode cX6_join 36 = .ok (.invokevirtual 118, 3) := by decide +kernel
theorem dX6_join_39 : decode cX6_join 39 = .ok (.ifCond .ne 11, 3) := by decide +kernel
theorem dX6_join_42 : decode cX6_join 42 = .ok (.aload_n 0, 1) := by decide +kernel
theorem dX6_join_43 : decode cX6_join 43 = .ok (.iload_n 2, 1) := by decide +kernel
theorem dX6_join_44 : decode cX6_join 44 = .ok (.invokevirtual 118, 3) := by decide +kernel
theorem dX6_join_47 : decode cX6_join 47 = .ok (.ifCond .eq 6, 3) := by decide +kernel
theorem dX6_join_50 : decode cX6_join 50 = .ok (.bipush (-11), 2) := by decide +kernel
theorem dX6_join_52 : decode cX6_join 52 = .ok (.ireturn, 1) := by decide +kernel
theorem dX6_join_53 : decode cX6_join 53 = .ok (.aload_n 0, 1) := by decide +kernel
theorem dX6_join_54 : decode cX6_join 54 = .ok (.iload_n 1, 1) := by decide +kernel
theorem dX6_join_55 : decode cX6_join 55 = .ok (.aload_n 0, 1) := by decide +kernel
theorem dX6_join_56 : decode cX6_join 56 = .ok (.getfield 26, 3) := by decide +kernel
theorem dX6_join_59 : decode cX6_join 59 = .ok (.invokevirtual 105, 3) := by decide +kernel
theorem dX6_join_62 : decode cX6_join 62 = .ok (.aload_n 0, 1) := by decide +kernel
theorem dX6_join_63 : decode cX6_join 63 = .ok (.iload_n 2, 1) := by decide +kernel
theorem dX6_join_64 : decode cX6_join 64 = .ok (.aload_n 0, 1) := by decide +kernel
theorem dX6_join_65 : decode cX6_join 65 = .ok (.getfield 29, 3) := by decide +kernel
theorem dX6_join_68 : decode cX6_join 68 = .ok (.invokevirtual 105, 3) := by decide +kernel
theorem dX6_join_71 : decode cX6_join 71 = .ok (.iconst 0, 1) := by decide +kernel
theorem dX6_join_72 : decode cX6_join 72 = .ok (.istore 5, 2) := by decide +kernel
theorem dX6_join_74 : decode cX6_join 74 = .ok (.iload 5, 2) := by decide +kernel
theorem dX6_join_76 : decode cX6_join 76 = .ok (.bipush 10, 2) := by decide +kernel
theorem dX6_join_78 : decode cX6_join 78 = .ok (.if_icmp .ge 59, 3) := by decide +kernel
theorem dX6_join_81 : decode cX6_join 81 = .ok (.aload_n 0, 1) := by decide +kernel
theorem dX6_join_82 : decode cX6_join 82 = .ok (.getfield 32, 3) := by decide +kernel
theorem dX6_join_85 : decode cX6_join 85 = .ok (.iload 5, 2) := by decide +kernel
theorem dX6_join_87 : decode cX6_join 87 = .ok (.iload 4, 2) := by decide +kernel
theorem dX6_join_89 : decode cX6_join 89 = .ok (.ifCond .ne 22, 3) := by decide +kernel
theorem dX6_join_92 : decode cX6_join 92 = .ok (.aload_n 0, 1) := by decide +kernel
theorem dX6_join_93 : decode cX6_join 93 = .ok (.getfield 26, 3) := by decide +kernel
theorem dX6_join_96 : decode cX6_join 96 = .ok (.iload 5, 2) := by decide +kernel
theorem dX6_join_98 : decode cX6_join 98 = .ok (.iaload, 1) := by decide +kernel
theorem dX6_join_99 : decode cX6_join 99 = .ok (.aload_n 0, 1) := by decide +kernel
theorem dX6_join_100 : decode cX6_join 100 = .ok (.getfield 29, 3) := by decide +kernel
theorem dX6_join_103 : decode cX6_join 103 = .ok (.iload 5, 2) := by decide +kernel
theorem dX6_join_105 : decode cX6_join 105 = .ok (.iaload, 1) := by decide +kernel
theorem dX6_join_106 : decode cX6_join 106 = .ok (.iadd, 1) := by decide +kernel
theorem dX6_join_107 : decode cX6_join 107 = .ok (.i2l, 1) := by decide +kernel
theorem dX6_join_108 : decode cX6_join 108 = .ok (.goto 19, 3) := by decide +kernel
theorem dX6_join_111 : decode cX6_join 111 = .ok (.aload_n 0, 1) := by decide +kernel
theorem dX6_join_112 : decode cX6_join 112 = .ok (.getfield 26, 3) := by decide +kernel
theorem dX6_join_115 : decode cX6_join 115 = .ok (.iload 5, 2) := by decide +kernel
theorem dX6_join_117 : decode cX6_join 117 = .ok (.iaload, 1) := by decide +kernel
theorem dX6_join_118 : decode cX6_join 118 = .ok (.aload_n 0, 1) := by decide +kernel
theorem dX6_join_119 : decode cX6_join 119 = .ok (.getfield 29, 3) := by decide +kernel
theorem dX6_join_122 : decode cX6_join 122 = .ok (.iload 5, 2) := by decide +kernel
theorem dX6_join_124 : decode cX6_join 124 = .ok (.iaload, 1) := by decide +kernel
theorem dX6_join_125 : decode cX6_join 125 = .ok (.isub, 1) := by decide +kernel
theorem dX6_join_126 : decode cX6_join 126 = .ok (.i2l, 1) := by decide +kernel
theorem dX6_join_127 : decode cX6_join 127 = .ok (.invokestatic 62, 3) := by decide +kernel
theorem dX6_join_130 : decode cX6_join 130 = .ok (.iastore, 1) := by decide +kernel
theorem dX6_join_131 : decode cX6_join 131 = .ok (.iinc 5 1, 3) := by decide +kernel
theorem dX6_join_134 : decode cX6_join 134 = .ok (.goto (-60), 3) := by decide +kernel
theorem dX6_join_137 : decode cX6_join 137 = .ok (.iload 4, 2) := by decide +kernel
theorem dX6_join_139 : decode cX6_join 139 = .ok (.iconst 2, 1) := by decide +kernel
theorem dX6_join_140 : decode cX6_join 140 = .ok (.if_icmp .ne 18, 3) := by decide +kernel
theorem dX6_join_143 : decode cX6_join 143 = .ok (.aload_n 0, 1) := by decide +kernel
theorem dX6_join_144 : decode cX6_join 144 = .ok (.getfield 26, 3) := by decide +kernel
theorem dX6_join_147 : decode cX6_join 147 = .ok (.aload_n 0, 1) := by decide +kernel
theorem dX6_join_148 : decode cX6_join 148 = .ok (.getfield 29, 3) := by decide +kernel
theorem dX6_join_151 : decode cX6_join 151 = .ok (.aload_n 0, 1) := by decide +kernel
theorem dX6_join_152 : decode cX6_join 152 = .ok (.getfield 32, 3) := by decide +kernel
theorem dX6_join_155 : decode cX6_join 155 = .ok (.invokestatic 94, 3) := by decide +kernel
theorem dX6_join_158 : decode cX6_join 158 = .ok (.aload_n 0, 1) := by decide +kernel
theorem dX6_join_159 : decode cX6_join 159 = .ok (.aload_n 0, 1) := by decide +kernel
theorem dX6_join_160 : decode cX6_join 160 = .ok (.getfield 32, 3) := by decide +kernel
theorem dX6_join_163 : decode cX6_join 163 = .ok (.iload_n 3, 1) := by decide +kernel
theorem dX6_join_164 : decode cX6_join 164 = .ok (.invokevirtual 114, 3) := by decide +kernel
theorem dX6_join_167 : decode cX6_join 167 = .ok (.ireturn, 1) := by decide +kernel
theorem dX6_over_0 : decode cX6_over 0 = .ok (.iload_n 1, 1) := by decide +kernel
theorem dX6_over_1 : decode cX6_over 1 = .ok (.invokestatic 74, 3) := by decide +kernel
theorem dX6_over_4 : decode cX6_over 4 = .ok (.ifCond .eq 17, 3) := by decide +kernel
theorem dX6_over_7 : decode cX6_over 7 = .ok (.iload_n 2, 1) := by decide +kernel
theorem dX6_over_8 : decode cX6_over 8 = .ok (.invokestatic 74, 3) := by decide +kernel
theorem dX6_over_11 : decode cX6_over 11 = .ok (.ifCond .eq 10, 3) := by decide +kernel
theorem dX6_over_14 : decode cX6_over 14 = .ok (.iload_n 3, 1) := by decide +kernel
theorem dX6_over_15 : decode cX6_over 15 = .ok (.invokestatic 74, 3) := by decide +kernel
theorem dX6_over_18 : decode cX6_over 18 = .ok (.ifCond .ne 6, 3) := by decide +kernel
theorem dX6_over_21 : decode cX6_over 21 = .ok (.bipush (-2), 2) := by decide +kernel
theorem dX6_over_23 : decode cX6_over 23 = .ok (.ireturn, 1) := by decide +kernel
theorem dX6_over_24 : decode cX6_over 24 = .ok (.aload_n 0, 1) := by decide +kernel
theorem dX6_over_25 : decode cX6_over 25 = .ok (.iload_n 1, 1) := by decide +kernel
theorem dX6_over_26 : decode cX6_over 26 = .ok (.invokevirtual 118, 3) := by decide +kernel
theorem dX6_over_29 : decode cX6_over 29 = .ok (.ifCond .ne 11, 3) := by decide +kernel
theorem dX6_over_32 : decode cX6_over 32 = .ok (.aload_n 0, 1) := by decide +kernel
theorem dX6_over_33 : decode cX6_over 33 = .ok (.iload_n 2, 1) := by decide +kernel
theorem dX6_over_34 : decode cX6_over 34 = .ok (.invokevirtual 118, 3) := by decide +kernel
theorem dX6_over_37 : decode cX6_over 37 = .ok (.ifCond .eq 6, 3) := by decide +kernel
theorem dX6_over_40 : decode cX6_over 40 = .ok (.bipush (-11), 2) := by decide +kernel
theorem dX6_over_42 : decode cX6_over 42 = .ok (.ireturn, 1) := by decide +kernel
theorem dX6_over_43 : decode cX6_over 43 = .ok (.aload_n 0, 1) := by decide +kernel
theorem dX6_over_44 : decode cX6_over 44 = .ok (.iload_n 1, 1) := by decide +kernel
theorem dX6_over_45 : decode cX6_over 45 = .ok (.aload_n 0, 1) := by decide +kernel
theorem dX6_over_46 : decode cX6_over 46 = .ok (.getfield 26, 3) := by decide +kernel
theorem dX6_over_49 : decode cX6_over 49 = .ok (.invokevirtual 105, 3) := by decide +kernel
theorem dX6_over_52 : decode cX6_over 52 = .ok (.aload_n 0, 1) := by decide +kernel
theorem dX6_over_53 : decode cX6_over 53 = .ok (.iload_n 2, 1) := by decide +kernel
theorem dX6_over_54 : decode cX6_over 54 = .ok (.aload_n 0, 1) := by decide +kernel
theorem dX6_over_55 : decode cX6_over 55 = .ok (.getfield 29, 3) := by decide +kernel
theorem dX6_over_58 : decode cX6_over 58 = .ok (.invokevirtual 105, 3) := by decide +kernel
theorem dX6_over_61 : decode cX6_over 61 = .ok (.aload_n 0, 1) := by decide +kernel
theorem dX6_over_62 : decode cX6_over 62 = .ok (.getfield 29, 3) := by decide +kernel
theorem dX6_over_65 : decode cX6_over 65 = .ok (.iconst 0, 1) := by decide +kernel
theorem dX6_over_66 : decode cX6_over 66 = .ok (.iaload, 1) := by decide +kernel
theorem dX6_over_67 : decode cX6_over 67 = .ok (.ifCond .ne 6, 3) := by decide +kernel
theorem dX6_over_70 : decode cX6_over 70 = .ok (.bipush (-3), 2) := by decide +kernel
theorem dX6_over_72 : decode cX6_over 72 = .ok (.ireturn, 1) := by decide +kernel
theorem dX6_over_73 : decode cX6_over 73 = .ok (.aload_n 0, 1) := by decide +kernel
theorem dX6_over_74 : decode cX6_over 74 = .ok (.getfield 26, 3) := by decide +kernel
theorem dX6_over_77 : decode cX6_over 77 = .ok (.aload_n 0, 1) := by decide +kernel
theorem dX6_over_78 : decode cX6_over 78 = .ok (.getfield 29, 3) := by decide +kernel
theorem dX6_over_81 : decode cX6_over 81 = .ok (.aload_n 0, 1) := by decide +kernel
theorem dX6_over_82 : decode cX6_over 82 = .ok (.getfield 32, 3) := by decide +kernel
theorem dX6_over_85 : decode cX6_over 85 = .ok (.invokestatic 121, 3) := by decide +kernel
theorem dX6_over_88 : decode cX6_over 88 = .ok (.aload_n 0, 1) := by decide +kernel
theorem dX6_over_89 : decode cX6_over 89 = .ok (.aload_n 0, 1) := by decide +kernel
theorem dX6_over_90 : decode cX6_over 90 = .ok (.getfield 32, 3) := by decide +kernel
theorem dX6_over_93 : decode cX6_over 93 = .ok (.iload_n 3, 1) := by decide +kernel
theorem dX6_over_94 : decode cX6_over 94 = .ok (.invokevirtual 114, 3) := by decide +kernel
theorem dX6_over_97 : decode cX6_over 97 = .ok (.ireturn, 1) := by decide +kernel
theorem dX6_into_0 : decode cX6_into 0 = .ok (.iload_n 1, 1) := by decide +kernel
theorem dX6_into_1 : decode cX6_into 1 = .ok (.invokestatic 74, 3) := by decide +kernel
theorem dX6_into_4 : decode cX6_into 4 = .ok (.ifCond .eq 17, 3) := by decide +kernel
theorem dX6_into_7 : decode cX6_into 7 = .ok (.iload_n 2, 1) := by decide +kernel
theorem dX6_into_8 : decode cX6_into 8 = .ok (.invokestatic 74, 3) := by decide +kernel
theorem dX6_into_11 : decode cX6_into 11 = .ok (.ifCond .eq 10, 3) := by decide +kernel
theorem dX6_into_14 : decode cX6_into 14 = .ok (.iload_n 3, 1) := by decide +kernel
theorem dX6_into_15 : decode cX6_into 15 = .ok (.invokestatic 74, 3) := by decide +kernel
theorem dX6_into_18 : decode cX6_into 18 = .ok (.ifCond .ne 6, 3) := by decide +kernel
theorem dX6_into_21 : decode cX6_into 21 = .ok (.bipush (-2), 2) := by decide +kernel
theorem dX6_into_23 : decode cX6_into 23 = .ok (.ireturn, 1) := by decide +kernel
theorem dX6_into_24 : decode cX6_into 24 = .ok (.aload_n 0, 1) := by decide +kernel
theorem dX6_into_25 : decode cX6_into 25 = .ok (.iload_n 1, 1) := by decide +kernel
theorem dX6_into_26 : decode cX6_into 26 = .ok (.invokevirtual 118, 3) := by decide +kernel
theorem dX6_into_29 : decode cX6_into 29 = .ok (.ifCond .ne 11, 3) := by decide +kernel
theorem dX6_into_32 : decode cX6_into 32 = .ok (.aload_n 0, 1) := by decide +kernel
theorem dX6_into_33 : decode cX6_into 33 = .ok (.iload_n 2, 1) := by decide +kernel
theorem dX6_into_34 : decode cX6_into 34 = .ok (.invokevirtual 118, 3) := by decide +kernel
theorem dX6_into_37 : decode cX6_into 37 = .ok (.ifCond .eq 6, 3) := by decide +kernel
theorem dX6_into_40 : decode cX6_into 40 = .ok (.bipush (-11), 2) := by decide +kernel
theorem dX6_into_42 : decode cX6_into 42 = .ok (.ireturn, 1) := by decide +kernel
theorem dX6_into_43 : decode cX6_into 43 = .ok (.aload_n 0, 1) := by decide +kernel
theorem dX6_into_44 : decode cX6_into 44 = .ok (.iload_n 1, 1) := by decide +kernel
theorem dX6_into_45 : decode cX6_into 45 = .ok (.aload_n 0, 1) := by decide +kernel
theorem dX6_into_46 : decode cX6_into 46 = .ok (.getfield 26, 3) := by decide +kernel
theorem dX6_into_49 : decode cX6_into 49 = .ok (.invokevirtual 105, 3) := by decide +kernel
theorem dX6_into_52 : decode cX6_into 52 = .ok (.aload_n 0, 1) := by decide +kernel
theorem dX6_into_53 : decode cX6_into 53 = .ok (.iload_n 2, 1) := by decide +kernel
theorem dX6_into_54 : decode cX6_into 54 = .ok (.aload_n 0, 1) := by decide +kernel
theorem dX6_into_55 : decode cX6_into 55 = .ok (.getfield 29, 3) := by decide +kernel
theorem dX6_into_58 : decode cX6_into 58 = .ok (.invokevirtual 105, 3) := by decide +kernel
theorem dX6_into_61 : decode cX6_into 61 = .ok (.aload_n 0, 1) := by decide +kernel
theorem dX6_into_62 : decode cX6_into 62 = .ok (.getfield 29, 3) := by decide +kernel
theorem dX6_into_65 : decode cX6_into 65 = .ok (.iconst 0, 1) := by decide +kernel
theorem dX6_into_66 : decode cX6_into 66 = .ok (.iaload, 1) := by decide +kernel
theorem dX6_into_67 : decode cX6_into 67 = .ok (.ifCond .eq 6, 3) := by decide +kernel
theorem dX6_into_70 : decode cX6_into 70 = .ok (.bipush (-3), 2) := by decide +kernel
theorem dX6_into_72 : decode cX6_into 72 = .ok (.ireturn, 1) := by decide +kernel
theorem dX6_into_73 : decode cX6_into 73 = .ok (.aload_n 0, 1) := by decide +kernel
theorem dX6_into_74 : decode cX6_into 74 = .ok (.aload_n 0, 1) := by decide +kernel
theorem dX6_into_75 : decode cX6_into 75 = .ok (.getfield 26, 3) := by decide +kernel
theorem dX6_into_78 : decode cX6_into 78 = .ok (.aload_n 0, 1) := by decide +kernel
theorem dX6_into_79 : decode cX6_into 79 = .ok (.getfield 29, 3) := by decide +kernel
theorem dX6_into_82 : decode cX6_into 82 = .ok (.aload_n 0, 1) := by decide +kernel
theorem dX6_into_83 : decode cX6_into 83 = .ok (.getfield 32, 3) := by decide +kernel
theorem dX6_into_86 : decode cX6_into 86 = .ok (.invokevirtual 102, 3) := by decide +kernel
theorem dX6_into_89 : decode cX6_into 89 = .ok (.aload_n 0, 1) := by decide +kernel
theorem dX6_into_90 : decode cX6_into 90 = .ok (.aload_n 0, 1) := by decide +kernel
theorem dX6_into_91 : decode cX6_into 91 = .ok (.getfield 32, 3) := by decide +kernel
theorem dX6_into_94 : decode cX6_into 94 = .ok (.iload_n 3, 1) := by decide +kernel
theorem dX6_into_95 : decode cX6_into 95 = .ok (.invokevirtual 114, 3) := by decide +kernel
theorem dX6_into_98 : decode cX6_into 98 = .ok (.ireturn, 1) := by decide +kernel
theorem dX6_turn_0 : decode cX6_turn 0 = .ok (.iload_n 1, 1) := by decide +kernel
theorem dX6_turn_1 : decode cX6_turn 1 = .ok (.invokestatic 74, 3) := by decide +kernel
theorem dX6_turn_4 : decode cX6_turn 4 = .ok (.ifCond .eq 10, 3) := by decide +kernel
theorem dX6_turn_7 : decode cX6_turn 7 = .ok (.iload_n 2, 1) := by decide +kernel
theorem dX6_turn_8 : decode cX6_turn 8 = .ok (.invokestatic 74, 3) := by decide +kernel
theorem dX6_turn_11 : decode cX6_turn 11 = .ok (.ifCond .ne 6, 3) := by decide +kernel
theorem dX6_turn_14 : decode cX6_turn 14 = .ok (.bipush (-2), 2) := by decide +kernel
theorem dX6_turn_16 : decode cX6_turn 16 = .ok (.ireturn, 1) := by decide +kernel
theorem dX6_turn_17 : decode cX6_turn 17 = .ok (.aload_n 0, 1) := by decide +kernel
theorem dX6_turn_18 : decode cX6_turn 18 = .ok (.iload_n 1, 1) := by decide +kernel
theorem dX6_turn_19 : decode cX6_turn 19 = .ok (.invokevirtual 118, 3) := by decide +kernel
theorem dX6_turn_22 : decode cX6_turn 22 = .ok (.ifCond .eq 6, 3) := by decide +kernel
theorem dX6_turn_25 : decode cX6_turn 25 = .ok (.bipush (-11), 2) := by decide +kernel
theorem dX6_turn_27 : decode cX6_turn 27 = .ok (.ireturn, 1) := by decide +kernel
theorem dX6_turn_28 : decode cX6_turn 28 = .ok (.aload_n 0, 1) := by decide +kernel
theorem dX6_turn_29 : decode cX6_turn 29 = .ok (.iload_n 1, 1) := by decide +kernel
theorem dX6_turn_30 : decode cX6_turn 30 = .ok (.aload_n 0, 1) := by decide +kernel
theorem dX6_turn_31 : decode cX6_turn 31 = .ok (.getfield 26, 3) := by decide +kernel
theorem dX6_turn_34 : decode cX6_turn 34 = .ok (.invokevirtual 105, 3) := by decide +kernel
theorem dX6_turn_37 : decode cX6_turn 37 = .ok (.aload_n 0, 1) := by decide +kernel
theorem dX6_turn_38 : decode cX6_turn 38 = .ok (.getfield 26, 3) := by decide +kernel
theorem dX6_turn_41 : decode cX6_turn 41 = .ok (.invokestatic 124, 3) := by decide +kernel
theorem dX6_turn_44 : decode cX6_turn 44 = .ok (.ifCond .ne 6, 3) := by decide +kernel
theorem dX6_turn_47 : decode cX6_turn 47 = .ok (.bipush (-3), 2) := by decide +kernel
theorem dX6_turn_49 : decode cX6_turn 49 = .ok (.ireturn, 1) := by decide +kernel
theorem dX6_turn_50 : decode cX6_turn 50 = .ok (.aload_n 0, 1) := by decide +kernel
theorem dX6_turn_51 : decode cX6_turn 51 = .ok (.aload_n 0, 1) := by decide +kernel
theorem dX6_turn_52 : decode cX6_turn 52 = .ok (.getfield 26, 3) := by decide +kernel
theorem dX6_turn_55 : decode cX6_turn 55 = .ok (.aload_n 0, 1) := by decide +kernel
theorem dX6_turn_56 : decode cX6_turn 56 = .ok (.getfield 29, 3) := by decide +kernel
theorem dX6_turn_59 : decode cX6_turn 59 = .ok (.invokevirtual 128, 3) := by decide +kernel
theorem dX6_turn_62 : decode cX6_turn 62 = .ok (.aload_n 0, 1) := by decide +kernel
theorem dX6_turn_63 : decode cX6_turn 63 = .ok (.aload_n 0, 1) := by decide +kernel
theorem dX6_turn_64 : decode cX6_turn 64 = .ok (.getfield 29, 3) := by decide +kernel
theorem dX6_turn_67 : decode cX6_turn 67 = .ok (.iload_n 2, 1) := by decide +kernel
theorem dX6_turn_68 : decode cX6_turn 68 = .ok (.invokevirtual 114, 3) := by decide +kernel
theorem dX6_turn_71 : decode cX6_turn 71 = .ok (.ireturn, 1) := by decide +kernel
theorem dX6_power_0 : decode cX6_power 0 = .ok (.iload_n 1, 1) := by decide +kernel
theorem dX6_power_1 : decode cX6_power 1 = .ok (.invokestatic 74, 3) := by decide +kernel
theorem dX6_power_4 : decode cX6_power 4 = .ok (.ifCond .eq 21, 3) := by decide +kernel
theorem dX6_power_7 : decode cX6_power 7 = .ok (.iload_n 2, 1) := by decide +kernel
theorem dX6_power_8 : decode cX6_power 8 = .ok (.iconst 0, 1) := by decide +kernel
theorem dX6_power_9 : decode cX6_power 9 = .ok (.sipush 1000, 3) := by decide +kernel
theorem dX6_power_12 : decode cX6_power 12 = .ok (.invokestatic 70, 3) := by decide +kernel
theorem dX6_power_15 : decode cX6_power 15 = .ok (.ifCond .eq 10, 3) := by decide +kernel
theorem dX6_power_18 : decode cX6_power 18 = .ok (.iload_n 3, 1) := by decide +kernel
theorem dX6_power_19 : decode cX6_power 19 = .ok (.invokestatic 74, 3) := by decide +kernel
theorem dX6_power_22 : decode cX6_power 22 = .ok (.ifCond .ne 6, 3) := by decide +kernel
theorem dX6_power_25 : decode cX6_power 25 = .ok (.bipush (-2), 2) := by decide +kernel
theorem dX6_power_27 : decode cX6_power 27 = .ok (.ireturn, 1) := by decide +kernel
theorem dX6_power_28 : decode cX6_power 28 = .ok (.aload_n 0, 1) := by decide +kernel
theorem dX6_power_29 : decode cX6_power 29 = .ok (.iload_n 1, 1) := by decide +kernel
theorem dX6_power_30 : decode cX6_power 30 = .ok (.invokevirtual 118, 3) := by decide +kernel
theorem dX6_power_33 : decode cX6_power 33 = .ok (.ifCond .eq 6, 3) := by decide +kernel
theorem dX6_power_36 : decode cX6_power 36 = .ok (.bipush (-11), 2) := by decide +kernel
theorem dX6_power_38 : decode cX6_power 38 = .ok (.ireturn, 1) := by decide +kernel
theorem dX6_power_39 : decode cX6_power 39 = .ok (.aload_n 0, 1) := by decide +kernel
theorem dX6_power_40 : decode cX6_power 40 = .ok (.iload_n 1, 1) := by decide +kernel
theorem dX6_power_41 : decode cX6_power 41 = .ok (.aload_n 0, 1) := by decide +kernel
theorem dX6_power_42 : decode cX6_power 42 = .ok (.getfield 26, 3) := by decide +kernel
theorem dX6_power_45 : decode cX6_power 45 = .ok (.invokevirtual 105, 3) := by decide +kernel
theorem dX6_power_48 : decode cX6_power 48 = .ok (.aload_n 0, 1) := by decide +kernel
theorem dX6_power_49 : decode cX6_power 49 = .ok (.getfield 29, 3) := by decide +kernel
theorem dX6_power_52 : decode cX6_power 52 = .ok (.invokestatic 90, 3) := by decide +kernel
theorem dX6_power_55 : decode cX6_power 55 = .ok (.iconst 0, 1) := by decide +kernel
theorem dX6_power_56 : decode cX6_power 56 = .ok (.istore 4, 2) := by decide +kernel
theorem dX6_power_58 : decode cX6_power 58 = .ok (.iload 4, 2) := by decide +kernel
theorem dX6_power_60 : decode cX6_power 60 = .ok (.iload_n 2, 1) := by decide +kernel
theorem dX6_power_61 : decode cX6_power 61 = .ok (.if_icmp .ge 35, 3) := by decide +kernel
theorem dX6_power_64 : decode cX6_power 64 = .ok (.aload_n 0, 1) := by decide +kernel
theorem dX6_power_65 : decode cX6_power 65 = .ok (.getfield 26, 3) := by decide +kernel
theorem dX6_power_68 : decode cX6_power 68 = .ok (.aload_n 0, 1) := by decide +kernel
theorem dX6_power_69 : decode cX6_power 69 = .ok (.getfield 29, 3) := by decide +kernel
theorem dX6_power_72 : decode cX6_power 72 = .ok (.aload_n 0, 1) := by decide +kernel
theorem dX6_power_73 : decode cX6_power 73 = .ok (.getfield 32, 3) := by decide +kernel
theorem dX6_power_76 : decode cX6_power 76 = .ok (.invokestatic 94, 3) := by decide +kernel
theorem dX6_power_79 : decode cX6_power 79 = .ok (.aload_n 0, 1) := by decide +kernel
theorem dX6_power_80 : decode cX6_power 80 = .ok (.getfield 32, 3) := by decide +kernel
theorem dX6_power_83 : decode cX6_power 83 = .ok (.aload_n 0, 1) := by decide +kernel
theorem dX6_power_84 : decode cX6_power 84 = .ok (.getfield 29, 3) := by decide +kernel
theorem dX6_power_87 : decode cX6_power 87 = .ok (.invokestatic 98, 3) := by decide +kernel
theorem dX6_power_90 : decode cX6_power 90 = .ok (.iinc 4 1, 3) := by decide +kernel
theorem dX6_power_93 : decode cX6_power 93 = .ok (.goto (-35), 3) := by decide +kernel
theorem dX6_power_96 : decode cX6_power 96 = .ok (.aload_n 0, 1) := by decide +kernel
theorem dX6_power_97 : decode cX6_power 97 = .ok (.aload_n 0, 1) := by decide +kernel
theorem dX6_power_98 : decode cX6_power 98 = .ok (.getfield 29, 3) := by decide +kernel
theorem dX6_power_101 : decode cX6_power 101 = .ok (.iload_n 3, 1) := by decide +kernel
theorem dX6_power_102 : decode cX6_power 102 = .ok (.invokevirtual 114, 3) := by decide +kernel
theorem dX6_power_105 : decode cX6_power 105 = .ok (.ireturn, 1) := by decide +kernel
theorem dX6_valueOf_0 : decode cX6_valueOf 0 = .ok (.iconst 0, 1) := by decide +kernel
theorem dX6_valueOf_1 : decode cX6_valueOf 1 = .ok (.istore_n 2, 1) := by decide +kernel
theorem dX6_valueOf_2 : decode cX6_valueOf 2 = .ok (.bipush 9, 2) := by decide +kernel
theorem dX6_valueOf_4 : decode cX6_valueOf 4 = .ok (.istore_n 3, 1) := by decide +kernel
theorem dX6_valueOf_5 : decode cX6_valueOf 5 = .ok (.iload_n 3, 1) := by decide +kernel
theorem dX6_valueOf_6 : decode cX6_valueOf 6 = .ok (.ifCond .lt 23, 3) := by decide +kernel
theorem dX6_valueOf_9 : decode cX6_valueOf 9 = .ok (.iload_n 2, 1) := by decide +kernel
theorem dX6_valueOf_10 : decode cX6_valueOf 10 = .ok (.i2l, 1) := by decide +kernel
theorem dX6_valueOf_11 : decode cX6_valueOf 11 = .ok (.iload_n 1, 1) := by decide +kernel
theorem dX6_valueOf_12 : decode cX6_valueOf 12 = .ok (.i2l, 1) := by decide +kernel
theorem dX6_valueOf_13 : decode cX6_valueOf 13 = .ok (.lmul, 1) := by decide +kernel
theorem dX6_valueOf_14 : decode cX6_valueOf 14 = .ok (.aload_n 0, 1) := by decide +kernel
theorem dX6_valueOf_15 : decode cX6_valueOf 15 = .ok (.iload_n 3, 1) := by decide +kernel
theorem dX6_valueOf_16 : decode cX6_valueOf 16 = .ok (.iaload, 1) := by decide +kernel
theorem dX6_valueOf_17 : decode cX6_valueOf 17 = .ok (.i2l, 1) := by decide +kernel
theorem dX6_valueOf_18 : decode cX6_valueOf 18 = .ok (.ladd, 1) := by decide +kernel
theorem dX6_valueOf_19 : decode cX6_valueOf 19 = .ok (.invokestatic 62, 3) := by decide +kernel
theorem dX6_valueOf_22 : decode cX6_valueOf 22 = .ok (.istore_n 2, 1) := by decide +kernel
theorem dX6_valueOf_23 : decode cX6_valueOf 23 = .ok (.iinc 3 (-1), 3) := by decide +kernel
theorem dX6_valueOf_26 : decode cX6_valueOf 26 = .ok (.goto (-21), 3) := by decide +kernel
theorem dX6_valueOf_29 : decode cX6_valueOf 29 = .ok (.iload_n 2, 1) := by decide +kernel
theorem dX6_valueOf_30 : decode cX6_valueOf 30 = .ok (.ireturn, 1) := by decide +kernel
theorem dX6_value_0 : decode cX6_value 0 = .ok (.iload_n 1, 1) := by decide +kernel
theorem dX6_value_1 : decode cX6_value 1 = .ok (.invokestatic 74, 3) := by decide +kernel
theorem dX6_value_4 : decode cX6_value 4 = .ok (.ifCond .ne 6, 3) := by decide +kernel
theorem dX6_value_7 : decode cX6_value 7 = .ok (.bipush (-2), 2) := by decide +kernel
theorem dX6_value_9 : decode cX6_value 9 = .ok (.ireturn, 1) := by decide +kernel
theorem dX6_value_10 : decode cX6_value 10 = .ok (.aload_n 0, 1) := by decide +kernel
theorem dX6_value_11 : decode cX6_value 11 = .ok (.iload_n 1, 1) := by decide +kernel
theorem dX6_value_12 : decode cX6_value 12 = .ok (.invokevirtual 118, 3) := by decide +kernel
theorem dX6_value_15 : decode cX6_value 15 = .ok (.ifCond .eq 6, 3) := by decide +kernel
theorem dX6_value_18 : decode cX6_value 18 = .ok (.bipush (-11), 2) := by decide +kernel
theorem dX6_value_20 : decode cX6_value 20 = .ok (.ireturn, 1) := by decide +kernel
theorem dX6_value_21 : decode cX6_value 21 = .ok (.aload_n 0, 1) := by decide +kernel
theorem dX6_value_22 : decode cX6_value 22 = .ok (.iload_n 1, 1) := by decide +kernel
theorem dX6_value_23 : decode cX6_value 23 = .ok (.aload_n 0, 1) := by decide +kernel
theorem dX6_value_24 : decode cX6_value 24 = .ok (.getfield 26, 3) := by decide +kernel
theorem dX6_value_27 : decode cX6_value 27 = .ok (.invokevirtual 105, 3) := by decide +kernel
theorem dX6_value_30 : decode cX6_value 30 = .ok (.aload_n 0, 1) := by decide +kernel
theorem dX6_value_31 : decode cX6_value 31 = .ok (.getfield 26, 3) := by decide +kernel
theorem dX6_value_34 : decode cX6_value 34 = .ok (.iload_n 2, 1) := by decide +kernel
theorem dX6_value_35 : decode cX6_value 35 = .ok (.i2l, 1) := by decide +kernel
theorem dX6_value_36 : decode cX6_value 36 = .ok (.invokestatic 62, 3) := by decide +kernel
theorem dX6_value_39 : decode cX6_value 39 = .ok (.invokestatic 131, 3) := by decide +kernel
theorem dX6_value_42 : decode cX6_value 42 = .ok (.ireturn, 1) := by decide +kernel
theorem dX6_works_0 : decode cX6_works 0 = .ok (.iconst 0, 1) := by decide +kernel
theorem dX6_works_1 : decode cX6_works 1 = .ok (.istore_n 3, 1) := by decide +kernel
theorem dX6_works_2 : decode cX6_works 2 = .ok (.iload_n 3, 1) := by decide +kernel
theorem dX6_works_3 : decode cX6_works 3 = .ok (.bipush 10, 2) := by decide +kernel
theorem dX6_works_5 : decode cX6_works 5 = .ok (.if_icmp .ge 104, 3) := by decide +kernel
theorem dX6_works_8 : decode cX6_works 8 = .ok (.lconst 0, 1) := by decide +kernel
theorem dX6_works_9 : decode cX6_works 9 = .ok (.lstore 4, 2) := by decide +kernel
theorem dX6_works_11 : decode cX6_works 11 = .ok (.iconst 1, 1) := by decide +kernel
theorem dX6_works_12 : decode cX6_works 12 = .ok (.istore 6, 2) := by decide +kernel
theorem dX6_works_14 : decode cX6_works 14 = .ok (.iconst 0, 1) := by decide +kernel
theorem dX6_works_15 : decode cX6_works 15 = .ok (.istore 7, 2) := by decide +kernel
theorem dX6_works_17 : decode cX6_works 17 = .ok (.iload_n 3, 1) := by decide +kernel
theorem dX6_works_18 : decode cX6_works 18 = .ok (.iload 7, 2) := by decide +kernel
theorem dX6_works_20 : decode cX6_works 20 = .ok (.iadd, 1) := by decide +kernel
theorem dX6_works_21 : decode cX6_works 21 = .ok (.bipush 10, 2) := by decide +kernel
theorem dX6_works_23 : decode cX6_works 23 = .ok (.if_icmp .ge 74, 3) := by decide +kernel
theorem dX6_works_26 : decode cX6_works 26 = .ok (.iconst 1, 1) := by decide +kernel
theorem dX6_works_27 : decode cX6_works 27 = .ok (.istore 6, 2) := by decide +kernel
theorem dX6_works_29 : decode cX6_works 29 = .ok (.iload_n 3, 1) := by decide +kernel
theorem dX6_works_30 : decode cX6_works 30 = .ok (.iconst 1, 1) := by decide +kernel
theorem dX6_works_31 : decode cX6_works 31 = .ok (.iadd, 1) := by decide +kernel
theorem dX6_works_32 : decode cX6_works 32 = .ok (.istore 8, 2) := by decide +kernel
theorem dX6_works_34 : decode cX6_works 34 = .ok (.iload 8, 2) := by decide +kernel
theorem dX6_works_36 : decode cX6_works 36 = .ok (.iload_n 3, 1) := by decide +kernel
theorem dX6_works_37 : decode cX6_works 37 = .ok (.iload 7, 2) := by decide +kernel
theorem dX6_works_39 : decode cX6_works 39 = .ok (.iadd, 1) := by decide +kernel
theorem dX6_works_40 : decode cX6_works 40 = .ok (.if_icmp .gt 21, 3) := by decide +kernel
theorem dX6_works_43 : decode cX6_works 43 = .ok (.iload 6, 2) := by decide +kernel
theorem dX6_works_45 : decode cX6_works 45 = .ok (.i2l, 1) := by decide +kernel
theorem dX6_works_46 : decode cX6_works 46 = .ok (.iload 8, 2) := by decide +kernel
theorem dX6_works_48 : decode cX6_works 48 = .ok (.i2l, 1) := by decide +kernel
theorem dX6_works_49 : decode cX6_works 49 = .ok (.lmul, 1) := by decide +kernel
theorem dX6_works_50 : decode cX6_works 50 = .ok (.invokestatic 62, 3) := by decide +kernel
theorem dX6_works_53 : decode cX6_works 53 = .ok (.istore 6, 2) := by decide +kernel
theorem dX6_works_55 : decode cX6_works 55 = .ok (.iinc 8 1, 3) := by decide +kernel
theorem dX6_works_58 : decode cX6_works 58 = .ok (.goto (-24), 3) := by decide +kernel
theorem dX6_works_61 : decode cX6_works 61 = .ok (.lload 4, 2) := by decide +kernel
theorem dX6_works_63 : decode cX6_works 63 = .ok (.aload_n 0, 1) := by decide +kernel
theorem dX6_works_64 : decode cX6_works 64 = .ok (.iload 7, 2) := by decide +kernel
theorem dX6_works_66 : decode cX6_works 66 = .ok (.iaload, 1) := by decide +kernel
theorem dX6_works_67 : decode cX6_works 67 = .ok (.i2l, 1) := by decide +kernel
theorem dX6_works_68 : decode cX6_works 68 = .ok (.iload 6, 2) := by decide +kernel
theorem dX6_works_70 : decode cX6_works 70 = .ok (.i2l, 1) := by decide +kernel
theorem dX6_works_71 : decode cX6_works 71 = .ok (.lmul, 1) := by decide +kernel
theorem dX6_works_72 : decode cX6_works 72 = .ok (.invokestatic 62, 3) := by decide +kernel
theorem dX6_works_75 : decode cX6_works 75 = .ok (.i2l, 1) := by decide +kernel
theorem dX6_works_76 : decode cX6_works 76 = .ok (.aload_n 1, 1) := by decide +kernel
theorem dX6_works_77 : decode cX6_works 77 = .ok (.iload_n 3, 1) := by decide +kernel
theorem dX6_works_78 : decode cX6_works 78 = .ok (.iload 7, 2) := by decide +kernel
theorem dX6_works_80 : decode cX6_works 80 = .ok (.iadd, 1) := by decide +kernel
theorem dX6_works_81 : decode cX6_works 81 = .ok (.iaload, 1) := by decide +kernel
theorem dX6_works_82 : decode cX6_works 82 = .ok (.i2l, 1) := by decide +kernel
theorem dX6_works_83 : decode cX6_works 83 = .ok (.lmul, 1) := by decide +kernel
theorem dX6_works_84 : decode cX6_works 84 = .ok (.ladd, 1) := by decide +kernel
theorem dX6_works_85 : decode cX6_works 85 = .ok (.invokestatic 62, 3) := by decide +kernel
theorem dX6_works_88 : decode cX6_works 88 = .ok (.i2l, 1) := by decide +kernel
theorem dX6_works_89 : decode cX6_works 89 = .ok (.lstore 4, 2) := by decide +kernel
theorem dX6_works_91 : decode cX6_works 91 = .ok (.iinc 7 1, 3) := by decide +kernel
theorem dX6_works_94 : decode cX6_works 94 = .ok (.goto (-77), 3) := by decide +kernel
theorem dX6_works_97 : decode cX6_works 97 = .ok (.aload_n 2, 1) := by decide +kernel
theorem dX6_works_98 : decode cX6_works 98 = .ok (.iload_n 3, 1) := by decide +kernel
theorem dX6_works_99 : decode cX6_works 99 = .ok (.lload 4, 2) := by decide +kernel
theorem dX6_works_101 : decode cX6_works 101 = .ok (.l2i, 1) := by decide +kernel
theorem dX6_works_102 : decode cX6_works 102 = .ok (.iastore, 1) := by decide +kernel
theorem dX6_works_103 : decode cX6_works 103 = .ok (.iinc 3 1, 3) := by decide +kernel
theorem dX6_works_106 : decode cX6_works 106 = .ok (.goto (-104), 3) := by decide +kernel
theorem dX6_works_109 : decode cX6_works 109 = .ok (.return_, 1) := by decide +kernel
theorem dX6_apply_0 : decode cX6_apply 0 = .ok (.iload_n 1, 1) := by decide +kernel
theorem dX6_apply_1 : decode cX6_apply 1 = .ok (.invokestatic 74, 3) := by decide +kernel
theorem dX6_apply_4 : decode cX6_apply 4 = .ok (.ifCond .eq 17, 3) := by decide +kernel
theorem dX6_apply_7 : decode cX6_apply 7 = .ok (.iload_n 2, 1) := by decide +kernel
theorem dX6_apply_8 : decode cX6_apply 8 = .ok (.invokestatic 74, 3) := by decide +kernel
theorem dX6_apply_11 : decode cX6_apply 11 = .ok (.ifCond .eq 10, 3) := by decide +kernel
theorem dX6_apply_14 : decode cX6_apply 14 = .ok (.iload_n 3, 1) := by decide +kernel
theorem dX6_apply_15 : decode cX6_apply 15 = .ok (.invokestatic 74, 3) := by decide +kernel
theorem dX6_apply_18 : decode cX6_apply 18 = .ok (.ifCond .ne 6, 3) := by decide +kernel
theorem dX6_apply_21 : decode cX6_apply 21 = .ok (.bipush (-2), 2) := by decide +kernel
theorem dX6_apply_23 : decode cX6_apply 23 = .ok (.ireturn, 1) := by decide +kernel
theorem dX6_apply_24 : decode cX6_apply 24 = .ok (.aload_n 0, 1) := by decide +kernel
end
section
theorem dX6_apply_25 : decode cX6_apply 25 = .ok (.iload_n 1, 1) := by decide +kernel
theorem dX6_apply_26 : decode cX6_apply 26 = .ok (.invokevirtual 118, 3) := by decide +kernel
theorem dX6_apply_29 : decode cX6_apply 29 = .ok (.ifCond .ne 11, 3) := by decide +kernel
theorem dX6_apply_32 : decode cX6_apply 32 = .ok (.aload_n 0, 1) := by decide +kernel
theorem dX6_apply_33 : decode cX6_apply 33 = .ok (.iload_n 2, 1) := by decide +kernel
theorem dX6_apply_34 : decode cX6_apply 34 = .ok (.invokevirtual 118, 3) := by decide +kernel
theorem dX6_apply_37 : decode cX6_apply 37 = .ok (.ifCond .eq 6, 3) := by decide +kernel
theorem dX6_apply_40 : decode cX6_apply 40 = .ok (.bipush (-11), 2) := by decide +kernel
theorem dX6_apply_42 : decode cX6_apply 42 = .ok (.ireturn, 1) := by decide +kernel
theorem dX6_apply_43 : decode cX6_apply 43 = .ok (.aload_n 0, 1) := by decide +kernel
theorem dX6_apply_44 : decode cX6_apply 44 = .ok (.iload_n 1, 1) := by decide +kernel
theorem dX6_apply_45 : decode cX6_apply 45 = .ok (.aload_n 0, 1) := by decide +kernel
theorem dX6_apply_46 : decode cX6_apply 46 = .ok (.getfield 26, 3) := by decide +kernel
theorem dX6_apply_49 : decode cX6_apply 49 = .ok (.invokevirtual 105, 3) := by decide +kernel
theorem dX6_apply_52 : decode cX6_apply 52 = .ok (.aload_n 0, 1) := by decide +kernel
theorem dX6_apply_53 : decode cX6_apply 53 = .ok (.iload_n 2, 1) := by decide +kernel
theorem dX6_apply_54 : decode cX6_apply 54 = .ok (.aload_n 0, 1) := by decide +kernel
theorem dX6_apply_55 : decode cX6_apply 55 = .ok (.getfield 29, 3) := by decide +kernel
theorem dX6_apply_58 : decode cX6_apply 58 = .ok (.invokevirtual 105, 3) := by decide +kernel
theorem dX6_apply_61 : decode cX6_apply 61 = .ok (.aload_n 0, 1) := by decide +kernel
theorem dX6_apply_62 : decode cX6_apply 62 = .ok (.getfield 26, 3) := by decide +kernel
theorem dX6_apply_65 : decode cX6_apply 65 = .ok (.aload_n 0, 1) := by decide +kernel
theorem dX6_apply_66 : decode cX6_apply 66 = .ok (.getfield 29, 3) := by decide +kernel
theorem dX6_apply_69 : decode cX6_apply 69 = .ok (.aload_n 0, 1) := by decide +kernel
theorem dX6_apply_70 : decode cX6_apply 70 = .ok (.getfield 32, 3) := by decide +kernel
theorem dX6_apply_73 : decode cX6_apply 73 = .ok (.invokestatic 134, 3) := by decide +kernel
theorem dX6_apply_76 : decode cX6_apply 76 = .ok (.aload_n 0, 1) := by decide +kernel
theorem dX6_apply_77 : decode cX6_apply 77 = .ok (.aload_n 0, 1) := by decide +kernel
theorem dX6_apply_78 : decode cX6_apply 78 = .ok (.getfield 32, 3) := by decide +kernel
theorem dX6_apply_81 : decode cX6_apply 81 = .ok (.iload_n 3, 1) := by decide +kernel
theorem dX6_apply_82 : decode cX6_apply 82 = .ok (.invokevirtual 114, 3) := by decide +kernel
theorem dX6_apply_85 : decode cX6_apply 85 = .ok (.ireturn, 1) := by decide +kernel
theorem dX6_isRung_0 : decode cX6_isRung 0 = .ok (.iload_n 0, 1) := by decide +kernel
theorem dX6_isRung_1 : decode cX6_isRung 1 = .ok (.iconst 0, 1) := by decide +kernel
theorem dX6_isRung_2 : decode cX6_isRung 2 = .ok (.iconst 3, 1) := by decide +kernel
theorem dX6_isRung_3 : decode cX6_isRung 3 = .ok (.invokestatic 70, 3) := by decide +kernel
theorem dX6_isRung_6 : decode cX6_isRung 6 = .ok (.ifCond .eq 17, 3) := by decide +kernel
theorem dX6_isRung_9 : decode cX6_isRung 9 = .ok (.iload_n 1, 1) := by decide +kernel
theorem dX6_isRung_10 : decode cX6_isRung 10 = .ok (.iconst 0, 1) := by decide +kernel
theorem dX6_isRung_11 : decode cX6_isRung 11 = .ok (.bipush 9, 2) := by decide +kernel
theorem dX6_isRung_13 : decode cX6_isRung 13 = .ok (.invokestatic 70, 3) := by decide +kernel
theorem dX6_isRung_16 : decode cX6_isRung 16 = .ok (.ifCond .eq 7, 3) := by decide +kernel
theorem dX6_isRung_19 : decode cX6_isRung 19 = .ok (.iconst 1, 1) := by decide +kernel
theorem dX6_isRung_20 : decode cX6_isRung 20 = .ok (.goto 4, 3) := by decide +kernel
theorem dX6_isRung_23 : decode cX6_isRung 23 = .ok (.iconst 0, 1) := by decide +kernel
theorem dX6_isRung_24 : decode cX6_isRung 24 = .ok (.ireturn, 1) := by decide +kernel
theorem dX6_canLadder_0 : decode cX6_canLadder 0 = .ok (.aload_n 0, 1) := by decide +kernel
theorem dX6_canLadder_1 : decode cX6_canLadder 1 = .ok (.getfield 26, 3) := by decide +kernel
theorem dX6_canLadder_4 : decode cX6_canLadder 4 = .ok (.iconst 0, 1) := by decide +kernel
theorem dX6_canLadder_5 : decode cX6_canLadder 5 = .ok (.iaload, 1) := by decide +kernel
theorem dX6_canLadder_6 : decode cX6_canLadder 6 = .ok (.ifCond .eq 13, 3) := by decide +kernel
theorem dX6_canLadder_9 : decode cX6_canLadder 9 = .ok (.aload_n 0, 1) := by decide +kernel
theorem dX6_canLadder_10 : decode cX6_canLadder 10 = .ok (.getfield 29, 3) := by decide +kernel
theorem dX6_canLadder_13 : decode cX6_canLadder 13 = .ok (.invokestatic 124, 3) := by decide +kernel
theorem dX6_canLadder_16 : decode cX6_canLadder 16 = .ok (.ifCond .ne 5, 3) := by decide +kernel
theorem dX6_canLadder_19 : decode cX6_canLadder 19 = .ok (.iconst 0, 1) := by decide +kernel
theorem dX6_canLadder_20 : decode cX6_canLadder 20 = .ok (.ireturn, 1) := by decide +kernel
theorem dX6_canLadder_21 : decode cX6_canLadder 21 = .ok (.aload_n 0, 1) := by decide +kernel
theorem dX6_canLadder_22 : decode cX6_canLadder 22 = .ok (.aload_n 0, 1) := by decide +kernel
theorem dX6_canLadder_23 : decode cX6_canLadder 23 = .ok (.getfield 29, 3) := by decide +kernel
theorem dX6_canLadder_26 : decode cX6_canLadder 26 = .ok (.aload_n 0, 1) := by decide +kernel
theorem dX6_canLadder_27 : decode cX6_canLadder 27 = .ok (.getfield 32, 3) := by decide +kernel
theorem dX6_canLadder_30 : decode cX6_canLadder 30 = .ok (.invokevirtual 128, 3) := by decide +kernel
theorem dX6_canLadder_33 : decode cX6_canLadder 33 = .ok (.aload_n 0, 1) := by decide +kernel
theorem dX6_canLadder_34 : decode cX6_canLadder 34 = .ok (.aload_n 0, 1) := by decide +kernel
theorem dX6_canLadder_35 : decode cX6_canLadder 35 = .ok (.getfield 26, 3) := by decide +kernel
theorem dX6_canLadder_38 : decode cX6_canLadder 38 = .ok (.aload_n 0, 1) := by decide +kernel
theorem dX6_canLadder_39 : decode cX6_canLadder 39 = .ok (.getfield 32, 3) := by decide +kernel
theorem dX6_canLadder_42 : decode cX6_canLadder 42 = .ok (.aload_n 0, 1) := by decide +kernel
theorem dX6_canLadder_43 : decode cX6_canLadder 43 = .ok (.getfield 35, 3) := by decide +kernel
theorem dX6_canLadder_46 : decode cX6_canLadder 46 = .ok (.invokevirtual 102, 3) := by decide +kernel
theorem dX6_canLadder_49 : decode cX6_canLadder 49 = .ok (.aload_n 0, 1) := by decide +kernel
theorem dX6_canLadder_50 : decode cX6_canLadder 50 = .ok (.getfield 38, 3) := by decide +kernel
theorem dX6_canLadder_53 : decode cX6_canLadder 53 = .ok (.invokestatic 90, 3) := by decide +kernel
theorem dX6_canLadder_56 : decode cX6_canLadder 56 = .ok (.aload_n 0, 1) := by decide +kernel
theorem dX6_canLadder_57 : decode cX6_canLadder 57 = .ok (.getfield 38, 3) := by decide +kernel
theorem dX6_canLadder_60 : decode cX6_canLadder 60 = .ok (.aload_n 0, 1) := by decide +kernel
theorem dX6_canLadder_61 : decode cX6_canLadder 61 = .ok (.getfield 35, 3) := by decide +kernel
theorem dX6_canLadder_64 : decode cX6_canLadder 64 = .ok (.aload_n 0, 1) := by decide +kernel
theorem dX6_canLadder_65 : decode cX6_canLadder 65 = .ok (.getfield 41, 3) := by decide +kernel
theorem dX6_canLadder_68 : decode cX6_canLadder 68 = .ok (.invokestatic 121, 3) := by decide +kernel
theorem dX6_canLadder_71 : decode cX6_canLadder 71 = .ok (.aload_n 0, 1) := by decide +kernel
theorem dX6_canLadder_72 : decode cX6_canLadder 72 = .ok (.getfield 41, 3) := by decide +kernel
theorem dX6_canLadder_75 : decode cX6_canLadder 75 = .ok (.aload_n 0, 1) := by decide +kernel
theorem dX6_canLadder_76 : decode cX6_canLadder 76 = .ok (.getfield 35, 3) := by decide +kernel
theorem dX6_canLadder_79 : decode cX6_canLadder 79 = .ok (.invokestatic 98, 3) := by decide +kernel
theorem dX6_canLadder_82 : decode cX6_canLadder 82 = .ok (.iconst 1, 1) := by decide +kernel
theorem dX6_canLadder_83 : decode cX6_canLadder 83 = .ok (.ireturn, 1) := by decide +kernel
theorem dX6_ladder_0 : decode cX6_ladder 0 = .ok (.iload_n 1, 1) := by decide +kernel
theorem dX6_ladder_1 : decode cX6_ladder 1 = .ok (.iconst 0, 1) := by decide +kernel
theorem dX6_ladder_2 : decode cX6_ladder 2 = .ok (.iconst 3, 1) := by decide +kernel
theorem dX6_ladder_3 : decode cX6_ladder 3 = .ok (.invokestatic 70, 3) := by decide +kernel
theorem dX6_ladder_6 : decode cX6_ladder 6 = .ok (.ifCond .eq 17, 3) := by decide +kernel
theorem dX6_ladder_9 : decode cX6_ladder 9 = .ok (.iload_n 2, 1) := by decide +kernel
theorem dX6_ladder_10 : decode cX6_ladder 10 = .ok (.invokestatic 74, 3) := by decide +kernel
theorem dX6_ladder_13 : decode cX6_ladder 13 = .ok (.ifCond .eq 10, 3) := by decide +kernel
theorem dX6_ladder_16 : decode cX6_ladder 16 = .ok (.iload_n 3, 1) := by decide +kernel
theorem dX6_ladder_17 : decode cX6_ladder 17 = .ok (.invokestatic 74, 3) := by decide +kernel
theorem dX6_ladder_20 : decode cX6_ladder 20 = .ok (.ifCond .ne 6, 3) := by decide +kernel
theorem dX6_ladder_23 : decode cX6_ladder 23 = .ok (.bipush (-2), 2) := by decide +kernel
theorem dX6_ladder_25 : decode cX6_ladder 25 = .ok (.ireturn, 1) := by decide +kernel
theorem dX6_ladder_26 : decode cX6_ladder 26 = .ok (.aload_n 0, 1) := by decide +kernel
theorem dX6_ladder_27 : decode cX6_ladder 27 = .ok (.iload_n 2, 1) := by decide +kernel
theorem dX6_ladder_28 : decode cX6_ladder 28 = .ok (.invokevirtual 118, 3) := by decide +kernel
theorem dX6_ladder_31 : decode cX6_ladder 31 = .ok (.ifCond .ne 11, 3) := by decide +kernel
theorem dX6_ladder_34 : decode cX6_ladder 34 = .ok (.aload_n 0, 1) := by decide +kernel
theorem dX6_ladder_35 : decode cX6_ladder 35 = .ok (.iload_n 3, 1) := by decide +kernel
theorem dX6_ladder_36 : decode cX6_ladder 36 = .ok (.invokevirtual 118, 3) := by decide +kernel
theorem dX6_ladder_39 : decode cX6_ladder 39 = .ok (.ifCond .eq 6, 3) := by decide +kernel
theorem dX6_ladder_42 : decode cX6_ladder 42 = .ok (.bipush (-11), 2) := by decide +kernel
theorem dX6_ladder_44 : decode cX6_ladder 44 = .ok (.ireturn, 1) := by decide +kernel
theorem dX6_ladder_45 : decode cX6_ladder 45 = .ok (.aload_n 0, 1) := by decide +kernel
theorem dX6_ladder_46 : decode cX6_ladder 46 = .ok (.iload_n 2, 1) := by decide +kernel
theorem dX6_ladder_47 : decode cX6_ladder 47 = .ok (.aload_n 0, 1) := by decide +kernel
theorem dX6_ladder_48 : decode cX6_ladder 48 = .ok (.getfield 26, 3) := by decide +kernel
theorem dX6_ladder_51 : decode cX6_ladder 51 = .ok (.invokevirtual 105, 3) := by decide +kernel
theorem dX6_ladder_54 : decode cX6_ladder 54 = .ok (.aload_n 0, 1) := by decide +kernel
theorem dX6_ladder_55 : decode cX6_ladder 55 = .ok (.iload_n 3, 1) := by decide +kernel
theorem dX6_ladder_56 : decode cX6_ladder 56 = .ok (.aload_n 0, 1) := by decide +kernel
theorem dX6_ladder_57 : decode cX6_ladder 57 = .ok (.getfield 29, 3) := by decide +kernel
theorem dX6_ladder_60 : decode cX6_ladder 60 = .ok (.invokevirtual 105, 3) := by decide +kernel
theorem dX6_ladder_63 : decode cX6_ladder 63 = .ok (.aload_n 0, 1) := by decide +kernel
theorem dX6_ladder_64 : decode cX6_ladder 64 = .ok (.invokevirtual 137, 3) := by decide +kernel
theorem dX6_ladder_67 : decode cX6_ladder 67 = .ok (.ifCond .ne 6, 3) := by decide +kernel
theorem dX6_ladder_70 : decode cX6_ladder 70 = .ok (.bipush (-3), 2) := by decide +kernel
theorem dX6_ladder_72 : decode cX6_ladder 72 = .ok (.ireturn, 1) := by decide +kernel
theorem dX6_ladder_73 : decode cX6_ladder 73 = .ok (.iconst 0, 1) := by decide +kernel
theorem dX6_ladder_74 : decode cX6_ladder 74 = .ok (.istore 4, 2) := by decide +kernel
theorem dX6_ladder_76 : decode cX6_ladder 76 = .ok (.iload 4, 2) := by decide +kernel
theorem dX6_ladder_78 : decode cX6_ladder 78 = .ok (.bipush 10, 2) := by decide +kernel
theorem dX6_ladder_80 : decode cX6_ladder 80 = .ok (.if_icmp .ge 105, 3) := by decide +kernel
theorem dX6_ladder_83 : decode cX6_ladder 83 = .ok (.iconst 0, 1) := by decide +kernel
theorem dX6_ladder_84 : decode cX6_ladder 84 = .ok (.istore 5, 2) := by decide +kernel
theorem dX6_ladder_86 : decode cX6_ladder 86 = .ok (.iload 5, 2) := by decide +kernel
theorem dX6_ladder_88 : decode cX6_ladder 88 = .ok (.bipush 10, 2) := by decide +kernel
theorem dX6_ladder_90 : decode cX6_ladder 90 = .ok (.if_icmp .ge 63, 3) := by decide +kernel
theorem dX6_ladder_93 : decode cX6_ladder 93 = .ok (.iload 5, 2) := by decide +kernel
theorem dX6_ladder_95 : decode cX6_ladder 95 = .ok (.invokestatic 109, 3) := by decide +kernel
theorem dX6_ladder_98 : decode cX6_ladder 98 = .ok (.i2l, 1) := by decide +kernel
theorem dX6_ladder_99 : decode cX6_ladder 99 = .ok (.iload 4, 2) := by decide +kernel
theorem dX6_ladder_101 : decode cX6_ladder 101 = .ok (.invokestatic 109, 3) := by decide +kernel
theorem dX6_ladder_104 : decode cX6_ladder 104 = .ok (.invokestatic 87, 3) := by decide +kernel
theorem dX6_ladder_107 : decode cX6_ladder 107 = .ok (.i2l, 1) := by decide +kernel
theorem dX6_ladder_108 : decode cX6_ladder 108 = .ok (.lmul, 1) := by decide +kernel
theorem dX6_ladder_109 : decode cX6_ladder 109 = .ok (.invokestatic 62, 3) := by decide +kernel
theorem dX6_ladder_112 : decode cX6_ladder 112 = .ok (.istore 6, 2) := by decide +kernel
theorem dX6_ladder_114 : decode cX6_ladder 114 = .ok (.aload_n 0, 1) := by decide +kernel
theorem dX6_ladder_115 : decode cX6_ladder 115 = .ok (.getfield 53, 3) := by decide +kernel
theorem dX6_ladder_118 : decode cX6_ladder 118 = .ok (.bipush 100, 2) := by decide +kernel
theorem dX6_ladder_120 : decode cX6_ladder 120 = .ok (.iload_n 1, 1) := by decide +kernel
theorem dX6_ladder_121 : decode cX6_ladder 121 = .ok (.imul, 1) := by decide +kernel
theorem dX6_ladder_122 : decode cX6_ladder 122 = .ok (.bipush 10, 2) := by decide +kernel
theorem dX6_ladder_124 : decode cX6_ladder 124 = .ok (.iload 5, 2) := by decide +kernel
theorem dX6_ladder_126 : decode cX6_ladder 126 = .ok (.imul, 1) := by decide +kernel
theorem dX6_ladder_127 : decode cX6_ladder 127 = .ok (.iadd, 1) := by decide +kernel
theorem dX6_ladder_128 : decode cX6_ladder 128 = .ok (.iload 4, 2) := by decide +kernel
theorem dX6_ladder_130 : decode cX6_ladder 130 = .ok (.iadd, 1) := by decide +kernel
theorem dX6_ladder_131 : decode cX6_ladder 131 = .ok (.iload 6, 2) := by decide +kernel
theorem dX6_ladder_133 : decode cX6_ladder 133 = .ok (.i2l, 1) := by decide +kernel
theorem dX6_ladder_134 : decode cX6_ladder 134 = .ok (.aload_n 0, 1) := by decide +kernel
theorem dX6_ladder_135 : decode cX6_ladder 135 = .ok (.getfield 35, 3) := by decide +kernel
theorem dX6_ladder_138 : decode cX6_ladder 138 = .ok (.iload 5, 2) := by decide +kernel
theorem dX6_ladder_140 : decode cX6_ladder 140 = .ok (.iaload, 1) := by decide +kernel
theorem dX6_ladder_141 : decode cX6_ladder 141 = .ok (.i2l, 1) := by decide +kernel
theorem dX6_ladder_142 : decode cX6_ladder 142 = .ok (.lmul, 1) := by decide +kernel
theorem dX6_ladder_143 : decode cX6_ladder 143 = .ok (.invokestatic 62, 3) := by decide +kernel
theorem dX6_ladder_146 : decode cX6_ladder 146 = .ok (.iastore, 1) := by decide +kernel
theorem dX6_ladder_147 : decode cX6_ladder 147 = .ok (.iinc 5 1, 3) := by decide +kernel
theorem dX6_ladder_150 : decode cX6_ladder 150 = .ok (.goto (-64), 3) := by decide +kernel
theorem dX6_ladder_153 : decode cX6_ladder 153 = .ok (.aload_n 0, 1) := by decide +kernel
theorem dX6_ladder_154 : decode cX6_ladder 154 = .ok (.getfield 32, 3) := by decide +kernel
theorem dX6_ladder_157 : decode cX6_ladder 157 = .ok (.aload_n 0, 1) := by decide +kernel
theorem dX6_ladder_158 : decode cX6_ladder 158 = .ok (.getfield 35, 3) := by decide +kernel
theorem dX6_ladder_161 : decode cX6_ladder 161 = .ok (.aload_n 0, 1) := by decide +kernel
theorem dX6_ladder_162 : decode cX6_ladder 162 = .ok (.getfield 41, 3) := by decide +kernel
theorem dX6_ladder_165 : decode cX6_ladder 165 = .ok (.invokestatic 94, 3) := by decide +kernel
theorem dX6_ladder_168 : decode cX6_ladder 168 = .ok (.aload_n 0, 1) := by decide +kernel
theorem dX6_ladder_169 : decode cX6_ladder 169 = .ok (.getfield 41, 3) := by decide +kernel
theorem dX6_ladder_172 : decode cX6_ladder 172 = .ok (.aload_n 0, 1) := by decide +kernel
theorem dX6_ladder_173 : decode cX6_ladder 173 = .ok (.getfield 35, 3) := by decide +kernel
theorem dX6_ladder_176 : decode cX6_ladder 176 = .ok (.invokestatic 98, 3) := by decide +kernel
theorem dX6_ladder_179 : decode cX6_ladder 179 = .ok (.iinc 4 1, 3) := by decide +kernel
theorem dX6_ladder_182 : decode cX6_ladder 182 = .ok (.goto (-106), 3) := by decide +kernel
theorem dX6_ladder_185 : decode cX6_ladder 185 = .ok (.aload_n 0, 1) := by decide +kernel
theorem dX6_ladder_186 : decode cX6_ladder 186 = .ok (.getfield 50, 3) := by decide +kernel
theorem dX6_ladder_189 : decode cX6_ladder 189 = .ok (.iload_n 1, 1) := by decide +kernel
theorem dX6_ladder_190 : decode cX6_ladder 190 = .ok (.iconst 1, 1) := by decide +kernel
theorem dX6_ladder_191 : decode cX6_ladder 191 = .ok (.bastore, 1) := by decide +kernel
theorem dX6_ladder_192 : decode cX6_ladder 192 = .ok (.iconst 1, 1) := by decide +kernel
theorem dX6_ladder_193 : decode cX6_ladder 193 = .ok (.ireturn, 1) := by decide +kernel
theorem dX6_step_0 : decode cX6_step 0 = .ok (.iload_n 1, 1) := by decide +kernel
theorem dX6_step_1 : decode cX6_step 1 = .ok (.iload_n 2, 1) := by decide +kernel
theorem dX6_step_2 : decode cX6_step 2 = .ok (.invokestatic 141, 3) := by decide +kernel
theorem dX6_step_5 : decode cX6_step 5 = .ok (.ifCond .eq 13, 3) := by decide +kernel
theorem dX6_step_8 : decode cX6_step 8 = .ok (.iload_n 3, 1) := by decide +kernel
theorem dX6_step_9 : decode cX6_step 9 = .ok (.iconst 0, 1) := by decide +kernel
theorem dX6_step_10 : decode cX6_step 10 = .ok (.bipush 9, 2) := by decide +kernel
theorem dX6_step_12 : decode cX6_step 12 = .ok (.invokestatic 70, 3) := by decide +kernel
theorem dX6_step_15 : decode cX6_step 15 = .ok (.ifCond .ne 6, 3) := by decide +kernel
theorem dX6_step_18 : decode cX6_step 18 = .ok (.bipush (-2), 2) := by decide +kernel
theorem dX6_step_20 : decode cX6_step 20 = .ok (.ireturn, 1) := by decide +kernel
theorem dX6_step_21 : decode cX6_step 21 = .ok (.aload_n 0, 1) := by decide +kernel
theorem dX6_step_22 : decode cX6_step 22 = .ok (.getfield 50, 3) := by decide +kernel
theorem dX6_step_25 : decode cX6_step 25 = .ok (.iload_n 1, 1) := by decide +kernel
theorem dX6_step_26 : decode cX6_step 26 = .ok (.baload, 1) := by decide +kernel
theorem dX6_step_27 : decode cX6_step 27 = .ok (.ifCond .eq 22, 3) := by decide +kernel
theorem dX6_step_30 : decode cX6_step 30 = .ok (.aload_n 0, 1) := by decide +kernel
theorem dX6_step_31 : decode cX6_step 31 = .ok (.getfield 53, 3) := by decide +kernel
theorem dX6_step_34 : decode cX6_step 34 = .ok (.bipush 100, 2) := by decide +kernel
theorem dX6_step_36 : decode cX6_step 36 = .ok (.iload_n 1, 1) := by decide +kernel
theorem dX6_step_37 : decode cX6_step 37 = .ok (.imul, 1) := by decide +kernel
theorem dX6_step_38 : decode cX6_step 38 = .ok (.bipush 10, 2) := by decide +kernel
theorem dX6_step_40 : decode cX6_step 40 = .ok (.iload_n 2, 1) := by decide +kernel
theorem dX6_step_41 : decode cX6_step 41 = .ok (.imul, 1) := by decide +kernel
theorem dX6_step_42 : decode cX6_step 42 = .ok (.iadd, 1) := by decide +kernel
theorem dX6_step_43 : decode cX6_step 43 = .ok (.iload_n 3, 1) := by decide +kernel
theorem dX6_step_44 : decode cX6_step 44 = .ok (.iadd, 1) := by decide +kernel
theorem dX6_step_45 : decode cX6_step 45 = .ok (.iaload, 1) := by decide +kernel
theorem dX6_step_46 : decode cX6_step 46 = .ok (.goto 5, 3) := by decide +kernel
theorem dX6_step_49 : decode cX6_step 49 = .ok (.bipush (-3), 2) := by decide +kernel
theorem dX6_step_51 : decode cX6_step 51 = .ok (.ireturn, 1) := by decide +kernel
theorem dX6_rung_0 : decode cX6_rung 0 = .ok (.iconst 0, 1) := by decide +kernel
theorem dX6_rung_1 : decode cX6_rung 1 = .ok (.istore 4, 2) := by decide +kernel
theorem dX6_rung_3 : decode cX6_rung 3 = .ok (.iload 4, 2) := by decide +kernel
theorem dX6_rung_5 : decode cX6_rung 5 = .ok (.bipush 10, 2) := by decide +kernel
theorem dX6_rung_7 : decode cX6_rung 7 = .ok (.if_icmp .ge 30, 3) := by decide +kernel
theorem dX6_rung_10 : decode cX6_rung 10 = .ok (.aload_n 3, 1) := by decide +kernel
theorem dX6_rung_11 : decode cX6_rung 11 = .ok (.iload 4, 2) := by decide +kernel
theorem dX6_rung_13 : decode cX6_rung 13 = .ok (.aload_n 0, 1) := by decide +kernel
theorem dX6_rung_14 : decode cX6_rung 14 = .ok (.getfield 53, 3) := by decide +kernel
theorem dX6_rung_17 : decode cX6_rung 17 = .ok (.bipush 100, 2) := by decide +kernel
theorem dX6_rung_19 : decode cX6_rung 19 = .ok (.iload_n 1, 1) := by decide +kernel
theorem dX6_rung_20 : decode cX6_rung 20 = .ok (.imul, 1) := by decide +kernel
theorem dX6_rung_21 : decode cX6_rung 21 = .ok (.bipush 10, 2) := by decide +kernel
theorem dX6_rung_23 : decode cX6_rung 23 = .ok (.iload_n 2, 1) := by decide +kernel
theorem dX6_rung_24 : decode cX6_rung 24 = .ok (.imul, 1) := by decide +kernel
theorem dX6_rung_25 : decode cX6_rung 25 = .ok (.iadd, 1) := by decide +kernel
theorem dX6_rung_26 : decode cX6_rung 26 = .ok (.iload 4, 2) := by decide +kernel
theorem dX6_rung_28 : decode cX6_rung 28 = .ok (.iadd, 1) := by decide +kernel
theorem dX6_rung_29 : decode cX6_rung 29 = .ok (.iaload, 1) := by decide +kernel
theorem dX6_rung_30 : decode cX6_rung 30 = .ok (.iastore, 1) := by decide +kernel
theorem dX6_rung_31 : decode cX6_rung 31 = .ok (.iinc 4 1, 3) := by decide +kernel
theorem dX6_rung_34 : decode cX6_rung 34 = .ok (.goto (-31), 3) := by decide +kernel
theorem dX6_rung_37 : decode cX6_rung 37 = .ok (.return_, 1) := by decide +kernel
theorem dX6_at_0 : decode cX6_at 0 = .ok (.iload_n 1, 1) := by decide +kernel
theorem dX6_at_1 : decode cX6_at 1 = .ok (.iload_n 2, 1) := by decide +kernel
theorem dX6_at_2 : decode cX6_at 2 = .ok (.invokestatic 141, 3) := by decide +kernel
theorem dX6_at_5 : decode cX6_at 5 = .ok (.ifCond .ne 6, 3) := by decide +kernel
theorem dX6_at_8 : decode cX6_at 8 = .ok (.bipush (-2), 2) := by decide +kernel
theorem dX6_at_10 : decode cX6_at 10 = .ok (.ireturn, 1) := by decide +kernel
theorem dX6_at_11 : decode cX6_at 11 = .ok (.aload_n 0, 1) := by decide +kernel
theorem dX6_at_12 : decode cX6_at 12 = .ok (.getfield 50, 3) := by decide +kernel
theorem dX6_at_15 : decode cX6_at 15 = .ok (.iload_n 1, 1) := by decide +kernel
theorem dX6_at_16 : decode cX6_at 16 = .ok (.baload, 1) := by decide +kernel
theorem dX6_at_17 : decode cX6_at 17 = .ok (.ifCond .ne 6, 3) := by decide +kernel
theorem dX6_at_20 : decode cX6_at 20 = .ok (.bipush (-3), 2) := by decide +kernel
theorem dX6_at_22 : decode cX6_at 22 = .ok (.ireturn, 1) := by decide +kernel
theorem dX6_at_23 : decode cX6_at 23 = .ok (.aload_n 0, 1) := by decide +kernel
theorem dX6_at_24 : decode cX6_at 24 = .ok (.iload_n 1, 1) := by decide +kernel
theorem dX6_at_25 : decode cX6_at 25 = .ok (.iload_n 2, 1) := by decide +kernel
theorem dX6_at_26 : decode cX6_at 26 = .ok (.aload_n 0, 1) := by decide +kernel
theorem dX6_at_27 : decode cX6_at 27 = .ok (.getfield 26, 3) := by decide +kernel
theorem dX6_at_30 : decode cX6_at 30 = .ok (.invokevirtual 145, 3) := by decide +kernel
theorem dX6_at_33 : decode cX6_at 33 = .ok (.aload_n 0, 1) := by decide +kernel
theorem dX6_at_34 : decode cX6_at 34 = .ok (.getfield 26, 3) := by decide +kernel
theorem dX6_at_37 : decode cX6_at 37 = .ok (.iload_n 3, 1) := by decide +kernel
theorem dX6_at_38 : decode cX6_at 38 = .ok (.i2l, 1) := by decide +kernel
theorem dX6_at_39 : decode cX6_at 39 = .ok (.invokestatic 62, 3) := by decide +kernel
theorem dX6_at_42 : decode cX6_at 42 = .ok (.invokestatic 131, 3) := by decide +kernel
theorem dX6_at_45 : decode cX6_at 45 = .ok (.ireturn, 1) := by decide +kernel
theorem dX6_tell_0 : decode cX6_tell 0 = .ok (.iload_n 1, 1) := by decide +kernel
theorem dX6_tell_1 : decode cX6_tell 1 = .ok (.iload_n 2, 1) := by decide +kernel
theorem dX6_tell_2 : decode cX6_tell 2 = .ok (.invokestatic 141, 3) := by decide +kernel
theorem dX6_tell_5 : decode cX6_tell 5 = .ok (.ifCond .eq 10, 3) := by decide +kernel
theorem dX6_tell_8 : decode cX6_tell 8 = .ok (.iload_n 3, 1) := by decide +kernel
theorem dX6_tell_9 : decode cX6_tell 9 = .ok (.invokestatic 74, 3) := by decide +kernel
theorem dX6_tell_12 : decode cX6_tell 12 = .ok (.ifCond .ne 6, 3) := by decide +kernel
theorem dX6_tell_15 : decode cX6_tell 15 = .ok (.bipush (-2), 2) := by decide +kernel
theorem dX6_tell_17 : decode cX6_tell 17 = .ok (.ireturn, 1) := by decide +kernel
theorem dX6_tell_18 : decode cX6_tell 18 = .ok (.aload_n 0, 1) := by decide +kernel
theorem dX6_tell_19 : decode cX6_tell 19 = .ok (.getfield 50, 3) := by decide +kernel
theorem dX6_tell_22 : decode cX6_tell 22 = .ok (.iload_n 1, 1) := by decide +kernel
theorem dX6_tell_23 : decode cX6_tell 23 = .ok (.baload, 1) := by decide +kernel
theorem dX6_tell_24 : decode cX6_tell 24 = .ok (.ifCond .ne 6, 3) := by decide +kernel
theorem dX6_tell_27 : decode cX6_tell 27 = .ok (.bipush (-3), 2) := by decide +kernel
theorem dX6_tell_29 : decode cX6_tell 29 = .ok (.ireturn, 1) := by decide +kernel
theorem dX6_tell_30 : decode cX6_tell 30 = .ok (.aload_n 0, 1) := by decide +kernel
theorem dX6_tell_31 : decode cX6_tell 31 = .ok (.iload_n 1, 1) := by decide +kernel
theorem dX6_tell_32 : decode cX6_tell 32 = .ok (.iload_n 2, 1) := by decide +kernel
theorem dX6_tell_33 : decode cX6_tell 33 = .ok (.aload_n 0, 1) := by decide +kernel
theorem dX6_tell_34 : decode cX6_tell 34 = .ok (.getfield 26, 3) := by decide +kernel
theorem dX6_tell_37 : decode cX6_tell 37 = .ok (.invokevirtual 145, 3) := by decide +kernel
theorem dX6_tell_40 : decode cX6_tell 40 = .ok (.aload_n 0, 1) := by decide +kernel
theorem dX6_tell_41 : decode cX6_tell 41 = .ok (.aload_n 0, 1) := by decide +kernel
theorem dX6_tell_42 : decode cX6_tell 42 = .ok (.getfield 26, 3) := by decide +kernel
theorem dX6_tell_45 : decode cX6_tell 45 = .ok (.iload_n 3, 1) := by decide +kernel
theorem dX6_tell_46 : decode cX6_tell 46 = .ok (.invokevirtual 114, 3) := by decide +kernel
theorem dX6_tell_49 : decode cX6_tell 49 = .ok (.ireturn, 1) := by decide +kernel
theorem dX6_lowers_0 : decode cX6_lowers 0 = .ok (.iload_n 1, 1) := by decide +kernel
theorem dX6_lowers_1 : decode cX6_lowers 1 = .ok (.iconst 0, 1) := by decide +kernel
theorem dX6_lowers_2 : decode cX6_lowers 2 = .ok (.iconst 3, 1) := by decide +kernel
theorem dX6_lowers_3 : decode cX6_lowers 3 = .ok (.invokestatic 70, 3) := by decide +kernel
theorem dX6_lowers_6 : decode cX6_lowers 6 = .ok (.ifCond .eq 10, 3) := by decide +kernel
theorem dX6_lowers_9 : decode cX6_lowers 9 = .ok (.iload_n 2, 1) := by decide +kernel
theorem dX6_lowers_10 : decode cX6_lowers 10 = .ok (.invokestatic 74, 3) := by decide +kernel
theorem dX6_lowers_13 : decode cX6_lowers 13 = .ok (.ifCond .ne 6, 3) := by decide +kernel
theorem dX6_lowers_16 : decode cX6_lowers 16 = .ok (.bipush (-2), 2) := by decide +kernel
theorem dX6_lowers_18 : decode cX6_lowers 18 = .ok (.ireturn, 1) := by decide +kernel
theorem dX6_lowers_19 : decode cX6_lowers 19 = .ok (.aload_n 0, 1) := by decide +kernel
theorem dX6_lowers_20 : decode cX6_lowers 20 = .ok (.iload_n 2, 1) := by decide +kernel
theorem dX6_lowers_21 : decode cX6_lowers 21 = .ok (.invokevirtual 118, 3) := by decide +kernel
theorem dX6_lowers_24 : decode cX6_lowers 24 = .ok (.ifCond .eq 6, 3) := by decide +kernel
theorem dX6_lowers_27 : decode cX6_lowers 27 = .ok (.bipush (-11), 2) := by decide +kernel
theorem dX6_lowers_29 : decode cX6_lowers 29 = .ok (.ireturn, 1) := by decide +kernel
theorem dX6_lowers_30 : decode cX6_lowers 30 = .ok (.aload_n 0, 1) := by decide +kernel
theorem dX6_lowers_31 : decode cX6_lowers 31 = .ok (.getfield 50, 3) := by decide +kernel
theorem dX6_lowers_34 : decode cX6_lowers 34 = .ok (.iload_n 1, 1) := by decide +kernel
theorem dX6_lowers_35 : decode cX6_lowers 35 = .ok (.baload, 1) := by decide +kernel
theorem dX6_lowers_36 : decode cX6_lowers 36 = .ok (.ifCond .ne 6, 3) := by decide +kernel
theorem dX6_lowers_39 : decode cX6_lowers 39 = .ok (.bipush (-3), 2) := by decide +kernel
theorem dX6_lowers_41 : decode cX6_lowers 41 = .ok (.ireturn, 1) := by decide +kernel
theorem dX6_lowers_42 : decode cX6_lowers 42 = .ok (.aload_n 0, 1) := by decide +kernel
theorem dX6_lowers_43 : decode cX6_lowers 43 = .ok (.iload_n 2, 1) := by decide +kernel
theorem dX6_lowers_44 : decode cX6_lowers 44 = .ok (.aload_n 0, 1) := by decide +kernel
theorem dX6_lowers_45 : decode cX6_lowers 45 = .ok (.getfield 26, 3) := by decide +kernel
theorem dX6_lowers_48 : decode cX6_lowers 48 = .ok (.invokevirtual 105, 3) := by decide +kernel
theorem dX6_lowers_51 : decode cX6_lowers 51 = .ok (.iconst 1, 1) := by decide +kernel
theorem dX6_lowers_52 : decode cX6_lowers 52 = .ok (.istore_n 3, 1) := by decide +kernel
theorem dX6_lowers_53 : decode cX6_lowers 53 = .ok (.iload_n 3, 1) := by decide +kernel
theorem dX6_lowers_54 : decode cX6_lowers 54 = .ok (.bipush 10, 2) := by decide +kernel
theorem dX6_lowers_56 : decode cX6_lowers 56 = .ok (.if_icmp .ge 88, 3) := by decide +kernel
theorem dX6_lowers_59 : decode cX6_lowers 59 = .ok (.aload_n 0, 1) := by decide +kernel
theorem dX6_lowers_60 : decode cX6_lowers 60 = .ok (.iload_n 1, 1) := by decide +kernel
theorem dX6_lowers_61 : decode cX6_lowers 61 = .ok (.iload_n 3, 1) := by decide +kernel
theorem dX6_lowers_62 : decode cX6_lowers 62 = .ok (.aload_n 0, 1) := by decide +kernel
theorem dX6_lowers_63 : decode cX6_lowers 63 = .ok (.getfield 29, 3) := by decide +kernel
theorem dX6_lowers_66 : decode cX6_lowers 66 = .ok (.invokevirtual 145, 3) := by decide +kernel
theorem dX6_lowers_69 : decode cX6_lowers 69 = .ok (.aload_n 0, 1) := by decide +kernel
theorem dX6_lowers_70 : decode cX6_lowers 70 = .ok (.getfield 26, 3) := by decide +kernel
theorem dX6_lowers_73 : decode cX6_lowers 73 = .ok (.aload_n 0, 1) := by decide +kernel
theorem dX6_lowers_74 : decode cX6_lowers 74 = .ok (.getfield 29, 3) := by decide +kernel
theorem dX6_lowers_77 : decode cX6_lowers 77 = .ok (.aload_n 0, 1) := by decide +kernel
theorem dX6_lowers_78 : decode cX6_lowers 78 = .ok (.getfield 32, 3) := by decide +kernel
theorem dX6_lowers_81 : decode cX6_lowers 81 = .ok (.invokestatic 134, 3) := by decide +kernel
theorem dX6_lowers_84 : decode cX6_lowers 84 = .ok (.aload_n 0, 1) := by decide +kernel
theorem dX6_lowers_85 : decode cX6_lowers 85 = .ok (.iload_n 1, 1) := by decide +kernel
theorem dX6_lowers_86 : decode cX6_lowers 86 = .ok (.iload_n 3, 1) := by decide +kernel
theorem dX6_lowers_87 : decode cX6_lowers 87 = .ok (.iconst 1, 1) := by decide +kernel
theorem dX6_lowers_88 : decode cX6_lowers 88 = .ok (.isub, 1) := by decide +kernel
theorem dX6_lowers_89 : decode cX6_lowers 89 = .ok (.aload_n 0, 1) := by decide +kernel
theorem dX6_lowers_90 : decode cX6_lowers 90 = .ok (.getfield 35, 3) := by decide +kernel
theorem dX6_lowers_93 : decode cX6_lowers 93 = .ok (.invokevirtual 145, 3) := by decide +kernel
theorem dX6_lowers_96 : decode cX6_lowers 96 = .ok (.iconst 0, 1) := by decide +kernel
theorem dX6_lowers_97 : decode cX6_lowers 97 = .ok (.istore 4, 2) := by decide +kernel
theorem dX6_lowers_99 : decode cX6_lowers 99 = .ok (.iload 4, 2) := by decide +kernel
theorem dX6_lowers_101 : decode cX6_lowers 101 = .ok (.bipush 10, 2) := by decide +kernel
theorem dX6_lowers_103 : decode cX6_lowers 103 = .ok (.if_icmp .ge 35, 3) := by decide +kernel
theorem dX6_lowers_106 : decode cX6_lowers 106 = .ok (.aload_n 0, 1) := by decide +kernel
theorem dX6_lowers_107 : decode cX6_lowers 107 = .ok (.getfield 32, 3) := by decide +kernel
theorem dX6_lowers_110 : decode cX6_lowers 110 = .ok (.iload 4, 2) := by decide +kernel
theorem dX6_lowers_112 : decode cX6_lowers 112 = .ok (.iaload, 1) := by decide +kernel
theorem dX6_lowers_113 : decode cX6_lowers 113 = .ok (.iload_n 3, 1) := by decide +kernel
theorem dX6_lowers_114 : decode cX6_lowers 114 = .ok (.i2l, 1) := by decide +kernel
theorem dX6_lowers_115 : decode cX6_lowers 115 = .ok (.aload_n 0, 1) := by decide +kernel
theorem dX6_lowers_116 : decode cX6_lowers 116 = .ok (.getfield 35, 3) := by decide +kernel
theorem dX6_lowers_119 : decode cX6_lowers 119 = .ok (.iload 4, 2) := by decide +kernel
theorem dX6_lowers_121 : decode cX6_lowers 121 = .ok (.iaload, 1) := by decide +kernel
theorem dX6_lowers_122 : decode cX6_lowers 122 = .ok (.i2l, 1) := by decide +kernel
theorem dX6_lowers_123 : decode cX6_lowers 123 = .ok (.lmul, 1) := by decide +kernel
theorem dX6_lowers_124 : decode cX6_lowers 124 = .ok (.invokestatic 62, 3) := by decide +kernel
theorem dX6_lowers_127 : decode cX6_lowers 127 = .ok (.if_icmp .eq 5, 3) := by decide +kernel
theorem dX6_lowers_130 : decode cX6_lowers 130 = .ok (.iload_n 3, 1) := by decide +kernel
theorem dX6_lowers_131 : decode cX6_lowers 131 = .ok (.ireturn, 1) := by decide +kernel
theorem dX6_lowers_132 : decode cX6_lowers 132 = .ok (.iinc 4 1, 3) := by decide +kernel
theorem dX6_lowers_135 : decode cX6_lowers 135 = .ok (.goto (-36), 3) := by decide +kernel
theorem dX6_lowers_138 : decode cX6_lowers 138 = .ok (.iinc 3 1, 3) := by decide +kernel
theorem dX6_lowers_141 : decode cX6_lowers 141 = .ok (.goto (-88), 3) := by decide +kernel
theorem dX6_lowers_144 : decode cX6_lowers 144 = .ok (.iconst (-1), 1) := by decide +kernel
theorem dX6_lowers_145 : decode cX6_lowers 145 = .ok (.ireturn, 1) := by decide +kernel
theorem dX6_bound_0 : decode cX6_bound 0 = .ok (.iload_n 1, 1) := by decide +kernel
theorem dX6_bound_1 : decode cX6_bound 1 = .ok (.iload_n 3, 1) := by decide +kernel
theorem dX6_bound_2 : decode cX6_bound 2 = .ok (.invokestatic 141, 3) := by decide +kernel
theorem dX6_bound_5 : decode cX6_bound 5 = .ok (.ifCond .eq 23, 3) := by decide +kernel
theorem dX6_bound_8 : decode cX6_bound 8 = .ok (.iload_n 2, 1) := by decide +kernel
theorem dX6_bound_9 : decode cX6_bound 9 = .ok (.iconst 0, 1) := by decide +kernel
theorem dX6_bound_10 : decode cX6_bound 10 = .ok (.iconst 3, 1) := by decide +kernel
theorem dX6_bound_11 : decode cX6_bound 11 = .ok (.invokestatic 70, 3) := by decide +kernel
theorem dX6_bound_14 : decode cX6_bound 14 = .ok (.ifCond .eq 14, 3) := by decide +kernel
theorem dX6_bound_17 : decode cX6_bound 17 = .ok (.iload 4, 2) := by decide +kernel
theorem dX6_bound_19 : decode cX6_bound 19 = .ok (.iconst 0, 1) := by decide +kernel
theorem dX6_bound_20 : decode cX6_bound 20 = .ok (.bipush 9, 2) := by decide +kernel
theorem dX6_bound_22 : decode cX6_bound 22 = .ok (.invokestatic 70, 3) := by decide +kernel
theorem dX6_bound_25 : decode cX6_bound 25 = .ok (.ifCond .ne 6, 3) := by decide +kernel
theorem dX6_bound_28 : decode cX6_bound 28 = .ok (.bipush (-2), 2) := by decide +kernel
theorem dX6_bound_30 : decode cX6_bound 30 = .ok (.ireturn, 1) := by decide +kernel
theorem dX6_bound_31 : decode cX6_bound 31 = .ok (.aload_n 0, 1) := by decide +kernel
theorem dX6_bound_32 : decode cX6_bound 32 = .ok (.getfield 50, 3) := by decide +kernel
theorem dX6_bound_35 : decode cX6_bound 35 = .ok (.iload_n 1, 1) := by decide +kernel
theorem dX6_bound_36 : decode cX6_bound 36 = .ok (.baload, 1) := by decide +kernel
theorem dX6_bound_37 : decode cX6_bound 37 = .ok (.ifCond .eq 12, 3) := by decide +kernel
theorem dX6_bound_40 : decode cX6_bound 40 = .ok (.aload_n 0, 1) := by decide +kernel
theorem dX6_bound_41 : decode cX6_bound 41 = .ok (.getfield 50, 3) := by decide +kernel
theorem dX6_bound_44 : decode cX6_bound 44 = .ok (.iload_n 2, 1) := by decide +kernel
theorem dX6_bound_45 : decode cX6_bound 45 = .ok (.baload, 1) := by decide +kernel
theorem dX6_bound_46 : decode cX6_bound 46 = .ok (.ifCond .ne 6, 3) := by decide +kernel
theorem dX6_bound_49 : decode cX6_bound 49 = .ok (.bipush (-3), 2) := by decide +kernel
theorem dX6_bound_51 : decode cX6_bound 51 = .ok (.ireturn, 1) := by decide +kernel
theorem dX6_bound_52 : decode cX6_bound 52 = .ok (.aload_n 0, 1) := by decide +kernel
theorem dX6_bound_53 : decode cX6_bound 53 = .ok (.iload_n 1, 1) := by decide +kernel
theorem dX6_bound_54 : decode cX6_bound 54 = .ok (.iload_n 3, 1) := by decide +kernel
theorem dX6_bound_55 : decode cX6_bound 55 = .ok (.aload_n 0, 1) := by decide +kernel
theorem dX6_bound_56 : decode cX6_bound 56 = .ok (.getfield 26, 3) := by decide +kernel
theorem dX6_bound_59 : decode cX6_bound 59 = .ok (.invokevirtual 145, 3) := by decide +kernel
theorem dX6_bound_62 : decode cX6_bound 62 = .ok (.iconst 0, 1) := by decide +kernel
theorem dX6_bound_63 : decode cX6_bound 63 = .ok (.istore 5, 2) := by decide +kernel
theorem dX6_bound_65 : decode cX6_bound 65 = .ok (.bipush 9, 2) := by decide +kernel
theorem dX6_bound_67 : decode cX6_bound 67 = .ok (.istore 6, 2) := by decide +kernel
theorem dX6_bound_69 : decode cX6_bound 69 = .ok (.iload 6, 2) := by decide +kernel
theorem dX6_bound_71 : decode cX6_bound 71 = .ok (.iload 4, 2) := by decide +kernel
theorem dX6_bound_73 : decode cX6_bound 73 = .ok (.if_icmp .lt 92, 3) := by decide +kernel
theorem dX6_bound_76 : decode cX6_bound 76 = .ok (.aload_n 0, 1) := by decide +kernel
theorem dX6_bound_77 : decode cX6_bound 77 = .ok (.iload_n 2, 1) := by decide +kernel
theorem dX6_bound_78 : decode cX6_bound 78 = .ok (.iload 6, 2) := by decide +kernel
theorem dX6_bound_80 : decode cX6_bound 80 = .ok (.aload_n 0, 1) := by decide +kernel
theorem dX6_bound_81 : decode cX6_bound 81 = .ok (.getfield 29, 3) := by decide +kernel
theorem dX6_bound_84 : decode cX6_bound 84 = .ok (.invokevirtual 145, 3) := by decide +kernel
theorem dX6_bound_87 : decode cX6_bound 87 = .ok (.aload_n 0, 1) := by decide +kernel
theorem dX6_bound_88 : decode cX6_bound 88 = .ok (.getfield 26, 3) := by decide +kernel
theorem dX6_bound_91 : decode cX6_bound 91 = .ok (.iload 6, 2) := by decide +kernel
theorem dX6_bound_93 : decode cX6_bound 93 = .ok (.iaload, 1) := by decide +kernel
theorem dX6_bound_94 : decode cX6_bound 94 = .ok (.i2l, 1) := by decide +kernel
theorem dX6_bound_95 : decode cX6_bound 95 = .ok (.aload_n 0, 1) := by decide +kernel
theorem dX6_bound_96 : decode cX6_bound 96 = .ok (.getfield 29, 3) := by decide +kernel
theorem dX6_bound_99 : decode cX6_bound 99 = .ok (.iload 6, 2) := by decide +kernel
theorem dX6_bound_101 : decode cX6_bound 101 = .ok (.iaload, 1) := by decide +kernel
theorem dX6_bound_102 : decode cX6_bound 102 = .ok (.invokestatic 87, 3) := by decide +kernel
theorem dX6_bound_105 : decode cX6_bound 105 = .ok (.i2l, 1) := by decide +kernel
theorem dX6_bound_106 : decode cX6_bound 106 = .ok (.lmul, 1) := by decide +kernel
theorem dX6_bound_107 : decode cX6_bound 107 = .ok (.invokestatic 62, 3) := by decide +kernel
theorem dX6_bound_110 : decode cX6_bound 110 = .ok (.istore 5, 2) := by decide +kernel
theorem dX6_bound_112 : decode cX6_bound 112 = .ok (.iconst 0, 1) := by decide +kernel
theorem dX6_bound_113 : decode cX6_bound 113 = .ok (.istore 7, 2) := by decide +kernel
theorem dX6_bound_115 : decode cX6_bound 115 = .ok (.iload 7, 2) := by decide +kernel
theorem dX6_bound_117 : decode cX6_bound 117 = .ok (.iload 6, 2) := by decide +kernel
theorem dX6_bound_119 : decode cX6_bound 119 = .ok (.if_icmp .gt 40, 3) := by decide +kernel
theorem dX6_bound_122 : decode cX6_bound 122 = .ok (.aload_n 0, 1) := by decide +kernel
theorem dX6_bound_123 : decode cX6_bound 123 = .ok (.getfield 26, 3) := by decide +kernel
theorem dX6_bound_126 : decode cX6_bound 126 = .ok (.iload 7, 2) := by decide +kernel
theorem dX6_bound_128 : decode cX6_bound 128 = .ok (.aload_n 0, 1) := by decide +kernel
theorem dX6_bound_129 : decode cX6_bound 129 = .ok (.getfield 26, 3) := by decide +kernel
theorem dX6_bound_132 : decode cX6_bound 132 = .ok (.iload 7, 2) := by decide +kernel
theorem dX6_bound_134 : decode cX6_bound 134 = .ok (.iaload, 1) := by decide +kernel
theorem dX6_bound_135 : decode cX6_bound 135 = .ok (.i2l, 1) := by decide +kernel
theorem dX6_bound_136 : decode cX6_bound 136 = .ok (.iload 5, 2) := by decide +kernel
theorem dX6_bound_138 : decode cX6_bound 138 = .ok (.i2l, 1) := by decide +kernel
theorem dX6_bound_139 : decode cX6_bound 139 = .ok (.aload_n 0, 1) := by decide +kernel
theorem dX6_bound_140 : decode cX6_bound 140 = .ok (.getfield 29, 3) := by decide +kernel
theorem dX6_bound_143 : decode cX6_bound 143 = .ok (.iload 7, 2) := by decide +kernel
theorem dX6_bound_145 : decode cX6_bound 145 = .ok (.iaload, 1) := by decide +kernel
theorem dX6_bound_146 : decode cX6_bound 146 = .ok (.i2l, 1) := by decide +kernel
theorem dX6_bound_147 : decode cX6_bound 147 = .ok (.lmul, 1) := by decide +kernel
theorem dX6_bound_148 : decode cX6_bound 148 = .ok (.lsub, 1) := by decide +kernel
theorem dX6_bound_149 : decode cX6_bound 149 = .ok (.invokestatic 62, 3) := by decide +kernel
theorem dX6_bound_152 : decode cX6_bound 152 = .ok (.iastore, 1) := by decide +kernel
theorem dX6_bound_153 : decode cX6_bound 153 = .ok (.iinc 7 1, 3) := by decide +kernel
theorem dX6_bound_156 : decode cX6_bound 156 = .ok (.goto (-41), 3) := by decide +kernel
theorem dX6_bound_159 : decode cX6_bound 159 = .ok (.iinc 6 (-1), 3) := by decide +kernel
theorem dX6_bound_162 : decode cX6_bound 162 = .ok (.goto (-93), 3) := by decide +kernel
theorem dX6_bound_165 : decode cX6_bound 165 = .ok (.iload 5, 2) := by decide +kernel
theorem dX6_bound_167 : decode cX6_bound 167 = .ok (.ireturn, 1) := by decide +kernel
theorem dX6_choose_0 : decode cX6_choose 0 = .ok (.iload_n 0, 1) := by decide +kernel
theorem dX6_choose_1 : decode cX6_choose 1 = .ok (.invokestatic 109, 3) := by decide +kernel
theorem dX6_choose_4 : decode cX6_choose 4 = .ok (.i2l, 1) := by decide +kernel
theorem dX6_choose_5 : decode cX6_choose 5 = .ok (.iload_n 1, 1) := by decide +kernel
theorem dX6_choose_6 : decode cX6_choose 6 = .ok (.invokestatic 109, 3) := by decide +kernel
theorem dX6_choose_9 : decode cX6_choose 9 = .ok (.i2l, 1) := by decide +kernel
theorem dX6_choose_10 : decode cX6_choose 10 = .ok (.iload_n 0, 1) := by decide +kernel
theorem dX6_choose_11 : decode cX6_choose 11 = .ok (.iload_n 1, 1) := by decide +kernel
theorem dX6_choose_12 : decode cX6_choose 12 = .ok (.isub, 1) := by decide +kernel
theorem dX6_choose_13 : decode cX6_choose 13 = .ok (.invokestatic 109, 3) := by decide +kernel
theorem dX6_choose_16 : decode cX6_choose 16 = .ok (.i2l, 1) := by decide +kernel
theorem dX6_choose_17 : decode cX6_choose 17 = .ok (.lmul, 1) := by decide +kernel
theorem dX6_choose_18 : decode cX6_choose 18 = .ok (.invokestatic 62, 3) := by decide +kernel
theorem dX6_choose_21 : decode cX6_choose 21 = .ok (.invokestatic 87, 3) := by decide +kernel
theorem dX6_choose_24 : decode cX6_choose 24 = .ok (.i2l, 1) := by decide +kernel
theorem dX6_choose_25 : decode cX6_choose 25 = .ok (.lmul, 1) := by decide +kernel
theorem dX6_choose_26 : decode cX6_choose 26 = .ok (.invokestatic 62, 3) := by decide +kernel
theorem dX6_choose_29 : decode cX6_choose 29 = .ok (.ireturn, 1) := by decide +kernel
theorem dX6_stepAt_0 : decode cX6_stepAt 0 = .ok (.aload_n 0, 1) := by decide +kernel
theorem dX6_stepAt_1 : decode cX6_stepAt 1 = .ok (.iload_n 1, 1) := by decide +kernel
theorem dX6_stepAt_2 : decode cX6_stepAt 2 = .ok (.iload_n 2, 1) := by decide +kernel
theorem dX6_stepAt_3 : decode cX6_stepAt 3 = .ok (.aload_n 0, 1) := by decide +kernel
theorem dX6_stepAt_4 : decode cX6_stepAt 4 = .ok (.getfield 26, 3) := by decide +kernel
theorem dX6_stepAt_7 : decode cX6_stepAt 7 = .ok (.invokevirtual 145, 3) := by decide +kernel
theorem dX6_stepAt_10 : decode cX6_stepAt 10 = .ok (.aload_n 0, 1) := by decide +kernel
theorem dX6_stepAt_11 : decode cX6_stepAt 11 = .ok (.getfield 26, 3) := by decide +kernel
theorem dX6_stepAt_14 : decode cX6_stepAt 14 = .ok (.iload_n 3, 1) := by decide +kernel
theorem dX6_stepAt_15 : decode cX6_stepAt 15 = .ok (.invokestatic 131, 3) := by decide +kernel
theorem dX6_stepAt_18 : decode cX6_stepAt 18 = .ok (.ireturn, 1) := by decide +kernel
theorem dX6_isBinomial_0 : decode cX6_isBinomial 0 = .ok (.iconst 0, 1) := by decide +kernel
theorem dX6_isBinomial_1 : decode cX6_isBinomial 1 = .ok (.istore_n 3, 1) := by decide +kernel
theorem dX6_isBinomial_2 : decode cX6_isBinomial 2 = .ok (.iload_n 3, 1) := by decide +kernel
theorem dX6_isBinomial_3 : decode cX6_isBinomial 3 = .ok (.iload_n 2, 1) := by decide +kernel
theorem dX6_isBinomial_4 : decode cX6_isBinomial 4 = .ok (.if_icmp .gt 101, 3) := by decide +kernel
theorem dX6_isBinomial_7 : decode cX6_isBinomial 7 = .ok (.iconst 0, 1) := by decide +kernel
theorem dX6_isBinomial_8 : decode cX6_isBinomial 8 = .ok (.istore 4, 2) := by decide +kernel
theorem dX6_isBinomial_10 : decode cX6_isBinomial 10 = .ok (.iload 4, 2) := by decide +kernel
theorem dX6_isBinomial_12 : decode cX6_isBinomial 12 = .ok (.iload_n 2, 1) := by decide +kernel
theorem dX6_isBinomial_13 : decode cX6_isBinomial 13 = .ok (.if_icmp .gt 86, 3) := by decide +kernel
theorem dX6_isBinomial_16 : decode cX6_isBinomial 16 = .ok (.lconst 0, 1) := by decide +kernel
theorem dX6_isBinomial_17 : decode cX6_isBinomial 17 = .ok (.lstore 5, 2) := by decide +kernel
theorem dX6_isBinomial_19 : decode cX6_isBinomial 19 = .ok (.iconst 0, 1) := by decide +kernel
theorem dX6_isBinomial_20 : decode cX6_isBinomial 20 = .ok (.istore 7, 2) := by decide +kernel
theorem dX6_isBinomial_22 : decode cX6_isBinomial 22 = .ok (.iload 7, 2) := by decide +kernel
theorem dX6_isBinomial_24 : decode cX6_isBinomial 24 = .ok (.iload_n 2, 1) := by decide +kernel
theorem dX6_isBinomial_25 : decode cX6_isBinomial 25 = .ok (.if_icmp .gt 48, 3) := by decide +kernel
theorem dX6_isBinomial_28 : decode cX6_isBinomial 28 = .ok (.lload 5, 2) := by decide +kernel
theorem dX6_isBinomial_30 : decode cX6_isBinomial 30 = .ok (.iload_n 2, 1) := by decide +kernel
theorem dX6_isBinomial_31 : decode cX6_isBinomial 31 = .ok (.iload 7, 2) := by decide +kernel
theorem dX6_isBinomial_33 : decode cX6_isBinomial 33 = .ok (.invokestatic 149, 3) := by decide +kernel
theorem dX6_isBinomial_36 : decode cX6_isBinomial 36 = .ok (.i2l, 1) := by decide +kernel
theorem dX6_isBinomial_37 : decode cX6_isBinomial 37 = .ok (.aload_n 0, 1) := by decide +kernel
theorem dX6_isBinomial_38 : decode cX6_isBinomial 38 = .ok (.iload_n 1, 1) := by decide +kernel
theorem dX6_isBinomial_39 : decode cX6_isBinomial 39 = .ok (.iload 7, 2) := by decide +kernel
theorem dX6_isBinomial_41 : decode cX6_isBinomial 41 = .ok (.iload_n 3, 1) := by decide +kernel
theorem dX6_isBinomial_42 : decode cX6_isBinomial 42 = .ok (.invokevirtual 152, 3) := by decide +kernel
theorem dX6_isBinomial_45 : decode cX6_isBinomial 45 = .ok (.i2l, 1) := by decide +kernel
theorem dX6_isBinomial_46 : decode cX6_isBinomial 46 = .ok (.lmul, 1) := by decide +kernel
theorem dX6_isBinomial_47 : decode cX6_isBinomial 47 = .ok (.invokestatic 62, 3) := by decide +kernel
theorem dX6_isBinomial_50 : decode cX6_isBinomial 50 = .ok (.i2l, 1) := by decide +kernel
theorem dX6_isBinomial_51 : decode cX6_isBinomial 51 = .ok (.aload_n 0, 1) := by decide +kernel
theorem dX6_isBinomial_52 : decode cX6_isBinomial 52 = .ok (.iload_n 1, 1) := by decide +kernel
theorem dX6_isBinomial_53 : decode cX6_isBinomial 53 = .ok (.iload_n 2, 1) := by decide +kernel
theorem dX6_isBinomial_54 : decode cX6_isBinomial 54 = .ok (.iload 7, 2) := by decide +kernel
theorem dX6_isBinomial_56 : decode cX6_isBinomial 56 = .ok (.isub, 1) := by decide +kernel
theorem dX6_isBinomial_57 : decode cX6_isBinomial 57 = .ok (.iload 4, 2) := by decide +kernel
theorem dX6_isBinomial_59 : decode cX6_isBinomial 59 = .ok (.invokevirtual 152, 3) := by decide +kernel
theorem dX6_isBinomial_62 : decode cX6_isBinomial 62 = .ok (.i2l, 1) := by decide +kernel
theorem dX6_isBinomial_63 : decode cX6_isBinomial 63 = .ok (.lmul, 1) := by decide +kernel
theorem dX6_isBinomial_64 : decode cX6_isBinomial 64 = .ok (.ladd, 1) := by decide +kernel
theorem dX6_isBinomial_65 : decode cX6_isBinomial 65 = .ok (.lstore 5, 2) := by decide +kernel
theorem dX6_isBinomial_67 : decode cX6_isBinomial 67 = .ok (.iinc 7 1, 3) := by decide +kernel
theorem dX6_isBinomial_70 : decode cX6_isBinomial 70 = .ok (.goto (-48), 3) := by decide +kernel
theorem dX6_isBinomial_73 : decode cX6_isBinomial 73 = .ok (.lload 5, 2) := by decide +kernel
theorem dX6_isBinomial_75 : decode cX6_isBinomial 75 = .ok (.invokestatic 62, 3) := by decide +kernel
theorem dX6_isBinomial_78 : decode cX6_isBinomial 78 = .ok (.aload_n 0, 1) := by decide +kernel
theorem dX6_isBinomial_79 : decode cX6_isBinomial 79 = .ok (.iload_n 1, 1) := by decide +kernel
theorem dX6_isBinomial_80 : decode cX6_isBinomial 80 = .ok (.iload_n 2, 1) := by decide +kernel
theorem dX6_isBinomial_81 : decode cX6_isBinomial 81 = .ok (.iload_n 3, 1) := by decide +kernel
theorem dX6_isBinomial_82 : decode cX6_isBinomial 82 = .ok (.iload 4, 2) := by decide +kernel
theorem dX6_isBinomial_84 : decode cX6_isBinomial 84 = .ok (.iadd, 1) := by decide +kernel
theorem dX6_isBinomial_85 : decode cX6_isBinomial 85 = .ok (.invokevirtual 152, 3) := by decide +kernel
theorem dX6_isBinomial_88 : decode cX6_isBinomial 88 = .ok (.if_icmp .eq 5, 3) := by decide +kernel
theorem dX6_isBinomial_91 : decode cX6_isBinomial 91 = .ok (.iconst 0, 1) := by decide +kernel
theorem dX6_isBinomial_92 : decode cX6_isBinomial 92 = .ok (.ireturn, 1) := by decide +kernel
theorem dX6_isBinomial_93 : decode cX6_isBinomial 93 = .ok (.iinc 4 1, 3) := by decide +kernel
theorem dX6_isBinomial_96 : decode cX6_isBinomial 96 = .ok (.goto (-86), 3) := by decide +kernel
theorem dX6_isBinomial_99 : decode cX6_isBinomial 99 = .ok (.iinc 3 1, 3) := by decide +kernel
theorem dX6_isBinomial_102 : decode cX6_isBinomial 102 = .ok (.goto (-100), 3) := by decide +kernel
theorem dX6_isBinomial_105 : decode cX6_isBinomial 105 = .ok (.iconst 1, 1) := by decide +kernel
theorem dX6_isBinomial_106 : decode cX6_isBinomial 106 = .ok (.ireturn, 1) := by decide +kernel
theorem dX6_binomial_0 : decode cX6_binomial 0 = .ok (.iload_n 1, 1) := by decide +kernel
theorem dX6_binomial_1 : decode cX6_binomial 1 = .ok (.iconst 0, 1) := by decide +kernel
theorem dX6_binomial_2 : decode cX6_binomial 2 = .ok (.iconst 3, 1) := by decide +kernel
theorem dX6_binomial_3 : decode cX6_binomial 3 = .ok (.invokestatic 70, 3) := by decide +kernel
theorem dX6_binomial_6 : decode cX6_binomial 6 = .ok (.ifCond .ne 6, 3) := by decide +kernel
theorem dX6_binomial_9 : decode cX6_binomial 9 = .ok (.bipush (-2), 2) := by decide +kernel
theorem dX6_binomial_11 : decode cX6_binomial 11 = .ok (.ireturn, 1) := by decide +kernel
theorem dX6_binomial_12 : decode cX6_binomial 12 = .ok (.aload_n 0, 1) := by decide +kernel
theorem dX6_binomial_13 : decode cX6_binomial 13 = .ok (.getfield 50, 3) := by decide +kernel
theorem dX6_binomial_16 : decode cX6_binomial 16 = .ok (.iload_n 1, 1) := by decide +kernel
theorem dX6_binomial_17 : decode cX6_binomial 17 = .ok (.baload, 1) := by decide +kernel
theorem dX6_binomial_18 : decode cX6_binomial 18 = .ok (.ifCond .ne 6, 3) := by decide +kernel
theorem dX6_binomial_21 : decode cX6_binomial 21 = .ok (.bipush (-3), 2) := by decide +kernel
theorem dX6_binomial_23 : decode cX6_binomial 23 = .ok (.ireturn, 1) := by decide +kernel
theorem dX6_binomial_24 : decode cX6_binomial 24 = .ok (.iconst 0, 1) := by decide +kernel
theorem dX6_binomial_25 : decode cX6_binomial 25 = .ok (.istore_n 2, 1) := by decide +kernel
theorem dX6_binomial_26 : decode cX6_binomial 26 = .ok (.iload_n 2, 1) := by decide +kernel
theorem dX6_binomial_27 : decode cX6_binomial 27 = .ok (.bipush 10, 2) := by decide +kernel
theorem dX6_binomial_29 : decode cX6_binomial 29 = .ok (.if_icmp .ge 18, 3) := by decide +kernel
theorem dX6_binomial_32 : decode cX6_binomial 32 = .ok (.aload_n 0, 1) := by decide +kernel
theorem dX6_binomial_33 : decode cX6_binomial 33 = .ok (.iload_n 1, 1) := by decide +kernel
theorem dX6_binomial_34 : decode cX6_binomial 34 = .ok (.iload_n 2, 1) := by decide +kernel
theorem dX6_binomial_35 : decode cX6_binomial 35 = .ok (.invokevirtual 155, 3) := by decide +kernel
theorem dX6_binomial_38 : decode cX6_binomial 38 = .ok (.ifCond .eq 9, 3) := by decide +kernel
theorem dX6_binomial_41 : decode cX6_binomial 41 = .ok (.iinc 2 1, 3) := by decide +kernel
theorem dX6_binomial_44 : decode cX6_binomial 44 = .ok (.goto (-18), 3) := by decide +kernel
theorem dX6_binomial_47 : decode cX6_binomial 47 = .ok (.iload_n 2, 1) := by decide +kernel
theorem dX6_binomial_48 : decode cX6_binomial 48 = .ok (.iconst 1, 1) := by decide +kernel
theorem dX6_binomial_49 : decode cX6_binomial 49 = .ok (.isub, 1) := by decide +kernel
theorem dX6_binomial_50 : decode cX6_binomial 50 = .ok (.ireturn, 1) := by decide +kernel
theorem dX6_differs_0 : decode cX6_differs 0 = .ok (.lconst 0, 1) := by decide +kernel
theorem dX6_differs_1 : decode cX6_differs 1 = .ok (.lstore_n 3, 1) := by decide +kernel
theorem dX6_differs_2 : decode cX6_differs 2 = .ok (.iconst 0, 1) := by decide +kernel
theorem dX6_differs_3 : decode cX6_differs 3 = .ok (.istore 5, 2) := by decide +kernel
theorem dX6_differs_5 : decode cX6_differs 5 = .ok (.iload 5, 2) := by decide +kernel
theorem dX6_differs_7 : decode cX6_differs 7 = .ok (.iload_n 1, 1) := by decide +kernel
theorem dX6_differs_8 : decode cX6_differs 8 = .ok (.if_icmp .gt 56, 3) := by decide +kernel
theorem dX6_differs_11 : decode cX6_differs 11 = .ok (.iload_n 1, 1) := by decide +kernel
theorem dX6_differs_12 : decode cX6_differs 12 = .ok (.iload 5, 2) := by decide +kernel
theorem dX6_differs_14 : decode cX6_differs 14 = .ok (.invokestatic 149, 3) := by decide +kernel
theorem dX6_differs_17 : decode cX6_differs 17 = .ok (.i2l, 1) := by decide +kernel
theorem dX6_differs_18 : decode cX6_differs 18 = .ok (.aload_n 0, 1) := by decide +kernel
theorem dX6_differs_19 : decode cX6_differs 19 = .ok (.getfield 26, 3) := by decide +kernel
theorem dX6_differs_22 : decode cX6_differs 22 = .ok (.iload_n 2, 1) := by decide +kernel
theorem dX6_differs_23 : decode cX6_differs 23 = .ok (.i2l, 1) := by decide +kernel
theorem dX6_differs_24 : decode cX6_differs 24 = .ok (.iload 5, 2) := by decide +kernel
theorem dX6_differs_26 : decode cX6_differs 26 = .ok (.i2l, 1) := by decide +kernel
theorem dX6_differs_27 : decode cX6_differs 27 = .ok (.ladd, 1) := by decide +kernel
theorem dX6_differs_28 : decode cX6_differs 28 = .ok (.invokestatic 62, 3) := by decide +kernel
theorem dX6_differs_31 : decode cX6_differs 31 = .ok (.invokestatic 131, 3) := by decide +kernel
theorem dX6_differs_34 : decode cX6_differs 34 = .ok (.i2l, 1) := by decide +kernel
theorem dX6_differs_35 : decode cX6_differs 35 = .ok (.lmul, 1) := by decide +kernel
theorem dX6_differs_36 : decode cX6_differs 36 = .ok (.lstore 6, 2) := by decide +kernel
theorem dX6_differs_38 : decode cX6_differs 38 = .ok (.lload_n 3, 1) := by decide +kernel
theorem dX6_differs_39 : decode cX6_differs 39 = .ok (.iload_n 1, 1) := by decide +kernel
theorem dX6_differs_40 : decode cX6_differs 40 = .ok (.iload 5, 2) := by decide +kernel
theorem dX6_differs_42 : decode cX6_differs 42 = .ok (.isub, 1) := by decide +kernel
theorem dX6_differs_43 : decode cX6_differs 43 = .ok (.iconst 2, 1) := by decide +kernel
theorem dX6_differs_44 : decode cX6_differs 44 = .ok (.irem, 1) := by decide +kernel
theorem dX6_differs_45 : decode cX6_differs 45 = .ok (.ifCond .ne 8, 3) := by decide +kernel
theorem dX6_differs_48 : decode cX6_differs 48 = .ok (.lload 6, 2) := by decide +kernel
theorem dX6_differs_50 : decode cX6_differs 50 = .ok (.goto 6, 3) := by decide +kernel
theorem dX6_differs_53 : decode cX6_differs 53 = .ok (.lload 6, 2) := by decide +kernel
theorem dX6_differs_55 : decode cX6_differs 55 = .ok (.lneg, 1) := by decide +kernel
theorem dX6_differs_56 : decode cX6_differs 56 = .ok (.ladd, 1) := by decide +kernel
theorem dX6_differs_57 : decode cX6_differs 57 = .ok (.lstore_n 3, 1) := by decide +kernel
theorem dX6_differs_58 : decode cX6_differs 58 = .ok (.iinc 5 1, 3) := by decide +kernel
theorem dX6_differs_61 : decode cX6_differs 61 = .ok (.goto (-56), 3) := by decide +kernel
theorem dX6_differs_64 : decode cX6_differs 64 = .ok (.lload_n 3, 1) := by decide +kernel
theorem dX6_differs_65 : decode cX6_differs 65 = .ok (.invokestatic 62, 3) := by decide +kernel
theorem dX6_differs_68 : decode cX6_differs 68 = .ok (.ireturn, 1) := by decide +kernel
theorem dX6_sum_0 : decode cX6_sum 0 = .ok (.iload_n 1, 1) := by decide +kernel
theorem dX6_sum_1 : decode cX6_sum 1 = .ok (.invokestatic 74, 3) := by decide +kernel
theorem dX6_sum_4 : decode cX6_sum 4 = .ok (.ifCond .eq 13, 3) := by decide +kernel
theorem dX6_sum_7 : decode cX6_sum 7 = .ok (.iload_n 3, 1) := by decide +kernel
theorem dX6_sum_8 : decode cX6_sum 8 = .ok (.iconst 0, 1) := by decide +kernel
theorem dX6_sum_9 : decode cX6_sum 9 = .ok (.ldc 158, 2) := by decide +kernel
theorem dX6_sum_11 : decode cX6_sum 11 = .ok (.invokestatic 70, 3) := by decide +kernel
theorem dX6_sum_14 : decode cX6_sum 14 = .ok (.ifCond .ne 6, 3) := by decide +kernel
theorem dX6_sum_17 : decode cX6_sum 17 = .ok (.bipush (-2), 2) := by decide +kernel
theorem dX6_sum_19 : decode cX6_sum 19 = .ok (.ireturn, 1) := by decide +kernel
theorem dX6_sum_20 : decode cX6_sum 20 = .ok (.aload_n 0, 1) := by decide +kernel
theorem dX6_sum_21 : decode cX6_sum 21 = .ok (.iload_n 1, 1) := by decide +kernel
theorem dX6_sum_22 : decode cX6_sum 22 = .ok (.invokevirtual 118, 3) := by decide +kernel
theorem dX6_sum_25 : decode cX6_sum 25 = .ok (.ifCond .eq 6, 3) := by decide +kernel
theorem dX6_sum_28 : decode cX6_sum 28 = .ok (.bipush (-11), 2) := by decide +kernel
theorem dX6_sum_30 : decode cX6_sum 30 = .ok (.ireturn, 1) := by decide +kernel
theorem dX6_sum_31 : decode cX6_sum 31 = .ok (.aload_n 0, 1) := by decide +kernel
theorem dX6_sum_32 : decode cX6_sum 32 = .ok (.iload_n 1, 1) := by decide +kernel
theorem dX6_sum_33 : decode cX6_sum 33 = .ok (.aload_n 0, 1) := by decide +kernel
theorem dX6_sum_34 : decode cX6_sum 34 = .ok (.getfield 26, 3) := by decide +kernel
theorem dX6_sum_37 : decode cX6_sum 37 = .ok (.invokevirtual 105, 3) := by decide +kernel
theorem dX6_sum_40 : decode cX6_sum 40 = .ok (.iconst 0, 1) := by decide +kernel
theorem dX6_sum_41 : decode cX6_sum 41 = .ok (.istore 4, 2) := by decide +kernel
theorem dX6_sum_43 : decode cX6_sum 43 = .ok (.iconst 1, 1) := by decide +kernel
theorem dX6_sum_44 : decode cX6_sum 44 = .ok (.istore 5, 2) := by decide +kernel
theorem dX6_sum_46 : decode cX6_sum 46 = .ok (.iconst 0, 1) := by decide +kernel
theorem dX6_sum_47 : decode cX6_sum 47 = .ok (.istore 6, 2) := by decide +kernel
theorem dX6_sum_49 : decode cX6_sum 49 = .ok (.iload 6, 2) := by decide +kernel
theorem dX6_sum_51 : decode cX6_sum 51 = .ok (.bipush 10, 2) := by decide +kernel
theorem dX6_sum_53 : decode cX6_sum 53 = .ok (.if_icmp .ge 66, 3) := by decide +kernel
theorem dX6_sum_56 : decode cX6_sum 56 = .ok (.iload 5, 2) := by decide +kernel
theorem dX6_sum_58 : decode cX6_sum 58 = .ok (.i2l, 1) := by decide +kernel
theorem dX6_sum_59 : decode cX6_sum 59 = .ok (.iload_n 3, 1) := by decide +kernel
theorem dX6_sum_60 : decode cX6_sum 60 = .ok (.i2l, 1) := by decide +kernel
theorem dX6_sum_61 : decode cX6_sum 61 = .ok (.iload 6, 2) := by decide +kernel
theorem dX6_sum_63 : decode cX6_sum 63 = .ok (.i2l, 1) := by decide +kernel
theorem dX6_sum_64 : decode cX6_sum 64 = .ok (.lsub, 1) := by decide +kernel
theorem dX6_sum_65 : decode cX6_sum 65 = .ok (.invokestatic 62, 3) := by decide +kernel
theorem dX6_sum_68 : decode cX6_sum 68 = .ok (.i2l, 1) := by decide +kernel
theorem dX6_sum_69 : decode cX6_sum 69 = .ok (.lmul, 1) := by decide +kernel
theorem dX6_sum_70 : decode cX6_sum 70 = .ok (.invokestatic 62, 3) := by decide +kernel
theorem dX6_sum_73 : decode cX6_sum 73 = .ok (.i2l, 1) := by decide +kernel
theorem dX6_sum_74 : decode cX6_sum 74 = .ok (.iload 6, 2) := by decide +kernel
theorem dX6_sum_76 : decode cX6_sum 76 = .ok (.iconst 1, 1) := by decide +kernel
theorem dX6_sum_77 : decode cX6_sum 77 = .ok (.iadd, 1) := by decide +kernel
theorem dX6_sum_78 : decode cX6_sum 78 = .ok (.invokestatic 87, 3) := by decide +kernel
theorem dX6_sum_81 : decode cX6_sum 81 = .ok (.i2l, 1) := by decide +kernel
theorem dX6_sum_82 : decode cX6_sum 82 = .ok (.lmul, 1) := by decide +kernel
theorem dX6_sum_83 : decode cX6_sum 83 = .ok (.invokestatic 62, 3) := by decide +kernel
theorem dX6_sum_86 : decode cX6_sum 86 = .ok (.istore 5, 2) := by decide +kernel
theorem dX6_sum_88 : decode cX6_sum 88 = .ok (.iload 4, 2) := by decide +kernel
theorem dX6_sum_90 : decode cX6_sum 90 = .ok (.i2l, 1) := by decide +kernel
theorem dX6_sum_91 : decode cX6_sum 91 = .ok (.aload_n 0, 1) := by decide +kernel
theorem dX6_sum_92 : decode cX6_sum 92 = .ok (.iload 6, 2) := by decide +kernel
theorem dX6_sum_94 : decode cX6_sum 94 = .ok (.iload_n 2, 1) := by decide +kernel
theorem dX6_sum_95 : decode cX6_sum 95 = .ok (.i2l, 1) := by decide +kernel
theorem dX6_sum_96 : decode cX6_sum 96 = .ok (.invokestatic 62, 3) := by decide +kernel
theorem dX6_sum_99 : decode cX6_sum 99 = .ok (.invokevirtual 159, 3) := by decide +kernel
theorem dX6_sum_102 : decode cX6_sum 102 = .ok (.i2l, 1) := by decide +kernel
theorem dX6_sum_103 : decode cX6_sum 103 = .ok (.iload 5, 2) := by decide +kernel
theorem dX6_sum_105 : decode cX6_sum 105 = .ok (.i2l, 1) := by decide +kernel
theorem dX6_sum_106 : decode cX6_sum 106 = .ok (.lmul, 1) := by decide +kernel
theorem dX6_sum_107 : decode cX6_sum 107 = .ok (.ladd, 1) := by decide +kernel
theorem dX6_sum_108 : decode cX6_sum 108 = .ok (.invokestatic 62, 3) := by decide +kernel
theorem dX6_sum_111 : decode cX6_sum 111 = .ok (.istore 4, 2) := by decide +kernel
theorem dX6_sum_113 : decode cX6_sum 113 = .ok (.iinc 6 1, 3) := by decide +kernel
theorem dX6_sum_116 : decode cX6_sum 116 = .ok (.goto (-67), 3) := by decide +kernel
theorem dX6_sum_119 : decode cX6_sum 119 = .ok (.iload 4, 2) := by decide +kernel
theorem dX6_sum_121 : decode cX6_sum 121 = .ok (.ireturn, 1) := by decide +kernel
theorem dX6_through_0 : decode cX6_through 0 = .ok (.iload_n 1, 1) := by decide +kernel
theorem dX6_through_1 : decode cX6_through 1 = .ok (.invokestatic 74, 3) := by decide +kernel
theorem dX6_through_4 : decode cX6_through 4 = .ok (.ifCond .eq 20, 3) := by decide +kernel
theorem dX6_through_7 : decode cX6_through 7 = .ok (.iload_n 2, 1) := by decide +kernel
theorem dX6_through_8 : decode cX6_through 8 = .ok (.iconst 1, 1) := by decide +kernel
theorem dX6_through_9 : decode cX6_through 9 = .ok (.bipush 10, 2) := by decide +kernel
theorem dX6_through_11 : decode cX6_through 11 = .ok (.invokestatic 70, 3) := by decide +kernel
theorem dX6_through_14 : decode cX6_through 14 = .ok (.ifCond .eq 10, 3) := by decide +kernel
theorem dX6_through_17 : decode cX6_through 17 = .ok (.iload_n 3, 1) := by decide +kernel
theorem dX6_through_18 : decode cX6_through 18 = .ok (.invokestatic 74, 3) := by decide +kernel
theorem dX6_through_21 : decode cX6_through 21 = .ok (.ifCond .ne 6, 3) := by decide +kernel
theorem dX6_through_24 : decode cX6_through 24 = .ok (.bipush (-2), 2) := by decide +kernel
theorem dX6_through_26 : decode cX6_through 26 = .ok (.ireturn, 1) := by decide +kernel
theorem dX6_through_27 : decode cX6_through 27 = .ok (.aload_n 0, 1) := by decide +kernel
theorem dX6_through_28 : decode cX6_through 28 = .ok (.iload_n 1, 1) := by decide +kernel
theorem dX6_through_29 : decode cX6_through 29 = .ok (.invokevirtual 118, 3) := by decide +kernel
theorem dX6_through_32 : decode cX6_through 32 = .ok (.ifCond .eq 6, 3) := by decide +kernel
theorem dX6_through_35 : decode cX6_through 35 = .ok (.bipush (-11), 2) := by decide +kernel
theorem dX6_through_37 : decode cX6_through 37 = .ok (.ireturn, 1) := by decide +kernel
theorem dX6_through_38 : decode cX6_through 38 = .ok (.aload_n 0, 1) := by decide +kernel
theorem dX6_through_39 : decode cX6_through 39 = .ok (.iload_n 1, 1) := by decide +kernel
theorem dX6_through_40 : decode cX6_through 40 = .ok (.aload_n 0, 1) := by decide +kernel
theorem dX6_through_41 : decode cX6_through 41 = .ok (.getfield 29, 3) := by decide +kernel
theorem dX6_through_44 : decode cX6_through 44 = .ok (.invokevirtual 105, 3) := by decide +kernel
theorem dX6_through_47 : decode cX6_through 47 = .ok (.iconst 0, 1) := by decide +kernel
theorem dX6_through_48 : decode cX6_through 48 = .ok (.istore 4, 2) := by decide +kernel
theorem dX6_through_50 : decode cX6_through 50 = .ok (.iload 4, 2) := by decide +kernel
theorem dX6_through_52 : decode cX6_through 52 = .ok (.bipush 10, 2) := by decide +kernel
theorem dX6_through_54 : decode cX6_through 54 = .ok (.if_icmp .ge 34, 3) := by decide +kernel
theorem dX6_through_57 : decode cX6_through 57 = .ok (.aload_n 0, 1) := by decide +kernel
theorem dX6_through_58 : decode cX6_through 58 = .ok (.getfield 32, 3) := by decide +kernel
theorem dX6_through_61 : decode cX6_through 61 = .ok (.iload 4, 2) := by decide +kernel
theorem dX6_through_63 : decode cX6_through 63 = .ok (.iconst 0, 1) := by decide +kernel
theorem dX6_through_64 : decode cX6_through 64 = .ok (.iastore, 1) := by decide +kernel
theorem dX6_through_65 : decode cX6_through 65 = .ok (.aload_n 0, 1) := by decide +kernel
theorem dX6_through_66 : decode cX6_through 66 = .ok (.getfield 35, 3) := by decide +kernel
theorem dX6_through_69 : decode cX6_through 69 = .ok (.iload 4, 2) := by decide +kernel
theorem dX6_through_71 : decode cX6_through 71 = .ok (.iload 4, 2) := by decide +kernel
theorem dX6_through_73 : decode cX6_through 73 = .ok (.ifCond .ne 7, 3) := by decide +kernel
theorem dX6_through_76 : decode cX6_through 76 = .ok (.iconst 1, 1) := by decide +kernel
theorem dX6_through_77 : decode cX6_through 77 = .ok (.goto 4, 3) := by decide +kernel
theorem dX6_through_80 : decode cX6_through 80 = .ok (.iconst 0, 1) := by decide +kernel
theorem dX6_through_81 : decode cX6_through 81 = .ok (.iastore, 1) := by decide +kernel
theorem dX6_through_82 : decode cX6_through 82 = .ok (.iinc 4 1, 3) := by decide +kernel
theorem dX6_through_85 : decode cX6_through 85 = .ok (.goto (-35), 3) := by decide +kernel
theorem dX6_through_88 : decode cX6_through 88 = .ok (.iconst 0, 1) := by decide +kernel
theorem dX6_through_89 : decode cX6_through 89 = .ok (.istore 4, 2) := by decide +kernel
theorem dX6_through_91 : decode cX6_through 91 = .ok (.iload 4, 2) := by decide +kernel
theorem dX6_through_93 : decode cX6_through 93 = .ok (.iload_n 2, 1) := by decide +kernel
theorem dX6_through_94 : decode cX6_through 94 = .ok (.if_icmp .ge 159, 3) := by decide +kernel
theorem dX6_through_97 : decode cX6_through 97 = .ok (.aload_n 0, 1) := by decide +kernel
theorem dX6_through_98 : decode cX6_through 98 = .ok (.getfield 29, 3) := by decide +kernel
theorem dX6_through_101 : decode cX6_through 101 = .ok (.iload 4, 2) := by decide +kernel
theorem dX6_through_103 : decode cX6_through 103 = .ok (.iaload, 1) := by decide +kernel
theorem dX6_through_104 : decode cX6_through 104 = .ok (.i2l, 1) := by decide +kernel
theorem dX6_through_105 : decode cX6_through 105 = .ok (.aload_n 0, 1) := by decide +kernel
theorem dX6_through_106 : decode cX6_through 106 = .ok (.getfield 32, 3) := by decide +kernel
theorem dX6_through_109 : decode cX6_through 109 = .ok (.iload 4, 2) := by decide +kernel
theorem dX6_through_111 : decode cX6_through 111 = .ok (.invokestatic 131, 3) := by decide +kernel
theorem dX6_through_114 : decode cX6_through 114 = .ok (.i2l, 1) := by decide +kernel
theorem dX6_through_115 : decode cX6_through 115 = .ok (.lsub, 1) := by decide +kernel
theorem dX6_through_116 : decode cX6_through 116 = .ok (.invokestatic 62, 3) := by decide +kernel
theorem dX6_through_119 : decode cX6_through 119 = .ok (.istore 5, 2) := by decide +kernel
theorem dX6_through_121 : decode cX6_through 121 = .ok (.iload 5, 2) := by decide +kernel
theorem dX6_through_123 : decode cX6_through 123 = .ok (.i2l, 1) := by decide +kernel
theorem dX6_through_124 : decode cX6_through 124 = .ok (.aload_n 0, 1) := by decide +kernel
theorem dX6_through_125 : decode cX6_through 125 = .ok (.getfield 35, 3) := by decide +kernel
theorem dX6_through_128 : decode cX6_through 128 = .ok (.iload 4, 2) := by decide +kernel
theorem dX6_through_130 : decode cX6_through 130 = .ok (.invokestatic 131, 3) := by decide +kernel
theorem dX6_through_133 : decode cX6_through 133 = .ok (.invokestatic 87, 3) := by decide +kernel
theorem dX6_through_136 : decode cX6_through 136 = .ok (.i2l, 1) := by decide +kernel
theorem dX6_through_137 : decode cX6_through 137 = .ok (.lmul, 1) := by decide +kernel
theorem dX6_through_138 : decode cX6_through 138 = .ok (.invokestatic 62, 3) := by decide +kernel
theorem dX6_through_141 : decode cX6_through 141 = .ok (.istore 6, 2) := by decide +kernel
theorem dX6_through_143 : decode cX6_through 143 = .ok (.iconst 0, 1) := by decide +kernel
theorem dX6_through_144 : decode cX6_through 144 = .ok (.istore 7, 2) := by decide +kernel
theorem dX6_through_146 : decode cX6_through 146 = .ok (.iload 7, 2) := by decide +kernel
theorem dX6_through_148 : decode cX6_through 148 = .ok (.bipush 10, 2) := by decide +kernel
theorem dX6_through_150 : decode cX6_through 150 = .ok (.if_icmp .ge 40, 3) := by decide +kernel
theorem dX6_through_153 : decode cX6_through 153 = .ok (.aload_n 0, 1) := by decide +kernel
theorem dX6_through_154 : decode cX6_through 154 = .ok (.getfield 32, 3) := by decide +kernel
theorem dX6_through_157 : decode cX6_through 157 = .ok (.iload 7, 2) := by decide +kernel
theorem dX6_through_159 : decode cX6_through 159 = .ok (.aload_n 0, 1) := by decide +kernel
theorem dX6_through_160 : decode cX6_through 160 = .ok (.getfield 32, 3) := by decide +kernel
theorem dX6_through_163 : decode cX6_through 163 = .ok (.iload 7, 2) := by decide +kernel
theorem dX6_through_165 : decode cX6_through 165 = .ok (.iaload, 1) := by decide +kernel
theorem dX6_through_166 : decode cX6_through 166 = .ok (.i2l, 1) := by decide +kernel
theorem dX6_through_167 : decode cX6_through 167 = .ok (.iload 6, 2) := by decide +kernel
theorem dX6_through_169 : decode cX6_through 169 = .ok (.i2l, 1) := by decide +kernel
theorem dX6_through_170 : decode cX6_through 170 = .ok (.aload_n 0, 1) := by decide +kernel
theorem dX6_through_171 : decode cX6_through 171 = .ok (.getfield 35, 3) := by decide +kernel
theorem dX6_through_174 : decode cX6_through 174 = .ok (.iload 7, 2) := by decide +kernel
theorem dX6_through_176 : decode cX6_through 176 = .ok (.iaload, 1) := by decide +kernel
theorem dX6_through_177 : decode cX6_through 177 = .ok (.i2l, 1) := by decide +kernel
theorem dX6_through_178 : decode cX6_through 178 = .ok (.lmul, 1) := by decide +kernel
theorem dX6_through_179 : decode cX6_through 179 = .ok (.ladd, 1) := by decide +kernel
theorem dX6_through_180 : decode cX6_through 180 = .ok (.invokestatic 62, 3) := by decide +kernel
theorem dX6_through_183 : decode cX6_through 183 = .ok (.iastore, 1) := by decide +kernel
theorem dX6_through_184 : decode cX6_through 184 = .ok (.iinc 7 1, 3) := by decide +kernel
theorem dX6_through_187 : decode cX6_through 187 = .ok (.goto (-41), 3) := by decide +kernel
theorem dX6_through_190 : decode cX6_through 190 = .ok (.bipush 9, 2) := by decide +kernel
theorem dX6_through_192 : decode cX6_through 192 = .ok (.istore 7, 2) := by decide +kernel
theorem dX6_through_194 : decode cX6_through 194 = .ok (.iload 7, 2) := by decide +kernel
theorem dX6_through_196 : decode cX6_through 196 = .ok (.ifCond .lt 51, 3) := by decide +kernel
theorem dX6_through_199 : decode cX6_through 199 = .ok (.aload_n 0, 1) := by decide +kernel
theorem dX6_through_200 : decode cX6_through 200 = .ok (.getfield 35, 3) := by decide +kernel
theorem dX6_through_203 : decode cX6_through 203 = .ok (.iload 7, 2) := by decide +kernel
theorem dX6_through_205 : decode cX6_through 205 = .ok (.iload 7, 2) := by decide +kernel
theorem dX6_through_207 : decode cX6_through 207 = .ok (.ifCond .le 15, 3) := by decide +kernel
theorem dX6_through_210 : decode cX6_through 210 = .ok (.aload_n 0, 1) := by decide +kernel
theorem dX6_through_211 : decode cX6_through 211 = .ok (.getfield 35, 3) := by decide +kernel
theorem dX6_through_214 : decode cX6_through 214 = .ok (.iload 7, 2) := by decide +kernel
theorem dX6_through_216 : decode cX6_through 216 = .ok (.iconst 1, 1) := by decide +kernel
theorem dX6_through_217 : decode cX6_through 217 = .ok (.isub, 1) := by decide +kernel
theorem dX6_through_218 : decode cX6_through 218 = .ok (.iaload, 1) := by decide +kernel
theorem dX6_through_219 : decode cX6_through 219 = .ok (.goto 4, 3) := by decide +kernel
theorem dX6_through_222 : decode cX6_through 222 = .ok (.iconst 0, 1) := by decide +kernel
theorem dX6_through_223 : decode cX6_through 223 = .ok (.i2l, 1) := by decide +kernel
theorem dX6_through_224 : decode cX6_through 224 = .ok (.iload 4, 2) := by decide +kernel
theorem dX6_through_226 : decode cX6_through 226 = .ok (.i2l, 1) := by decide +kernel
theorem dX6_through_227 : decode cX6_through 227 = .ok (.aload_n 0, 1) := by decide +kernel
theorem dX6_through_228 : decode cX6_through 228 = .ok (.getfield 35, 3) := by decide +kernel
theorem dX6_through_231 : decode cX6_through 231 = .ok (.iload 7, 2) := by decide +kernel
theorem dX6_through_233 : decode cX6_through 233 = .ok (.iaload, 1) := by decide +kernel
theorem dX6_through_234 : decode cX6_through 234 = .ok (.i2l, 1) := by decide +kernel
theorem dX6_through_235 : decode cX6_through 235 = .ok (.lmul, 1) := by decide +kernel
theorem dX6_through_236 : decode cX6_through 236 = .ok (.lsub, 1) := by decide +kernel
theorem dX6_through_237 : decode cX6_through 237 = .ok (.invokestatic 62, 3) := by decide +kernel
theorem dX6_through_240 : decode cX6_through 240 = .ok (.iastore, 1) := by decide +kernel
theorem dX6_through_241 : decode cX6_through 241 = .ok (.iinc 7 (-1), 3) := by decide +kernel
theorem dX6_through_244 : decode cX6_through 244 = .ok (.goto (-50), 3) := by decide +kernel
theorem dX6_through_247 : decode cX6_through 247 = .ok (.iinc 4 1, 3) := by decide +kernel
theorem dX6_through_250 : decode cX6_through 250 = .ok (.goto (-159), 3) := by decide +kernel
theorem dX6_through_253 : decode cX6_through 253 = .ok (.aload_n 0, 1) := by decide +kernel
theorem dX6_through_254 : decode cX6_through 254 = .ok (.aload_n 0, 1) := by decide +kernel
theorem dX6_through_255 : decode cX6_through 255 = .ok (.getfield 32, 3) := by decide +kernel
theorem dX6_through_258 : decode cX6_through 258 = .ok (.iload_n 3, 1) := by decide +kernel
theorem dX6_through_259 : decode cX6_through 259 = .ok (.invokevirtual 114, 3) := by decide +kernel
theorem dX6_through_262 : decode cX6_through 262 = .ok (.istore 4, 2) := by decide +kernel
theorem dX6_through_264 : decode cX6_through 264 = .ok (.iconst 0, 1) := by decide +kernel
theorem dX6_through_265 : decode cX6_through 265 = .ok (.istore 5, 2) := by decide +kernel
theorem dX6_through_267 : decode cX6_through 267 = .ok (.iconst 0, 1) := by decide +kernel
theorem dX6_through_268 : decode cX6_through 268 = .ok (.istore 6, 2) := by decide +kernel
theorem dX6_through_270 : decode cX6_through 270 = .ok (.iload 6, 2) := by decide +kernel
theorem dX6_through_272 : decode cX6_through 272 = .ok (.bipush 10, 2) := by decide +kernel
theorem dX6_through_274 : decode cX6_through 274 = .ok (.if_icmp .ge 28, 3) := by decide +kernel
theorem dX6_through_277 : decode cX6_through 277 = .ok (.aload_n 0, 1) := by decide +kernel
theorem dX6_through_278 : decode cX6_through 278 = .ok (.getfield 32, 3) := by decide +kernel
theorem dX6_through_281 : decode cX6_through 281 = .ok (.iload 6, 2) := by decide +kernel
theorem dX6_through_283 : decode cX6_through 283 = .ok (.iaload, 1) := by decide +kernel
theorem dX6_through_284 : decode cX6_through 284 = .ok (.ifCond .eq 8, 3) := by decide +kernel
theorem dX6_through_287 : decode cX6_through 287 = .ok (.iload 6, 2) := by decide +kernel
theorem dX6_through_289 : decode cX6_through 289 = .ok (.goto 5, 3) := by decide +kernel
theorem dX6_through_292 : decode cX6_through 292 = .ok (.iload 5, 2) := by decide +kernel
theorem dX6_through_294 : decode cX6_through 294 = .ok (.istore 5, 2) := by decide +kernel
theorem dX6_through_296 : decode cX6_through 296 = .ok (.iinc 6 1, 3) := by decide +kernel
theorem dX6_through_299 : decode cX6_through 299 = .ok (.goto (-29), 3) := by decide +kernel
theorem dX6_through_302 : decode cX6_through 302 = .ok (.iload 5, 2) := by decide +kernel
theorem dX6_through_304 : decode cX6_through 304 = .ok (.ireturn, 1) := by decide +kernel
theorem dX6_difference_0 : decode cX6_difference 0 = .ok (.iload_n 1, 1) := by decide +kernel
theorem dX6_difference_1 : decode cX6_difference 1 = .ok (.invokestatic 74, 3) := by decide +kernel
theorem dX6_difference_4 : decode cX6_difference 4 = .ok (.ifCond .eq 13, 3) := by decide +kernel
theorem dX6_difference_7 : decode cX6_difference 7 = .ok (.iload_n 2, 1) := by decide +kernel
theorem dX6_difference_8 : decode cX6_difference 8 = .ok (.iconst 0, 1) := by decide +kernel
theorem dX6_difference_9 : decode cX6_difference 9 = .ok (.bipush 9, 2) := by decide +kernel
theorem dX6_difference_11 : decode cX6_difference 11 = .ok (.invokestatic 70, 3) := by decide +kernel
theorem dX6_difference_14 : decode cX6_difference 14 = .ok (.ifCond .ne 6, 3) := by decide +kernel
theorem dX6_difference_17 : decode cX6_difference 17 = .ok (.bipush (-2), 2) := by decide +kernel
theorem dX6_difference_19 : decode cX6_difference 19 = .ok (.ireturn, 1) := by decide +kernel
theorem dX6_difference_20 : decode cX6_difference 20 = .ok (.aload_n 0, 1) := by decide +kernel
theorem dX6_difference_21 : decode cX6_difference 21 = .ok (.iload_n 1, 1) := by decide +kernel
theorem dX6_difference_22 : decode cX6_difference 22 = .ok (.invokevirtual 118, 3) := by decide +kernel
theorem dX6_difference_25 : decode cX6_difference 25 = .ok (.ifCond .eq 6, 3) := by decide +kernel
theorem dX6_difference_28 : decode cX6_difference 28 = .ok (.bipush (-11), 2) := by decide +kernel
theorem dX6_difference_30 : decode cX6_difference 30 = .ok (.ireturn, 1) := by decide +kernel
theorem dX6_difference_31 : decode cX6_difference 31 = .ok (.aload_n 0, 1) := by decide +kernel
theorem dX6_difference_32 : decode cX6_difference 32 = .ok (.iload_n 1, 1) := by decide +kernel
theorem dX6_difference_33 : decode cX6_difference 33 = .ok (.aload_n 0, 1) := by decide +kernel
theorem dX6_difference_34 : decode cX6_difference 34 = .ok (.getfield 26, 3) := by decide +kernel
theorem dX6_difference_37 : decode cX6_difference 37 = .ok (.invokevirtual 105, 3) := by decide +kernel
theorem dX6_difference_40 : decode cX6_difference 40 = .ok (.aload_n 0, 1) := by decide +kernel
theorem dX6_difference_41 : decode cX6_difference 41 = .ok (.iload_n 2, 1) := by decide +kernel
theorem dX6_difference_42 : decode cX6_difference 42 = .ok (.iload_n 3, 1) := by decide +kernel
theorem dX6_difference_43 : decode cX6_difference 43 = .ok (.i2l, 1) := by decide +kernel
theorem dX6_difference_44 : decode cX6_difference 44 = .ok (.invokestatic 62, 3) := by decide +kernel
theorem dX6_difference_47 : decode cX6_difference 47 = .ok (.invokevirtual 159, 3) := by decide +kernel
theorem dX6_difference_50 : decode cX6_difference 50 = .ok (.ireturn, 1) := by decide +kernel
theorem dX6_triangle_0 : decode cX6_triangle 0 = .ok (.iload_n 1, 1) := by decide +kernel
theorem dX6_triangle_1 : decode cX6_triangle 1 = .ok (.invokestatic 74, 3) := by decide +kernel
theorem dX6_triangle_4 : decode cX6_triangle 4 = .ok (.ifCond .eq 31, 3) := by decide +kernel
theorem dX6_triangle_7 : decode cX6_triangle 7 = .ok (.iload_n 2, 1) := by decide +kernel
theorem dX6_triangle_8 : decode cX6_triangle 8 = .ok (.invokestatic 74, 3) := by decide +kernel
theorem dX6_triangle_11 : decode cX6_triangle 11 = .ok (.ifCond .eq 24, 3) := by decide +kernel
theorem dX6_triangle_14 : decode cX6_triangle 14 = .ok (.iload_n 3, 1) := by decide +kernel
theorem dX6_triangle_15 : decode cX6_triangle 15 = .ok (.iconst 0, 1) := by decide +kernel
theorem dX6_triangle_16 : decode cX6_triangle 16 = .ok (.bipush 9, 2) := by decide +kernel
theorem dX6_triangle_18 : decode cX6_triangle 18 = .ok (.invokestatic 70, 3) := by decide +kernel
theorem dX6_triangle_21 : decode cX6_triangle 21 = .ok (.ifCond .eq 14, 3) := by decide +kernel
theorem dX6_triangle_24 : decode cX6_triangle 24 = .ok (.iload 4, 2) := by decide +kernel
theorem dX6_triangle_26 : decode cX6_triangle 26 = .ok (.iconst 0, 1) := by decide +kernel
theorem dX6_triangle_27 : decode cX6_triangle 27 = .ok (.bipush 9, 2) := by decide +kernel
theorem dX6_triangle_29 : decode cX6_triangle 29 = .ok (.invokestatic 70, 3) := by decide +kernel
theorem dX6_triangle_32 : decode cX6_triangle 32 = .ok (.ifCond .ne 6, 3) := by decide +kernel
theorem dX6_triangle_35 : decode cX6_triangle 35 = .ok (.bipush (-2), 2) := by decide +kernel
theorem dX6_triangle_37 : decode cX6_triangle 37 = .ok (.ireturn, 1) := by decide +kernel
theorem dX6_triangle_38 : decode cX6_triangle 38 = .ok (.aload_n 0, 1) := by decide +kernel
theorem dX6_triangle_39 : decode cX6_triangle 39 = .ok (.iload_n 1, 1) := by decide +kernel
theorem dX6_triangle_40 : decode cX6_triangle 40 = .ok (.invokevirtual 118, 3) := by decide +kernel
theorem dX6_triangle_43 : decode cX6_triangle 43 = .ok (.ifCond .ne 11, 3) := by decide +kernel
theorem dX6_triangle_46 : decode cX6_triangle 46 = .ok (.aload_n 0, 1) := by decide +kernel
theorem dX6_triangle_47 : decode cX6_triangle 47 = .ok (.iload_n 2, 1) := by decide +kernel
theorem dX6_triangle_48 : decode cX6_triangle 48 = .ok (.invokevirtual 118, 3) := by decide +kernel
theorem dX6_triangle_51 : decode cX6_triangle 51 = .ok (.ifCond .eq 6, 3) := by decide +kernel
theorem dX6_triangle_54 : decode cX6_triangle 54 = .ok (.bipush (-11), 2) := by decide +kernel
theorem dX6_triangle_56 : decode cX6_triangle 56 = .ok (.ireturn, 1) := by decide +kernel
theorem dX6_triangle_57 : decode cX6_triangle 57 = .ok (.aload_n 0, 1) := by decide +kernel
theorem dX6_triangle_58 : decode cX6_triangle 58 = .ok (.iload_n 1, 1) := by decide +kernel
theorem dX6_triangle_59 : decode cX6_triangle 59 = .ok (.aload_n 0, 1) := by decide +kernel
theorem dX6_triangle_60 : decode cX6_triangle 60 = .ok (.getfield 26, 3) := by decide +kernel
theorem dX6_triangle_63 : decode cX6_triangle 63 = .ok (.invokevirtual 105, 3) := by decide +kernel
theorem dX6_triangle_66 : decode cX6_triangle 66 = .ok (.aload_n 0, 1) := by decide +kernel
theorem dX6_triangle_67 : decode cX6_triangle 67 = .ok (.iload_n 2, 1) := by decide +kernel
theorem dX6_triangle_68 : decode cX6_triangle 68 = .ok (.aload_n 0, 1) := by decide +kernel
theorem dX6_triangle_69 : decode cX6_triangle 69 = .ok (.getfield 29, 3) := by decide +kernel
theorem dX6_triangle_72 : decode cX6_triangle 72 = .ok (.invokevirtual 105, 3) := by decide +kernel
theorem dX6_triangle_75 : decode cX6_triangle 75 = .ok (.aload_n 0, 1) := by decide +kernel
theorem dX6_triangle_76 : decode cX6_triangle 76 = .ok (.getfield 29, 3) := by decide +kernel
theorem dX6_triangle_79 : decode cX6_triangle 79 = .ok (.iconst 0, 1) := by decide +kernel
theorem dX6_triangle_80 : decode cX6_triangle 80 = .ok (.iaload, 1) := by decide +kernel
theorem dX6_triangle_81 : decode cX6_triangle 81 = .ok (.ifCond .eq 6, 3) := by decide +kernel
theorem dX6_triangle_84 : decode cX6_triangle 84 = .ok (.bipush (-3), 2) := by decide +kernel
theorem dX6_triangle_86 : decode cX6_triangle 86 = .ok (.ireturn, 1) := by decide +kernel
theorem dX6_triangle_87 : decode cX6_triangle 87 = .ok (.iconst 0, 1) := by decide +kernel
theorem dX6_triangle_88 : decode cX6_triangle 88 = .ok (.istore 5, 2) := by decide +kernel
theorem dX6_triangle_90 : decode cX6_triangle 90 = .ok (.iload 5, 2) := by decide +kernel
theorem dX6_triangle_92 : decode cX6_triangle 92 = .ok (.iload 4, 2) := by decide +kernel
theorem dX6_triangle_94 : decode cX6_triangle 94 = .ok (.if_icmp .ge 35, 3) := by decide +kernel
theorem dX6_triangle_97 : decode cX6_triangle 97 = .ok (.aload_n 0, 1) := by decide +kernel
theorem dX6_triangle_98 : decode cX6_triangle 98 = .ok (.getfield 26, 3) := by decide +kernel
theorem dX6_triangle_101 : decode cX6_triangle 101 = .ok (.aload_n 0, 1) := by decide +kernel
theorem dX6_triangle_102 : decode cX6_triangle 102 = .ok (.getfield 29, 3) := by decide +kernel
theorem dX6_triangle_105 : decode cX6_triangle 105 = .ok (.aload_n 0, 1) := by decide +kernel
theorem dX6_triangle_106 : decode cX6_triangle 106 = .ok (.getfield 32, 3) := by decide +kernel
theorem dX6_triangle_109 : decode cX6_triangle 109 = .ok (.invokestatic 94, 3) := by decide +kernel
theorem dX6_triangle_112 : decode cX6_triangle 112 = .ok (.aload_n 0, 1) := by decide +kernel
theorem dX6_triangle_113 : decode cX6_triangle 113 = .ok (.getfield 32, 3) := by decide +kernel
theorem dX6_triangle_116 : decode cX6_triangle 116 = .ok (.aload_n 0, 1) := by decide +kernel
theorem dX6_triangle_117 : decode cX6_triangle 117 = .ok (.getfield 26, 3) := by decide +kernel
theorem dX6_triangle_120 : decode cX6_triangle 120 = .ok (.invokestatic 98, 3) := by decide +kernel
theorem dX6_triangle_123 : decode cX6_triangle 123 = .ok (.iinc 5 1, 3) := by decide +kernel
theorem dX6_triangle_126 : decode cX6_triangle 126 = .ok (.goto (-36), 3) := by decide +kernel
theorem dX6_triangle_129 : decode cX6_triangle 129 = .ok (.aload_n 0, 1) := by decide +kernel
theorem dX6_triangle_130 : decode cX6_triangle 130 = .ok (.getfield 26, 3) := by decide +kernel
theorem dX6_triangle_133 : decode cX6_triangle 133 = .ok (.iload_n 3, 1) := by decide +kernel
theorem dX6_triangle_134 : decode cX6_triangle 134 = .ok (.iaload, 1) := by decide +kernel
theorem dX6_triangle_135 : decode cX6_triangle 135 = .ok (.ireturn, 1) := by decide +kernel
theorem dX6_product_0 : decode cX6_product 0 = .ok (.iload_n 1, 1) := by decide +kernel
theorem dX6_product_1 : decode cX6_product 1 = .ok (.invokestatic 74, 3) := by decide +kernel
theorem dX6_product_4 : decode cX6_product 4 = .ok (.ifCond .eq 48, 3) := by decide +kernel
theorem dX6_product_7 : decode cX6_product 7 = .ok (.iload_n 2, 1) := by decide +kernel
theorem dX6_product_8 : decode cX6_product 8 = .ok (.invokestatic 74, 3) := by decide +kernel
theorem dX6_product_11 : decode cX6_product 11 = .ok (.ifCond .eq 41, 3) := by decide +kernel
theorem dX6_product_14 : decode cX6_product 14 = .ok (.iload_n 3, 1) := by decide +kernel
theorem dX6_product_15 : decode cX6_product 15 = .ok (.invokestatic 74, 3) := by decide +kernel
theorem dX6_product_18 : decode cX6_product 18 = .ok (.ifCond .eq 34, 3) := by decide +kernel
theorem dX6_product_21 : decode cX6_product 21 = .ok (.iload 4, 2) := by decide +kernel
theorem dX6_product_23 : decode cX6_product 23 = .ok (.invokestatic 74, 3) := by decide +kernel
theorem dX6_product_26 : decode cX6_product 26 = .ok (.ifCond .eq 26, 3) := by decide +kernel
theorem dX6_product_29 : decode cX6_product 29 = .ok (.iload 5, 2) := by decide +kernel
theorem dX6_product_31 : decode cX6_product 31 = .ok (.invokestatic 74, 3) := by decide +kernel
theorem dX6_product_34 : decode cX6_product 34 = .ok (.ifCond .eq 18, 3) := by decide +kernel
theorem dX6_product_37 : decode cX6_product 37 = .ok (.iload 6, 2) := by decide +kernel
theorem dX6_product_39 : decode cX6_product 39 = .ok (.invokestatic 74, 3) := by decide +kernel
theorem dX6_product_42 : decode cX6_product 42 = .ok (.ifCond .eq 10, 3) := by decide +kernel
theorem dX6_product_45 : decode cX6_product 45 = .ok (.iload 5, 2) := by decide +kernel
theorem dX6_product_47 : decode cX6_product 47 = .ok (.iload 6, 2) := by decide +kernel
theorem dX6_product_49 : decode cX6_product 49 = .ok (.if_icmp .ne 6, 3) := by decide +kernel
theorem dX6_product_52 : decode cX6_product 52 = .ok (.bipush (-2), 2) := by decide +kernel
theorem dX6_product_54 : decode cX6_product 54 = .ok (.ireturn, 1) := by decide +kernel
theorem dX6_product_55 : decode cX6_product 55 = .ok (.aload_n 0, 1) := by decide +kernel
theorem dX6_product_56 : decode cX6_product 56 = .ok (.iload_n 1, 1) := by decide +kernel
theorem dX6_product_57 : decode cX6_product 57 = .ok (.invokevirtual 118, 3) := by decide +kernel
theorem dX6_product_60 : decode cX6_product 60 = .ok (.ifCond .ne 28, 3) := by decide +kernel
theorem dX6_product_63 : decode cX6_product 63 = .ok (.aload_n 0, 1) := by decide +kernel
theorem dX6_product_64 : decode cX6_product 64 = .ok (.iload_n 2, 1) := by decide +kernel
theorem dX6_product_65 : decode cX6_product 65 = .ok (.invokevirtual 118, 3) := by decide +kernel
theorem dX6_product_68 : decode cX6_product 68 = .ok (.ifCond .ne 20, 3) := by decide +kernel
theorem dX6_product_71 : decode cX6_product 71 = .ok (.aload_n 0, 1) := by decide +kernel
theorem dX6_product_72 : decode cX6_product 72 = .ok (.iload_n 3, 1) := by decide +kernel
theorem dX6_product_73 : decode cX6_product 73 = .ok (.invokevirtual 118, 3) := by decide +kernel
theorem dX6_product_76 : decode cX6_product 76 = .ok (.ifCond .ne 12, 3) := by decide +kernel
theorem dX6_product_79 : decode cX6_product 79 = .ok (.aload_n 0, 1) := by decide +kernel
theorem dX6_product_80 : decode cX6_product 80 = .ok (.iload 4, 2) := by decide +kernel
theorem dX6_product_82 : decode cX6_product 82 = .ok (.invokevirtual 118, 3) := by decide +kernel
theorem dX6_product_85 : decode cX6_product 85 = .ok (.ifCond .eq 6, 3) := by decide +kernel
theorem dX6_product_88 : decode cX6_product 88 = .ok (.bipush (-11), 2) := by decide +kernel
theorem dX6_product_90 : decode cX6_product 90 = .ok (.ireturn, 1) := by decide +kernel
theorem dX6_product_91 : decode cX6_product 91 = .ok (.aload_n 0, 1) := by decide +kernel
theorem dX6_product_92 : decode cX6_product 92 = .ok (.iload_n 2, 1) := by decide +kernel
theorem dX6_product_93 : decode cX6_product 93 = .ok (.aload_n 0, 1) := by decide +kernel
theorem dX6_product_94 : decode cX6_product 94 = .ok (.getfield 29, 3) := by decide +kernel
theorem dX6_product_97 : decode cX6_product 97 = .ok (.invokevirtual 105, 3) := by decide +kernel
theorem dX6_product_100 : decode cX6_product 100 = .ok (.aload_n 0, 1) := by decide +kernel
theorem dX6_product_101 : decode cX6_product 101 = .ok (.iload 4, 2) := by decide +kernel
theorem dX6_product_103 : decode cX6_product 103 = .ok (.aload_n 0, 1) := by decide +kernel
theorem dX6_product_104 : decode cX6_product 104 = .ok (.getfield 35, 3) := by decide +kernel
theorem dX6_product_107 : decode cX6_product 107 = .ok (.invokevirtual 105, 3) := by decide +kernel
theorem dX6_product_110 : decode cX6_product 110 = .ok (.aload_n 0, 1) := by decide +kernel
theorem dX6_product_111 : decode cX6_product 111 = .ok (.getfield 29, 3) := by decide +kernel
theorem dX6_product_114 : decode cX6_product 114 = .ok (.iconst 0, 1) := by decide +kernel
theorem dX6_product_115 : decode cX6_product 115 = .ok (.iaload, 1) := by decide +kernel
theorem dX6_product_116 : decode cX6_product 116 = .ok (.ifCond .ne 12, 3) := by decide +kernel
theorem dX6_product_119 : decode cX6_product 119 = .ok (.aload_n 0, 1) := by decide +kernel
theorem dX6_product_120 : decode cX6_product 120 = .ok (.getfield 35, 3) := by decide +kernel
theorem dX6_product_123 : decode cX6_product 123 = .ok (.iconst 0, 1) := by decide +kernel
theorem dX6_product_124 : decode cX6_product 124 = .ok (.iaload, 1) := by decide +kernel
theorem dX6_product_125 : decode cX6_product 125 = .ok (.ifCond .eq 6, 3) := by decide +kernel
theorem dX6_product_128 : decode cX6_product 128 = .ok (.bipush (-3), 2) := by decide +kernel
theorem dX6_product_130 : decode cX6_product 130 = .ok (.ireturn, 1) := by decide +kernel
theorem dX6_product_131 : decode cX6_product 131 = .ok (.aload_n 0, 1) := by decide +kernel
theorem dX6_product_132 : decode cX6_product 132 = .ok (.iload_n 3, 1) := by decide +kernel
theorem dX6_product_133 : decode cX6_product 133 = .ok (.aload_n 0, 1) := by decide +kernel
theorem dX6_product_134 : decode cX6_product 134 = .ok (.getfield 26, 3) := by decide +kernel
theorem dX6_product_137 : decode cX6_product 137 = .ok (.invokevirtual 105, 3) := by decide +kernel
theorem dX6_product_140 : decode cX6_product 140 = .ok (.aload_n 0, 1) := by decide +kernel
theorem dX6_product_141 : decode cX6_product 141 = .ok (.aload_n 0, 1) := by decide +kernel
theorem dX6_product_142 : decode cX6_product 142 = .ok (.getfield 26, 3) := by decide +kernel
theorem dX6_product_145 : decode cX6_product 145 = .ok (.aload_n 0, 1) := by decide +kernel
theorem dX6_product_146 : decode cX6_product 146 = .ok (.getfield 29, 3) := by decide +kernel
theorem dX6_product_149 : decode cX6_product 149 = .ok (.aload_n 0, 1) := by decide +kernel
theorem dX6_product_150 : decode cX6_product 150 = .ok (.getfield 32, 3) := by decide +kernel
theorem dX6_product_153 : decode cX6_product 153 = .ok (.invokevirtual 102, 3) := by decide +kernel
theorem dX6_product_156 : decode cX6_product 156 = .ok (.aload_n 0, 1) := by decide +kernel
theorem dX6_product_157 : decode cX6_product 157 = .ok (.iload_n 1, 1) := by decide +kernel
theorem dX6_product_158 : decode cX6_product 158 = .ok (.aload_n 0, 1) := by decide +kernel
theorem dX6_product_159 : decode cX6_product 159 = .ok (.getfield 26, 3) := by decide +kernel
theorem dX6_product_162 : decode cX6_product 162 = .ok (.invokevirtual 105, 3) := by decide +kernel
theorem dX6_product_165 : decode cX6_product 165 = .ok (.aload_n 0, 1) := by decide +kernel
theorem dX6_product_166 : decode cX6_product 166 = .ok (.getfield 26, 3) := by decide +kernel
theorem dX6_product_169 : decode cX6_product 169 = .ok (.aload_n 0, 1) := by decide +kernel
theorem dX6_product_170 : decode cX6_product 170 = .ok (.getfield 32, 3) := by decide +kernel
theorem dX6_product_173 : decode cX6_product 173 = .ok (.aload_n 0, 1) := by decide +kernel
theorem dX6_product_174 : decode cX6_product 174 = .ok (.getfield 38, 3) := by decide +kernel
theorem dX6_product_177 : decode cX6_product 177 = .ok (.invokestatic 94, 3) := by decide +kernel
theorem dX6_product_180 : decode cX6_product 180 = .ok (.aload_n 0, 1) := by decide +kernel
theorem dX6_product_181 : decode cX6_product 181 = .ok (.getfield 38, 3) := by decide +kernel
theorem dX6_product_184 : decode cX6_product 184 = .ok (.aload_n 0, 1) := by decide +kernel
theorem dX6_product_185 : decode cX6_product 185 = .ok (.getfield 26, 3) := by decide +kernel
theorem dX6_product_188 : decode cX6_product 188 = .ok (.invokestatic 98, 3) := by decide +kernel
theorem dX6_product_191 : decode cX6_product 191 = .ok (.aload_n 0, 1) := by decide +kernel
theorem dX6_product_192 : decode cX6_product 192 = .ok (.aload_n 0, 1) := by decide +kernel
theorem dX6_product_193 : decode cX6_product 193 = .ok (.getfield 35, 3) := by decide +kernel
theorem dX6_product_196 : decode cX6_product 196 = .ok (.aload_n 0, 1) := by decide +kernel
theorem dX6_product_197 : decode cX6_product 197 = .ok (.getfield 29, 3) := by decide +kernel
theorem dX6_product_200 : decode cX6_product 200 = .ok (.aload_n 0, 1) := by decide +kernel
theorem dX6_product_201 : decode cX6_product 201 = .ok (.getfield 32, 3) := by decide +kernel
theorem dX6_product_204 : decode cX6_product 204 = .ok (.invokevirtual 102, 3) := by decide +kernel
theorem dX6_product_207 : decode cX6_product 207 = .ok (.aload_n 0, 1) := by decide +kernel
theorem dX6_product_208 : decode cX6_product 208 = .ok (.aload_n 0, 1) := by decide +kernel
theorem dX6_product_209 : decode cX6_product 209 = .ok (.getfield 26, 3) := by decide +kernel
theorem dX6_product_212 : decode cX6_product 212 = .ok (.iload 5, 2) := by decide +kernel
theorem dX6_product_214 : decode cX6_product 214 = .ok (.invokevirtual 114, 3) := by decide +kernel
theorem dX6_product_217 : decode cX6_product 217 = .ok (.istore 7, 2) := by decide +kernel
theorem dX6_product_219 : decode cX6_product 219 = .ok (.aload_n 0, 1) := by decide +kernel
theorem dX6_product_220 : decode cX6_product 220 = .ok (.aload_n 0, 1) := by decide +kernel
theorem dX6_product_221 : decode cX6_product 221 = .ok (.getfield 32, 3) := by decide +kernel
theorem dX6_product_224 : decode cX6_product 224 = .ok (.iload 6, 2) := by decide +kernel
theorem dX6_product_226 : decode cX6_product 226 = .ok (.invokevirtual 114, 3) := by decide +kernel
theorem dX6_product_229 : decode cX6_product 229 = .ok (.istore 8, 2) := by decide +kernel
theorem dX6_product_231 : decode cX6_product 231 = .ok (.iconst 1, 1) := by decide +kernel
theorem dX6_product_232 : decode cX6_product 232 = .ok (.ireturn, 1) := by decide +kernel
theorem dX6_back_0 : decode cX6_back 0 = .ok (.iload_n 1, 1) := by decide +kernel
theorem dX6_back_1 : decode cX6_back 1 = .ok (.invokestatic 74, 3) := by decide +kernel
theorem dX6_back_4 : decode cX6_back 4 = .ok (.ifCond .eq 31, 3) := by decide +kernel
theorem dX6_back_7 : decode cX6_back 7 = .ok (.iload_n 2, 1) := by decide +kernel
theorem dX6_back_8 : decode cX6_back 8 = .ok (.invokestatic 74, 3) := by decide +kernel
theorem dX6_back_11 : decode cX6_back 11 = .ok (.ifCond .eq 24, 3) := by decide +kernel
theorem dX6_back_14 : decode cX6_back 14 = .ok (.iload_n 3, 1) := by decide +kernel
theorem dX6_back_15 : decode cX6_back 15 = .ok (.invokestatic 74, 3) := by decide +kernel
theorem dX6_back_18 : decode cX6_back 18 = .ok (.ifCond .eq 17, 3) := by decide +kernel
theorem dX6_back_21 : decode cX6_back 21 = .ok (.iload 4, 2) := by decide +kernel
theorem dX6_back_23 : decode cX6_back 23 = .ok (.invokestatic 74, 3) := by decide +kernel
theorem dX6_back_26 : decode cX6_back 26 = .ok (.ifCond .eq 9, 3) := by decide +kernel
theorem dX6_back_29 : decode cX6_back 29 = .ok (.iload_n 3, 1) := by decide +kernel
theorem dX6_back_30 : decode cX6_back 30 = .ok (.iload 4, 2) := by decide +kernel
theorem dX6_back_32 : decode cX6_back 32 = .ok (.if_icmp .ne 6, 3) := by decide +kernel
theorem dX6_back_35 : decode cX6_back 35 = .ok (.bipush (-2), 2) := by decide +kernel
theorem dX6_back_37 : decode cX6_back 37 = .ok (.ireturn, 1) := by decide +kernel
theorem dX6_back_38 : decode cX6_back 38 = .ok (.aload_n 0, 1) := by decide +kernel
theorem dX6_back_39 : decode cX6_back 39 = .ok (.iload_n 1, 1) := by decide +kernel
theorem dX6_back_40 : decode cX6_back 40 = .ok (.invokevirtual 118, 3) := by decide +kernel
theorem dX6_back_43 : decode cX6_back 43 = .ok (.ifCond .ne 11, 3) := by decide +kernel
theorem dX6_back_46 : decode cX6_back 46 = .ok (.aload_n 0, 1) := by decide +kernel
theorem dX6_back_47 : decode cX6_back 47 = .ok (.iload_n 2, 1) := by decide +kernel
theorem dX6_back_48 : decode cX6_back 48 = .ok (.invokevirtual 118, 3) := by decide +kernel
theorem dX6_back_51 : decode cX6_back 51 = .ok (.ifCond .eq 6, 3) := by decide +kernel
theorem dX6_back_54 : decode cX6_back 54 = .ok (.bipush (-11), 2) := by decide +kernel
theorem dX6_back_56 : decode cX6_back 56 = .ok (.ireturn, 1) := by decide +kernel
theorem dX6_back_57 : decode cX6_back 57 = .ok (.aload_n 0, 1) := by decide +kernel
theorem dX6_back_58 : decode cX6_back 58 = .ok (.iload_n 1, 1) := by decide +kernel
theorem dX6_back_59 : decode cX6_back 59 = .ok (.aload_n 0, 1) := by decide +kernel
theorem dX6_back_60 : decode cX6_back 60 = .ok (.getfield 26, 3) := by decide +kernel
theorem dX6_back_63 : decode cX6_back 63 = .ok (.invokevirtual 105, 3) := by decide +kernel
theorem dX6_back_66 : decode cX6_back 66 = .ok (.aload_n 0, 1) := by decide +kernel
theorem dX6_back_67 : decode cX6_back 67 = .ok (.iload_n 2, 1) := by decide +kernel
theorem dX6_back_68 : decode cX6_back 68 = .ok (.aload_n 0, 1) := by decide +kernel
theorem dX6_back_69 : decode cX6_back 69 = .ok (.getfield 29, 3) := by decide +kernel
theorem dX6_back_72 : decode cX6_back 72 = .ok (.invokevirtual 105, 3) := by decide +kernel
theorem dX6_back_75 : decode cX6_back 75 = .ok (.aload_n 0, 1) := by decide +kernel
theorem dX6_back_76 : decode cX6_back 76 = .ok (.invokevirtual 137, 3) := by decide +kernel
theorem dX6_back_79 : decode cX6_back 79 = .ok (.ifCond .ne 6, 3) := by decide +kernel
theorem dX6_back_82 : decode cX6_back 82 = .ok (.bipush (-3), 2) := by decide +kernel
theorem dX6_back_84 : decode cX6_back 84 = .ok (.ireturn, 1) := by decide +kernel
theorem dX6_back_85 : decode cX6_back 85 = .ok (.aload_n 0, 1) := by decide +kernel
theorem dX6_back_86 : decode cX6_back 86 = .ok (.aload_n 0, 1) := by decide +kernel
theorem dX6_back_87 : decode cX6_back 87 = .ok (.getfield 35, 3) := by decide +kernel
theorem dX6_back_90 : decode cX6_back 90 = .ok (.iload_n 3, 1) := by decide +kernel
theorem dX6_back_91 : decode cX6_back 91 = .ok (.invokevirtual 114, 3) := by decide +kernel
theorem dX6_back_94 : decode cX6_back 94 = .ok (.istore 5, 2) := by decide +kernel
theorem dX6_back_96 : decode cX6_back 96 = .ok (.aload_n 0, 1) := by decide +kernel
theorem dX6_back_97 : decode cX6_back 97 = .ok (.aload_n 0, 1) := by decide +kernel
theorem dX6_back_98 : decode cX6_back 98 = .ok (.getfield 32, 3) := by decide +kernel
theorem dX6_back_101 : decode cX6_back 101 = .ok (.iload 4, 2) := by decide +kernel
theorem dX6_back_103 : decode cX6_back 103 = .ok (.invokevirtual 114, 3) := by decide +kernel
theorem dX6_back_106 : decode cX6_back 106 = .ok (.istore 6, 2) := by decide +kernel
theorem dX6_back_108 : decode cX6_back 108 = .ok (.iconst 1, 1) := by decide +kernel
theorem dX6_back_109 : decode cX6_back 109 = .ok (.ireturn, 1) := by decide +kernel
theorem dX6_aRow_0 : decode cX6_aRow 0 = .ok (.iload_n 1, 1) := by decide +kernel
theorem dX6_aRow_1 : decode cX6_aRow 1 = .ok (.invokestatic 74, 3) := by decide +kernel
theorem dX6_aRow_4 : decode cX6_aRow 4 = .ok (.ifCond .eq 10, 3) := by decide +kernel
theorem dX6_aRow_7 : decode cX6_aRow 7 = .ok (.iload_n 2, 1) := by decide +kernel
theorem dX6_aRow_8 : decode cX6_aRow 8 = .ok (.invokestatic 74, 3) := by decide +kernel
theorem dX6_aRow_11 : decode cX6_aRow 11 = .ok (.ifCond .ne 6, 3) := by decide +kernel
theorem dX6_aRow_14 : decode cX6_aRow 14 = .ok (.bipush (-2), 2) := by decide +kernel
theorem dX6_aRow_16 : decode cX6_aRow 16 = .ok (.ireturn, 1) := by decide +kernel
theorem dX6_aRow_17 : decode cX6_aRow 17 = .ok (.aload_n 0, 1) := by decide +kernel
theorem dX6_aRow_18 : decode cX6_aRow 18 = .ok (.iload_n 1, 1) := by decide +kernel
theorem dX6_aRow_19 : decode cX6_aRow 19 = .ok (.invokevirtual 118, 3) := by decide +kernel
theorem dX6_aRow_22 : decode cX6_aRow 22 = .ok (.ifCond .eq 6, 3) := by decide +kernel
theorem dX6_aRow_25 : decode cX6_aRow 25 = .ok (.bipush (-11), 2) := by decide +kernel
theorem dX6_aRow_27 : decode cX6_aRow 27 = .ok (.ireturn, 1) := by decide +kernel
theorem dX6_aRow_28 : decode cX6_aRow 28 = .ok (.aload_n 0, 1) := by decide +kernel
theorem dX6_aRow_29 : decode cX6_aRow 29 = .ok (.iload_n 1, 1) := by decide +kernel
theorem dX6_aRow_30 : decode cX6_aRow 30 = .ok (.aload_n 0, 1) := by decide +kernel
theorem dX6_aRow_31 : decode cX6_aRow 31 = .ok (.getfield 26, 3) := by decide +kernel
theorem dX6_aRow_34 : decode cX6_aRow 34 = .ok (.invokevirtual 105, 3) := by decide +kernel
theorem dX6_aRow_37 : decode cX6_aRow 37 = .ok (.aload_n 0, 1) := by decide +kernel
theorem dX6_aRow_38 : decode cX6_aRow 38 = .ok (.getfield 26, 3) := by decide +kernel
theorem dX6_aRow_41 : decode cX6_aRow 41 = .ok (.invokestatic 124, 3) := by decide +kernel
theorem dX6_aRow_44 : decode cX6_aRow 44 = .ok (.ifCond .ne 6, 3) := by decide +kernel
theorem dX6_aRow_47 : decode cX6_aRow 47 = .ok (.bipush (-3), 2) := by decide +kernel
theorem dX6_aRow_49 : decode cX6_aRow 49 = .ok (.ireturn, 1) := by decide +kernel
theorem dX6_aRow_50 : decode cX6_aRow 50 = .ok (.aload_n 0, 1) := by decide +kernel
theorem dX6_aRow_51 : decode cX6_aRow 51 = .ok (.aload_n 0, 1) := by decide +kernel
theorem dX6_aRow_52 : decode cX6_aRow 52 = .ok (.getfield 26, 3) := by decide +kernel
theorem dX6_aRow_55 : decode cX6_aRow 55 = .ok (.aload_n 0, 1) := by decide +kernel
theorem dX6_aRow_56 : decode cX6_aRow 56 = .ok (.getfield 29, 3) := by decide +kernel
theorem dX6_aRow_59 : decode cX6_aRow 59 = .ok (.invokevirtual 128, 3) := by decide +kernel
theorem dX6_aRow_62 : decode cX6_aRow 62 = .ok (.iconst 0, 1) := by decide +kernel
theorem dX6_aRow_63 : decode cX6_aRow 63 = .ok (.istore_n 3, 1) := by decide +kernel
theorem dX6_aRow_64 : decode cX6_aRow 64 = .ok (.iload_n 3, 1) := by decide +kernel
theorem dX6_aRow_65 : decode cX6_aRow 65 = .ok (.bipush 10, 2) := by decide +kernel
theorem dX6_aRow_67 : decode cX6_aRow 67 = .ok (.if_icmp .ge 33, 3) := by decide +kernel
theorem dX6_aRow_70 : decode cX6_aRow 70 = .ok (.aload_n 0, 1) := by decide +kernel
theorem dX6_aRow_71 : decode cX6_aRow 71 = .ok (.getfield 32, 3) := by decide +kernel
theorem dX6_aRow_74 : decode cX6_aRow 74 = .ok (.iload_n 3, 1) := by decide +kernel
theorem dX6_aRow_75 : decode cX6_aRow 75 = .ok (.iload_n 3, 1) := by decide +kernel
theorem dX6_aRow_76 : decode cX6_aRow 76 = .ok (.bipush 9, 2) := by decide +kernel
theorem dX6_aRow_78 : decode cX6_aRow 78 = .ok (.if_icmp .ge 14, 3) := by decide +kernel
theorem dX6_aRow_81 : decode cX6_aRow 81 = .ok (.aload_n 0, 1) := by decide +kernel
theorem dX6_aRow_82 : decode cX6_aRow 82 = .ok (.getfield 29, 3) := by decide +kernel
theorem dX6_aRow_85 : decode cX6_aRow 85 = .ok (.iload_n 3, 1) := by decide +kernel
theorem dX6_aRow_86 : decode cX6_aRow 86 = .ok (.iconst 1, 1) := by decide +kernel
theorem dX6_aRow_87 : decode cX6_aRow 87 = .ok (.iadd, 1) := by decide +kernel
theorem dX6_aRow_88 : decode cX6_aRow 88 = .ok (.iaload, 1) := by decide +kernel
theorem dX6_aRow_89 : decode cX6_aRow 89 = .ok (.goto 4, 3) := by decide +kernel
theorem dX6_aRow_92 : decode cX6_aRow 92 = .ok (.iconst 0, 1) := by decide +kernel
theorem dX6_aRow_93 : decode cX6_aRow 93 = .ok (.iastore, 1) := by decide +kernel
theorem dX6_aRow_94 : decode cX6_aRow 94 = .ok (.iinc 3 1, 3) := by decide +kernel
theorem dX6_aRow_97 : decode cX6_aRow 97 = .ok (.goto (-33), 3) := by decide +kernel
theorem dX6_aRow_100 : decode cX6_aRow 100 = .ok (.aload_n 0, 1) := by decide +kernel
theorem dX6_aRow_101 : decode cX6_aRow 101 = .ok (.getfield 26, 3) := by decide +kernel
theorem dX6_aRow_104 : decode cX6_aRow 104 = .ok (.invokestatic 90, 3) := by decide +kernel
theorem dX6_aRow_107 : decode cX6_aRow 107 = .ok (.aload_n 0, 1) := by decide +kernel
theorem dX6_aRow_108 : decode cX6_aRow 108 = .ok (.getfield 26, 3) := by decide +kernel
theorem dX6_aRow_111 : decode cX6_aRow 111 = .ok (.aload_n 0, 1) := by decide +kernel
theorem dX6_aRow_112 : decode cX6_aRow 112 = .ok (.getfield 32, 3) := by decide +kernel
theorem dX6_aRow_115 : decode cX6_aRow 115 = .ok (.aload_n 0, 1) := by decide +kernel
theorem dX6_aRow_116 : decode cX6_aRow 116 = .ok (.getfield 35, 3) := by decide +kernel
theorem dX6_aRow_119 : decode cX6_aRow 119 = .ok (.invokestatic 121, 3) := by decide +kernel
theorem dX6_aRow_122 : decode cX6_aRow 122 = .ok (.aload_n 0, 1) := by decide +kernel
theorem dX6_aRow_123 : decode cX6_aRow 123 = .ok (.getfield 35, 3) := by decide +kernel
theorem dX6_aRow_126 : decode cX6_aRow 126 = .ok (.bipush 9, 2) := by decide +kernel
theorem dX6_aRow_128 : decode cX6_aRow 128 = .ok (.iconst 0, 1) := by decide +kernel
theorem dX6_aRow_129 : decode cX6_aRow 129 = .ok (.iastore, 1) := by decide +kernel
theorem dX6_aRow_130 : decode cX6_aRow 130 = .ok (.aload_n 0, 1) := by decide +kernel
theorem dX6_aRow_131 : decode cX6_aRow 131 = .ok (.aload_n 0, 1) := by decide +kernel
theorem dX6_aRow_132 : decode cX6_aRow 132 = .ok (.getfield 35, 3) := by decide +kernel
theorem dX6_aRow_135 : decode cX6_aRow 135 = .ok (.iload_n 2, 1) := by decide +kernel
theorem dX6_aRow_136 : decode cX6_aRow 136 = .ok (.invokevirtual 114, 3) := by decide +kernel
theorem dX6_aRow_139 : decode cX6_aRow 139 = .ok (.istore_n 3, 1) := by decide +kernel
theorem dX6_aRow_140 : decode cX6_aRow 140 = .ok (.aload_n 0, 1) := by decide +kernel
theorem dX6_aRow_141 : decode cX6_aRow 141 = .ok (.getfield 35, 3) := by decide +kernel
theorem dX6_aRow_144 : decode cX6_aRow 144 = .ok (.iconst 0, 1) := by decide +kernel
theorem dX6_aRow_145 : decode cX6_aRow 145 = .ok (.iaload, 1) := by decide +kernel
theorem dX6_aRow_146 : decode cX6_aRow 146 = .ok (.ireturn, 1) := by decide +kernel
theorem dX6_count_0 : decode cX6_count 0 = .ok (.iconst 0, 1) := by decide +kernel
theorem dX6_count_1 : decode cX6_count 1 = .ok (.istore_n 2, 1) := by decide +kernel
theorem dX6_count_2 : decode cX6_count 2 = .ok (.iload_n 1, 1) := by decide +kernel
theorem dX6_count_3 : decode cX6_count 3 = .ok (.tableswitch 95 0 2 #[25, 58, 90], 25) := by decide +kernel
theorem dX6_count_28 : decode cX6_count 28 = .ok (.iconst 0, 1) := by decide +kernel
theorem dX6_count_29 : decode cX6_count 29 = .ok (.istore_n 3, 1) := by decide +kernel
theorem dX6_count_30 : decode cX6_count 30 = .ok (.iload_n 3, 1) := by decide +kernel
theorem dX6_count_31 : decode cX6_count 31 = .ok (.bipush 8, 2) := by decide +kernel
theorem dX6_count_33 : decode cX6_count 33 = .ok (.if_icmp .ge 26, 3) := by decide +kernel
theorem dX6_count_36 : decode cX6_count 36 = .ok (.iload_n 2, 1) := by decide +kernel
theorem dX6_count_37 : decode cX6_count 37 = .ok (.aload_n 0, 1) := by decide +kernel
theorem dX6_count_38 : decode cX6_count 38 = .ok (.getfield 7, 3) := by decide +kernel
theorem dX6_count_41 : decode cX6_count 41 = .ok (.iload_n 3, 1) := by decide +kernel
theorem dX6_count_42 : decode cX6_count 42 = .ok (.baload, 1) := by decide +kernel
theorem dX6_count_43 : decode cX6_count 43 = .ok (.ifCond .eq 7, 3) := by decide +kernel
theorem dX6_count_46 : decode cX6_count 46 = .ok (.iconst 1, 1) := by decide +kernel
theorem dX6_count_47 : decode cX6_count 47 = .ok (.goto 4, 3) := by decide +kernel
theorem dX6_count_50 : decode cX6_count 50 = .ok (.iconst 0, 1) := by decide +kernel
theorem dX6_count_51 : decode cX6_count 51 = .ok (.iadd, 1) := by decide +kernel
theorem dX6_count_52 : decode cX6_count 52 = .ok (.istore_n 2, 1) := by decide +kernel
theorem dX6_count_53 : decode cX6_count 53 = .ok (.iinc 3 1, 3) := by decide +kernel
theorem dX6_count_56 : decode cX6_count 56 = .ok (.goto (-26), 3) := by decide +kernel
theorem dX6_count_59 : decode cX6_count 59 = .ok (.iload_n 2, 1) := by decide +kernel
theorem dX6_count_60 : decode cX6_count 60 = .ok (.ireturn, 1) := by decide +kernel
theorem dX6_count_61 : decode cX6_count 61 = .ok (.iconst 0, 1) := by decide +kernel
theorem dX6_count_62 : decode cX6_count 62 = .ok (.istore_n 3, 1) := by decide +kernel
theorem dX6_count_63 : decode cX6_count 63 = .ok (.iload_n 3, 1) := by decide +kernel
theorem dX6_count_64 : decode cX6_count 64 = .ok (.iconst 4, 1) := by decide +kernel
theorem dX6_count_65 : decode cX6_count 65 = .ok (.if_icmp .ge 26, 3) := by decide +kernel
theorem dX6_count_68 : decode cX6_count 68 = .ok (.iload_n 2, 1) := by decide +kernel
theorem dX6_count_69 : decode cX6_count 69 = .ok (.aload_n 0, 1) := by decide +kernel
theorem dX6_count_70 : decode cX6_count 70 = .ok (.getfield 50, 3) := by decide +kernel
theorem dX6_count_73 : decode cX6_count 73 = .ok (.iload_n 3, 1) := by decide +kernel
theorem dX6_count_74 : decode cX6_count 74 = .ok (.baload, 1) := by decide +kernel
theorem dX6_count_75 : decode cX6_count 75 = .ok (.ifCond .eq 7, 3) := by decide +kernel
theorem dX6_count_78 : decode cX6_count 78 = .ok (.iconst 1, 1) := by decide +kernel
theorem dX6_count_79 : decode cX6_count 79 = .ok (.goto 4, 3) := by decide +kernel
theorem dX6_count_82 : decode cX6_count 82 = .ok (.iconst 0, 1) := by decide +kernel
theorem dX6_count_83 : decode cX6_count 83 = .ok (.iadd, 1) := by decide +kernel
theorem dX6_count_84 : decode cX6_count 84 = .ok (.istore_n 2, 1) := by decide +kernel
theorem dX6_count_85 : decode cX6_count 85 = .ok (.iinc 3 1, 3) := by decide +kernel
theorem dX6_count_88 : decode cX6_count 88 = .ok (.goto (-25), 3) := by decide +kernel
theorem dX6_count_91 : decode cX6_count 91 = .ok (.iload_n 2, 1) := by decide +kernel
theorem dX6_count_92 : decode cX6_count 92 = .ok (.ireturn, 1) := by decide +kernel
theorem dX6_count_93 : decode cX6_count 93 = .ok (.aload_n 0, 1) := by decide +kernel
theorem dX6_count_94 : decode cX6_count 94 = .ok (.getfield 66, 3) := by decide +kernel
theorem dX6_count_97 : decode cX6_count 97 = .ok (.ireturn, 1) := by decide +kernel
theorem dX6_count_98 : decode cX6_count 98 = .ok (.bipush (-2), 2) := by decide +kernel
theorem dX6_count_100 : decode cX6_count 100 = .ok (.ireturn, 1) := by decide +kernel
theorem dX6_digest_0 : decode cX6_digest 0 = .ok (.ldc2_w 162, 3) := by decide +kernel
theorem dX6_digest_3 : decode cX6_digest 3 = .ok (.lstore_n 1, 1) := by decide +kernel
theorem dX6_digest_4 : decode cX6_digest 4 = .ok (.ldc2_w 164, 3) := by decide +kernel
theorem dX6_digest_7 : decode cX6_digest 7 = .ok (.lload_n 1, 1) := by decide +kernel
theorem dX6_digest_8 : decode cX6_digest 8 = .ok (.lmul, 1) := by decide +kernel
theorem dX6_digest_9 : decode cX6_digest 9 = .ok (.aload_n 0, 1) := by decide +kernel
theorem dX6_digest_10 : decode cX6_digest 10 = .ok (.iconst 0, 1) := by decide +kernel
theorem dX6_digest_11 : decode cX6_digest 11 = .ok (.invokevirtual 166, 3) := by decide +kernel
theorem dX6_digest_14 : decode cX6_digest 14 = .ok (.i2l, 1) := by decide +kernel
theorem dX6_digest_15 : decode cX6_digest 15 = .ok (.ladd, 1) := by decide +kernel
theorem dX6_digest_16 : decode cX6_digest 16 = .ok (.lstore_n 1, 1) := by decide +kernel
theorem dX6_digest_17 : decode cX6_digest 17 = .ok (.ldc2_w 164, 3) := by decide +kernel
theorem dX6_digest_20 : decode cX6_digest 20 = .ok (.lload_n 1, 1) := by decide +kernel
theorem dX6_digest_21 : decode cX6_digest 21 = .ok (.lmul, 1) := by decide +kernel
theorem dX6_digest_22 : decode cX6_digest 22 = .ok (.aload_n 0, 1) := by decide +kernel
theorem dX6_digest_23 : decode cX6_digest 23 = .ok (.iconst 1, 1) := by decide +kernel
theorem dX6_digest_24 : decode cX6_digest 24 = .ok (.invokevirtual 166, 3) := by decide +kernel
theorem dX6_digest_27 : decode cX6_digest 27 = .ok (.i2l, 1) := by decide +kernel
theorem dX6_digest_28 : decode cX6_digest 28 = .ok (.ladd, 1) := by decide +kernel
theorem dX6_digest_29 : decode cX6_digest 29 = .ok (.lstore_n 1, 1) := by decide +kernel
theorem dX6_digest_30 : decode cX6_digest 30 = .ok (.iconst 0, 1) := by decide +kernel
theorem dX6_digest_31 : decode cX6_digest 31 = .ok (.istore_n 3, 1) := by decide +kernel
theorem dX6_digest_32 : decode cX6_digest 32 = .ok (.iload_n 3, 1) := by decide +kernel
theorem dX6_digest_33 : decode cX6_digest 33 = .ok (.bipush 8, 2) := by decide +kernel
theorem dX6_digest_35 : decode cX6_digest 35 = .ok (.if_icmp .ge 67, 3) := by decide +kernel
theorem dX6_digest_38 : decode cX6_digest 38 = .ok (.aload_n 0, 1) := by decide +kernel
theorem dX6_digest_39 : decode cX6_digest 39 = .ok (.getfield 7, 3) := by decide +kernel
theorem dX6_digest_42 : decode cX6_digest 42 = .ok (.iload_n 3, 1) := by decide +kernel
theorem dX6_digest_43 : decode cX6_digest 43 = .ok (.baload, 1) := by decide +kernel
theorem dX6_digest_44 : decode cX6_digest 44 = .ok (.ifCond .eq 52, 3) := by decide +kernel
theorem dX6_digest_47 : decode cX6_digest 47 = .ok (.ldc2_w 164, 3) := by decide +kernel
theorem dX6_digest_50 : decode cX6_digest 50 = .ok (.lload_n 1, 1) := by decide +kernel
theorem dX6_digest_51 : decode cX6_digest 51 = .ok (.lmul, 1) := by decide +kernel
theorem dX6_digest_52 : decode cX6_digest 52 = .ok (.iload_n 3, 1) := by decide +kernel
theorem dX6_digest_53 : decode cX6_digest 53 = .ok (.i2l, 1) := by decide +kernel
theorem dX6_digest_54 : decode cX6_digest 54 = .ok (.ladd, 1) := by decide +kernel
theorem dX6_digest_55 : decode cX6_digest 55 = .ok (.lstore_n 1, 1) := by decide +kernel
theorem dX6_digest_56 : decode cX6_digest 56 = .ok (.aload_n 0, 1) := by decide +kernel
theorem dX6_digest_57 : decode cX6_digest 57 = .ok (.iload_n 3, 1) := by decide +kernel
theorem dX6_digest_58 : decode cX6_digest 58 = .ok (.aload_n 0, 1) := by decide +kernel
theorem dX6_digest_59 : decode cX6_digest 59 = .ok (.getfield 26, 3) := by decide +kernel
theorem dX6_digest_62 : decode cX6_digest 62 = .ok (.invokevirtual 105, 3) := by decide +kernel
theorem dX6_digest_65 : decode cX6_digest 65 = .ok (.iconst 0, 1) := by decide +kernel
theorem dX6_digest_66 : decode cX6_digest 66 = .ok (.istore 4, 2) := by decide +kernel
theorem dX6_digest_68 : decode cX6_digest 68 = .ok (.iload 4, 2) := by decide +kernel
theorem dX6_digest_70 : decode cX6_digest 70 = .ok (.bipush 10, 2) := by decide +kernel
theorem dX6_digest_72 : decode cX6_digest 72 = .ok (.if_icmp .ge 24, 3) := by decide +kernel
theorem dX6_digest_75 : decode cX6_digest 75 = .ok (.ldc2_w 164, 3) := by decide +kernel
theorem dX6_digest_78 : decode cX6_digest 78 = .ok (.lload_n 1, 1) := by decide +kernel
theorem dX6_digest_79 : decode cX6_digest 79 = .ok (.lmul, 1) := by decide +kernel
theorem dX6_digest_80 : decode cX6_digest 80 = .ok (.aload_n 0, 1) := by decide +kernel
theorem dX6_digest_81 : decode cX6_digest 81 = .ok (.getfield 26, 3) := by decide +kernel
theorem dX6_digest_84 : decode cX6_digest 84 = .ok (.iload 4, 2) := by decide +kernel
theorem dX6_digest_86 : decode cX6_digest 86 = .ok (.iaload, 1) := by decide +kernel
theorem dX6_digest_87 : decode cX6_digest 87 = .ok (.i2l, 1) := by decide +kernel
theorem dX6_digest_88 : decode cX6_digest 88 = .ok (.ladd, 1) := by decide +kernel
theorem dX6_digest_89 : decode cX6_digest 89 = .ok (.lstore_n 1, 1) := by decide +kernel
theorem dX6_digest_90 : decode cX6_digest 90 = .ok (.iinc 4 1, 3) := by decide +kernel
theorem dX6_digest_93 : decode cX6_digest 93 = .ok (.goto (-25), 3) := by decide +kernel
theorem dX6_digest_96 : decode cX6_digest 96 = .ok (.iinc 3 1, 3) := by decide +kernel
theorem dX6_digest_99 : decode cX6_digest 99 = .ok (.goto (-67), 3) := by decide +kernel
theorem dX6_digest_102 : decode cX6_digest 102 = .ok (.iconst 0, 1) := by decide +kernel
theorem dX6_digest_103 : decode cX6_digest 103 = .ok (.istore_n 3, 1) := by decide +kernel
theorem dX6_digest_104 : decode cX6_digest 104 = .ok (.iload_n 3, 1) := by decide +kernel
theorem dX6_digest_105 : decode cX6_digest 105 = .ok (.iconst 4, 1) := by decide +kernel
theorem dX6_digest_106 : decode cX6_digest 106 = .ok (.if_icmp .ge 66, 3) := by decide +kernel
theorem dX6_digest_109 : decode cX6_digest 109 = .ok (.aload_n 0, 1) := by decide +kernel
theorem dX6_digest_110 : decode cX6_digest 110 = .ok (.getfield 50, 3) := by decide +kernel
theorem dX6_digest_113 : decode cX6_digest 113 = .ok (.iload_n 3, 1) := by decide +kernel
theorem dX6_digest_114 : decode cX6_digest 114 = .ok (.baload, 1) := by decide +kernel
theorem dX6_digest_115 : decode cX6_digest 115 = .ok (.ifCond .eq 51, 3) := by decide +kernel
theorem dX6_digest_118 : decode cX6_digest 118 = .ok (.ldc2_w 164, 3) := by decide +kernel
theorem dX6_digest_121 : decode cX6_digest 121 = .ok (.lload_n 1, 1) := by decide +kernel
theorem dX6_digest_122 : decode cX6_digest 122 = .ok (.lmul, 1) := by decide +kernel
theorem dX6_digest_123 : decode cX6_digest 123 = .ok (.iload_n 3, 1) := by decide +kernel
theorem dX6_digest_124 : decode cX6_digest 124 = .ok (.i2l, 1) := by decide +kernel
theorem dX6_digest_125 : decode cX6_digest 125 = .ok (.ladd, 1) := by decide +kernel
theorem dX6_digest_126 : decode cX6_digest 126 = .ok (.lstore_n 1, 1) := by decide +kernel
theorem dX6_digest_127 : decode cX6_digest 127 = .ok (.iconst 0, 1) := by decide +kernel
theorem dX6_digest_128 : decode cX6_digest 128 = .ok (.istore 4, 2) := by decide +kernel
theorem dX6_digest_130 : decode cX6_digest 130 = .ok (.iload 4, 2) := by decide +kernel
theorem dX6_digest_132 : decode cX6_digest 132 = .ok (.bipush 10, 2) := by decide +kernel
theorem dX6_digest_134 : decode cX6_digest 134 = .ok (.if_icmp .ge 32, 3) := by decide +kernel
theorem dX6_digest_137 : decode cX6_digest 137 = .ok (.ldc2_w 164, 3) := by decide +kernel
theorem dX6_digest_140 : decode cX6_digest 140 = .ok (.lload_n 1, 1) := by decide +kernel
theorem dX6_digest_141 : decode cX6_digest 141 = .ok (.lmul, 1) := by decide +kernel
theorem dX6_digest_142 : decode cX6_digest 142 = .ok (.aload_n 0, 1) := by decide +kernel
theorem dX6_digest_143 : decode cX6_digest 143 = .ok (.getfield 53, 3) := by decide +kernel
theorem dX6_digest_146 : decode cX6_digest 146 = .ok (.bipush 100, 2) := by decide +kernel
theorem dX6_digest_148 : decode cX6_digest 148 = .ok (.iload_n 3, 1) := by decide +kernel
theorem dX6_digest_149 : decode cX6_digest 149 = .ok (.imul, 1) := by decide +kernel
theorem dX6_digest_150 : decode cX6_digest 150 = .ok (.bipush 90, 2) := by decide +kernel
theorem dX6_digest_152 : decode cX6_digest 152 = .ok (.iadd, 1) := by decide +kernel
theorem dX6_digest_153 : decode cX6_digest 153 = .ok (.iload 4, 2) := by decide +kernel
theorem dX6_digest_155 : decode cX6_digest 155 = .ok (.iadd, 1) := by decide +kernel
theorem dX6_digest_156 : decode cX6_digest 156 = .ok (.iaload, 1) := by decide +kernel
theorem dX6_digest_157 : decode cX6_digest 157 = .ok (.i2l, 1) := by decide +kernel
theorem dX6_digest_158 : decode cX6_digest 158 = .ok (.ladd, 1) := by decide +kernel
theorem dX6_digest_159 : decode cX6_digest 159 = .ok (.lstore_n 1, 1) := by decide +kernel
theorem dX6_digest_160 : decode cX6_digest 160 = .ok (.iinc 4 1, 3) := by decide +kernel
theorem dX6_digest_163 : decode cX6_digest 163 = .ok (.goto (-33), 3) := by decide +kernel
theorem dX6_digest_166 : decode cX6_digest 166 = .ok (.iinc 3 1, 3) := by decide +kernel
theorem dX6_digest_169 : decode cX6_digest 169 = .ok (.goto (-65), 3) := by decide +kernel
theorem dX6_digest_172 : decode cX6_digest 172 = .ok (.lload_n 1, 1) := by decide +kernel
theorem dX6_digest_173 : decode cX6_digest 173 = .ok (.lreturn, 1) := by decide +kernel
end
section
theorem dL_law_0 : decode cL_law 0 = .ok (.new 7, 3) := by decide +kernel
theorem dL_law_3 : decode cL_law 3 = .ok (.dup, 1) := by decide +kernel
theorem dL_law_4 : decode cL_law 4 = .ok (.invokespecial 9, 3) := by decide +kernel
theorem dL_law_7 : decode cL_law 7 = .ok (.astore_n 1, 1) := by decide +kernel
theorem dL_law_8 : decode cL_law 8 = .ok (.new 10, 3) := by decide +kernel
theorem dL_law_11 : decode cL_law 11 = .ok (.dup, 1) := by decide +kernel
theorem dL_law_12 : decode cL_law 12 = .ok (.invokespecial 12, 3) := by decide +kernel
theorem dL_law_15 : decode cL_law 15 = .ok (.astore_n 2, 1) := by decide +kernel
theorem dL_law_16 : decode cL_law 16 = .ok (.iconst 0, 1) := by decide +kernel
theorem dL_law_17 : decode cL_law 17 = .ok (.istore_n 3, 1) := by decide +kernel
theorem dL_law_18 : decode cL_law 18 = .ok (.iload_n 3, 1) := by decide +kernel
theorem dL_law_19 : decode cL_law 19 = .ok (.aload_n 0, 1) := by decide +kernel
theorem dL_law_20 : decode cL_law 20 = .ok (.arraylength, 1) := by decide +kernel
theorem dL_law_21 : decode cL_law 21 = .ok (.bipush 7, 2) := by decide +kernel
theorem dL_law_23 : decode cL_law 23 = .ok (.isub, 1) := by decide +kernel
theorem dL_law_24 : decode cL_law 24 = .ok (.if_icmp .gt 1403, 3) := by decide +kernel
theorem dL_law_27 : decode cL_law 27 = .ok (.aload_n 0, 1) := by decide +kernel
theorem dL_law_28 : decode cL_law 28 = .ok (.iload_n 3, 1) := by decide +kernel
theorem dL_law_29 : decode cL_law 29 = .ok (.iaload, 1) := by decide +kernel
theorem dL_law_30 : decode cL_law 30 = .ok (.bipush 31, 2) := by decide +kernel
theorem dL_law_32 : decode cL_law 32 = .ok (.iand, 1) := by decide +kernel
theorem dL_law_33 : decode cL_law 33 = .ok (.tableswitch 1388 0 29 #[135, 178, 201, 254, 297, 360, 393, 436, 489, 532, 575, 608, 651, 684, 727, 770, 813, 856, 899, 932, 985, 1008, 1051, 1094, 1137, 1190, 1265, 1318, 1351, 1374], 135) := by decide +kernel
theorem dL_law_168 : decode cL_law 168 = .ok (.aload_n 1, 1) := by decide +kernel
theorem dL_law_169 : decode cL_law 169 = .ok (.aload_n 0, 1) := by decide +kernel
theorem dL_law_170 : decode cL_law 170 = .ok (.iload_n 3, 1) := by decide +kernel
theorem dL_law_171 : decode cL_law 171 = .ok (.iconst 1, 1) := by decide +kernel
theorem dL_law_172 : decode cL_law 172 = .ok (.iadd, 1) := by decide +kernel
theorem dL_law_173 : decode cL_law 173 = .ok (.iaload, 1) := by decide +kernel
theorem dL_law_174 : decode cL_law 174 = .ok (.aload_n 0, 1) := by decide +kernel
theorem dL_law_175 : decode cL_law 175 = .ok (.iload_n 3, 1) := by decide +kernel
theorem dL_law_176 : decode cL_law 176 = .ok (.iconst 2, 1) := by decide +kernel
theorem dL_law_177 : decode cL_law 177 = .ok (.iadd, 1) := by decide +kernel
theorem dL_law_178 : decode cL_law 178 = .ok (.iaload, 1) := by decide +kernel
theorem dL_law_179 : decode cL_law 179 = .ok (.aload_n 0, 1) := by decide +kernel
theorem dL_law_180 : decode cL_law 180 = .ok (.iload_n 3, 1) := by decide +kernel
theorem dL_law_181 : decode cL_law 181 = .ok (.iconst 3, 1) := by decide +kernel
theorem dL_law_182 : decode cL_law 182 = .ok (.iadd, 1) := by decide +kernel
theorem dL_law_183 : decode cL_law 183 = .ok (.iaload, 1) := by decide +kernel
theorem dL_law_184 : decode cL_law 184 = .ok (.invokevirtual 13, 3) := by decide +kernel
theorem dL_law_187 : decode cL_law 187 = .ok (.aload_n 2, 1) := by decide +kernel
theorem dL_law_188 : decode cL_law 188 = .ok (.aload_n 0, 1) := by decide +kernel
theorem dL_law_189 : decode cL_law 189 = .ok (.iload_n 3, 1) := by decide +kernel
theorem dL_law_190 : decode cL_law 190 = .ok (.iconst 1, 1) := by decide +kernel
theorem dL_law_191 : decode cL_law 191 = .ok (.iadd, 1) := by decide +kernel
theorem dL_law_192 : decode cL_law 192 = .ok (.iaload, 1) := by decide +kernel
theorem dL_law_193 : decode cL_law 193 = .ok (.aload_n 0, 1) := by decide +kernel
theorem dL_law_194 : decode cL_law 194 = .ok (.iload_n 3, 1) := by decide +kernel
theorem dL_law_195 : decode cL_law 195 = .ok (.iconst 2, 1) := by decide +kernel
theorem dL_law_196 : decode cL_law 196 = .ok (.iadd, 1) := by decide +kernel
theorem dL_law_197 : decode cL_law 197 = .ok (.iaload, 1) := by decide +kernel
theorem dL_law_198 : decode cL_law 198 = .ok (.aload_n 0, 1) := by decide +kernel
theorem dL_law_199 : decode cL_law 199 = .ok (.iload_n 3, 1) := by decide +kernel
theorem dL_law_200 : decode cL_law 200 = .ok (.iconst 3, 1) := by decide +kernel
theorem dL_law_201 : decode cL_law 201 = .ok (.iadd, 1) := by decide +kernel
theorem dL_law_202 : decode cL_law 202 = .ok (.iaload, 1) := by decide +kernel
theorem dL_law_203 : decode cL_law 203 = .ok (.invokevirtual 17, 3) := by decide +kernel
theorem dL_law_206 : decode cL_law 206 = .ok (.if_icmp .eq 1215, 3) := by decide +kernel
theorem dL_law_209 : decode cL_law 209 = .ok (.iconst 0, 1) := by decide +kernel
theorem dL_law_210 : decode cL_law 210 = .ok (.ireturn, 1) := by decide +kernel
theorem dL_law_211 : decode cL_law 211 = .ok (.aload_n 1, 1) := by decide +kernel
theorem dL_law_212 : decode cL_law 212 = .ok (.aload_n 0, 1) := by decide +kernel
theorem dL_law_213 : decode cL_law 213 = .ok (.iload_n 3, 1) := by decide +kernel
theorem dL_law_214 : decode cL_law 214 = .ok (.iconst 1, 1) := by decide +kernel
theorem dL_law_215 : decode cL_law 215 = .ok (.iadd, 1) := by decide +kernel
theorem dL_law_216 : decode cL_law 216 = .ok (.iaload, 1) := by decide +kernel
theorem dL_law_217 : decode cL_law 217 = .ok (.invokevirtual 18, 3) := by decide +kernel
theorem dL_law_220 : decode cL_law 220 = .ok (.aload_n 2, 1) := by decide +kernel
theorem dL_law_221 : decode cL_law 221 = .ok (.aload_n 0, 1) := by decide +kernel
theorem dL_law_222 : decode cL_law 222 = .ok (.iload_n 3, 1) := by decide +kernel
theorem dL_law_223 : decode cL_law 223 = .ok (.iconst 1, 1) := by decide +kernel
theorem dL_law_224 : decode cL_law 224 = .ok (.iadd, 1) := by decide +kernel
theorem dL_law_225 : decode cL_law 225 = .ok (.iaload, 1) := by decide +kernel
theorem dL_law_226 : decode cL_law 226 = .ok (.invokevirtual 22, 3) := by decide +kernel
theorem dL_law_229 : decode cL_law 229 = .ok (.if_icmp .eq 1192, 3) := by decide +kernel
theorem dL_law_232 : decode cL_law 232 = .ok (.iconst 0, 1) := by decide +kernel
theorem dL_law_233 : decode cL_law 233 = .ok (.ireturn, 1) := by decide +kernel
theorem dL_law_234 : decode cL_law 234 = .ok (.aload_n 1, 1) := by decide +kernel
theorem dL_law_235 : decode cL_law 235 = .ok (.aload_n 0, 1) := by decide +kernel
theorem dL_law_236 : decode cL_law 236 = .ok (.iload_n 3, 1) := by decide +kernel
theorem dL_law_237 : decode cL_law 237 = .ok (.iconst 1, 1) := by decide +kernel
theorem dL_law_238 : decode cL_law 238 = .ok (.iadd, 1) := by decide +kernel
theorem dL_law_239 : decode cL_law 239 = .ok (.iaload, 1) := by decide +kernel
theorem dL_law_240 : decode cL_law 240 = .ok (.aload_n 0, 1) := by decide +kernel
theorem dL_law_241 : decode cL_law 241 = .ok (.iload_n 3, 1) := by decide +kernel
theorem dL_law_242 : decode cL_law 242 = .ok (.iconst 2, 1) := by decide +kernel
theorem dL_law_243 : decode cL_law 243 = .ok (.iadd, 1) := by decide +kernel
theorem dL_law_244 : decode cL_law 244 = .ok (.iaload, 1) := by decide +kernel
theorem dL_law_245 : decode cL_law 245 = .ok (.aload_n 0, 1) := by decide +kernel
theorem dL_law_246 : decode cL_law 246 = .ok (.iload_n 3, 1) := by decide +kernel
theorem dL_law_247 : decode cL_law 247 = .ok (.iconst 3, 1) := by decide +kernel
theorem dL_law_248 : decode cL_law 248 = .ok (.iadd, 1) := by decide +kernel
theorem dL_law_249 : decode cL_law 249 = .ok (.iaload, 1) := by decide +kernel
theorem dL_law_250 : decode cL_law 250 = .ok (.aload_n 0, 1) := by decide +kernel
theorem dL_law_251 : decode cL_law 251 = .ok (.iload_n 3, 1) := by decide +kernel
theorem dL_law_252 : decode cL_law 252 = .ok (.iconst 4, 1) := by decide +kernel
theorem dL_law_253 : decode cL_law 253 = .ok (.iadd, 1) := by decide +kernel
theorem dL_law_254 : decode cL_law 254 = .ok (.iaload, 1) := by decide +kernel
theorem dL_law_255 : decode cL_law 255 = .ok (.invokevirtual 23, 3) := by decide +kernel
theorem dL_law_258 : decode cL_law 258 = .ok (.aload_n 2, 1) := by decide +kernel
theorem dL_law_259 : decode cL_law 259 = .ok (.aload_n 0, 1) := by decide +kernel
theorem dL_law_260 : decode cL_law 260 = .ok (.iload_n 3, 1) := by decide +kernel
theorem dL_law_261 : decode cL_law 261 = .ok (.iconst 1, 1) := by decide +kernel
theorem dL_law_262 : decode cL_law 262 = .ok (.iadd, 1) := by decide +kernel
theorem dL_law_263 : decode cL_law 263 = .ok (.iaload, 1) := by decide +kernel
theorem dL_law_264 : decode cL_law 264 = .ok (.aload_n 0, 1) := by decide +kernel
theorem dL_law_265 : decode cL_law 265 = .ok (.iload_n 3, 1) := by decide +kernel
theorem dL_law_266 : decode cL_law 266 = .ok (.iconst 2, 1) := by decide +kernel
theorem dL_law_267 : decode cL_law 267 = .ok (.iadd, 1) := by decide +kernel
theorem dL_law_268 : decode cL_law 268 = .ok (.iaload, 1) := by decide +kernel
theorem dL_law_269 : decode cL_law 269 = .ok (.aload_n 0, 1) := by decide +kernel
theorem dL_law_270 : decode cL_law 270 = .ok (.iload_n 3, 1) := by decide +kernel
theorem dL_law_271 : decode cL_law 271 = .ok (.iconst 3, 1) := by decide +kernel
theorem dL_law_272 : decode cL_law 272 = .ok (.iadd, 1) := by decide +kernel
theorem dL_law_273 : decode cL_law 273 = .ok (.iaload, 1) := by decide +kernel
theorem dL_law_274 : decode cL_law 274 = .ok (.aload_n 0, 1) := by decide +kernel
theorem dL_law_275 : decode cL_law 275 = .ok (.iload_n 3, 1) := by decide +kernel
theorem dL_law_276 : decode cL_law 276 = .ok (.iconst 4, 1) := by decide +kernel
theorem dL_law_277 : decode cL_law 277 = .ok (.iadd, 1) := by decide +kernel
theorem dL_law_278 : decode cL_law 278 = .ok (.iaload, 1) := by decide +kernel
theorem dL_law_279 : decode cL_law 279 = .ok (.invokevirtual 27, 3) := by decide +kernel
theorem dL_law_282 : decode cL_law 282 = .ok (.if_icmp .eq 1139, 3) := by decide +kernel
theorem dL_law_285 : decode cL_law 285 = .ok (.iconst 0, 1) := by decide +kernel
theorem dL_law_286 : decode cL_law 286 = .ok (.ireturn, 1) := by decide +kernel
theorem dL_law_287 : decode cL_law 287 = .ok (.aload_n 1, 1) := by decide +kernel
theorem dL_law_288 : decode cL_law 288 = .ok (.aload_n 0, 1) := by decide +kernel
theorem dL_law_289 : decode cL_law 289 = .ok (.iload_n 3, 1) := by decide +kernel
theorem dL_law_290 : decode cL_law 290 = .ok (.iconst 1, 1) := by decide +kernel
theorem dL_law_291 : decode cL_law 291 = .ok (.iadd, 1) := by decide +kernel
theorem dL_law_292 : decode cL_law 292 = .ok (.iaload, 1) := by decide +kernel
theorem dL_law_293 : decode cL_law 293 = .ok (.aload_n 0, 1) := by decide +kernel
theorem dL_law_294 : decode cL_law 294 = .ok (.iload_n 3, 1) := by decide +kernel
theorem dL_law_295 : decode cL_law 295 = .ok (.iconst 2, 1) := by decide +kernel
theorem dL_law_296 : decode cL_law 296 = .ok (.iadd, 1) := by decide +kernel
theorem dL_law_297 : decode cL_law 297 = .ok (.iaload, 1) := by decide +kernel
theorem dL_law_298 : decode cL_law 298 = .ok (.aload_n 0, 1) := by decide +kernel
theorem dL_law_299 : decode cL_law 299 = .ok (.iload_n 3, 1) := by decide +kernel
theorem dL_law_300 : decode cL_law 300 = .ok (.iconst 3, 1) := by decide +kernel
theorem dL_law_301 : decode cL_law 301 = .ok (.iadd, 1) := by decide +kernel
theorem dL_law_302 : decode cL_law 302 = .ok (.iaload, 1) := by decide +kernel
theorem dL_law_303 : decode cL_law 303 = .ok (.invokevirtual 28, 3) := by decide +kernel
theorem dL_law_306 : decode cL_law 306 = .ok (.aload_n 2, 1) := by decide +kernel
theorem dL_law_307 : decode cL_law 307 = .ok (.aload_n 0, 1) := by decide +kernel
theorem dL_law_308 : decode cL_law 308 = .ok (.iload_n 3, 1) := by decide +kernel
theorem dL_law_309 : decode cL_law 309 = .ok (.iconst 1, 1) := by decide +kernel
theorem dL_law_310 : decode cL_law 310 = .ok (.iadd, 1) := by decide +kernel
theorem dL_law_311 : decode cL_law 311 = .ok (.iaload, 1) := by decide +kernel
theorem dL_law_312 : decode cL_law 312 = .ok (.aload_n 0, 1) := by decide +kernel
theorem dL_law_313 : decode cL_law 313 = .ok (.iload_n 3, 1) := by decide +kernel
theorem dL_law_314 : decode cL_law 314 = .ok (.iconst 2, 1) := by decide +kernel
theorem dL_law_315 : decode cL_law 315 = .ok (.iadd, 1) := by decide +kernel
theorem dL_law_316 : decode cL_law 316 = .ok (.iaload, 1) := by decide +kernel
theorem dL_law_317 : decode cL_law 317 = .ok (.aload_n 0, 1) := by decide +kernel
theorem dL_law_318 : decode cL_law 318 = .ok (.iload_n 3, 1) := by decide +kernel
theorem dL_law_319 : decode cL_law 319 = .ok (.iconst 3, 1) := by decide +kernel
theorem dL_law_320 : decode cL_law 320 = .ok (.iadd, 1) := by decide +kernel
theorem dL_law_321 : decode cL_law 321 = .ok (.iaload, 1) := by decide +kernel
theorem dL_law_322 : decode cL_law 322 = .ok (.invokevirtual 31, 3) := by decide +kernel
theorem dL_law_325 : decode cL_law 325 = .ok (.if_icmp .eq 1096, 3) := by decide +kernel
theorem dL_law_328 : decode cL_law 328 = .ok (.iconst 0, 1) := by decide +kernel
theorem dL_law_329 : decode cL_law 329 = .ok (.ireturn, 1) := by decide +kernel
theorem dL_law_330 : decode cL_law 330 = .ok (.aload_n 1, 1) := by decide +kernel
theorem dL_law_331 : decode cL_law 331 = .ok (.aload_n 0, 1) := by decide +kernel
theorem dL_law_332 : decode cL_law 332 = .ok (.iload_n 3, 1) := by decide +kernel
theorem dL_law_333 : decode cL_law 333 = .ok (.iconst 1, 1) := by decide +kernel
theorem dL_law_334 : decode cL_law 334 = .ok (.iadd, 1) := by decide +kernel
theorem dL_law_335 : decode cL_law 335 = .ok (.iaload, 1) := by decide +kernel
theorem dL_law_336 : decode cL_law 336 = .ok (.aload_n 0, 1) := by decide +kernel
theorem dL_law_337 : decode cL_law 337 = .ok (.iload_n 3, 1) := by decide +kernel
theorem dL_law_338 : decode cL_law 338 = .ok (.iconst 2, 1) := by decide +kernel
theorem dL_law_339 : decode cL_law 339 = .ok (.iadd, 1) := by decide +kernel
theorem dL_law_340 : decode cL_law 340 = .ok (.iaload, 1) := by decide +kernel
theorem dL_law_341 : decode cL_law 341 = .ok (.aload_n 0, 1) := by decide +kernel
theorem dL_law_342 : decode cL_law 342 = .ok (.iload_n 3, 1) := by decide +kernel
theorem dL_law_343 : decode cL_law 343 = .ok (.iconst 3, 1) := by decide +kernel
theorem dL_law_344 : decode cL_law 344 = .ok (.iadd, 1) := by decide +kernel
theorem dL_law_345 : decode cL_law 345 = .ok (.iaload, 1) := by decide +kernel
theorem dL_law_346 : decode cL_law 346 = .ok (.aload_n 0, 1) := by decide +kernel
theorem dL_law_347 : decode cL_law 347 = .ok (.iload_n 3, 1) := by decide +kernel
theorem dL_law_348 : decode cL_law 348 = .ok (.iconst 4, 1) := by decide +kernel
theorem dL_law_349 : decode cL_law 349 = .ok (.iadd, 1) := by decide +kernel
theorem dL_law_350 : decode cL_law 350 = .ok (.iaload, 1) := by decide +kernel
theorem dL_law_351 : decode cL_law 351 = .ok (.aload_n 0, 1) := by decide +kernel
theorem dL_law_352 : decode cL_law 352 = .ok (.iload_n 3, 1) := by decide +kernel
theorem dL_law_353 : decode cL_law 353 = .ok (.iconst 5, 1) := by decide +kernel
theorem dL_law_354 : decode cL_law 354 = .ok (.iadd, 1) := by decide +kernel
theorem dL_law_355 : decode cL_law 355 = .ok (.iaload, 1) := by decide +kernel
theorem dL_law_356 : decode cL_law 356 = .ok (.invokevirtual 32, 3) := by decide +kernel
theorem dL_law_359 : decode cL_law 359 = .ok (.aload_n 2, 1) := by decide +kernel
theorem dL_law_360 : decode cL_law 360 = .ok (.aload_n 0, 1) := by decide +kernel
theorem dL_law_361 : decode cL_law 361 = .ok (.iload_n 3, 1) := by decide +kernel
theorem dL_law_362 : decode cL_law 362 = .ok (.iconst 1, 1) := by decide +kernel
theorem dL_law_363 : decode cL_law 363 = .ok (.iadd, 1) := by decide +kernel
theorem dL_law_364 : decode cL_law 364 = .ok (.iaload, 1) := by decide +kernel
theorem dL_law_365 : decode cL_law 365 = .ok (.aload_n 0, 1) := by decide +kernel
theorem dL_law_366 : decode cL_law 366 = .ok (.iload_n 3, 1) := by decide +kernel
theorem dL_law_367 : decode cL_law 367 = .ok (.iconst 2, 1) := by decide +kernel
theorem dL_law_368 : decode cL_law 368 = .ok (.iadd, 1) := by decide +kernel
theorem dL_law_369 : decode cL_law 369 = .ok (.iaload, 1) := by decide +kernel
theorem dL_law_370 : decode cL_law 370 = .ok (.aload_n 0, 1) := by decide +kernel
theorem dL_law_371 : decode cL_law 371 = .ok (.iload_n 3, 1) := by decide +kernel
theorem dL_law_372 : decode cL_law 372 = .ok (.iconst 3, 1) := by decide +kernel
theorem dL_law_373 : decode cL_law 373 = .ok (.iadd, 1) := by decide +kernel
theorem dL_law_374 : decode cL_law 374 = .ok (.iaload, 1) := by decide +kernel
theorem dL_law_375 : decode cL_law 375 = .ok (.aload_n 0, 1) := by decide +kernel
theorem dL_law_376 : decode cL_law 376 = .ok (.iload_n 3, 1) := by decide +kernel
theorem dL_law_377 : decode cL_law 377 = .ok (.iconst 4, 1) := by decide +kernel
theorem dL_law_378 : decode cL_law 378 = .ok (.iadd, 1) := by decide +kernel
theorem dL_law_379 : decode cL_law 379 = .ok (.iaload, 1) := by decide +kernel
theorem dL_law_380 : decode cL_law 380 = .ok (.aload_n 0, 1) := by decide +kernel
theorem dL_law_381 : decode cL_law 381 = .ok (.iload_n 3, 1) := by decide +kernel
theorem dL_law_382 : decode cL_law 382 = .ok (.iconst 5, 1) := by decide +kernel
theorem dL_law_383 : decode cL_law 383 = .ok (.iadd, 1) := by decide +kernel
theorem dL_law_384 : decode cL_law 384 = .ok (.iaload, 1) := by decide +kernel
theorem dL_law_385 : decode cL_law 385 = .ok (.invokevirtual 36, 3) := by decide +kernel
theorem dL_law_388 : decode cL_law 388 = .ok (.if_icmp .eq 1033, 3) := by decide +kernel
theorem dL_law_391 : decode cL_law 391 = .ok (.iconst 0, 1) := by decide +kernel
theorem dL_law_392 : decode cL_law 392 = .ok (.ireturn, 1) := by decide +kernel
theorem dL_law_393 : decode cL_law 393 = .ok (.aload_n 1, 1) := by decide +kernel
theorem dL_law_394 : decode cL_law 394 = .ok (.aload_n 0, 1) := by decide +kernel
theorem dL_law_395 : decode cL_law 395 = .ok (.iload_n 3, 1) := by decide +kernel
theorem dL_law_396 : decode cL_law 396 = .ok (.iconst 1, 1) := by decide +kernel
theorem dL_law_397 : decode cL_law 397 = .ok (.iadd, 1) := by decide +kernel
theorem dL_law_398 : decode cL_law 398 = .ok (.iaload, 1) := by decide +kernel
theorem dL_law_399 : decode cL_law 399 = .ok (.aload_n 0, 1) := by decide +kernel
theorem dL_law_400 : decode cL_law 400 = .ok (.iload_n 3, 1) := by decide +kernel
theorem dL_law_401 : decode cL_law 401 = .ok (.iconst 2, 1) := by decide +kernel
theorem dL_law_402 : decode cL_law 402 = .ok (.iadd, 1) := by decide +kernel
theorem dL_law_403 : decode cL_law 403 = .ok (.iaload, 1) := by decide +kernel
theorem dL_law_404 : decode cL_law 404 = .ok (.invokevirtual 37, 3) := by decide +kernel
theorem dL_law_407 : decode cL_law 407 = .ok (.aload_n 2, 1) := by decide +kernel
theorem dL_law_408 : decode cL_law 408 = .ok (.aload_n 0, 1) := by decide +kernel
theorem dL_law_409 : decode cL_law 409 = .ok (.iload_n 3, 1) := by decide +kernel
theorem dL_law_410 : decode cL_law 410 = .ok (.iconst 1, 1) := by decide +kernel
theorem dL_law_411 : decode cL_law 411 = .ok (.iadd, 1) := by decide +kernel
theorem dL_law_412 : decode cL_law 412 = .ok (.iaload, 1) := by decide +kernel
theorem dL_law_413 : decode cL_law 413 = .ok (.aload_n 0, 1) := by decide +kernel
theorem dL_law_414 : decode cL_law 414 = .ok (.iload_n 3, 1) := by decide +kernel
theorem dL_law_415 : decode cL_law 415 = .ok (.iconst 2, 1) := by decide +kernel
theorem dL_law_416 : decode cL_law 416 = .ok (.iadd, 1) := by decide +kernel
theorem dL_law_417 : decode cL_law 417 = .ok (.iaload, 1) := by decide +kernel
theorem dL_law_418 : decode cL_law 418 = .ok (.invokevirtual 41, 3) := by decide +kernel
theorem dL_law_421 : decode cL_law 421 = .ok (.if_icmp .eq 1000, 3) := by decide +kernel
theorem dL_law_424 : decode cL_law 424 = .ok (.iconst 0, 1) := by decide +kernel
theorem dL_law_425 : decode cL_law 425 = .ok (.ireturn, 1) := by decide +kernel
theorem dL_law_426 : decode cL_law 426 = .ok (.aload_n 1, 1) := by decide +kernel
theorem dL_law_427 : decode cL_law 427 = .ok (.aload_n 0, 1) := by decide +kernel
theorem dL_law_428 : decode cL_law 428 = .ok (.iload_n 3, 1) := by decide +kernel
theorem dL_law_429 : decode cL_law 429 = .ok (.iconst 1, 1) := by decide +kernel
theorem dL_law_430 : decode cL_law 430 = .ok (.iadd, 1) := by decide +kernel
theorem dL_law_431 : decode cL_law 431 = .ok (.iaload, 1) := by decide +kernel
theorem dL_law_432 : decode cL_law 432 = .ok (.aload_n 0, 1) := by decide +kernel
theorem dL_law_433 : decode cL_law 433 = .ok (.iload_n 3, 1) := by decide +kernel
theorem dL_law_434 : decode cL_law 434 = .ok (.iconst 2, 1) := by decide +kernel
theorem dL_law_435 : decode cL_law 435 = .ok (.iadd, 1) := by decide +kernel
theorem dL_law_436 : decode cL_law 436 = .ok (.iaload, 1) := by decide +kernel
theorem dL_law_437 : decode cL_law 437 = .ok (.aload_n 0, 1) := by decide +kernel
theorem dL_law_438 : decode cL_law 438 = .ok (.iload_n 3, 1) := by decide +kernel
theorem dL_law_439 : decode cL_law 439 = .ok (.iconst 3, 1) := by decide +kernel
theorem dL_law_440 : decode cL_law 440 = .ok (.iadd, 1) := by decide +kernel
theorem dL_law_441 : decode cL_law 441 = .ok (.iaload, 1) := by decide +kernel
theorem dL_law_442 : decode cL_law 442 = .ok (.invokevirtual 42, 3) := by decide +kernel
theorem dL_law_445 : decode cL_law 445 = .ok (.aload_n 2, 1) := by decide +kernel
theorem dL_law_446 : decode cL_law 446 = .ok (.aload_n 0, 1) := by decide +kernel
theorem dL_law_447 : decode cL_law 447 = .ok (.iload_n 3, 1) := by decide +kernel
theorem dL_law_448 : decode cL_law 448 = .ok (.iconst 1, 1) := by decide +kernel
theorem dL_law_449 : decode cL_law 449 = .ok (.iadd, 1) := by decide +kernel
theorem dL_law_450 : decode cL_law 450 = .ok (.iaload, 1) := by decide +kernel
theorem dL_law_451 : decode cL_law 451 = .ok (.aload_n 0, 1) := by decide +kernel
theorem dL_law_452 : decode cL_law 452 = .ok (.iload_n 3, 1) := by decide +kernel
theorem dL_law_453 : decode cL_law 453 = .ok (.iconst 2, 1) := by decide +kernel
theorem dL_law_454 : decode cL_law 454 = .ok (.iadd, 1) := by decide +kernel
theorem dL_law_455 : decode cL_law 455 = .ok (.iaload, 1) := by decide +kernel
theorem dL_law_456 : decode cL_law 456 = .ok (.aload_n 0, 1) := by decide +kernel
theorem dL_law_457 : decode cL_law 457 = .ok (.iload_n 3, 1) := by decide +kernel
theorem dL_law_458 : decode cL_law 458 = .ok (.iconst 3, 1) := by decide +kernel
theorem dL_law_459 : decode cL_law 459 = .ok (.iadd, 1) := by decide +kernel
theorem dL_law_460 : decode cL_law 460 = .ok (.iaload, 1) := by decide +kernel
theorem dL_law_461 : decode cL_law 461 = .ok (.invokevirtual 45, 3) := by decide +kernel
theorem dL_law_464 : decode cL_law 464 = .ok (.if_icmp .eq 957, 3) := by decide +kernel
theorem dL_law_467 : decode cL_law 467 = .ok (.iconst 0, 1) := by decide +kernel
theorem dL_law_468 : decode cL_law 468 = .ok (.ireturn, 1) := by decide +kernel
theorem dL_law_469 : decode cL_law 469 = .ok (.aload_n 1, 1) := by decide +kernel
theorem dL_law_470 : decode cL_law 470 = .ok (.aload_n 0, 1) := by decide +kernel
theorem dL_law_471 : decode cL_law 471 = .ok (.iload_n 3, 1) := by decide +kernel
theorem dL_law_472 : decode cL_law 472 = .ok (.iconst 1, 1) := by decide +kernel
theorem dL_law_473 : decode cL_law 473 = .ok (.iadd, 1) := by decide +kernel
theorem dL_law_474 : decode cL_law 474 = .ok (.iaload, 1) := by decide +kernel
theorem dL_law_475 : decode cL_law 475 = .ok (.aload_n 0, 1) := by decide +kernel
theorem dL_law_476 : decode cL_law 476 = .ok (.iload_n 3, 1) := by decide +kernel
theorem dL_law_477 : decode cL_law 477 = .ok (.iconst 2, 1) := by decide +kernel
theorem dL_law_478 : decode cL_law 478 = .ok (.iadd, 1) := by decide +kernel
theorem dL_law_479 : decode cL_law 479 = .ok (.iaload, 1) := by decide +kernel
theorem dL_law_480 : decode cL_law 480 = .ok (.aload_n 0, 1) := by decide +kernel
theorem dL_law_481 : decode cL_law 481 = .ok (.iload_n 3, 1) := by decide +kernel
theorem dL_law_482 : decode cL_law 482 = .ok (.iconst 3, 1) := by decide +kernel
theorem dL_law_483 : decode cL_law 483 = .ok (.iadd, 1) := by decide +kernel
theorem dL_law_484 : decode cL_law 484 = .ok (.iaload, 1) := by decide +kernel
theorem dL_law_485 : decode cL_law 485 = .ok (.aload_n 0, 1) := by decide +kernel
theorem dL_law_486 : decode cL_law 486 = .ok (.iload_n 3, 1) := by decide +kernel
theorem dL_law_487 : decode cL_law 487 = .ok (.iconst 4, 1) := by decide +kernel
theorem dL_law_488 : decode cL_law 488 = .ok (.iadd, 1) := by decide +kernel
theorem dL_law_489 : decode cL_law 489 = .ok (.iaload, 1) := by decide +kernel
theorem dL_law_490 : decode cL_law 490 = .ok (.invokevirtual 46, 3) := by decide +kernel
theorem dL_law_493 : decode cL_law 493 = .ok (.aload_n 2, 1) := by decide +kernel
theorem dL_law_494 : decode cL_law 494 = .ok (.aload_n 0, 1) := by decide +kernel
theorem dL_law_495 : decode cL_law 495 = .ok (.iload_n 3, 1) := by decide +kernel
theorem dL_law_496 : decode cL_law 496 = .ok (.iconst 1, 1) := by decide +kernel
theorem dL_law_497 : decode cL_law 497 = .ok (.iadd, 1) := by decide +kernel
theorem dL_law_498 : decode cL_law 498 = .ok (.iaload, 1) := by decide +kernel
theorem dL_law_499 : decode cL_law 499 = .ok (.aload_n 0, 1) := by decide +kernel
theorem dL_law_500 : decode cL_law 500 = .ok (.iload_n 3, 1) := by decide +kernel
theorem dL_law_501 : decode cL_law 501 = .ok (.iconst 2, 1) := by decide +kernel
theorem dL_law_502 : decode cL_law 502 = .ok (.iadd, 1) := by decide +kernel
theorem dL_law_503 : decode cL_law 503 = .ok (.iaload, 1) := by decide +kernel
theorem dL_law_504 : decode cL_law 504 = .ok (.aload_n 0, 1) := by decide +kernel
theorem dL_law_505 : decode cL_law 505 = .ok (.iload_n 3, 1) := by decide +kernel
theorem dL_law_506 : decode cL_law 506 = .ok (.iconst 3, 1) := by decide +kernel
theorem dL_law_507 : decode cL_law 507 = .ok (.iadd, 1) := by decide +kernel
theorem dL_law_508 : decode cL_law 508 = .ok (.iaload, 1) := by decide +kernel
theorem dL_law_509 : decode cL_law 509 = .ok (.aload_n 0, 1) := by decide +kernel
theorem dL_law_510 : decode cL_law 510 = .ok (.iload_n 3, 1) := by decide +kernel
theorem dL_law_511 : decode cL_law 511 = .ok (.iconst 4, 1) := by decide +kernel
theorem dL_law_512 : decode cL_law 512 = .ok (.iadd, 1) := by decide +kernel
theorem dL_law_513 : decode cL_law 513 = .ok (.iaload, 1) := by decide +kernel
theorem dL_law_514 : decode cL_law 514 = .ok (.invokevirtual 49, 3) := by decide +kernel
theorem dL_law_517 : decode cL_law 517 = .ok (.if_icmp .eq 904, 3) := by decide +kernel
theorem dL_law_520 : decode cL_law 520 = .ok (.iconst 0, 1) := by decide +kernel
theorem dL_law_521 : decode cL_law 521 = .ok (.ireturn, 1) := by decide +kernel
theorem dL_law_522 : decode cL_law 522 = .ok (.aload_n 1, 1) := by decide +kernel
theorem dL_law_523 : decode cL_law 523 = .ok (.aload_n 0, 1) := by decide +kernel
theorem dL_law_524 : decode cL_law 524 = .ok (.iload_n 3, 1) := by decide +kernel
theorem dL_law_525 : decode cL_law 525 = .ok (.iconst 1, 1) := by decide +kernel
theorem dL_law_526 : decode cL_law 526 = .ok (.iadd, 1) := by decide +kernel
theorem dL_law_527 : decode cL_law 527 = .ok (.iaload, 1) := by decide +kernel
theorem dL_law_528 : decode cL_law 528 = .ok (.aload_n 0, 1) := by decide +kernel
theorem dL_law_529 : decode cL_law 529 = .ok (.iload_n 3, 1) := by decide +kernel
theorem dL_law_530 : decode cL_law 530 = .ok (.iconst 2, 1) := by decide +kernel
theorem dL_law_531 : decode cL_law 531 = .ok (.iadd, 1) := by decide +kernel
theorem dL_law_532 : decode cL_law 532 = .ok (.iaload, 1) := by decide +kernel
theorem dL_law_533 : decode cL_law 533 = .ok (.aload_n 0, 1) := by decide +kernel
theorem dL_law_534 : decode cL_law 534 = .ok (.iload_n 3, 1) := by decide +kernel
theorem dL_law_535 : decode cL_law 535 = .ok (.iconst 3, 1) := by decide +kernel
theorem dL_law_536 : decode cL_law 536 = .ok (.iadd, 1) := by decide +kernel
theorem dL_law_537 : decode cL_law 537 = .ok (.iaload, 1) := by decide +kernel
theorem dL_law_538 : decode cL_law 538 = .ok (.invokevirtual 50, 3) := by decide +kernel
theorem dL_law_541 : decode cL_law 541 = .ok (.aload_n 2, 1) := by decide +kernel
theorem dL_law_542 : decode cL_law 542 = .ok (.aload_n 0, 1) := by decide +kernel
theorem dL_law_543 : decode cL_law 543 = .ok (.iload_n 3, 1) := by decide +kernel
theorem dL_law_544 : decode cL_law 544 = .ok (.iconst 1, 1) := by decide +kernel
theorem dL_law_545 : decode cL_law 545 = .ok (.iadd, 1) := by decide +kernel
theorem dL_law_546 : decode cL_law 546 = .ok (.iaload, 1) := by decide +kernel
theorem dL_law_547 : decode cL_law 547 = .ok (.aload_n 0, 1) := by decide +kernel
theorem dL_law_548 : decode cL_law 548 = .ok (.iload_n 3, 1) := by decide +kernel
theorem dL_law_549 : decode cL_law 549 = .ok (.iconst 2, 1) := by decide +kernel
theorem dL_law_550 : decode cL_law 550 = .ok (.iadd, 1) := by decide +kernel
theorem dL_law_551 : decode cL_law 551 = .ok (.iaload, 1) := by decide +kernel
theorem dL_law_552 : decode cL_law 552 = .ok (.aload_n 0, 1) := by decide +kernel
theorem dL_law_553 : decode cL_law 553 = .ok (.iload_n 3, 1) := by decide +kernel
theorem dL_law_554 : decode cL_law 554 = .ok (.iconst 3, 1) := by decide +kernel
theorem dL_law_555 : decode cL_law 555 = .ok (.iadd, 1) := by decide +kernel
theorem dL_law_556 : decode cL_law 556 = .ok (.iaload, 1) := by decide +kernel
theorem dL_law_557 : decode cL_law 557 = .ok (.invokevirtual 53, 3) := by decide +kernel
theorem dL_law_560 : decode cL_law 560 = .ok (.if_icmp .eq 861, 3) := by decide +kernel
theorem dL_law_563 : decode cL_law 563 = .ok (.iconst 0, 1) := by decide +kernel
theorem dL_law_564 : decode cL_law 564 = .ok (.ireturn, 1) := by decide +kernel
theorem dL_law_565 : decode cL_law 565 = .ok (.aload_n 1, 1) := by decide +kernel
theorem dL_law_566 : decode cL_law 566 = .ok (.aload_n 0, 1) := by decide +kernel
theorem dL_law_567 : decode cL_law 567 = .ok (.iload_n 3, 1) := by decide +kernel
theorem dL_law_568 : decode cL_law 568 = .ok (.iconst 1, 1) := by decide +kernel
theorem dL_law_569 : decode cL_law 569 = .ok (.iadd, 1) := by decide +kernel
theorem dL_law_570 : decode cL_law 570 = .ok (.iaload, 1) := by decide +kernel
theorem dL_law_571 : decode cL_law 571 = .ok (.aload_n 0, 1) := by decide +kernel
theorem dL_law_572 : decode cL_law 572 = .ok (.iload_n 3, 1) := by decide +kernel
theorem dL_law_573 : decode cL_law 573 = .ok (.iconst 2, 1) := by decide +kernel
theorem dL_law_574 : decode cL_law 574 = .ok (.iadd, 1) := by decide +kernel
theorem dL_law_575 : decode cL_law 575 = .ok (.iaload, 1) := by decide +kernel
theorem dL_law_576 : decode cL_law 576 = .ok (.aload_n 0, 1) := by decide +kernel
theorem dL_law_577 : decode cL_law 577 = .ok (.iload_n 3, 1) := by decide +kernel
theorem dL_law_578 : decode cL_law 578 = .ok (.iconst 3, 1) := by decide +kernel
theorem dL_law_579 : decode cL_law 579 = .ok (.iadd, 1) := by decide +kernel
theorem dL_law_580 : decode cL_law 580 = .ok (.iaload, 1) := by decide +kernel
theorem dL_law_581 : decode cL_law 581 = .ok (.invokevirtual 54, 3) := by decide +kernel
theorem dL_law_584 : decode cL_law 584 = .ok (.aload_n 2, 1) := by decide +kernel
theorem dL_law_585 : decode cL_law 585 = .ok (.aload_n 0, 1) := by decide +kernel
theorem dL_law_586 : decode cL_law 586 = .ok (.iload_n 3, 1) := by decide +kernel
theorem dL_law_587 : decode cL_law 587 = .ok (.iconst 1, 1) := by decide +kernel
theorem dL_law_588 : decode cL_law 588 = .ok (.iadd, 1) := by decide +kernel
theorem dL_law_589 : decode cL_law 589 = .ok (.iaload, 1) := by decide +kernel
theorem dL_law_590 : decode cL_law 590 = .ok (.aload_n 0, 1) := by decide +kernel
theorem dL_law_591 : decode cL_law 591 = .ok (.iload_n 3, 1) := by decide +kernel
theorem dL_law_592 : decode cL_law 592 = .ok (.iconst 2, 1) := by decide +kernel
theorem dL_law_593 : decode cL_law 593 = .ok (.iadd, 1) := by decide +kernel
theorem dL_law_594 : decode cL_law 594 = .ok (.iaload, 1) := by decide +kernel
theorem dL_law_595 : decode cL_law 595 = .ok (.aload_n 0, 1) := by decide +kernel
theorem dL_law_596 : decode cL_law 596 = .ok (.iload_n 3, 1) := by decide +kernel
theorem dL_law_597 : decode cL_law 597 = .ok (.iconst 3, 1) := by decide +kernel
theorem dL_law_598 : decode cL_law 598 = .ok (.iadd, 1) := by decide +kernel
theorem dL_law_599 : decode cL_law 599 = .ok (.iaload, 1) := by decide +kernel
theorem dL_law_600 : decode cL_law 600 = .ok (.invokevirtual 57, 3) := by decide +kernel
theorem dL_law_603 : decode cL_law 603 = .ok (.if_icmp .eq 818, 3) := by decide +kernel
theorem dL_law_606 : decode cL_law 606 = .ok (.iconst 0, 1) := by decide +kernel
theorem dL_law_607 : decode cL_law 607 = .ok (.ireturn, 1) := by decide +kernel
theorem dL_law_608 : decode cL_law 608 = .ok (.aload_n 1, 1) := by decide +kernel
theorem dL_law_609 : decode cL_law 609 = .ok (.aload_n 0, 1) := by decide +kernel
theorem dL_law_610 : decode cL_law 610 = .ok (.iload_n 3, 1) := by decide +kernel
theorem dL_law_611 : decode cL_law 611 = .ok (.iconst 1, 1) := by decide +kernel
theorem dL_law_612 : decode cL_law 612 = .ok (.iadd, 1) := by decide +kernel
theorem dL_law_613 : decode cL_law 613 = .ok (.iaload, 1) := by decide +kernel
theorem dL_law_614 : decode cL_law 614 = .ok (.aload_n 0, 1) := by decide +kernel
theorem dL_law_615 : decode cL_law 615 = .ok (.iload_n 3, 1) := by decide +kernel
theorem dL_law_616 : decode cL_law 616 = .ok (.iconst 2, 1) := by decide +kernel
theorem dL_law_617 : decode cL_law 617 = .ok (.iadd, 1) := by decide +kernel
theorem dL_law_618 : decode cL_law 618 = .ok (.iaload, 1) := by decide +kernel
theorem dL_law_619 : decode cL_law 619 = .ok (.invokevirtual 58, 3) := by decide +kernel
theorem dL_law_622 : decode cL_law 622 = .ok (.aload_n 2, 1) := by decide +kernel
theorem dL_law_623 : decode cL_law 623 = .ok (.aload_n 0, 1) := by decide +kernel
theorem dL_law_624 : decode cL_law 624 = .ok (.iload_n 3, 1) := by decide +kernel
theorem dL_law_625 : decode cL_law 625 = .ok (.iconst 1, 1) := by decide +kernel
theorem dL_law_626 : decode cL_law 626 = .ok (.iadd, 1) := by decide +kernel
theorem dL_law_627 : decode cL_law 627 = .ok (.iaload, 1) := by decide +kernel
theorem dL_law_628 : decode cL_law 628 = .ok (.aload_n 0, 1) := by decide +kernel
theorem dL_law_629 : decode cL_law 629 = .ok (.iload_n 3, 1) := by decide +kernel
theorem dL_law_630 : decode cL_law 630 = .ok (.iconst 2, 1) := by decide +kernel
theorem dL_law_631 : decode cL_law 631 = .ok (.iadd, 1) := by decide +kernel
theorem dL_law_632 : decode cL_law 632 = .ok (.iaload, 1) := by decide +kernel
theorem dL_law_633 : decode cL_law 633 = .ok (.invokevirtual 61, 3) := by decide +kernel
theorem dL_law_636 : decode cL_law 636 = .ok (.if_icmp .eq 785, 3) := by decide +kernel
theorem dL_law_639 : decode cL_law 639 = .ok (.iconst 0, 1) := by decide +kernel
theorem dL_law_640 : decode cL_law 640 = .ok (.ireturn, 1) := by decide +kernel
theorem dL_law_641 : decode cL_law 641 = .ok (.aload_n 1, 1) := by decide +kernel
theorem dL_law_642 : decode cL_law 642 = .ok (.aload_n 0, 1) := by decide +kernel
theorem dL_law_643 : decode cL_law 643 = .ok (.iload_n 3, 1) := by decide +kernel
theorem dL_law_644 : decode cL_law 644 = .ok (.iconst 1, 1) := by decide +kernel
theorem dL_law_645 : decode cL_law 645 = .ok (.iadd, 1) := by decide +kernel
theorem dL_law_646 : decode cL_law 646 = .ok (.iaload, 1) := by decide +kernel
theorem dL_law_647 : decode cL_law 647 = .ok (.aload_n 0, 1) := by decide +kernel
theorem dL_law_648 : decode cL_law 648 = .ok (.iload_n 3, 1) := by decide +kernel
theorem dL_law_649 : decode cL_law 649 = .ok (.iconst 2, 1) := by decide +kernel
theorem dL_law_650 : decode cL_law 650 = .ok (.iadd, 1) := by decide +kernel
theorem dL_law_651 : decode cL_law 651 = .ok (.iaload, 1) := by decide +kernel
theorem dL_law_652 : decode cL_law 652 = .ok (.aload_n 0, 1) := by decide +kernel
theorem dL_law_653 : decode cL_law 653 = .ok (.iload_n 3, 1) := by decide +kernel
theorem dL_law_654 : decode cL_law 654 = .ok (.iconst 3, 1) := by decide +kernel
theorem dL_law_655 : decode cL_law 655 = .ok (.iadd, 1) := by decide +kernel
theorem dL_law_656 : decode cL_law 656 = .ok (.iaload, 1) := by decide +kernel
theorem dL_law_657 : decode cL_law 657 = .ok (.invokevirtual 62, 3) := by decide +kernel
theorem dL_law_660 : decode cL_law 660 = .ok (.aload_n 2, 1) := by decide +kernel
theorem dL_law_661 : decode cL_law 661 = .ok (.aload_n 0, 1) := by decide +kernel
theorem dL_law_662 : decode cL_law 662 = .ok (.iload_n 3, 1) := by decide +kernel
theorem dL_law_663 : decode cL_law 663 = .ok (.iconst 1, 1) := by decide +kernel
theorem dL_law_664 : decode cL_law 664 = .ok (.iadd, 1) := by decide +kernel
theorem dL_law_665 : decode cL_law 665 = .ok (.iaload, 1) := by decide +kernel
theorem dL_law_666 : decode cL_law 666 = .ok (.aload_n 0, 1) := by decide +kernel
theorem dL_law_667 : decode cL_law 667 = .ok (.iload_n 3, 1) := by decide +kernel
theorem dL_law_668 : decode cL_law 668 = .ok (.iconst 2, 1) := by decide +kernel
theorem dL_law_669 : decode cL_law 669 = .ok (.iadd, 1) := by decide +kernel
theorem dL_law_670 : decode cL_law 670 = .ok (.iaload, 1) := by decide +kernel
theorem dL_law_671 : decode cL_law 671 = .ok (.aload_n 0, 1) := by decide +kernel
theorem dL_law_672 : decode cL_law 672 = .ok (.iload_n 3, 1) := by decide +kernel
theorem dL_law_673 : decode cL_law 673 = .ok (.iconst 3, 1) := by decide +kernel
theorem dL_law_674 : decode cL_law 674 = .ok (.iadd, 1) := by decide +kernel
theorem dL_law_675 : decode cL_law 675 = .ok (.iaload, 1) := by decide +kernel
theorem dL_law_676 : decode cL_law 676 = .ok (.invokevirtual 65, 3) := by decide +kernel
theorem dL_law_679 : decode cL_law 679 = .ok (.if_icmp .eq 742, 3) := by decide +kernel
theorem dL_law_682 : decode cL_law 682 = .ok (.iconst 0, 1) := by decide +kernel
theorem dL_law_683 : decode cL_law 683 = .ok (.ireturn, 1) := by decide +kernel
theorem dL_law_684 : decode cL_law 684 = .ok (.aload_n 1, 1) := by decide +kernel
theorem dL_law_685 : decode cL_law 685 = .ok (.aload_n 0, 1) := by decide +kernel
theorem dL_law_686 : decode cL_law 686 = .ok (.iload_n 3, 1) := by decide +kernel
theorem dL_law_687 : decode cL_law 687 = .ok (.iconst 1, 1) := by decide +kernel
theorem dL_law_688 : decode cL_law 688 = .ok (.iadd, 1) := by decide +kernel
theorem dL_law_689 : decode cL_law 689 = .ok (.iaload, 1) := by decide +kernel
theorem dL_law_690 : decode cL_law 690 = .ok (.aload_n 0, 1) := by decide +kernel
theorem dL_law_691 : decode cL_law 691 = .ok (.iload_n 3, 1) := by decide +kernel
theorem dL_law_692 : decode cL_law 692 = .ok (.iconst 2, 1) := by decide +kernel
theorem dL_law_693 : decode cL_law 693 = .ok (.iadd, 1) := by decide +kernel
theorem dL_law_694 : decode cL_law 694 = .ok (.iaload, 1) := by decide +kernel
theorem dL_law_695 : decode cL_law 695 = .ok (.invokevirtual 66, 3) := by decide +kernel
theorem dL_law_698 : decode cL_law 698 = .ok (.aload_n 2, 1) := by decide +kernel
theorem dL_law_699 : decode cL_law 699 = .ok (.aload_n 0, 1) := by decide +kernel
theorem dL_law_700 : decode cL_law 700 = .ok (.iload_n 3, 1) := by decide +kernel
theorem dL_law_701 : decode cL_law 701 = .ok (.iconst 1, 1) := by decide +kernel
theorem dL_law_702 : decode cL_law 702 = .ok (.iadd, 1) := by decide +kernel
theorem dL_law_703 : decode cL_law 703 = .ok (.iaload, 1) := by decide +kernel
theorem dL_law_704 : decode cL_law 704 = .ok (.aload_n 0, 1) := by decide +kernel
theorem dL_law_705 : decode cL_law 705 = .ok (.iload_n 3, 1) := by decide +kernel
theorem dL_law_706 : decode cL_law 706 = .ok (.iconst 2, 1) := by decide +kernel
theorem dL_law_707 : decode cL_law 707 = .ok (.iadd, 1) := by decide +kernel
theorem dL_law_708 : decode cL_law 708 = .ok (.iaload, 1) := by decide +kernel
theorem dL_law_709 : decode cL_law 709 = .ok (.invokevirtual 69, 3) := by decide +kernel
theorem dL_law_712 : decode cL_law 712 = .ok (.if_icmp .eq 709, 3) := by decide +kernel
theorem dL_law_715 : decode cL_law 715 = .ok (.iconst 0, 1) := by decide +kernel
theorem dL_law_716 : decode cL_law 716 = .ok (.ireturn, 1) := by decide +kernel
theorem dL_law_717 : decode cL_law 717 = .ok (.aload_n 1, 1) := by decide +kernel
theorem dL_law_718 : decode cL_law 718 = .ok (.aload_n 0, 1) := by decide +kernel
theorem dL_law_719 : decode cL_law 719 = .ok (.iload_n 3, 1) := by decide +kernel
theorem dL_law_720 : decode cL_law 720 = .ok (.iconst 1, 1) := by decide +kernel
theorem dL_law_721 : decode cL_law 721 = .ok (.iadd, 1) := by decide +kernel
theorem dL_law_722 : decode cL_law 722 = .ok (.iaload, 1) := by decide +kernel
theorem dL_law_723 : decode cL_law 723 = .ok (.aload_n 0, 1) := by decide +kernel
theorem dL_law_724 : decode cL_law 724 = .ok (.iload_n 3, 1) := by decide +kernel
theorem dL_law_725 : decode cL_law 725 = .ok (.iconst 2, 1) := by decide +kernel
theorem dL_law_726 : decode cL_law 726 = .ok (.iadd, 1) := by decide +kernel
theorem dL_law_727 : decode cL_law 727 = .ok (.iaload, 1) := by decide +kernel
theorem dL_law_728 : decode cL_law 728 = .ok (.aload_n 0, 1) := by decide +kernel
theorem dL_law_729 : decode cL_law 729 = .ok (.iload_n 3, 1) := by decide +kernel
theorem dL_law_730 : decode cL_law 730 = .ok (.iconst 3, 1) := by decide +kernel
theorem dL_law_731 : decode cL_law 731 = .ok (.iadd, 1) := by decide +kernel
theorem dL_law_732 : decode cL_law 732 = .ok (.iaload, 1) := by decide +kernel
theorem dL_law_733 : decode cL_law 733 = .ok (.invokevirtual 70, 3) := by decide +kernel
theorem dL_law_736 : decode cL_law 736 = .ok (.aload_n 2, 1) := by decide +kernel
theorem dL_law_737 : decode cL_law 737 = .ok (.aload_n 0, 1) := by decide +kernel
theorem dL_law_738 : decode cL_law 738 = .ok (.iload_n 3, 1) := by decide +kernel
theorem dL_law_739 : decode cL_law 739 = .ok (.iconst 1, 1) := by decide +kernel
theorem dL_law_740 : decode cL_law 740 = .ok (.iadd, 1) := by decide +kernel
theorem dL_law_741 : decode cL_law 741 = .ok (.iaload, 1) := by decide +kernel
theorem dL_law_742 : decode cL_law 742 = .ok (.aload_n 0, 1) := by decide +kernel
theorem dL_law_743 : decode cL_law 743 = .ok (.iload_n 3, 1) := by decide +kernel
theorem dL_law_744 : decode cL_law 744 = .ok (.iconst 2, 1) := by decide +kernel
theorem dL_law_745 : decode cL_law 745 = .ok (.iadd, 1) := by decide +kernel
theorem dL_law_746 : decode cL_law 746 = .ok (.iaload, 1) := by decide +kernel
theorem dL_law_747 : decode cL_law 747 = .ok (.aload_n 0, 1) := by decide +kernel
theorem dL_law_748 : decode cL_law 748 = .ok (.iload_n 3, 1) := by decide +kernel
theorem dL_law_749 : decode cL_law 749 = .ok (.iconst 3, 1) := by decide +kernel
theorem dL_law_750 : decode cL_law 750 = .ok (.iadd, 1) := by decide +kernel
theorem dL_law_751 : decode cL_law 751 = .ok (.iaload, 1) := by decide +kernel
theorem dL_law_752 : decode cL_law 752 = .ok (.invokevirtual 73, 3) := by decide +kernel
theorem dL_law_755 : decode cL_law 755 = .ok (.if_icmp .eq 666, 3) := by decide +kernel
theorem dL_law_758 : decode cL_law 758 = .ok (.iconst 0, 1) := by decide +kernel
theorem dL_law_759 : decode cL_law 759 = .ok (.ireturn, 1) := by decide +kernel
theorem dL_law_760 : decode cL_law 760 = .ok (.aload_n 1, 1) := by decide +kernel
theorem dL_law_761 : decode cL_law 761 = .ok (.aload_n 0, 1) := by decide +kernel
theorem dL_law_762 : decode cL_law 762 = .ok (.iload_n 3, 1) := by decide +kernel
theorem dL_law_763 : decode cL_law 763 = .ok (.iconst 1, 1) := by decide +kernel
theorem dL_law_764 : decode cL_law 764 = .ok (.iadd, 1) := by decide +kernel
theorem dL_law_765 : decode cL_law 765 = .ok (.iaload, 1) := by decide +kernel
theorem dL_law_766 : decode cL_law 766 = .ok (.aload_n 0, 1) := by decide +kernel
theorem dL_law_767 : decode cL_law 767 = .ok (.iload_n 3, 1) := by decide +kernel
theorem dL_law_768 : decode cL_law 768 = .ok (.iconst 2, 1) := by decide +kernel
theorem dL_law_769 : decode cL_law 769 = .ok (.iadd, 1) := by decide +kernel
theorem dL_law_770 : decode cL_law 770 = .ok (.iaload, 1) := by decide +kernel
theorem dL_law_771 : decode cL_law 771 = .ok (.aload_n 0, 1) := by decide +kernel
theorem dL_law_772 : decode cL_law 772 = .ok (.iload_n 3, 1) := by decide +kernel
theorem dL_law_773 : decode cL_law 773 = .ok (.iconst 3, 1) := by decide +kernel
theorem dL_law_774 : decode cL_law 774 = .ok (.iadd, 1) := by decide +kernel
theorem dL_law_775 : decode cL_law 775 = .ok (.iaload, 1) := by decide +kernel
theorem dL_law_776 : decode cL_law 776 = .ok (.invokevirtual 74, 3) := by decide +kernel
theorem dL_law_779 : decode cL_law 779 = .ok (.aload_n 2, 1) := by decide +kernel
end
section
theorem dL_law_780 : decode cL_law 780 = .ok (.aload_n 0, 1) := by decide +kernel
theorem dL_law_781 : decode cL_law 781 = .ok (.iload_n 3, 1) := by decide +kernel
theorem dL_law_782 : decode cL_law 782 = .ok (.iconst 1, 1) := by decide +kernel
theorem dL_law_783 : decode cL_law 783 = .ok (.iadd, 1) := by decide +kernel
theorem dL_law_784 : decode cL_law 784 = .ok (.iaload, 1) := by decide +kernel
theorem dL_law_785 : decode cL_law 785 = .ok (.aload_n 0, 1) := by decide +kernel
theorem dL_law_786 : decode cL_law 786 = .ok (.iload_n 3, 1) := by decide +kernel
theorem dL_law_787 : decode cL_law 787 = .ok (.iconst 2, 1) := by decide +kernel
theorem dL_law_788 : decode cL_law 788 = .ok (.iadd, 1) := by decide +kernel
theorem dL_law_789 : decode cL_law 789 = .ok (.iaload, 1) := by decide +kernel
theorem dL_law_790 : decode cL_law 790 = .ok (.aload_n 0, 1) := by decide +kernel
theorem dL_law_791 : decode cL_law 791 = .ok (.iload_n 3, 1) := by decide +kernel
theorem dL_law_792 : decode cL_law 792 = .ok (.iconst 3, 1) := by decide +kernel
theorem dL_law_793 : decode cL_law 793 = .ok (.iadd, 1) := by decide +kernel
theorem dL_law_794 : decode cL_law 794 = .ok (.iaload, 1) := by decide +kernel
theorem dL_law_795 : decode cL_law 795 = .ok (.invokevirtual 77, 3) := by decide +kernel
theorem dL_law_798 : decode cL_law 798 = .ok (.if_icmp .eq 623, 3) := by decide +kernel
theorem dL_law_801 : decode cL_law 801 = .ok (.iconst 0, 1) := by decide +kernel
theorem dL_law_802 : decode cL_law 802 = .ok (.ireturn, 1) := by decide +kernel
theorem dL_law_803 : decode cL_law 803 = .ok (.aload_n 1, 1) := by decide +kernel
theorem dL_law_804 : decode cL_law 804 = .ok (.aload_n 0, 1) := by decide +kernel
theorem dL_law_805 : decode cL_law 805 = .ok (.iload_n 3, 1) := by decide +kernel
theorem dL_law_806 : decode cL_law 806 = .ok (.iconst 1, 1) := by decide +kernel
theorem dL_law_807 : decode cL_law 807 = .ok (.iadd, 1) := by decide +kernel
theorem dL_law_808 : decode cL_law 808 = .ok (.iaload, 1) := by decide +kernel
theorem dL_law_809 : decode cL_law 809 = .ok (.aload_n 0, 1) := by decide +kernel
theorem dL_law_810 : decode cL_law 810 = .ok (.iload_n 3, 1) := by decide +kernel
theorem dL_law_811 : decode cL_law 811 = .ok (.iconst 2, 1) := by decide +kernel
theorem dL_law_812 : decode cL_law 812 = .ok (.iadd, 1) := by decide +kernel
theorem dL_law_813 : decode cL_law 813 = .ok (.iaload, 1) := by decide +kernel
theorem dL_law_814 : decode cL_law 814 = .ok (.aload_n 0, 1) := by decide +kernel
theorem dL_law_815 : decode cL_law 815 = .ok (.iload_n 3, 1) := by decide +kernel
theorem dL_law_816 : decode cL_law 816 = .ok (.iconst 3, 1) := by decide +kernel
theorem dL_law_817 : decode cL_law 817 = .ok (.iadd, 1) := by decide +kernel
theorem dL_law_818 : decode cL_law 818 = .ok (.iaload, 1) := by decide +kernel
theorem dL_law_819 : decode cL_law 819 = .ok (.invokevirtual 78, 3) := by decide +kernel
theorem dL_law_822 : decode cL_law 822 = .ok (.aload_n 2, 1) := by decide +kernel
theorem dL_law_823 : decode cL_law 823 = .ok (.aload_n 0, 1) := by decide +kernel
theorem dL_law_824 : decode cL_law 824 = .ok (.iload_n 3, 1) := by decide +kernel
theorem dL_law_825 : decode cL_law 825 = .ok (.iconst 1, 1) := by decide +kernel
theorem dL_law_826 : decode cL_law 826 = .ok (.iadd, 1) := by decide +kernel
theorem dL_law_827 : decode cL_law 827 = .ok (.iaload, 1) := by decide +kernel
theorem dL_law_828 : decode cL_law 828 = .ok (.aload_n 0, 1) := by decide +kernel
theorem dL_law_829 : decode cL_law 829 = .ok (.iload_n 3, 1) := by decide +kernel
theorem dL_law_830 : decode cL_law 830 = .ok (.iconst 2, 1) := by decide +kernel
theorem dL_law_831 : decode cL_law 831 = .ok (.iadd, 1) := by decide +kernel
theorem dL_law_832 : decode cL_law 832 = .ok (.iaload, 1) := by decide +kernel
theorem dL_law_833 : decode cL_law 833 = .ok (.aload_n 0, 1) := by decide +kernel
theorem dL_law_834 : decode cL_law 834 = .ok (.iload_n 3, 1) := by decide +kernel
theorem dL_law_835 : decode cL_law 835 = .ok (.iconst 3, 1) := by decide +kernel
theorem dL_law_836 : decode cL_law 836 = .ok (.iadd, 1) := by decide +kernel
theorem dL_law_837 : decode cL_law 837 = .ok (.iaload, 1) := by decide +kernel
theorem dL_law_838 : decode cL_law 838 = .ok (.invokevirtual 81, 3) := by decide +kernel
theorem dL_law_841 : decode cL_law 841 = .ok (.if_icmp .eq 580, 3) := by decide +kernel
theorem dL_law_844 : decode cL_law 844 = .ok (.iconst 0, 1) := by decide +kernel
theorem dL_law_845 : decode cL_law 845 = .ok (.ireturn, 1) := by decide +kernel
theorem dL_law_846 : decode cL_law 846 = .ok (.aload_n 1, 1) := by decide +kernel
theorem dL_law_847 : decode cL_law 847 = .ok (.aload_n 0, 1) := by decide +kernel
theorem dL_law_848 : decode cL_law 848 = .ok (.iload_n 3, 1) := by decide +kernel
theorem dL_law_849 : decode cL_law 849 = .ok (.iconst 1, 1) := by decide +kernel
theorem dL_law_850 : decode cL_law 850 = .ok (.iadd, 1) := by decide +kernel
theorem dL_law_851 : decode cL_law 851 = .ok (.iaload, 1) := by decide +kernel
theorem dL_law_852 : decode cL_law 852 = .ok (.aload_n 0, 1) := by decide +kernel
theorem dL_law_853 : decode cL_law 853 = .ok (.iload_n 3, 1) := by decide +kernel
theorem dL_law_854 : decode cL_law 854 = .ok (.iconst 2, 1) := by decide +kernel
theorem dL_law_855 : decode cL_law 855 = .ok (.iadd, 1) := by decide +kernel
theorem dL_law_856 : decode cL_law 856 = .ok (.iaload, 1) := by decide +kernel
theorem dL_law_857 : decode cL_law 857 = .ok (.aload_n 0, 1) := by decide +kernel
theorem dL_law_858 : decode cL_law 858 = .ok (.iload_n 3, 1) := by decide +kernel
theorem dL_law_859 : decode cL_law 859 = .ok (.iconst 3, 1) := by decide +kernel
theorem dL_law_860 : decode cL_law 860 = .ok (.iadd, 1) := by decide +kernel
theorem dL_law_861 : decode cL_law 861 = .ok (.iaload, 1) := by decide +kernel
theorem dL_law_862 : decode cL_law 862 = .ok (.invokevirtual 82, 3) := by decide +kernel
theorem dL_law_865 : decode cL_law 865 = .ok (.aload_n 2, 1) := by decide +kernel
theorem dL_law_866 : decode cL_law 866 = .ok (.aload_n 0, 1) := by decide +kernel
theorem dL_law_867 : decode cL_law 867 = .ok (.iload_n 3, 1) := by decide +kernel
theorem dL_law_868 : decode cL_law 868 = .ok (.iconst 1, 1) := by decide +kernel
theorem dL_law_869 : decode cL_law 869 = .ok (.iadd, 1) := by decide +kernel
theorem dL_law_870 : decode cL_law 870 = .ok (.iaload, 1) := by decide +kernel
theorem dL_law_871 : decode cL_law 871 = .ok (.aload_n 0, 1) := by decide +kernel
theorem dL_law_872 : decode cL_law 872 = .ok (.iload_n 3, 1) := by decide +kernel
theorem dL_law_873 : decode cL_law 873 = .ok (.iconst 2, 1) := by decide +kernel
theorem dL_law_874 : decode cL_law 874 = .ok (.iadd, 1) := by decide +kernel
theorem dL_law_875 : decode cL_law 875 = .ok (.iaload, 1) := by decide +kernel
theorem dL_law_876 : decode cL_law 876 = .ok (.aload_n 0, 1) := by decide +kernel
theorem dL_law_877 : decode cL_law 877 = .ok (.iload_n 3, 1) := by decide +kernel
theorem dL_law_878 : decode cL_law 878 = .ok (.iconst 3, 1) := by decide +kernel
theorem dL_law_879 : decode cL_law 879 = .ok (.iadd, 1) := by decide +kernel
theorem dL_law_880 : decode cL_law 880 = .ok (.iaload, 1) := by decide +kernel
theorem dL_law_881 : decode cL_law 881 = .ok (.invokevirtual 85, 3) := by decide +kernel
theorem dL_law_884 : decode cL_law 884 = .ok (.if_icmp .eq 537, 3) := by decide +kernel
theorem dL_law_887 : decode cL_law 887 = .ok (.iconst 0, 1) := by decide +kernel
theorem dL_law_888 : decode cL_law 888 = .ok (.ireturn, 1) := by decide +kernel
theorem dL_law_889 : decode cL_law 889 = .ok (.aload_n 1, 1) := by decide +kernel
theorem dL_law_890 : decode cL_law 890 = .ok (.aload_n 0, 1) := by decide +kernel
theorem dL_law_891 : decode cL_law 891 = .ok (.iload_n 3, 1) := by decide +kernel
theorem dL_law_892 : decode cL_law 892 = .ok (.iconst 1, 1) := by decide +kernel
theorem dL_law_893 : decode cL_law 893 = .ok (.iadd, 1) := by decide +kernel
theorem dL_law_894 : decode cL_law 894 = .ok (.iaload, 1) := by decide +kernel
theorem dL_law_895 : decode cL_law 895 = .ok (.aload_n 0, 1) := by decide +kernel
theorem dL_law_896 : decode cL_law 896 = .ok (.iload_n 3, 1) := by decide +kernel
theorem dL_law_897 : decode cL_law 897 = .ok (.iconst 2, 1) := by decide +kernel
theorem dL_law_898 : decode cL_law 898 = .ok (.iadd, 1) := by decide +kernel
theorem dL_law_899 : decode cL_law 899 = .ok (.iaload, 1) := by decide +kernel
theorem dL_law_900 : decode cL_law 900 = .ok (.aload_n 0, 1) := by decide +kernel
theorem dL_law_901 : decode cL_law 901 = .ok (.iload_n 3, 1) := by decide +kernel
theorem dL_law_902 : decode cL_law 902 = .ok (.iconst 3, 1) := by decide +kernel
theorem dL_law_903 : decode cL_law 903 = .ok (.iadd, 1) := by decide +kernel
theorem dL_law_904 : decode cL_law 904 = .ok (.iaload, 1) := by decide +kernel
theorem dL_law_905 : decode cL_law 905 = .ok (.invokevirtual 86, 3) := by decide +kernel
theorem dL_law_908 : decode cL_law 908 = .ok (.aload_n 2, 1) := by decide +kernel
theorem dL_law_909 : decode cL_law 909 = .ok (.aload_n 0, 1) := by decide +kernel
theorem dL_law_910 : decode cL_law 910 = .ok (.iload_n 3, 1) := by decide +kernel
theorem dL_law_911 : decode cL_law 911 = .ok (.iconst 1, 1) := by decide +kernel
theorem dL_law_912 : decode cL_law 912 = .ok (.iadd, 1) := by decide +kernel
theorem dL_law_913 : decode cL_law 913 = .ok (.iaload, 1) := by decide +kernel
theorem dL_law_914 : decode cL_law 914 = .ok (.aload_n 0, 1) := by decide +kernel
theorem dL_law_915 : decode cL_law 915 = .ok (.iload_n 3, 1) := by decide +kernel
theorem dL_law_916 : decode cL_law 916 = .ok (.iconst 2, 1) := by decide +kernel
theorem dL_law_917 : decode cL_law 917 = .ok (.iadd, 1) := by decide +kernel
theorem dL_law_918 : decode cL_law 918 = .ok (.iaload, 1) := by decide +kernel
theorem dL_law_919 : decode cL_law 919 = .ok (.aload_n 0, 1) := by decide +kernel
theorem dL_law_920 : decode cL_law 920 = .ok (.iload_n 3, 1) := by decide +kernel
theorem dL_law_921 : decode cL_law 921 = .ok (.iconst 3, 1) := by decide +kernel
theorem dL_law_922 : decode cL_law 922 = .ok (.iadd, 1) := by decide +kernel
theorem dL_law_923 : decode cL_law 923 = .ok (.iaload, 1) := by decide +kernel
theorem dL_law_924 : decode cL_law 924 = .ok (.invokevirtual 89, 3) := by decide +kernel
theorem dL_law_927 : decode cL_law 927 = .ok (.if_icmp .eq 494, 3) := by decide +kernel
theorem dL_law_930 : decode cL_law 930 = .ok (.iconst 0, 1) := by decide +kernel
theorem dL_law_931 : decode cL_law 931 = .ok (.ireturn, 1) := by decide +kernel
theorem dL_law_932 : decode cL_law 932 = .ok (.aload_n 1, 1) := by decide +kernel
theorem dL_law_933 : decode cL_law 933 = .ok (.aload_n 0, 1) := by decide +kernel
theorem dL_law_934 : decode cL_law 934 = .ok (.iload_n 3, 1) := by decide +kernel
theorem dL_law_935 : decode cL_law 935 = .ok (.iconst 1, 1) := by decide +kernel
theorem dL_law_936 : decode cL_law 936 = .ok (.iadd, 1) := by decide +kernel
theorem dL_law_937 : decode cL_law 937 = .ok (.iaload, 1) := by decide +kernel
theorem dL_law_938 : decode cL_law 938 = .ok (.aload_n 0, 1) := by decide +kernel
theorem dL_law_939 : decode cL_law 939 = .ok (.iload_n 3, 1) := by decide +kernel
theorem dL_law_940 : decode cL_law 940 = .ok (.iconst 2, 1) := by decide +kernel
theorem dL_law_941 : decode cL_law 941 = .ok (.iadd, 1) := by decide +kernel
theorem dL_law_942 : decode cL_law 942 = .ok (.iaload, 1) := by decide +kernel
theorem dL_law_943 : decode cL_law 943 = .ok (.invokevirtual 90, 3) := by decide +kernel
theorem dL_law_946 : decode cL_law 946 = .ok (.aload_n 2, 1) := by decide +kernel
theorem dL_law_947 : decode cL_law 947 = .ok (.aload_n 0, 1) := by decide +kernel
theorem dL_law_948 : decode cL_law 948 = .ok (.iload_n 3, 1) := by decide +kernel
theorem dL_law_949 : decode cL_law 949 = .ok (.iconst 1, 1) := by decide +kernel
theorem dL_law_950 : decode cL_law 950 = .ok (.iadd, 1) := by decide +kernel
theorem dL_law_951 : decode cL_law 951 = .ok (.iaload, 1) := by decide +kernel
theorem dL_law_952 : decode cL_law 952 = .ok (.aload_n 0, 1) := by decide +kernel
theorem dL_law_953 : decode cL_law 953 = .ok (.iload_n 3, 1) := by decide +kernel
theorem dL_law_954 : decode cL_law 954 = .ok (.iconst 2, 1) := by decide +kernel
theorem dL_law_955 : decode cL_law 955 = .ok (.iadd, 1) := by decide +kernel
theorem dL_law_956 : decode cL_law 956 = .ok (.iaload, 1) := by decide +kernel
theorem dL_law_957 : decode cL_law 957 = .ok (.invokevirtual 93, 3) := by decide +kernel
theorem dL_law_960 : decode cL_law 960 = .ok (.if_icmp .eq 461, 3) := by decide +kernel
theorem dL_law_963 : decode cL_law 963 = .ok (.iconst 0, 1) := by decide +kernel
theorem dL_law_964 : decode cL_law 964 = .ok (.ireturn, 1) := by decide +kernel
theorem dL_law_965 : decode cL_law 965 = .ok (.aload_n 1, 1) := by decide +kernel
theorem dL_law_966 : decode cL_law 966 = .ok (.aload_n 0, 1) := by decide +kernel
theorem dL_law_967 : decode cL_law 967 = .ok (.iload_n 3, 1) := by decide +kernel
theorem dL_law_968 : decode cL_law 968 = .ok (.iconst 1, 1) := by decide +kernel
theorem dL_law_969 : decode cL_law 969 = .ok (.iadd, 1) := by decide +kernel
theorem dL_law_970 : decode cL_law 970 = .ok (.iaload, 1) := by decide +kernel
theorem dL_law_971 : decode cL_law 971 = .ok (.aload_n 0, 1) := by decide +kernel
theorem dL_law_972 : decode cL_law 972 = .ok (.iload_n 3, 1) := by decide +kernel
theorem dL_law_973 : decode cL_law 973 = .ok (.iconst 2, 1) := by decide +kernel
theorem dL_law_974 : decode cL_law 974 = .ok (.iadd, 1) := by decide +kernel
theorem dL_law_975 : decode cL_law 975 = .ok (.iaload, 1) := by decide +kernel
theorem dL_law_976 : decode cL_law 976 = .ok (.aload_n 0, 1) := by decide +kernel
theorem dL_law_977 : decode cL_law 977 = .ok (.iload_n 3, 1) := by decide +kernel
theorem dL_law_978 : decode cL_law 978 = .ok (.iconst 3, 1) := by decide +kernel
theorem dL_law_979 : decode cL_law 979 = .ok (.iadd, 1) := by decide +kernel
theorem dL_law_980 : decode cL_law 980 = .ok (.iaload, 1) := by decide +kernel
theorem dL_law_981 : decode cL_law 981 = .ok (.aload_n 0, 1) := by decide +kernel
theorem dL_law_982 : decode cL_law 982 = .ok (.iload_n 3, 1) := by decide +kernel
theorem dL_law_983 : decode cL_law 983 = .ok (.iconst 4, 1) := by decide +kernel
theorem dL_law_984 : decode cL_law 984 = .ok (.iadd, 1) := by decide +kernel
theorem dL_law_985 : decode cL_law 985 = .ok (.iaload, 1) := by decide +kernel
theorem dL_law_986 : decode cL_law 986 = .ok (.invokevirtual 94, 3) := by decide +kernel
theorem dL_law_989 : decode cL_law 989 = .ok (.aload_n 2, 1) := by decide +kernel
theorem dL_law_990 : decode cL_law 990 = .ok (.aload_n 0, 1) := by decide +kernel
theorem dL_law_991 : decode cL_law 991 = .ok (.iload_n 3, 1) := by decide +kernel
theorem dL_law_992 : decode cL_law 992 = .ok (.iconst 1, 1) := by decide +kernel
theorem dL_law_993 : decode cL_law 993 = .ok (.iadd, 1) := by decide +kernel
theorem dL_law_994 : decode cL_law 994 = .ok (.iaload, 1) := by decide +kernel
theorem dL_law_995 : decode cL_law 995 = .ok (.aload_n 0, 1) := by decide +kernel
theorem dL_law_996 : decode cL_law 996 = .ok (.iload_n 3, 1) := by decide +kernel
theorem dL_law_997 : decode cL_law 997 = .ok (.iconst 2, 1) := by decide +kernel
theorem dL_law_998 : decode cL_law 998 = .ok (.iadd, 1) := by decide +kernel
theorem dL_law_999 : decode cL_law 999 = .ok (.iaload, 1) := by decide +kernel
theorem dL_law_1000 : decode cL_law 1000 = .ok (.aload_n 0, 1) := by decide +kernel
theorem dL_law_1001 : decode cL_law 1001 = .ok (.iload_n 3, 1) := by decide +kernel
theorem dL_law_1002 : decode cL_law 1002 = .ok (.iconst 3, 1) := by decide +kernel
theorem dL_law_1003 : decode cL_law 1003 = .ok (.iadd, 1) := by decide +kernel
theorem dL_law_1004 : decode cL_law 1004 = .ok (.iaload, 1) := by decide +kernel
theorem dL_law_1005 : decode cL_law 1005 = .ok (.aload_n 0, 1) := by decide +kernel
theorem dL_law_1006 : decode cL_law 1006 = .ok (.iload_n 3, 1) := by decide +kernel
theorem dL_law_1007 : decode cL_law 1007 = .ok (.iconst 4, 1) := by decide +kernel
theorem dL_law_1008 : decode cL_law 1008 = .ok (.iadd, 1) := by decide +kernel
theorem dL_law_1009 : decode cL_law 1009 = .ok (.iaload, 1) := by decide +kernel
theorem dL_law_1010 : decode cL_law 1010 = .ok (.invokevirtual 97, 3) := by decide +kernel
theorem dL_law_1013 : decode cL_law 1013 = .ok (.if_icmp .eq 408, 3) := by decide +kernel
theorem dL_law_1016 : decode cL_law 1016 = .ok (.iconst 0, 1) := by decide +kernel
theorem dL_law_1017 : decode cL_law 1017 = .ok (.ireturn, 1) := by decide +kernel
theorem dL_law_1018 : decode cL_law 1018 = .ok (.aload_n 1, 1) := by decide +kernel
theorem dL_law_1019 : decode cL_law 1019 = .ok (.aload_n 0, 1) := by decide +kernel
theorem dL_law_1020 : decode cL_law 1020 = .ok (.iload_n 3, 1) := by decide +kernel
theorem dL_law_1021 : decode cL_law 1021 = .ok (.iconst 1, 1) := by decide +kernel
theorem dL_law_1022 : decode cL_law 1022 = .ok (.iadd, 1) := by decide +kernel
theorem dL_law_1023 : decode cL_law 1023 = .ok (.iaload, 1) := by decide +kernel
theorem dL_law_1024 : decode cL_law 1024 = .ok (.invokevirtual 98, 3) := by decide +kernel
theorem dL_law_1027 : decode cL_law 1027 = .ok (.aload_n 2, 1) := by decide +kernel
theorem dL_law_1028 : decode cL_law 1028 = .ok (.aload_n 0, 1) := by decide +kernel
theorem dL_law_1029 : decode cL_law 1029 = .ok (.iload_n 3, 1) := by decide +kernel
theorem dL_law_1030 : decode cL_law 1030 = .ok (.iconst 1, 1) := by decide +kernel
theorem dL_law_1031 : decode cL_law 1031 = .ok (.iadd, 1) := by decide +kernel
theorem dL_law_1032 : decode cL_law 1032 = .ok (.iaload, 1) := by decide +kernel
theorem dL_law_1033 : decode cL_law 1033 = .ok (.invokevirtual 101, 3) := by decide +kernel
theorem dL_law_1036 : decode cL_law 1036 = .ok (.if_icmp .eq 385, 3) := by decide +kernel
theorem dL_law_1039 : decode cL_law 1039 = .ok (.iconst 0, 1) := by decide +kernel
theorem dL_law_1040 : decode cL_law 1040 = .ok (.ireturn, 1) := by decide +kernel
theorem dL_law_1041 : decode cL_law 1041 = .ok (.aload_n 1, 1) := by decide +kernel
theorem dL_law_1042 : decode cL_law 1042 = .ok (.aload_n 0, 1) := by decide +kernel
theorem dL_law_1043 : decode cL_law 1043 = .ok (.iload_n 3, 1) := by decide +kernel
theorem dL_law_1044 : decode cL_law 1044 = .ok (.iconst 1, 1) := by decide +kernel
theorem dL_law_1045 : decode cL_law 1045 = .ok (.iadd, 1) := by decide +kernel
theorem dL_law_1046 : decode cL_law 1046 = .ok (.iaload, 1) := by decide +kernel
theorem dL_law_1047 : decode cL_law 1047 = .ok (.aload_n 0, 1) := by decide +kernel
theorem dL_law_1048 : decode cL_law 1048 = .ok (.iload_n 3, 1) := by decide +kernel
theorem dL_law_1049 : decode cL_law 1049 = .ok (.iconst 2, 1) := by decide +kernel
theorem dL_law_1050 : decode cL_law 1050 = .ok (.iadd, 1) := by decide +kernel
theorem dL_law_1051 : decode cL_law 1051 = .ok (.iaload, 1) := by decide +kernel
theorem dL_law_1052 : decode cL_law 1052 = .ok (.aload_n 0, 1) := by decide +kernel
theorem dL_law_1053 : decode cL_law 1053 = .ok (.iload_n 3, 1) := by decide +kernel
theorem dL_law_1054 : decode cL_law 1054 = .ok (.iconst 3, 1) := by decide +kernel
theorem dL_law_1055 : decode cL_law 1055 = .ok (.iadd, 1) := by decide +kernel
theorem dL_law_1056 : decode cL_law 1056 = .ok (.iaload, 1) := by decide +kernel
theorem dL_law_1057 : decode cL_law 1057 = .ok (.invokevirtual 102, 3) := by decide +kernel
theorem dL_law_1060 : decode cL_law 1060 = .ok (.aload_n 2, 1) := by decide +kernel
theorem dL_law_1061 : decode cL_law 1061 = .ok (.aload_n 0, 1) := by decide +kernel
theorem dL_law_1062 : decode cL_law 1062 = .ok (.iload_n 3, 1) := by decide +kernel
theorem dL_law_1063 : decode cL_law 1063 = .ok (.iconst 1, 1) := by decide +kernel
theorem dL_law_1064 : decode cL_law 1064 = .ok (.iadd, 1) := by decide +kernel
theorem dL_law_1065 : decode cL_law 1065 = .ok (.iaload, 1) := by decide +kernel
theorem dL_law_1066 : decode cL_law 1066 = .ok (.aload_n 0, 1) := by decide +kernel
theorem dL_law_1067 : decode cL_law 1067 = .ok (.iload_n 3, 1) := by decide +kernel
theorem dL_law_1068 : decode cL_law 1068 = .ok (.iconst 2, 1) := by decide +kernel
theorem dL_law_1069 : decode cL_law 1069 = .ok (.iadd, 1) := by decide +kernel
theorem dL_law_1070 : decode cL_law 1070 = .ok (.iaload, 1) := by decide +kernel
theorem dL_law_1071 : decode cL_law 1071 = .ok (.aload_n 0, 1) := by decide +kernel
theorem dL_law_1072 : decode cL_law 1072 = .ok (.iload_n 3, 1) := by decide +kernel
theorem dL_law_1073 : decode cL_law 1073 = .ok (.iconst 3, 1) := by decide +kernel
theorem dL_law_1074 : decode cL_law 1074 = .ok (.iadd, 1) := by decide +kernel
theorem dL_law_1075 : decode cL_law 1075 = .ok (.iaload, 1) := by decide +kernel
theorem dL_law_1076 : decode cL_law 1076 = .ok (.invokevirtual 105, 3) := by decide +kernel
theorem dL_law_1079 : decode cL_law 1079 = .ok (.if_icmp .eq 342, 3) := by decide +kernel
theorem dL_law_1082 : decode cL_law 1082 = .ok (.iconst 0, 1) := by decide +kernel
theorem dL_law_1083 : decode cL_law 1083 = .ok (.ireturn, 1) := by decide +kernel
theorem dL_law_1084 : decode cL_law 1084 = .ok (.aload_n 1, 1) := by decide +kernel
theorem dL_law_1085 : decode cL_law 1085 = .ok (.aload_n 0, 1) := by decide +kernel
theorem dL_law_1086 : decode cL_law 1086 = .ok (.iload_n 3, 1) := by decide +kernel
theorem dL_law_1087 : decode cL_law 1087 = .ok (.iconst 1, 1) := by decide +kernel
theorem dL_law_1088 : decode cL_law 1088 = .ok (.iadd, 1) := by decide +kernel
theorem dL_law_1089 : decode cL_law 1089 = .ok (.iaload, 1) := by decide +kernel
theorem dL_law_1090 : decode cL_law 1090 = .ok (.aload_n 0, 1) := by decide +kernel
theorem dL_law_1091 : decode cL_law 1091 = .ok (.iload_n 3, 1) := by decide +kernel
theorem dL_law_1092 : decode cL_law 1092 = .ok (.iconst 2, 1) := by decide +kernel
theorem dL_law_1093 : decode cL_law 1093 = .ok (.iadd, 1) := by decide +kernel
theorem dL_law_1094 : decode cL_law 1094 = .ok (.iaload, 1) := by decide +kernel
theorem dL_law_1095 : decode cL_law 1095 = .ok (.aload_n 0, 1) := by decide +kernel
theorem dL_law_1096 : decode cL_law 1096 = .ok (.iload_n 3, 1) := by decide +kernel
theorem dL_law_1097 : decode cL_law 1097 = .ok (.iconst 3, 1) := by decide +kernel
theorem dL_law_1098 : decode cL_law 1098 = .ok (.iadd, 1) := by decide +kernel
theorem dL_law_1099 : decode cL_law 1099 = .ok (.iaload, 1) := by decide +kernel
theorem dL_law_1100 : decode cL_law 1100 = .ok (.invokevirtual 106, 3) := by decide +kernel
theorem dL_law_1103 : decode cL_law 1103 = .ok (.aload_n 2, 1) := by decide +kernel
theorem dL_law_1104 : decode cL_law 1104 = .ok (.aload_n 0, 1) := by decide +kernel
theorem dL_law_1105 : decode cL_law 1105 = .ok (.iload_n 3, 1) := by decide +kernel
theorem dL_law_1106 : decode cL_law 1106 = .ok (.iconst 1, 1) := by decide +kernel
theorem dL_law_1107 : decode cL_law 1107 = .ok (.iadd, 1) := by decide +kernel
theorem dL_law_1108 : decode cL_law 1108 = .ok (.iaload, 1) := by decide +kernel
theorem dL_law_1109 : decode cL_law 1109 = .ok (.aload_n 0, 1) := by decide +kernel
theorem dL_law_1110 : decode cL_law 1110 = .ok (.iload_n 3, 1) := by decide +kernel
theorem dL_law_1111 : decode cL_law 1111 = .ok (.iconst 2, 1) := by decide +kernel
theorem dL_law_1112 : decode cL_law 1112 = .ok (.iadd, 1) := by decide +kernel
theorem dL_law_1113 : decode cL_law 1113 = .ok (.iaload, 1) := by decide +kernel
theorem dL_law_1114 : decode cL_law 1114 = .ok (.aload_n 0, 1) := by decide +kernel
theorem dL_law_1115 : decode cL_law 1115 = .ok (.iload_n 3, 1) := by decide +kernel
theorem dL_law_1116 : decode cL_law 1116 = .ok (.iconst 3, 1) := by decide +kernel
theorem dL_law_1117 : decode cL_law 1117 = .ok (.iadd, 1) := by decide +kernel
theorem dL_law_1118 : decode cL_law 1118 = .ok (.iaload, 1) := by decide +kernel
theorem dL_law_1119 : decode cL_law 1119 = .ok (.invokevirtual 109, 3) := by decide +kernel
theorem dL_law_1122 : decode cL_law 1122 = .ok (.if_icmp .eq 299, 3) := by decide +kernel
theorem dL_law_1125 : decode cL_law 1125 = .ok (.iconst 0, 1) := by decide +kernel
theorem dL_law_1126 : decode cL_law 1126 = .ok (.ireturn, 1) := by decide +kernel
theorem dL_law_1127 : decode cL_law 1127 = .ok (.aload_n 1, 1) := by decide +kernel
theorem dL_law_1128 : decode cL_law 1128 = .ok (.aload_n 0, 1) := by decide +kernel
theorem dL_law_1129 : decode cL_law 1129 = .ok (.iload_n 3, 1) := by decide +kernel
theorem dL_law_1130 : decode cL_law 1130 = .ok (.iconst 1, 1) := by decide +kernel
theorem dL_law_1131 : decode cL_law 1131 = .ok (.iadd, 1) := by decide +kernel
theorem dL_law_1132 : decode cL_law 1132 = .ok (.iaload, 1) := by decide +kernel
theorem dL_law_1133 : decode cL_law 1133 = .ok (.aload_n 0, 1) := by decide +kernel
theorem dL_law_1134 : decode cL_law 1134 = .ok (.iload_n 3, 1) := by decide +kernel
theorem dL_law_1135 : decode cL_law 1135 = .ok (.iconst 2, 1) := by decide +kernel
theorem dL_law_1136 : decode cL_law 1136 = .ok (.iadd, 1) := by decide +kernel
theorem dL_law_1137 : decode cL_law 1137 = .ok (.iaload, 1) := by decide +kernel
theorem dL_law_1138 : decode cL_law 1138 = .ok (.aload_n 0, 1) := by decide +kernel
theorem dL_law_1139 : decode cL_law 1139 = .ok (.iload_n 3, 1) := by decide +kernel
theorem dL_law_1140 : decode cL_law 1140 = .ok (.iconst 3, 1) := by decide +kernel
theorem dL_law_1141 : decode cL_law 1141 = .ok (.iadd, 1) := by decide +kernel
theorem dL_law_1142 : decode cL_law 1142 = .ok (.iaload, 1) := by decide +kernel
theorem dL_law_1143 : decode cL_law 1143 = .ok (.invokevirtual 110, 3) := by decide +kernel
theorem dL_law_1146 : decode cL_law 1146 = .ok (.aload_n 2, 1) := by decide +kernel
theorem dL_law_1147 : decode cL_law 1147 = .ok (.aload_n 0, 1) := by decide +kernel
theorem dL_law_1148 : decode cL_law 1148 = .ok (.iload_n 3, 1) := by decide +kernel
theorem dL_law_1149 : decode cL_law 1149 = .ok (.iconst 1, 1) := by decide +kernel
theorem dL_law_1150 : decode cL_law 1150 = .ok (.iadd, 1) := by decide +kernel
theorem dL_law_1151 : decode cL_law 1151 = .ok (.iaload, 1) := by decide +kernel
theorem dL_law_1152 : decode cL_law 1152 = .ok (.aload_n 0, 1) := by decide +kernel
theorem dL_law_1153 : decode cL_law 1153 = .ok (.iload_n 3, 1) := by decide +kernel
theorem dL_law_1154 : decode cL_law 1154 = .ok (.iconst 2, 1) := by decide +kernel
theorem dL_law_1155 : decode cL_law 1155 = .ok (.iadd, 1) := by decide +kernel
theorem dL_law_1156 : decode cL_law 1156 = .ok (.iaload, 1) := by decide +kernel
theorem dL_law_1157 : decode cL_law 1157 = .ok (.aload_n 0, 1) := by decide +kernel
theorem dL_law_1158 : decode cL_law 1158 = .ok (.iload_n 3, 1) := by decide +kernel
theorem dL_law_1159 : decode cL_law 1159 = .ok (.iconst 3, 1) := by decide +kernel
theorem dL_law_1160 : decode cL_law 1160 = .ok (.iadd, 1) := by decide +kernel
theorem dL_law_1161 : decode cL_law 1161 = .ok (.iaload, 1) := by decide +kernel
theorem dL_law_1162 : decode cL_law 1162 = .ok (.invokevirtual 113, 3) := by decide +kernel
theorem dL_law_1165 : decode cL_law 1165 = .ok (.if_icmp .eq 256, 3) := by decide +kernel
theorem dL_law_1168 : decode cL_law 1168 = .ok (.iconst 0, 1) := by decide +kernel
theorem dL_law_1169 : decode cL_law 1169 = .ok (.ireturn, 1) := by decide +kernel
theorem dL_law_1170 : decode cL_law 1170 = .ok (.aload_n 1, 1) := by decide +kernel
theorem dL_law_1171 : decode cL_law 1171 = .ok (.aload_n 0, 1) := by decide +kernel
theorem dL_law_1172 : decode cL_law 1172 = .ok (.iload_n 3, 1) := by decide +kernel
theorem dL_law_1173 : decode cL_law 1173 = .ok (.iconst 1, 1) := by decide +kernel
theorem dL_law_1174 : decode cL_law 1174 = .ok (.iadd, 1) := by decide +kernel
theorem dL_law_1175 : decode cL_law 1175 = .ok (.iaload, 1) := by decide +kernel
theorem dL_law_1176 : decode cL_law 1176 = .ok (.aload_n 0, 1) := by decide +kernel
theorem dL_law_1177 : decode cL_law 1177 = .ok (.iload_n 3, 1) := by decide +kernel
theorem dL_law_1178 : decode cL_law 1178 = .ok (.iconst 2, 1) := by decide +kernel
theorem dL_law_1179 : decode cL_law 1179 = .ok (.iadd, 1) := by decide +kernel
theorem dL_law_1180 : decode cL_law 1180 = .ok (.iaload, 1) := by decide +kernel
theorem dL_law_1181 : decode cL_law 1181 = .ok (.aload_n 0, 1) := by decide +kernel
theorem dL_law_1182 : decode cL_law 1182 = .ok (.iload_n 3, 1) := by decide +kernel
theorem dL_law_1183 : decode cL_law 1183 = .ok (.iconst 3, 1) := by decide +kernel
theorem dL_law_1184 : decode cL_law 1184 = .ok (.iadd, 1) := by decide +kernel
theorem dL_law_1185 : decode cL_law 1185 = .ok (.iaload, 1) := by decide +kernel
theorem dL_law_1186 : decode cL_law 1186 = .ok (.aload_n 0, 1) := by decide +kernel
theorem dL_law_1187 : decode cL_law 1187 = .ok (.iload_n 3, 1) := by decide +kernel
theorem dL_law_1188 : decode cL_law 1188 = .ok (.iconst 4, 1) := by decide +kernel
theorem dL_law_1189 : decode cL_law 1189 = .ok (.iadd, 1) := by decide +kernel
theorem dL_law_1190 : decode cL_law 1190 = .ok (.iaload, 1) := by decide +kernel
theorem dL_law_1191 : decode cL_law 1191 = .ok (.invokevirtual 114, 3) := by decide +kernel
theorem dL_law_1194 : decode cL_law 1194 = .ok (.aload_n 2, 1) := by decide +kernel
theorem dL_law_1195 : decode cL_law 1195 = .ok (.aload_n 0, 1) := by decide +kernel
theorem dL_law_1196 : decode cL_law 1196 = .ok (.iload_n 3, 1) := by decide +kernel
theorem dL_law_1197 : decode cL_law 1197 = .ok (.iconst 1, 1) := by decide +kernel
theorem dL_law_1198 : decode cL_law 1198 = .ok (.iadd, 1) := by decide +kernel
theorem dL_law_1199 : decode cL_law 1199 = .ok (.iaload, 1) := by decide +kernel
theorem dL_law_1200 : decode cL_law 1200 = .ok (.aload_n 0, 1) := by decide +kernel
theorem dL_law_1201 : decode cL_law 1201 = .ok (.iload_n 3, 1) := by decide +kernel
theorem dL_law_1202 : decode cL_law 1202 = .ok (.iconst 2, 1) := by decide +kernel
theorem dL_law_1203 : decode cL_law 1203 = .ok (.iadd, 1) := by decide +kernel
theorem dL_law_1204 : decode cL_law 1204 = .ok (.iaload, 1) := by decide +kernel
theorem dL_law_1205 : decode cL_law 1205 = .ok (.aload_n 0, 1) := by decide +kernel
theorem dL_law_1206 : decode cL_law 1206 = .ok (.iload_n 3, 1) := by decide +kernel
theorem dL_law_1207 : decode cL_law 1207 = .ok (.iconst 3, 1) := by decide +kernel
theorem dL_law_1208 : decode cL_law 1208 = .ok (.iadd, 1) := by decide +kernel
theorem dL_law_1209 : decode cL_law 1209 = .ok (.iaload, 1) := by decide +kernel
theorem dL_law_1210 : decode cL_law 1210 = .ok (.aload_n 0, 1) := by decide +kernel
theorem dL_law_1211 : decode cL_law 1211 = .ok (.iload_n 3, 1) := by decide +kernel
theorem dL_law_1212 : decode cL_law 1212 = .ok (.iconst 4, 1) := by decide +kernel
theorem dL_law_1213 : decode cL_law 1213 = .ok (.iadd, 1) := by decide +kernel
theorem dL_law_1214 : decode cL_law 1214 = .ok (.iaload, 1) := by decide +kernel
theorem dL_law_1215 : decode cL_law 1215 = .ok (.invokevirtual 117, 3) := by decide +kernel
theorem dL_law_1218 : decode cL_law 1218 = .ok (.if_icmp .eq 203, 3) := by decide +kernel
theorem dL_law_1221 : decode cL_law 1221 = .ok (.iconst 0, 1) := by decide +kernel
theorem dL_law_1222 : decode cL_law 1222 = .ok (.ireturn, 1) := by decide +kernel
theorem dL_law_1223 : decode cL_law 1223 = .ok (.aload_n 1, 1) := by decide +kernel
theorem dL_law_1224 : decode cL_law 1224 = .ok (.aload_n 0, 1) := by decide +kernel
theorem dL_law_1225 : decode cL_law 1225 = .ok (.iload_n 3, 1) := by decide +kernel
theorem dL_law_1226 : decode cL_law 1226 = .ok (.iconst 1, 1) := by decide +kernel
theorem dL_law_1227 : decode cL_law 1227 = .ok (.iadd, 1) := by decide +kernel
theorem dL_law_1228 : decode cL_law 1228 = .ok (.iaload, 1) := by decide +kernel
theorem dL_law_1229 : decode cL_law 1229 = .ok (.aload_n 0, 1) := by decide +kernel
theorem dL_law_1230 : decode cL_law 1230 = .ok (.iload_n 3, 1) := by decide +kernel
theorem dL_law_1231 : decode cL_law 1231 = .ok (.iconst 2, 1) := by decide +kernel
theorem dL_law_1232 : decode cL_law 1232 = .ok (.iadd, 1) := by decide +kernel
theorem dL_law_1233 : decode cL_law 1233 = .ok (.iaload, 1) := by decide +kernel
theorem dL_law_1234 : decode cL_law 1234 = .ok (.aload_n 0, 1) := by decide +kernel
theorem dL_law_1235 : decode cL_law 1235 = .ok (.iload_n 3, 1) := by decide +kernel
theorem dL_law_1236 : decode cL_law 1236 = .ok (.iconst 3, 1) := by decide +kernel
theorem dL_law_1237 : decode cL_law 1237 = .ok (.iadd, 1) := by decide +kernel
theorem dL_law_1238 : decode cL_law 1238 = .ok (.iaload, 1) := by decide +kernel
theorem dL_law_1239 : decode cL_law 1239 = .ok (.aload_n 0, 1) := by decide +kernel
theorem dL_law_1240 : decode cL_law 1240 = .ok (.iload_n 3, 1) := by decide +kernel
theorem dL_law_1241 : decode cL_law 1241 = .ok (.iconst 4, 1) := by decide +kernel
theorem dL_law_1242 : decode cL_law 1242 = .ok (.iadd, 1) := by decide +kernel
theorem dL_law_1243 : decode cL_law 1243 = .ok (.iaload, 1) := by decide +kernel
theorem dL_law_1244 : decode cL_law 1244 = .ok (.aload_n 0, 1) := by decide +kernel
theorem dL_law_1245 : decode cL_law 1245 = .ok (.iload_n 3, 1) := by decide +kernel
theorem dL_law_1246 : decode cL_law 1246 = .ok (.iconst 5, 1) := by decide +kernel
theorem dL_law_1247 : decode cL_law 1247 = .ok (.iadd, 1) := by decide +kernel
theorem dL_law_1248 : decode cL_law 1248 = .ok (.iaload, 1) := by decide +kernel
theorem dL_law_1249 : decode cL_law 1249 = .ok (.aload_n 0, 1) := by decide +kernel
theorem dL_law_1250 : decode cL_law 1250 = .ok (.iload_n 3, 1) := by decide +kernel
theorem dL_law_1251 : decode cL_law 1251 = .ok (.bipush 6, 2) := by decide +kernel
theorem dL_law_1253 : decode cL_law 1253 = .ok (.iadd, 1) := by decide +kernel
theorem dL_law_1254 : decode cL_law 1254 = .ok (.iaload, 1) := by decide +kernel
theorem dL_law_1255 : decode cL_law 1255 = .ok (.invokevirtual 118, 3) := by decide +kernel
theorem dL_law_1258 : decode cL_law 1258 = .ok (.aload_n 2, 1) := by decide +kernel
theorem dL_law_1259 : decode cL_law 1259 = .ok (.aload_n 0, 1) := by decide +kernel
theorem dL_law_1260 : decode cL_law 1260 = .ok (.iload_n 3, 1) := by decide +kernel
theorem dL_law_1261 : decode cL_law 1261 = .ok (.iconst 1, 1) := by decide +kernel
theorem dL_law_1262 : decode cL_law 1262 = .ok (.iadd, 1) := by decide +kernel
theorem dL_law_1263 : decode cL_law 1263 = .ok (.iaload, 1) := by decide +kernel
theorem dL_law_1264 : decode cL_law 1264 = .ok (.aload_n 0, 1) := by decide +kernel
theorem dL_law_1265 : decode cL_law 1265 = .ok (.iload_n 3, 1) := by decide +kernel
theorem dL_law_1266 : decode cL_law 1266 = .ok (.iconst 2, 1) := by decide +kernel
theorem dL_law_1267 : decode cL_law 1267 = .ok (.iadd, 1) := by decide +kernel
theorem dL_law_1268 : decode cL_law 1268 = .ok (.iaload, 1) := by decide +kernel
theorem dL_law_1269 : decode cL_law 1269 = .ok (.aload_n 0, 1) := by decide +kernel
theorem dL_law_1270 : decode cL_law 1270 = .ok (.iload_n 3, 1) := by decide +kernel
theorem dL_law_1271 : decode cL_law 1271 = .ok (.iconst 3, 1) := by decide +kernel
theorem dL_law_1272 : decode cL_law 1272 = .ok (.iadd, 1) := by decide +kernel
theorem dL_law_1273 : decode cL_law 1273 = .ok (.iaload, 1) := by decide +kernel
theorem dL_law_1274 : decode cL_law 1274 = .ok (.aload_n 0, 1) := by decide +kernel
theorem dL_law_1275 : decode cL_law 1275 = .ok (.iload_n 3, 1) := by decide +kernel
theorem dL_law_1276 : decode cL_law 1276 = .ok (.iconst 4, 1) := by decide +kernel
theorem dL_law_1277 : decode cL_law 1277 = .ok (.iadd, 1) := by decide +kernel
theorem dL_law_1278 : decode cL_law 1278 = .ok (.iaload, 1) := by decide +kernel
theorem dL_law_1279 : decode cL_law 1279 = .ok (.aload_n 0, 1) := by decide +kernel
theorem dL_law_1280 : decode cL_law 1280 = .ok (.iload_n 3, 1) := by decide +kernel
theorem dL_law_1281 : decode cL_law 1281 = .ok (.iconst 5, 1) := by decide +kernel
theorem dL_law_1282 : decode cL_law 1282 = .ok (.iadd, 1) := by decide +kernel
theorem dL_law_1283 : decode cL_law 1283 = .ok (.iaload, 1) := by decide +kernel
theorem dL_law_1284 : decode cL_law 1284 = .ok (.aload_n 0, 1) := by decide +kernel
theorem dL_law_1285 : decode cL_law 1285 = .ok (.iload_n 3, 1) := by decide +kernel
theorem dL_law_1286 : decode cL_law 1286 = .ok (.bipush 6, 2) := by decide +kernel
theorem dL_law_1288 : decode cL_law 1288 = .ok (.iadd, 1) := by decide +kernel
theorem dL_law_1289 : decode cL_law 1289 = .ok (.iaload, 1) := by decide +kernel
theorem dL_law_1290 : decode cL_law 1290 = .ok (.invokevirtual 122, 3) := by decide +kernel
theorem dL_law_1293 : decode cL_law 1293 = .ok (.if_icmp .eq 128, 3) := by decide +kernel
theorem dL_law_1296 : decode cL_law 1296 = .ok (.iconst 0, 1) := by decide +kernel
theorem dL_law_1297 : decode cL_law 1297 = .ok (.ireturn, 1) := by decide +kernel
theorem dL_law_1298 : decode cL_law 1298 = .ok (.aload_n 1, 1) := by decide +kernel
theorem dL_law_1299 : decode cL_law 1299 = .ok (.aload_n 0, 1) := by decide +kernel
theorem dL_law_1300 : decode cL_law 1300 = .ok (.iload_n 3, 1) := by decide +kernel
theorem dL_law_1301 : decode cL_law 1301 = .ok (.iconst 1, 1) := by decide +kernel
theorem dL_law_1302 : decode cL_law 1302 = .ok (.iadd, 1) := by decide +kernel
theorem dL_law_1303 : decode cL_law 1303 = .ok (.iaload, 1) := by decide +kernel
theorem dL_law_1304 : decode cL_law 1304 = .ok (.aload_n 0, 1) := by decide +kernel
theorem dL_law_1305 : decode cL_law 1305 = .ok (.iload_n 3, 1) := by decide +kernel
theorem dL_law_1306 : decode cL_law 1306 = .ok (.iconst 2, 1) := by decide +kernel
theorem dL_law_1307 : decode cL_law 1307 = .ok (.iadd, 1) := by decide +kernel
theorem dL_law_1308 : decode cL_law 1308 = .ok (.iaload, 1) := by decide +kernel
theorem dL_law_1309 : decode cL_law 1309 = .ok (.aload_n 0, 1) := by decide +kernel
theorem dL_law_1310 : decode cL_law 1310 = .ok (.iload_n 3, 1) := by decide +kernel
theorem dL_law_1311 : decode cL_law 1311 = .ok (.iconst 3, 1) := by decide +kernel
theorem dL_law_1312 : decode cL_law 1312 = .ok (.iadd, 1) := by decide +kernel
theorem dL_law_1313 : decode cL_law 1313 = .ok (.iaload, 1) := by decide +kernel
theorem dL_law_1314 : decode cL_law 1314 = .ok (.aload_n 0, 1) := by decide +kernel
theorem dL_law_1315 : decode cL_law 1315 = .ok (.iload_n 3, 1) := by decide +kernel
theorem dL_law_1316 : decode cL_law 1316 = .ok (.iconst 4, 1) := by decide +kernel
theorem dL_law_1317 : decode cL_law 1317 = .ok (.iadd, 1) := by decide +kernel
theorem dL_law_1318 : decode cL_law 1318 = .ok (.iaload, 1) := by decide +kernel
theorem dL_law_1319 : decode cL_law 1319 = .ok (.invokevirtual 123, 3) := by decide +kernel
theorem dL_law_1322 : decode cL_law 1322 = .ok (.aload_n 2, 1) := by decide +kernel
theorem dL_law_1323 : decode cL_law 1323 = .ok (.aload_n 0, 1) := by decide +kernel
theorem dL_law_1324 : decode cL_law 1324 = .ok (.iload_n 3, 1) := by decide +kernel
theorem dL_law_1325 : decode cL_law 1325 = .ok (.iconst 1, 1) := by decide +kernel
theorem dL_law_1326 : decode cL_law 1326 = .ok (.iadd, 1) := by decide +kernel
theorem dL_law_1327 : decode cL_law 1327 = .ok (.iaload, 1) := by decide +kernel
theorem dL_law_1328 : decode cL_law 1328 = .ok (.aload_n 0, 1) := by decide +kernel
theorem dL_law_1329 : decode cL_law 1329 = .ok (.iload_n 3, 1) := by decide +kernel
theorem dL_law_1330 : decode cL_law 1330 = .ok (.iconst 2, 1) := by decide +kernel
theorem dL_law_1331 : decode cL_law 1331 = .ok (.iadd, 1) := by decide +kernel
theorem dL_law_1332 : decode cL_law 1332 = .ok (.iaload, 1) := by decide +kernel
theorem dL_law_1333 : decode cL_law 1333 = .ok (.aload_n 0, 1) := by decide +kernel
theorem dL_law_1334 : decode cL_law 1334 = .ok (.iload_n 3, 1) := by decide +kernel
theorem dL_law_1335 : decode cL_law 1335 = .ok (.iconst 3, 1) := by decide +kernel
theorem dL_law_1336 : decode cL_law 1336 = .ok (.iadd, 1) := by decide +kernel
theorem dL_law_1337 : decode cL_law 1337 = .ok (.iaload, 1) := by decide +kernel
theorem dL_law_1338 : decode cL_law 1338 = .ok (.aload_n 0, 1) := by decide +kernel
theorem dL_law_1339 : decode cL_law 1339 = .ok (.iload_n 3, 1) := by decide +kernel
theorem dL_law_1340 : decode cL_law 1340 = .ok (.iconst 4, 1) := by decide +kernel
theorem dL_law_1341 : decode cL_law 1341 = .ok (.iadd, 1) := by decide +kernel
theorem dL_law_1342 : decode cL_law 1342 = .ok (.iaload, 1) := by decide +kernel
theorem dL_law_1343 : decode cL_law 1343 = .ok (.invokevirtual 126, 3) := by decide +kernel
theorem dL_law_1346 : decode cL_law 1346 = .ok (.if_icmp .eq 75, 3) := by decide +kernel
theorem dL_law_1349 : decode cL_law 1349 = .ok (.iconst 0, 1) := by decide +kernel
theorem dL_law_1350 : decode cL_law 1350 = .ok (.ireturn, 1) := by decide +kernel
theorem dL_law_1351 : decode cL_law 1351 = .ok (.aload_n 1, 1) := by decide +kernel
theorem dL_law_1352 : decode cL_law 1352 = .ok (.aload_n 0, 1) := by decide +kernel
theorem dL_law_1353 : decode cL_law 1353 = .ok (.iload_n 3, 1) := by decide +kernel
theorem dL_law_1354 : decode cL_law 1354 = .ok (.iconst 1, 1) := by decide +kernel
theorem dL_law_1355 : decode cL_law 1355 = .ok (.iadd, 1) := by decide +kernel
theorem dL_law_1356 : decode cL_law 1356 = .ok (.iaload, 1) := by decide +kernel
theorem dL_law_1357 : decode cL_law 1357 = .ok (.aload_n 0, 1) := by decide +kernel
theorem dL_law_1358 : decode cL_law 1358 = .ok (.iload_n 3, 1) := by decide +kernel
theorem dL_law_1359 : decode cL_law 1359 = .ok (.iconst 2, 1) := by decide +kernel
theorem dL_law_1360 : decode cL_law 1360 = .ok (.iadd, 1) := by decide +kernel
theorem dL_law_1361 : decode cL_law 1361 = .ok (.iaload, 1) := by decide +kernel
theorem dL_law_1362 : decode cL_law 1362 = .ok (.invokevirtual 127, 3) := by decide +kernel
theorem dL_law_1365 : decode cL_law 1365 = .ok (.aload_n 2, 1) := by decide +kernel
theorem dL_law_1366 : decode cL_law 1366 = .ok (.aload_n 0, 1) := by decide +kernel
theorem dL_law_1367 : decode cL_law 1367 = .ok (.iload_n 3, 1) := by decide +kernel
theorem dL_law_1368 : decode cL_law 1368 = .ok (.iconst 1, 1) := by decide +kernel
theorem dL_law_1369 : decode cL_law 1369 = .ok (.iadd, 1) := by decide +kernel
theorem dL_law_1370 : decode cL_law 1370 = .ok (.iaload, 1) := by decide +kernel
theorem dL_law_1371 : decode cL_law 1371 = .ok (.aload_n 0, 1) := by decide +kernel
theorem dL_law_1372 : decode cL_law 1372 = .ok (.iload_n 3, 1) := by decide +kernel
theorem dL_law_1373 : decode cL_law 1373 = .ok (.iconst 2, 1) := by decide +kernel
theorem dL_law_1374 : decode cL_law 1374 = .ok (.iadd, 1) := by decide +kernel
theorem dL_law_1375 : decode cL_law 1375 = .ok (.iaload, 1) := by decide +kernel
theorem dL_law_1376 : decode cL_law 1376 = .ok (.invokevirtual 130, 3) := by decide +kernel
theorem dL_law_1379 : decode cL_law 1379 = .ok (.if_icmp .eq 42, 3) := by decide +kernel
theorem dL_law_1382 : decode cL_law 1382 = .ok (.iconst 0, 1) := by decide +kernel
theorem dL_law_1383 : decode cL_law 1383 = .ok (.ireturn, 1) := by decide +kernel
theorem dL_law_1384 : decode cL_law 1384 = .ok (.aload_n 1, 1) := by decide +kernel
theorem dL_law_1385 : decode cL_law 1385 = .ok (.aload_n 0, 1) := by decide +kernel
theorem dL_law_1386 : decode cL_law 1386 = .ok (.iload_n 3, 1) := by decide +kernel
theorem dL_law_1387 : decode cL_law 1387 = .ok (.iconst 1, 1) := by decide +kernel
theorem dL_law_1388 : decode cL_law 1388 = .ok (.iadd, 1) := by decide +kernel
theorem dL_law_1389 : decode cL_law 1389 = .ok (.iaload, 1) := by decide +kernel
theorem dL_law_1390 : decode cL_law 1390 = .ok (.invokevirtual 131, 3) := by decide +kernel
theorem dL_law_1393 : decode cL_law 1393 = .ok (.aload_n 2, 1) := by decide +kernel
theorem dL_law_1394 : decode cL_law 1394 = .ok (.aload_n 0, 1) := by decide +kernel
theorem dL_law_1395 : decode cL_law 1395 = .ok (.iload_n 3, 1) := by decide +kernel
theorem dL_law_1396 : decode cL_law 1396 = .ok (.iconst 1, 1) := by decide +kernel
theorem dL_law_1397 : decode cL_law 1397 = .ok (.iadd, 1) := by decide +kernel
theorem dL_law_1398 : decode cL_law 1398 = .ok (.iaload, 1) := by decide +kernel
theorem dL_law_1399 : decode cL_law 1399 = .ok (.invokevirtual 134, 3) := by decide +kernel
theorem dL_law_1402 : decode cL_law 1402 = .ok (.if_icmp .eq 19, 3) := by decide +kernel
theorem dL_law_1405 : decode cL_law 1405 = .ok (.iconst 0, 1) := by decide +kernel
theorem dL_law_1406 : decode cL_law 1406 = .ok (.ireturn, 1) := by decide +kernel
theorem dL_law_1407 : decode cL_law 1407 = .ok (.aload_n 1, 1) := by decide +kernel
theorem dL_law_1408 : decode cL_law 1408 = .ok (.invokevirtual 135, 3) := by decide +kernel
theorem dL_law_1411 : decode cL_law 1411 = .ok (.aload_n 2, 1) := by decide +kernel
theorem dL_law_1412 : decode cL_law 1412 = .ok (.invokevirtual 139, 3) := by decide +kernel
theorem dL_law_1415 : decode cL_law 1415 = .ok (.lcmp, 1) := by decide +kernel
theorem dL_law_1416 : decode cL_law 1416 = .ok (.ifCond .eq 5, 3) := by decide +kernel
theorem dL_law_1419 : decode cL_law 1419 = .ok (.iconst 0, 1) := by decide +kernel
theorem dL_law_1420 : decode cL_law 1420 = .ok (.ireturn, 1) := by decide +kernel
theorem dL_law_1421 : decode cL_law 1421 = .ok (.iinc 3 7, 3) := by decide +kernel
theorem dL_law_1424 : decode cL_law 1424 = .ok (.goto (-1406), 3) := by decide +kernel
theorem dL_law_1427 : decode cL_law 1427 = .ok (.iconst 1, 1) := by decide +kernel
theorem dL_law_1428 : decode cL_law 1428 = .ok (.ireturn, 1) := by decide +kernel
end
section
/-! The judgement over a memory of numbered cells: a cell is a tag and its values; tags 0 to 5 are objects (the place in vwCl), 6 to 11 arrays; a reference k stands for the heap's B + k -/
abbrev Cel : Type := Nat × List Value
abbrev Mem : Type := Nat → Cel
def mv (B : Nat) (v : Value) : Value := match v with
  | .ref k => .ref (B + k)
  | w => w
def kty (t : Nat) : FieldType := match t with
  | 6 => .int
  | 7 => .boolean
  | 8 => .array .int
  | 9 => .object RX4
  | 10 => .object RX1
  | _ => .object RX3
def cOK (D : va_G) (B : Nat) (U : State) (c : Cel) (a : Nat) (H : Heap) : Prop :=
  (∀ r : vw_C, vwCl[c.1]? = some r → c.2.length = r.2.2 ∧ t_OB a (D.1 c.1) r.2.2 (D.2 c.1) H (fun k => mv B (c.2.getD k .null))) ∧
  (6 ≤ c.1 → ∃ cA : ClassId, H[a]? = some (arrV cA c.2.length (fun j => mv B (c.2.getD j .null))) ∧ ArrOfT U cA (kty c.1) ∧ va_RA U cA (kty c.1))
def Wd (B N : Nat) (g : Mem) (U : State) (H : Heap) : Prop := H.size = B + N ∧ ∃ D : va_G, (∀ (c : Nat) (q : vw_C), vwCl[c]? = some q → u_Kn U q.1 q.2.1 q.2.2 (D.1 c) (D.2 c)) ∧ ∀ k : Nat, (g k).1 < 12 → cOK D B U (g k) (B + k) H
theorem cOK.moved {D : va_G} {B : Nat} {u U : State} {c : Cel} {a : Nat} {H : Heap} (hvm : u.vm.Alike U.vm) (h : cOK D B u c a H) : cOK D B U c a H :=
  ⟨h.1, fun h6 => by obtain ⟨cA, h1, h2, h3⟩ := h.2 h6; exact ⟨cA, h1, arrOfT_moved hvm h2, h3.moved hvm⟩⟩
theorem Wd.moved {B N : Nat} {g : Mem} {u U : State} {H : Heap} (hvm : u.vm.Alike U.vm) (h : Wd B N g u H) : Wd B N g U H := by
  obtain ⟨h0, D, h1, h2⟩ := h
  exact ⟨h0, D, fun c q hq => u_Kn_moved hvm (h1 c q hq), fun k hk => (h2 k hk).moved hvm⟩
theorem cOK.kept {D : va_G} {B : Nat} {U : State} {c : Cel} {a : Nat} {H H1 : Heap} (h : cOK D B U c a H) (hq : H1[a]? = H[a]?) : cOK D B U c a H1 :=
  ⟨fun r hr => ⟨(h.1 r hr).1, (h.1 r hr).2.kept hq⟩, fun h6 => by obtain ⟨cA, h1, h2⟩ := h.2 h6; exact ⟨cA, hq.trans h1, h2⟩⟩
theorem vw_some {t : Nat} (h : t < 6) : ∃ r, vwCl[t]? = some r := ⟨vwCl[t]'h, List.getElem?_eq_getElem h⟩
theorem cOK.lt {D : va_G} {B : Nat} {U : State} {c : Cel} {a : Nat} {H : Heap} (h : cOK D B U c a H) : a < H.size := by
  by_cases h6 : 6 ≤ c.1
  · obtain ⟨cA, h1, -⟩ := h.2 h6
    exact (Array.getElem?_eq_some_iff.mp h1).1
  · obtain ⟨r, hr⟩ := vw_some (t := c.1) (by omega)
    obtain ⟨-, cell, h2, -⟩ := h.1 r hr
    exact (Array.getElem?_eq_some_iff.mp h2).1
/-- one cell changed -/
theorem cells_upd {D : va_G} {B k : Nat} {g : Mem} {U : State} {H H1 : Heap} {c : Cel} (h : ∀ k : Nat, (g k).1 < 12 → cOK D B U (g k) (B + k) H) (oq : ∀ q, q ≠ B + k → H1[q]? = H[q]?) (hc : cOK D B U c (B + k) H1) :
    ∀ j : Nat, (va_up g k c j).1 < 12 → cOK D B U (va_up g k c j) (B + j) H1 := by
  intro j hj
  by_cases e : j = k
  · subst e
    rw [va_up_self]
    exact hc
  · rw [va_up_ne _ _ e] at hj ⊢
    exact (h j hj).kept (oq _ (by omega))
/-- a new cell -/
theorem cells_new {D : va_G} {B N : Nat} {g : Mem} {U : State} {H H1 : Heap} {c : Cel} (hz : H.size = B + N) (h : ∀ k : Nat, (g k).1 < 12 → cOK D B U (g k) (B + k) H) (oq : ∀ q, q < H.size → H1[q]? = H[q]?) (hc : cOK D B U c (B + N) H1) :
    ∀ j : Nat, (va_up g N c j).1 < 12 → cOK D B U (va_up g N c j) (B + j) H1 := by
  intro j hj
  by_cases e : j = N
  · subst e
    rw [va_up_self]
    exact hc
  · rw [va_up_ne _ _ e] at hj ⊢
    exact (h j hj).kept (oq _ (h j hj).lt)
/-! the locals: by their places -/
def lh (B : Nat) (lsA : Array Slot) (ls : List (Option Value)) : Prop := lsA.size = ls.length ∧ lv_wf lsA ∧ ∀ (i : Nat) (v : Value), ls[i]? = some (some v) → lsA[i]? = some (.val (mv B v))
theorem mv_cat (B : Nat) (v : Value) : (mv B v).category = v.category := by cases v <;> rfl
def clr (x : Option Value) : Option Value := match x with
  | some (.long _) => none
  | some (.double _) => none
  | y => y
def sL1 : List (Option Value) → Nat → Value → List (Option Value)
  | [], _, _ => []
  | _ :: r, 0, v => some v :: r
  | x :: r, 1, v => clr x :: sL1 r 0 v
  | x :: r, i + 2, v => x :: sL1 r (i + 1) v
def sL2 : List (Option Value) → Nat → Value → List (Option Value)
  | [], _, _ => []
  | _ :: [], 0, v => some v :: []
  | _ :: _ :: r, 0, v => some v :: none :: r
  | x :: r, 1, v => clr x :: sL2 r 0 v
  | x :: r, i + 2, v => x :: sL2 r (i + 1) v
theorem clr_some {x : Option Value} {w : Value} (h : clr x = some w) : x = some w ∧ w.category = 1 := by
  cases x with
  | none => cases h
  | some y => cases y <;> first | (cases h; exact ⟨rfl, rfl⟩) | cases h
theorem sL1_len : ∀ (ls : List (Option Value)) (i : Nat) (v : Value), (sL1 ls i v).length = ls.length
  | [], _, _ => by simp [sL1]
  | _ :: r, 0, v => by simp [sL1]
  | x :: r, 1, v => by simp [sL1, sL1_len r 0 v]
  | x :: r, i + 2, v => by simp [sL1, sL1_len r (i + 1) v]
theorem sL2_len : ∀ (ls : List (Option Value)) (i : Nat) (v : Value), (sL2 ls i v).length = ls.length
  | [], _, _ => by simp [sL2]
  | [_], 0, v => by simp [sL2]
  | _ :: _ :: r, 0, v => by simp [sL2]
  | x :: r, 1, v => by simp [sL2, sL2_len r 0 v]
  | x :: r, i + 2, v => by simp [sL2, sL2_len r (i + 1) v]
theorem sL1_at : ∀ (ls : List (Option Value)) (i : Nat) (v : Value) (j : Nat) (w : Value), (sL1 ls i v)[j]? = some (some w) → (j = i ∧ w = v) ∨ (j ≠ i ∧ ls[j]? = some (some w) ∧ ¬ (j + 1 = i ∧ w.category = 2))
  | [], _, _, j, w, h => by simp [sL1] at h
  | x :: r, 0, v, j, w, h => by
    cases j with
    | zero => simp [sL1] at h; exact Or.inl ⟨rfl, h.symm⟩
    | succ j => simp [sL1] at h; exact Or.inr ⟨by omega, by simpa using h, by omega⟩
  | x :: r, 1, v, j, w, h => by
    cases j with
    | zero =>
      simp [sL1] at h
      obtain ⟨h1, h2⟩ := clr_some h
      exact Or.inr ⟨by omega, by simp [h1], by omega⟩
    | succ j =>
      simp only [sL1, List.getElem?_cons_succ] at h
      rcases sL1_at r 0 v j w h with ⟨a, b⟩ | ⟨a, b, -⟩
      · exact Or.inl ⟨by omega, b⟩
      · exact Or.inr ⟨by omega, by simpa using b, by omega⟩
  | x :: r, i + 2, v, j, w, h => by
    cases j with
    | zero => simp [sL1] at h; exact Or.inr ⟨by omega, by simp [h], by omega⟩
    | succ j =>
      simp only [sL1, List.getElem?_cons_succ] at h
      rcases sL1_at r (i + 1) v j w h with ⟨a, b⟩ | ⟨a, b, d⟩
      · exact Or.inl ⟨by omega, b⟩
      · exact Or.inr ⟨by omega, by simpa using b, by omega⟩
theorem sL2_at : ∀ (ls : List (Option Value)) (i : Nat) (v : Value) (j : Nat) (w : Value), (sL2 ls i v)[j]? = some (some w) → (j = i ∧ w = v) ∨ (j ≠ i ∧ j ≠ i + 1 ∧ ls[j]? = some (some w) ∧ ¬ (j + 1 = i ∧ w.category = 2))
  | [], _, _, j, w, h => by simp [sL2] at h
  | [x], 0, v, j, w, h => by
    cases j with
    | zero => simp [sL2] at h; exact Or.inl ⟨rfl, h.symm⟩
    | succ j => simp [sL2] at h
  | x :: y :: r, 0, v, j, w, h => by
    cases j with
    | zero => simp [sL2] at h; exact Or.inl ⟨rfl, h.symm⟩
    | succ j =>
      cases j with
      | zero => simp [sL2] at h
      | succ j => simp [sL2] at h; exact Or.inr ⟨by omega, by omega, by simpa using h, by omega⟩
  | x :: r, 1, v, j, w, h => by
    cases j with
    | zero =>
      simp [sL2] at h
      obtain ⟨h1, h2⟩ := clr_some h
      exact Or.inr ⟨by omega, by omega, by simp [h1], by omega⟩
    | succ j =>
      simp only [sL2, List.getElem?_cons_succ] at h
      rcases sL2_at r 0 v j w h with ⟨a, b⟩ | ⟨a, a2, b, -⟩
      · exact Or.inl ⟨by omega, b⟩
      · exact Or.inr ⟨by omega, by omega, by simpa using b, by omega⟩
  | x :: r, i + 2, v, j, w, h => by
    cases j with
    | zero => simp [sL2] at h; exact Or.inr ⟨by omega, by omega, by simp [h], by omega⟩
    | succ j =>
      simp only [sL2, List.getElem?_cons_succ] at h
      rcases sL2_at r (i + 1) v j w h with ⟨a, b⟩ | ⟨a, a2, b, d⟩
      · exact Or.inl ⟨by omega, b⟩
      · exact Or.inr ⟨by omega, by omega, by simpa using b, by omega⟩
def lpairs (B : Nat) (ls : List (Option Value)) : List (Nat × Value) := (List.range ls.length).filterMap (fun i => (ls[i]?.join).map (fun v => (i, mv B v)))
theorem lpairs_mem {B : Nat} {ls : List (Option Value)} {q : Nat × Value} : q ∈ lpairs B ls ↔ ∃ v, ls[q.1]? = some (some v) ∧ q.2 = mv B v := by
  unfold lpairs
  rw [List.mem_filterMap]
  constructor
  · rintro ⟨i, -, hi⟩
    cases h : ls[i]? with
    | none => rw [h] at hi; simp at hi
    | some x =>
      cases x with
      | none => rw [h] at hi; simp at hi
      | some v =>
        rw [h] at hi
        simp at hi
        subst hi
        exact ⟨v, h, rfl⟩
  · rintro ⟨v, h1, h2⟩
    refine ⟨q.1, List.mem_range.mpr (List.getElem?_eq_some_iff.mp h1).1, ?_⟩
    rw [h1]
    simp [← h2]
theorem lh.has {B : Nat} {lsA : Array Slot} {ls : List (Option Value)} (h : lh B lsA ls) : lv_has lsA ls.length (lpairs B ls) := by
  refine ⟨h.1, h.2.1, fun q hq => ?_⟩
  obtain ⟨v, h1, h2⟩ := lpairs_mem.mp hq
  rw [h2]
  exact h.2.2 _ _ h1
theorem lh.of {B n : Nat} {lsA : Array Slot} {l : List (Nat × Value)} {ls : List (Option Value)} (h : lv_has lsA n l) (hn : ls.length = n) (hs : ∀ (i : Nat) (v : Value), ls[i]? = some (some v) → (i, mv B v) ∈ l) : lh B lsA ls :=
  ⟨h.1.trans hn.symm, h.2.1, fun i v hi => h.2.2 (i, mv B v) (hs i v hi)⟩
theorem lh.st1 {B i : Nat} {lsA : Array Slot} {ls : List (Option Value)} {v : Value} {l' : List (Nat × Value)} {A' : Array Slot} (h' : lv_has A' ls.length ((i, mv B v) :: (lpairs B ls).filter (fun q => !(q.1 == i) && !(q.1 + 1 == i && q.2.category == 2)))) : lh B A' (sL1 ls i v) := by
  refine lh.of h' (sL1_len ls i v) fun j w hj => ?_
  rcases sL1_at ls i v j w hj with ⟨a, b⟩ | ⟨a, b, d⟩
  · subst a; subst b; exact List.mem_cons_self
  · refine List.mem_cons_of_mem _ (List.mem_filter.mpr ⟨lpairs_mem.mpr ⟨w, b, rfl⟩, ?_⟩)
    simp only [mv_cat, Bool.and_eq_true, Bool.not_eq_true', beq_eq_false_iff_ne, ne_eq, Bool.and_eq_false_iff]
    refine ⟨a, ?_⟩
    by_cases e : j + 1 = i
    · exact Or.inr (fun c => d ⟨e, c⟩)
    · exact Or.inl e
theorem lh.st2 {B i : Nat} {lsA : Array Slot} {ls : List (Option Value)} {v : Value} {A' : Array Slot} (h' : lv_has A' ls.length ((i, mv B v) :: (lpairs B ls).filter (fun q => !(q.1 == i) && (!(q.1 == i + 1) && !(q.1 + 1 == i && q.2.category == 2))))) : lh B A' (sL2 ls i v) := by
  refine lh.of h' (sL2_len ls i v) fun j w hj => ?_
  rcases sL2_at ls i v j w hj with ⟨a, b⟩ | ⟨a, a2, b, d⟩
  · subst a; subst b; exact List.mem_cons_self
  · refine List.mem_cons_of_mem _ (List.mem_filter.mpr ⟨lpairs_mem.mpr ⟨w, b, rfl⟩, ?_⟩)
    simp only [mv_cat, Bool.and_eq_true, Bool.not_eq_true', beq_eq_false_iff_ne, ne_eq, Bool.and_eq_false_iff]
    refine ⟨a, a2, ?_⟩
    by_cases e : j + 1 = i
    · exact Or.inr (fun c => d ⟨e, c⟩)
    · exact Or.inl e
def expA : List Value → List (Option Value)
  | [] => []
  | v :: r => if v.category = 2 then some v :: none :: expA r else some v :: expA r
def entL (av : List Value) (n : Nat) : List (Option Value) := expA av ++ List.replicate (n - (expA av).length) none
theorem expA_args (B : Nat) : ∀ (av : List Value) (k i : Nat) (v : Value), (expA av)[i]? = some (some v) → (k + i, mv B v) ∈ lv_args k (av.map (mv B))
  | [], k, i, v, h => by simp [expA] at h
  | w :: r, k, i, v, h => by
    simp only [List.map_cons, lv_args, mv_cat]
    by_cases c2 : w.category = 2
    · simp only [expA, if_pos c2] at h
      rw [if_pos c2]
      match i, h with
      | 0, h => simp at h; subst h; exact List.mem_cons_self
      | 1, h => simp at h
      | i + 2, h =>
        simp at h
        have := expA_args B r (k + 2) i v h
        rw [show k + 2 + i = k + (i + 2) by omega] at this
        exact List.mem_cons_of_mem _ this
    · simp only [expA, if_neg c2] at h
      rw [if_neg c2]
      match i, h with
      | 0, h => simp at h; subst h; exact List.mem_cons_self
      | i + 1, h =>
        simp at h
        have := expA_args B r (k + 1) i v h
        rw [show k + 1 + i = k + (i + 1) by omega] at this
        exact List.mem_cons_of_mem _ this
theorem expA_len (B : Nat) : ∀ (av : List Value), (lg_sl (av.map (mv B))).length = (expA av).length
  | [] => rfl
  | w :: r => by
    have ih := expA_len B r
    unfold lg_sl at ih ⊢
    simp only [List.map_cons, List.flatMap_cons, List.length_append, mv_cat, expA, ih]
    by_cases c2 : w.category = 2
    · simp [c2]; omega
    · simp [c2]; omega
theorem entL_has {B n : Nat} (av : List Value) (h : (expA av).length ≤ n) : lh B ((lg_sl (av.map (mv B)) ++ List.replicate (n - (lg_sl (av.map (mv B))).length) Slot.unset).toArray) (entL av n) := by
  refine lh.of (lv_entry (av.map (mv B)) (n := n) (by rw [expA_len]; exact h)) ?_ fun i v hi => ?_
  · simp [entL]; omega
  · unfold entL at hi
    by_cases hl : i < (expA av).length
    · rw [List.getElem?_append_left hl] at hi
      have := expA_args B av 0 i v hi
      rwa [Nat.zero_add] at this
    · rw [List.getElem?_append_right (by omega)] at hi
      have := List.mem_of_getElem? hi
      simp at this
end
section
/-! numbers: an int is iI of an integer, a long lI of one -/
def iI (z : Int) : Int32 := Int32.ofInt z
def lI (z : Int) : Int64 := Int64.ofInt z
abbrev inR (z : Int) : Prop := -2147483648 ≤ z ∧ z < 2147483648
abbrev inL (z : Int) : Prop := -9223372036854775808 ≤ z ∧ z < 9223372036854775808
theorem iI_add (a b : Int) : iI a + iI b = iI (a + b) := (Int32.ofInt_add a b).symm
theorem iI_sub (a b : Int) : iI a - iI b = iI (a - b) := (Int32.ofInt_sub a b).symm
theorem iI_mul (a b : Int) : iI a * iI b = iI (a * b) := (Int32.ofInt_mul a b).symm
theorem iI_neg (a : Int) : -iI a = iI (-a) := (Int32.ofInt_neg a).symm
theorem lI_add (a b : Int) : lI a + lI b = lI (a + b) := (Int64.ofInt_add a b).symm
theorem lI_sub (a b : Int) : lI a - lI b = lI (a - b) := (Int64.ofInt_sub a b).symm
theorem lI_mul (a b : Int) : lI a * lI b = lI (a * b) := (Int64.ofInt_mul a b).symm
theorem lI_neg (a : Int) : -lI a = lI (-a) := (Int64.ofInt_neg a).symm
theorem iI_toInt {a : Int} (h : inR a) : (iI a).toInt = a := Int32.toInt_ofInt_of_le h.1 h.2
theorem lI_toInt {a : Int} (h : inL a) : (lI a).toInt = a := Int64.toInt_ofInt_of_le h.1 h.2
theorem iI_self (x : Int32) : iI x.toInt = x := Int32.ofInt_toInt x
theorem inR_toInt (x : Int32) : inR x.toInt := ⟨Int32.le_toInt x, Int32.toInt_lt x⟩
theorem iI_lt {a b : Int} (ha : inR a) (hb : inR b) : iI a < iI b ↔ a < b := by rw [Int32.lt_iff_toInt_lt, iI_toInt ha, iI_toInt hb]
theorem iI_le {a b : Int} (ha : inR a) (hb : inR b) : iI a ≤ iI b ↔ a ≤ b := by rw [Int32.le_iff_toInt_le, iI_toInt ha, iI_toInt hb]
theorem iI_eq {a b : Int} (ha : inR a) (hb : inR b) : iI a = iI b ↔ a = b := by rw [← Int32.toInt_inj, iI_toInt ha, iI_toInt hb]
theorem lI_lt {a b : Int} (ha : inL a) (hb : inL b) : lI a < lI b ↔ a < b := by rw [Int64.lt_iff_toInt_lt, lI_toInt ha, lI_toInt hb]
theorem lI_eq {a b : Int} (ha : inL a) (hb : inL b) : lI a = lI b ↔ a = b := by rw [← Int64.toInt_inj, lI_toInt ha, lI_toInt hb]
theorem iI_0 : iI 0 = 0 := rfl
theorem lI_0 : lI 0 = 0 := rfl
theorem iI_clamp {a : Int} {j : Nat} (h : a = j) (hj : j < 2147483648) : (iI a).toNatClampNeg = j := by
  show (iI a).toInt.toNat = j
  rw [iI_toInt ⟨by omega, by omega⟩]
  omega
theorem iI_idx {a : Int} {j n : Nat} (h : a = j) (hn : j < n) (hj : j < 2147483648) : ¬ (iI a < 0 ∨ n ≤ (iI a).toNatClampNeg) := by
  rw [iI_clamp h hj]
  rintro (h1 | h1)
  · rw [← iI_0, iI_lt ⟨by omega, by omega⟩ ⟨by omega, by omega⟩] at h1
    omega
  · omega
theorem iI_rem {a b : Int} (ha : inR a) (hb : inR b) (h0 : 0 < b) : iI a - iI a / iI b * iI b = iI (a.tmod b) := by
  have hd : iI a / iI b = iI (a.tdiv b) := by
    rw [← Int32.toInt_inj, Int32.toInt_div, iI_toInt ha, iI_toInt hb]
    show _ = (Int32.ofInt _).toInt
    rw [Int32.toInt_ofInt]
  rw [hd, iI_mul, iI_sub, Int.tmod_def, Int.mul_comm b]
theorem iI_div {a b : Int} (ha : inR a) (hb : inR b) (h0 : 0 < b) : iI a / iI b = iI (a.tdiv b) := by
  rw [← Int32.toInt_inj, Int32.toInt_div, iI_toInt ha, iI_toInt hb]
  show _ = (Int32.ofInt _).toInt
  rw [Int32.toInt_ofInt]
theorem lI_rem {a b : Int} (ha : inL a) (hb : inL b) (h0 : 0 < b) : lI a - lI a / lI b * lI b = lI (a.tmod b) := by
  have hd : lI a / lI b = lI (a.tdiv b) := by
    rw [← Int64.toInt_inj, Int64.toInt_div, lI_toInt ha, lI_toInt hb]
    show _ = (Int64.ofInt _).toInt
    rw [Int64.toInt_ofInt]
  rw [hd, lI_mul, lI_sub, Int.tmod_def, Int.mul_comm b]
theorem i2l_I {a : Int} (ha : inR a) : (iI a).toInt64 = lI a := by
  rw [← Int64.toInt_inj, Int32.toInt_toInt64, iI_toInt ha, lI_toInt ⟨by omega, by omega⟩]
theorem l2i_I (a : Int) : (lI a).toInt32 = iI a := by
  rw [← Int32.toInt_inj, Int64.toInt_toInt32]
  show ((Int64.ofInt a).toInt).bmod _ = (Int32.ofInt a).toInt
  rw [Int64.toInt_ofInt, Int32.toInt_ofInt]
  exact Int.bmod_bmod_of_dvd (by decide)
theorem i2b_I (a : Int) : (iI a).toInt8.toInt32 = iI (a.bmod 256) := by
  rw [← Int32.toInt_inj, Int8.toInt_toInt32, Int32.toInt_toInt8]
  show ((Int32.ofInt a).toInt).bmod _ = (Int32.ofInt _).toInt
  rw [Int32.toInt_ofInt, Int32.toInt_ofInt_of_le]
  · exact Int.bmod_bmod_of_dvd (by decide)
  · have := @Int.le_bmod a 256 (by decide); omega
  · have := @Int.bmod_lt a 256 (by decide); omega
theorem i2s_I (a : Int) : (iI a).toInt16.toInt32 = iI (a.bmod 65536) := by
  rw [← Int32.toInt_inj, Int16.toInt_toInt32, Int32.toInt_toInt16]
  show ((Int32.ofInt a).toInt).bmod _ = (Int32.ofInt _).toInt
  rw [Int32.toInt_ofInt, Int32.toInt_ofInt_of_le]
  · exact Int.bmod_bmod_of_dvd (by decide)
  · have := @Int.le_bmod a 65536 (by decide); omega
  · have := @Int.bmod_lt a 65536 (by decide); omega
theorem lcmp_lt {a b : Int} (ha : inL a) (hb : inL b) : lg_cmp (lI a) (lI b) = iI (if b < a then 1 else if a = b then 0 else -1) := by
  unfold lg_cmp
  simp only [lI_lt hb ha, lI_eq ha hb, gt_iff_lt]
  by_cases h1 : b < a
  · simp [h1]; rfl
  · by_cases h2 : a = b
    · simp [h2]; rfl
    · simp [h1, h2]; rfl
/-- an array of ints by a function -/
def vals (n : Nat) (h : Nat → Int) : List Value := (List.range n).map (fun j => .int (iI (h j)))
theorem vals_len (n : Nat) (h : Nat → Int) : (vals n h).length = n := by simp [vals]
theorem vals_at {n j : Nat} (h : Nat → Int) (hj : j < n) : (vals n h)[j]? = some (.int (iI (h j))) := by simp [vals, hj]
def up (h : Nat → Int) (k : Nat) (x : Int) : Nat → Int := fun j => if j = k then x else h j
theorem up_eq (h : Nat → Int) (k : Nat) (x : Int) : up h k x k = x := by simp [up]
theorem up_ne (h : Nat → Int) {k j : Nat} (x : Int) (e : j ≠ k) : up h k x j = h j := by simp [up, e]
theorem vals_set (n k : Nat) (h : Nat → Int) (x : Int) : (vals n h).set k (.int (iI x)) = vals n (up h k x) := by
  apply List.ext_getElem?
  intro j
  by_cases e : k = j
  · subst e
    by_cases hk : k < n
    · rw [List.getElem?_set_self (by rw [vals_len]; exact hk), vals_at _ hk, up_eq]
    · rw [List.getElem?_eq_none (by simp [vals]; omega), List.getElem?_eq_none (by simp [vals]; omega)]
  · rw [List.getElem?_set_ne e]
    by_cases hj : j < n
    · rw [vals_at _ hj, vals_at _ hj, up_ne _ _ (Ne.symm e)]
    · rw [List.getElem?_eq_none (by simp [vals]; omega), List.getElem?_eq_none (by simp [vals]; omega)]
theorem vals_congr {n : Nat} {h h' : Nat → Int} (e : ∀ j, j < n → h j = h' j) : vals n h = vals n h' := by
  unfold vals
  apply List.map_congr_left
  intro j hj
  rw [e j (List.mem_range.mp hj)]
theorem mem_at {g : Mem} {k : Nat} {c : Cel} : va_up g k c k = c := va_up_self g k c
theorem mem_ne {g : Mem} {k j : Nat} {c c' : Cel} (e : j ≠ k) (h : g j = c') : va_up g k c j = c' := by rw [va_up_ne _ _ e]; exact h
theorem mem_uu (g : Mem) (k : Nat) (c c' : Cel) : va_up (va_up g k c) k c' = va_up g k c' := bx_uu g k c c'
end
section
/-! the judgement and its rows -/
def tblG : List Cond := lw_tbl.filter goodWord
def aoI (U : State) : Prop := (Cond.arrayOver (.array .int)).before #[] U = true
theorem aoI.moved {u U : State} (hvm : u.vm.Alike U.vm) (h : aoI u) : aoI U := by
  obtain ⟨comp, c, k, h1, h2, h3, h4, h5⟩ := arrayOverA_spec (args := #[]) (first := u) (o := none) (idx := []) h
  obtain ⟨k', hk', he⟩ := hvm.2.2 _ _ h3
  have hi : (U.vm.classes.findIdx? fun (x : Class) => match x.kind with | .array component _ => component == comp | _ => false) = some c := by
    refine Eq.trans (va_idx_bare U.vm comp).symm ?_
    first | rw [hvm.bare_eq] | rw [← hvm.bare_eq]
    exact (va_idx_bare u.vm comp).trans h2
  have hkind : k'.kind = .array comp (.array .int) := by rw [he]; exact h4
  have f1 : U.vm.findClass (FieldType.array .int).toString = some comp := by rw [hvm.findClass]; exact h1
  have f2 : U.vm.findClass ("[" ++ (FieldType.array .int).toString) = some c := by rw [hvm.findClass]; exact h5
  unfold aoI Cond.before Cond.holds
  simp only [Cond.value]
  rw [f1, Option.bind_some]
  refine (congrArg (fun o : Option Nat => (o.bind (fun c => (U.vm.classes[c]?).map fun (k : Class) => match k.kind with | .array _ ty => decide (ty = FieldType.array .int) && decide (U.vm.findClass ("[" ++ (FieldType.array .int).toString) = some c) | _ => false) == some true)) hi).trans ?_
  simp [hk', hkind, f2]
def NestOK (U : State) : Prop := (∀ a i x h, Cond.methodLinkNest a i x h ∈ lw_tbl → va_Nw (.methodLinkNest a i x h) U) ∧ (∀ C, Cond.arrayOver (.object C) ∈ lw_tbl → va_AO C U) ∧ aoI U
abbrev ZX : Type := Program × Launch × Env × Room × State × MethodId × Array Value × List Frame × Method × Code × (State → Prop) × Nat
def Zc (X : ZX) (pc : Nat) (ls : List (Option Value)) (st : List Value) (N : Nat) (g : Mem) (cells slots : Nat) : Prop := match X with
  | (p, l, e, R, s, m, args, below, meth, c, Q, B) => ∀ (H : Heap) (locs : List Loc) (lsA : Array Slot), lh B lsA ls → Wd B N g s H → va_S (fun q => B ≤ q) s.heap H locs → W p l e R s m args below meth c H locs cells slots Q (F0 m pc lsA (st.map (mv B)))
def Ev (X : ZX) (own : String) (cc : ByteArray) (nL : Nat) (rm : Room) (nm : String) : Prop := match X with
  | (p, _, _, R, s, m, args, _, meth, c, _, _) => p.tables.exec = Jvm.exec ∧ c.code = cc ∧ c.maxLocals = nL ∧ s.vm.findClass own = some m.cls ∧ (∀ w ∈ tblG, w.before args s = true) ∧ R = rm ∧ meth.name = nm ∧ NestOK s
def Qk (B N : Nat) (P : Option Value → Mem → Prop) : Array Value → State → Outcome → State → Prop := fun _ st oc t => ∃ (r : Option Value) (g : Mem), oc = .returned (r.map (mv B)) ∧ P r g ∧ Wd B N g t t.heap ∧ ∀ q : Nat, q < B → t.heap[q]? = st.heap[q]?
def Rt (X : ZX) (rty : Option FieldType) (N : Nat) (P : Option Value → Mem → Prop) (mc ms : Nat) : Prop := match X with
  | (_, _, _, _, s, _, args, below, meth, _, Q, B) => meth.sig.returnType = rty ∧ meth.locks = false ∧ B ≤ s.heap.size ∧ Q = MQ below (Qk B N P) args s mc ms (fun q => B ≤ q)
section ROWS
variable {X : ZX} {own nm : String} {cc : ByteArray} {nL : Nat} {rm : Room} {pc : Nat} {ls ls' : List (Option Value)} {st : List Value} {N : Nat} {g : Mem} {cells slots : Nat}
theorem z_iconst (E : Ev X own cc nL rm nm) {n : Int} (hd : decode cc pc = .ok (.iconst n, 1)) (k : Zc X (pc + 1) ls (.int (iI n) :: st) N g cells slots) : Zc X pc ls st N g cells slots := by
  obtain ⟨p, l, e, R, s, m, args, below, meth, c, Q, B⟩ := X
  obtain ⟨hx, hb, hml, hown, hts, hR, hnm, hNs⟩ := E
  intro H locs lsA hl hW hS
  refine lv_iconst hx hb hd rfl ?_
  exact k H locs lsA hl hW hS
theorem bip_I {n : Int} (h : -128 ≤ n ∧ n < 128) : (Int8.ofInt n).toInt32 = iI n := by
  rw [← Int32.toInt_inj, Int8.toInt_toInt32, Int8.toInt_ofInt_of_le h.1 h.2, iI_toInt ⟨by omega, by omega⟩]
theorem sip_I {n : Int} (h : -32768 ≤ n ∧ n < 32768) : (Int16.ofInt n).toInt32 = iI n := by
  rw [← Int32.toInt_inj, Int16.toInt_toInt32, Int16.toInt_ofInt_of_le h.1 h.2, iI_toInt ⟨by omega, by omega⟩]
theorem z_bipush (E : Ev X own cc nL rm nm) {n : Int} (hn : -128 ≤ n ∧ n < 128) (hd : decode cc pc = .ok (.bipush n, 2)) (k : Zc X (pc + 2) ls (.int (iI n) :: st) N g cells slots) : Zc X pc ls st N g cells slots := by
  obtain ⟨p, l, e, R, s, m, args, below, meth, c, Q, B⟩ := X
  obtain ⟨hx, hb, hml, hown, hts, hR, hnm, hNs⟩ := E
  intro H locs lsA hl hW hS
  refine lv_bipush hx hb hd (bip_I hn) ?_
  exact k H locs lsA hl hW hS
theorem z_sipush (E : Ev X own cc nL rm nm) {n : Int} (hn : -32768 ≤ n ∧ n < 32768) (hd : decode cc pc = .ok (.sipush n, 3)) (k : Zc X (pc + 3) ls (.int (iI n) :: st) N g cells slots) : Zc X pc ls st N g cells slots := by
  obtain ⟨p, l, e, R, s, m, args, below, meth, c, Q, B⟩ := X
  obtain ⟨hx, hb, hml, hown, hts, hR, hnm, hNs⟩ := E
  intro H locs lsA hl hW hS
  refine lv_sipush hx hb hd (sip_I hn) ?_
  exact k H locs lsA hl hW hS
theorem z_lconst (E : Ev X own cc nL rm nm) {n : Fin 2} {z : Int} (hz : Int64.ofNat (n : Nat) = lI z) (hd : decode cc pc = .ok (.lconst n, 1)) (k : Zc X (pc + 1) ls (.long (lI z) :: st) N g cells slots) : Zc X pc ls st N g cells slots := by
  obtain ⟨p, l, e, R, s, m, args, below, meth, c, Q, B⟩ := X
  obtain ⟨hx, hb, hml, hown, hts, hR, hnm, hNs⟩ := E
  intro H locs lsA hl hW hS
  refine lv_lconst hx hb hd hz ?_
  exact k H locs lsA hl hW hS
theorem z_ldc (E : Ev X own cc nL rm nm) {idx : Nat} {v : Int32} {z : Int} (hc : Cond.constant own idx v ∈ tblG) (hv : v = iI z) (hd : decode cc pc = .ok (.ldc idx, 2)) (k : Zc X (pc + 2) ls (.int (iI z) :: st) N g cells slots) : Zc X pc ls st N g cells slots := by
  obtain ⟨p, l, e, R, s, m, args, below, meth, c, Q, B⟩ := X
  obtain ⟨hx, hb, hml, hown, hts, hR, hnm, hNs⟩ := E
  intro H locs lsA hl hW hS
  subst hv
  exact lv_ldc hx hb hown (hts _ hc) hd (k H locs lsA hl hW hS)
theorem z_ldc2 (E : Ev X own cc nL rm nm) {idx : Nat} {v : Int64} {z : Int} (hc : Cond.constantLong own idx v ∈ tblG) (hv : v = lI z) (hd : decode cc pc = .ok (.ldc2_w idx, 3)) (k : Zc X (pc + 3) ls (.long (lI z) :: st) N g cells slots) : Zc X pc ls st N g cells slots := by
  obtain ⟨p, l, e, R, s, m, args, below, meth, c, Q, B⟩ := X
  obtain ⟨hx, hb, hml, hown, hts, hR, hnm, hNs⟩ := E
  intro H locs lsA hl hW hS
  subst hv
  exact lv_ldc2 hx hb hown (hts _ hc) hd (k H locs lsA hl hW hS)
theorem z_iload_n (E : Ev X own cc nL rm nm) {n : Fin 4} {x : Int32} (hd : decode cc pc = .ok (.iload_n n, 1)) (hv : ls[(n : Nat)]? = some (some (.int x))) (k : Zc X (pc + 1) ls (.int x :: st) N g cells slots) : Zc X pc ls st N g cells slots := by
  obtain ⟨p, l, e, R, s, m, args, below, meth, c, Q, B⟩ := X
  obtain ⟨hx, hb, hml, hown, hts, hR, hnm, hNs⟩ := E
  intro H locs lsA hl hW hS
  exact lv_iload_n hx hb hd rfl (hl.2.2 _ _ hv) (k H locs lsA hl hW hS)
theorem z_iload (E : Ev X own cc nL rm nm) {n : Nat} {x : Int32} (hd : decode cc pc = .ok (.iload n, 2)) (hv : ls[n]? = some (some (.int x))) (k : Zc X (pc + 2) ls (.int x :: st) N g cells slots) : Zc X pc ls st N g cells slots := by
  obtain ⟨p, l, e, R, s, m, args, below, meth, c, Q, B⟩ := X
  obtain ⟨hx, hb, hml, hown, hts, hR, hnm, hNs⟩ := E
  intro H locs lsA hl hW hS
  exact lv_iload hx hb hd (hl.2.2 _ _ hv) (k H locs lsA hl hW hS)
theorem z_lload_n (E : Ev X own cc nL rm nm) {n : Fin 4} {x : Int64} (hd : decode cc pc = .ok (.lload_n n, 1)) (hv : ls[(n : Nat)]? = some (some (.long x))) (k : Zc X (pc + 1) ls (.long x :: st) N g cells slots) : Zc X pc ls st N g cells slots := by
  obtain ⟨p, l, e, R, s, m, args, below, meth, c, Q, B⟩ := X
  obtain ⟨hx, hb, hml, hown, hts, hR, hnm, hNs⟩ := E
  intro H locs lsA hl hW hS
  exact lv_lload_n hx hb hd rfl (hl.2.2 _ _ hv) (k H locs lsA hl hW hS)
theorem z_lload (E : Ev X own cc nL rm nm) {n : Nat} {x : Int64} (hd : decode cc pc = .ok (.lload n, 2)) (hv : ls[n]? = some (some (.long x))) (k : Zc X (pc + 2) ls (.long x :: st) N g cells slots) : Zc X pc ls st N g cells slots := by
  obtain ⟨p, l, e, R, s, m, args, below, meth, c, Q, B⟩ := X
  obtain ⟨hx, hb, hml, hown, hts, hR, hnm, hNs⟩ := E
  intro H locs lsA hl hW hS
  exact lv_lload hx hb hd (hl.2.2 _ _ hv) (k H locs lsA hl hW hS)
theorem z_aload_n (E : Ev X own cc nL rm nm) {n : Fin 4} {x : Nat} (hd : decode cc pc = .ok (.aload_n n, 1)) (hv : ls[(n : Nat)]? = some (some (.ref x))) (k : Zc X (pc + 1) ls (.ref x :: st) N g cells slots) : Zc X pc ls st N g cells slots := by
  obtain ⟨p, l, e, R, s, m, args, below, meth, c, Q, B⟩ := X
  obtain ⟨hx, hb, hml, hown, hts, hR, hnm, hNs⟩ := E
  intro H locs lsA hl hW hS
  exact lv_aload_n hx hb hd rfl (hl.2.2 _ _ hv) (k H locs lsA hl hW hS)
theorem z_aload (E : Ev X own cc nL rm nm) {n : Nat} {x : Nat} (hd : decode cc pc = .ok (.aload n, 2)) (hv : ls[n]? = some (some (.ref x))) (k : Zc X (pc + 2) ls (.ref x :: st) N g cells slots) : Zc X pc ls st N g cells slots := by
  obtain ⟨p, l, e, R, s, m, args, below, meth, c, Q, B⟩ := X
  obtain ⟨hx, hb, hml, hown, hts, hR, hnm, hNs⟩ := E
  intro H locs lsA hl hW hS
  exact lv_aload hx hb hd (hl.2.2 _ _ hv) (k H locs lsA hl hW hS)
theorem z_istore_n (E : Ev X own cc nL rm nm) {n : Fin 4} {i : Nat} (hi : (n : Nat) = i) {x : Int32} (hd : decode cc pc = .ok (.istore_n n, 1)) (hn : i < ls.length) (hs : sL1 ls i (.int x) = ls') (k : Zc X (pc + 1) ls' st N g cells slots) : Zc X pc ls (.int x :: st) N g cells slots := by
  obtain ⟨p, l, e, R, s, m, args, below, meth, c, Q, B⟩ := X
  obtain ⟨hx, hb, hml, hown, hts, hR, hnm, hNs⟩ := E
  intro H locs lsA hl hW hS
  subst hs
  exact lv_istore_n hx hb hd hi hl.has hn rfl (fun A1 h1 => k H locs A1 (lh.st1 (l' := []) (lsA := lsA) (v := .int x) h1) hW hS)
theorem z_istore (E : Ev X own cc nL rm nm) {i : Nat} {x : Int32} (hd : decode cc pc = .ok (.istore i, 2)) (hn : i < ls.length) (hs : sL1 ls i (.int x) = ls') (k : Zc X (pc + 2) ls' st N g cells slots) : Zc X pc ls (.int x :: st) N g cells slots := by
  obtain ⟨p, l, e, R, s, m, args, below, meth, c, Q, B⟩ := X
  obtain ⟨hx, hb, hml, hown, hts, hR, hnm, hNs⟩ := E
  intro H locs lsA hl hW hS
  subst hs
  exact lv_istore hx hb hd hl.has hn rfl (fun A1 h1 => k H locs A1 (lh.st1 (l' := []) (lsA := lsA) (v := .int x) h1) hW hS)
theorem z_astore_n (E : Ev X own cc nL rm nm) {n : Fin 4} {i : Nat} (hi : (n : Nat) = i) {x : Nat} (hd : decode cc pc = .ok (.astore_n n, 1)) (hn : i < ls.length) (hs : sL1 ls i (.ref x) = ls') (k : Zc X (pc + 1) ls' st N g cells slots) : Zc X pc ls (.ref x :: st) N g cells slots := by
  obtain ⟨p, l, e, R, s, m, args, below, meth, c, Q, B⟩ := X
  obtain ⟨hx, hb, hml, hown, hts, hR, hnm, hNs⟩ := E
  intro H locs lsA hl hW hS
  subst hs
  exact lv_astore_n hx hb hd hi hl.has hn rfl (fun A1 h1 => k H locs A1 (lh.st1 (l' := []) (lsA := lsA) (v := .ref x) h1) hW hS)
theorem z_astore (E : Ev X own cc nL rm nm) {i : Nat} {x : Nat} (hd : decode cc pc = .ok (.astore i, 2)) (hn : i < ls.length) (hs : sL1 ls i (.ref x) = ls') (k : Zc X (pc + 2) ls' st N g cells slots) : Zc X pc ls (.ref x :: st) N g cells slots := by
  obtain ⟨p, l, e, R, s, m, args, below, meth, c, Q, B⟩ := X
  obtain ⟨hx, hb, hml, hown, hts, hR, hnm, hNs⟩ := E
  intro H locs lsA hl hW hS
  subst hs
  exact lv_astore hx hb hd hl.has hn rfl (fun A1 h1 => k H locs A1 (lh.st1 (l' := []) (lsA := lsA) (v := .ref x) h1) hW hS)
theorem z_lstore_n (E : Ev X own cc nL rm nm) {n : Fin 4} {i : Nat} (hi : (n : Nat) = i) {x : Int64} (hd : decode cc pc = .ok (.lstore_n n, 1)) (hn : i + 1 < ls.length) (hs : sL2 ls i (.long x) = ls') (k : Zc X (pc + 1) ls' st N g cells slots) : Zc X pc ls (.long x :: st) N g cells slots := by
  obtain ⟨p, l, e, R, s, m, args, below, meth, c, Q, B⟩ := X
  obtain ⟨hx, hb, hml, hown, hts, hR, hnm, hNs⟩ := E
  intro H locs lsA hl hW hS
  subst hs
  exact lv_lstore_n hx hb hd hi hl.has hn rfl (fun A1 h1 => k H locs A1 (lh.st2 (lsA := lsA) (v := .long x) h1) hW hS)
theorem z_lstore (E : Ev X own cc nL rm nm) {i : Nat} {x : Int64} (hd : decode cc pc = .ok (.lstore i, 2)) (hn : i + 1 < ls.length) (hs : sL2 ls i (.long x) = ls') (k : Zc X (pc + 2) ls' st N g cells slots) : Zc X pc ls (.long x :: st) N g cells slots := by
  obtain ⟨p, l, e, R, s, m, args, below, meth, c, Q, B⟩ := X
  obtain ⟨hx, hb, hml, hown, hts, hR, hnm, hNs⟩ := E
  intro H locs lsA hl hW hS
  subst hs
  exact lv_lstore hx hb hd hl.has hn rfl (fun A1 h1 => k H locs A1 (lh.st2 (lsA := lsA) (v := .long x) h1) hW hS)
theorem z_iinc (E : Ev X own cc nL rm nm) {i : Nat} {n x : Int} (hd : decode cc pc = .ok (.iinc i n, 3)) (hv : ls[i]? = some (some (.int (iI x)))) (hs : sL1 ls i (.int (iI (x + n))) = ls') (k : Zc X (pc + 3) ls' st N g cells slots) : Zc X pc ls st N g cells slots := by
  obtain ⟨p, l, e, R, s, m, args, below, meth, c, Q, B⟩ := X
  obtain ⟨hx, hb, hml, hown, hts, hR, hnm, hNs⟩ := E
  intro H locs lsA hl hW hS
  subst hs
  obtain ⟨j, hj⟩ := List.getElem?_of_mem (lpairs_mem (B := B) (q := (i, .int (iI x))).mpr ⟨_, hv, rfl⟩)
  exact lv_iinc (v := iI (x + n)) hx hb hd hl.has hj (iI_add x n) (List.getElem?_eq_some_iff.mp hv).1 rfl (fun A1 h1 => k H locs A1 (lh.st1 (l' := []) (lsA := lsA) (v := .int (iI (x + n))) h1) hW hS)
theorem z_iadd (E : Ev X own cc nL rm nm) {x y : Int} (hd : decode cc pc = .ok (.iadd, 1)) (k : Zc X (pc + 1) ls (.int (iI (x + y)) :: st) N g cells slots) : Zc X pc ls (.int (iI y) :: .int (iI x) :: st) N g cells slots := by
  obtain ⟨p, l, e, R, s, m, args, below, meth, c, Q, B⟩ := X
  obtain ⟨hx, hb, hml, hown, hts, hR, hnm, hNs⟩ := E
  intro H locs lsA hl hW hS
  show W p l e R s m args below meth c H locs cells slots Q (F0 m pc lsA (.int (iI y) :: .int (iI x) :: st.map (mv B)))
  refine lv_iadd hx hb hd ?_
  rw [iI_add]
  exact k H locs lsA hl hW hS
theorem z_isub (E : Ev X own cc nL rm nm) {x y : Int} (hd : decode cc pc = .ok (.isub, 1)) (k : Zc X (pc + 1) ls (.int (iI (x - y)) :: st) N g cells slots) : Zc X pc ls (.int (iI y) :: .int (iI x) :: st) N g cells slots := by
  obtain ⟨p, l, e, R, s, m, args, below, meth, c, Q, B⟩ := X
  obtain ⟨hx, hb, hml, hown, hts, hR, hnm, hNs⟩ := E
  intro H locs lsA hl hW hS
  show W p l e R s m args below meth c H locs cells slots Q (F0 m pc lsA (.int (iI y) :: .int (iI x) :: st.map (mv B)))
  refine lv_isub hx hb hd ?_
  rw [iI_sub]
  exact k H locs lsA hl hW hS
theorem z_imul (E : Ev X own cc nL rm nm) {x y : Int} (hd : decode cc pc = .ok (.imul, 1)) (k : Zc X (pc + 1) ls (.int (iI (x * y)) :: st) N g cells slots) : Zc X pc ls (.int (iI y) :: .int (iI x) :: st) N g cells slots := by
  obtain ⟨p, l, e, R, s, m, args, below, meth, c, Q, B⟩ := X
  obtain ⟨hx, hb, hml, hown, hts, hR, hnm, hNs⟩ := E
  intro H locs lsA hl hW hS
  show W p l e R s m args below meth c H locs cells slots Q (F0 m pc lsA (.int (iI y) :: .int (iI x) :: st.map (mv B)))
  refine lv_imul hx hb hd ?_
  rw [iI_mul]
  exact k H locs lsA hl hW hS
theorem z_ladd (E : Ev X own cc nL rm nm) {x y : Int} (hd : decode cc pc = .ok (.ladd, 1)) (k : Zc X (pc + 1) ls (.long (lI (x + y)) :: st) N g cells slots) : Zc X pc ls (.long (lI y) :: .long (lI x) :: st) N g cells slots := by
  obtain ⟨p, l, e, R, s, m, args, below, meth, c, Q, B⟩ := X
  obtain ⟨hx, hb, hml, hown, hts, hR, hnm, hNs⟩ := E
  intro H locs lsA hl hW hS
  show W p l e R s m args below meth c H locs cells slots Q (F0 m pc lsA (.long (lI y) :: .long (lI x) :: st.map (mv B)))
  refine lv_ladd hx hb hd ?_
  rw [lI_add]
  exact k H locs lsA hl hW hS
theorem z_lsub (E : Ev X own cc nL rm nm) {x y : Int} (hd : decode cc pc = .ok (.lsub, 1)) (k : Zc X (pc + 1) ls (.long (lI (x - y)) :: st) N g cells slots) : Zc X pc ls (.long (lI y) :: .long (lI x) :: st) N g cells slots := by
  obtain ⟨p, l, e, R, s, m, args, below, meth, c, Q, B⟩ := X
  obtain ⟨hx, hb, hml, hown, hts, hR, hnm, hNs⟩ := E
  intro H locs lsA hl hW hS
  show W p l e R s m args below meth c H locs cells slots Q (F0 m pc lsA (.long (lI y) :: .long (lI x) :: st.map (mv B)))
  refine lv_lsub hx hb hd ?_
  rw [lI_sub]
  exact k H locs lsA hl hW hS
theorem z_lmul (E : Ev X own cc nL rm nm) {x y : Int} (hd : decode cc pc = .ok (.lmul, 1)) (k : Zc X (pc + 1) ls (.long (lI (x * y)) :: st) N g cells slots) : Zc X pc ls (.long (lI y) :: .long (lI x) :: st) N g cells slots := by
  obtain ⟨p, l, e, R, s, m, args, below, meth, c, Q, B⟩ := X
  obtain ⟨hx, hb, hml, hown, hts, hR, hnm, hNs⟩ := E
  intro H locs lsA hl hW hS
  show W p l e R s m args below meth c H locs cells slots Q (F0 m pc lsA (.long (lI y) :: .long (lI x) :: st.map (mv B)))
  refine lv_lmul hx hb hd ?_
  rw [lI_mul]
  exact k H locs lsA hl hW hS
theorem z_ineg (E : Ev X own cc nL rm nm) {x : Int} (hd : decode cc pc = .ok (.ineg, 1)) (k : Zc X (pc + 1) ls (.int (iI (-x)) :: st) N g cells slots) : Zc X pc ls (.int (iI x) :: st) N g cells slots := by
  obtain ⟨p, l, e, R, s, m, args, below, meth, c, Q, B⟩ := X
  obtain ⟨hx, hb, hml, hown, hts, hR, hnm, hNs⟩ := E
  intro H locs lsA hl hW hS
  show W p l e R s m args below meth c H locs cells slots Q (F0 m pc lsA (.int (iI x) :: st.map (mv B)))
  refine lv_ineg hx hb hd ?_
  rw [iI_neg]
  exact k H locs lsA hl hW hS
theorem z_lneg (E : Ev X own cc nL rm nm) {x : Int} (hd : decode cc pc = .ok (.lneg, 1)) (k : Zc X (pc + 1) ls (.long (lI (-x)) :: st) N g cells slots) : Zc X pc ls (.long (lI x) :: st) N g cells slots := by
  obtain ⟨p, l, e, R, s, m, args, below, meth, c, Q, B⟩ := X
  obtain ⟨hx, hb, hml, hown, hts, hR, hnm, hNs⟩ := E
  intro H locs lsA hl hW hS
  show W p l e R s m args below meth c H locs cells slots Q (F0 m pc lsA (.long (lI x) :: st.map (mv B)))
  refine lv_lneg hx hb hd ?_
  rw [lI_neg]
  exact k H locs lsA hl hW hS
theorem iI_ne0 {y : Int} (hy : inR y) (h0 : 0 < y) : ¬ iI y = 0 := by
  rw [← iI_0, iI_eq hy ⟨by omega, by omega⟩]; omega
theorem lI_ne0 {y : Int} (hy : inL y) (h0 : 0 < y) : ¬ lI y = 0 := by
  rw [← lI_0, lI_eq hy ⟨by omega, by omega⟩]; omega
theorem z_irem (E : Ev X own cc nL rm nm) {x y z : Int} (hx0 : inR x) (hy : inR y) (h0 : 0 < y) (hz : x.tmod y = z) (hd : decode cc pc = .ok (.irem, 1)) (k : Zc X (pc + 1) ls (.int (iI z) :: st) N g cells slots) : Zc X pc ls (.int (iI y) :: .int (iI x) :: st) N g cells slots := by
  obtain ⟨p, l, e, R, s, m, args, below, meth, c, Q, B⟩ := X
  obtain ⟨hx, hb, hml, hown, hts, hR, hnm, hNs⟩ := E
  intro H locs lsA hl hW hS
  show W p l e R s m args below meth c H locs cells slots Q (F0 m pc lsA (.int (iI y) :: .int (iI x) :: st.map (mv B)))
  refine lv_irem hx hb hd (iI_ne0 hy h0) ?_
  rw [iI_rem hx0 hy h0, hz]
  exact k H locs lsA hl hW hS
theorem z_idiv (E : Ev X own cc nL rm nm) {x y z : Int} (hx0 : inR x) (hy : inR y) (h0 : 0 < y) (hz : x.tdiv y = z) (hd : decode cc pc = .ok (.idiv, 1)) (k : Zc X (pc + 1) ls (.int (iI z) :: st) N g cells slots) : Zc X pc ls (.int (iI y) :: .int (iI x) :: st) N g cells slots := by
  obtain ⟨p, l, e, R, s, m, args, below, meth, c, Q, B⟩ := X
  obtain ⟨hx, hb, hml, hown, hts, hR, hnm, hNs⟩ := E
  intro H locs lsA hl hW hS
  show W p l e R s m args below meth c H locs cells slots Q (F0 m pc lsA (.int (iI y) :: .int (iI x) :: st.map (mv B)))
  refine lv_idiv hx hb hd (iI_ne0 hy h0) ?_
  rw [iI_div hx0 hy h0, hz]
  exact k H locs lsA hl hW hS
theorem z_lrem (E : Ev X own cc nL rm nm) {x y z : Int} (hx0 : inL x) (hy : inL y) (h0 : 0 < y) (hz : x.tmod y = z) (hd : decode cc pc = .ok (.lrem, 1)) (k : Zc X (pc + 1) ls (.long (lI z) :: st) N g cells slots) : Zc X pc ls (.long (lI y) :: .long (lI x) :: st) N g cells slots := by
  obtain ⟨p, l, e, R, s, m, args, below, meth, c, Q, B⟩ := X
  obtain ⟨hx, hb, hml, hown, hts, hR, hnm, hNs⟩ := E
  intro H locs lsA hl hW hS
  show W p l e R s m args below meth c H locs cells slots Q (F0 m pc lsA (.long (lI y) :: .long (lI x) :: st.map (mv B)))
  refine lv_lrem hx hb hd (lI_ne0 hy h0) ?_
  rw [lI_rem hx0 hy h0, hz]
  exact k H locs lsA hl hW hS
theorem z_i2l (E : Ev X own cc nL rm nm) {x : Int} (hx0 : inR x) (hd : decode cc pc = .ok (.i2l, 1)) (k : Zc X (pc + 1) ls (.long (lI x) :: st) N g cells slots) : Zc X pc ls (.int (iI x) :: st) N g cells slots := by
  obtain ⟨p, l, e, R, s, m, args, below, meth, c, Q, B⟩ := X
  obtain ⟨hx, hb, hml, hown, hts, hR, hnm, hNs⟩ := E
  intro H locs lsA hl hW hS
  refine lv_i2l hx hb hd (i2l_I hx0) ?_
  exact k H locs lsA hl hW hS
theorem z_l2i (E : Ev X own cc nL rm nm) {x : Int} (hd : decode cc pc = .ok (.l2i, 1)) (k : Zc X (pc + 1) ls (.int (iI x) :: st) N g cells slots) : Zc X pc ls (.long (lI x) :: st) N g cells slots := by
  obtain ⟨p, l, e, R, s, m, args, below, meth, c, Q, B⟩ := X
  obtain ⟨hx, hb, hml, hown, hts, hR, hnm, hNs⟩ := E
  intro H locs lsA hl hW hS
  refine lv_l2i hx hb hd (l2i_I x) ?_
  exact k H locs lsA hl hW hS
theorem z_i2b (E : Ev X own cc nL rm nm) {x : Int} (hd : decode cc pc = .ok (.i2b, 1)) (k : Zc X (pc + 1) ls (.int (iI (x.bmod 256)) :: st) N g cells slots) : Zc X pc ls (.int (iI x) :: st) N g cells slots := by
  obtain ⟨p, l, e, R, s, m, args, below, meth, c, Q, B⟩ := X
  obtain ⟨hx, hb, hml, hown, hts, hR, hnm, hNs⟩ := E
  intro H locs lsA hl hW hS
  refine lv_i2b hx hb hd (i2b_I x) ?_
  exact k H locs lsA hl hW hS
theorem z_i2s (E : Ev X own cc nL rm nm) {x : Int} (hd : decode cc pc = .ok (.i2s, 1)) (k : Zc X (pc + 1) ls (.int (iI (x.bmod 65536)) :: st) N g cells slots) : Zc X pc ls (.int (iI x) :: st) N g cells slots := by
  obtain ⟨p, l, e, R, s, m, args, below, meth, c, Q, B⟩ := X
  obtain ⟨hx, hb, hml, hown, hts, hR, hnm, hNs⟩ := E
  intro H locs lsA hl hW hS
  refine lv_i2s hx hb hd (i2s_I x) ?_
  exact k H locs lsA hl hW hS
theorem z_iand (E : Ev X own cc nL rm nm) {x y : Int32} {z : Int} (hz : x &&& y = iI z) (hd : decode cc pc = .ok (.iand, 1)) (k : Zc X (pc + 1) ls (.int (iI z) :: st) N g cells slots) : Zc X pc ls (.int y :: .int x :: st) N g cells slots := by
  obtain ⟨p, l, e, R, s, m, args, below, meth, c, Q, B⟩ := X
  obtain ⟨hx, hb, hml, hown, hts, hR, hnm, hNs⟩ := E
  intro H locs lsA hl hW hS
  show W p l e R s m args below meth c H locs cells slots Q (F0 m pc lsA (.int y :: .int x :: st.map (mv B)))
  refine lv_iand hx hb hd ?_
  rw [hz]
  exact k H locs lsA hl hW hS
theorem z_ixor (E : Ev X own cc nL rm nm) {x y : Int32} {z : Int} (hz : x ^^^ y = iI z) (hd : decode cc pc = .ok (.ixor, 1)) (k : Zc X (pc + 1) ls (.int (iI z) :: st) N g cells slots) : Zc X pc ls (.int y :: .int x :: st) N g cells slots := by
  obtain ⟨p, l, e, R, s, m, args, below, meth, c, Q, B⟩ := X
  obtain ⟨hx, hb, hml, hown, hts, hR, hnm, hNs⟩ := E
  intro H locs lsA hl hW hS
  show W p l e R s m args below meth c H locs cells slots Q (F0 m pc lsA (.int y :: .int x :: st.map (mv B)))
  refine lv_ixor hx hb hd ?_
  rw [hz]
  exact k H locs lsA hl hW hS
theorem z_ishr (E : Ev X own cc nL rm nm) {x y : Int32} {z : Int} (hz : x >>> (y &&& 31) = iI z) (hd : decode cc pc = .ok (.ishr, 1)) (k : Zc X (pc + 1) ls (.int (iI z) :: st) N g cells slots) : Zc X pc ls (.int y :: .int x :: st) N g cells slots := by
  obtain ⟨p, l, e, R, s, m, args, below, meth, c, Q, B⟩ := X
  obtain ⟨hx, hb, hml, hown, hts, hR, hnm, hNs⟩ := E
  intro H locs lsA hl hW hS
  show W p l e R s m args below meth c H locs cells slots Q (F0 m pc lsA (.int y :: .int x :: st.map (mv B)))
  refine lv_ishr hx hb hd ?_
  rw [hz]
  exact k H locs lsA hl hW hS
theorem z_dup (E : Ev X own cc nL rm nm) {v : Value} (hd : decode cc pc = .ok (.dup, 1)) (hc : v.category = 1) (k : Zc X (pc + 1) ls (v :: v :: st) N g cells slots) : Zc X pc ls (v :: st) N g cells slots := by
  obtain ⟨p, l, e, R, s, m, args, below, meth, c, Q, B⟩ := X
  obtain ⟨hx, hb, hml, hown, hts, hR, hnm, hNs⟩ := E
  intro H locs lsA hl hW hS
  exact lv_dup hx hb hd (by rw [mv_cat]; exact hc) (k H locs lsA hl hW hS)
theorem z_pop (E : Ev X own cc nL rm nm) {v : Value} (hd : decode cc pc = .ok (.pop, 1)) (hc : v.category = 1) (k : Zc X (pc + 1) ls st N g cells slots) : Zc X pc ls (v :: st) N g cells slots := by
  obtain ⟨p, l, e, R, s, m, args, below, meth, c, Q, B⟩ := X
  obtain ⟨hx, hb, hml, hown, hts, hR, hnm, hNs⟩ := E
  intro H locs lsA hl hW hS
  exact lv_pop hx hb hd (by rw [mv_cat]; exact hc) (k H locs lsA hl hW hS)
theorem z_goto (E : Ev X own cc nL rm nm) {off : Int} {tgt : Nat} (hd : decode cc pc = .ok (.goto off, 3)) (ht : (pc : Int) + off = (tgt : Int)) (k : Zc X (tgt) ls st N g cells slots) : Zc X pc ls st N g cells slots := by
  obtain ⟨p, l, e, R, s, m, args, below, meth, c, Q, B⟩ := X
  obtain ⟨hx, hb, hml, hown, hts, hR, hnm, hNs⟩ := E
  intro H locs lsA hl hW hS
  exact lv_goto hx hb hd ht (k H locs lsA hl hW hS)
theorem iI_tri {x y : Int} (hx : inR x) (hy : inR y) : (iI x = iI y ↔ x = y) ∧ (iI x < iI y ↔ x < y) ∧ (iI x ≤ iI y ↔ x ≤ y) ∧ (iI y < iI x ↔ y < x) ∧ (iI y ≤ iI x ↔ y ≤ x) :=
  ⟨iI_eq hx hy, iI_lt hx hy, iI_le hx hy, iI_lt hy hx, iI_le hy hx⟩
theorem z_icmp_eq (E : Ev X own cc nL rm nm) {x y : Int} {off : Int} {tgt : Nat} (hx0 : inR x) (hy : inR y) (hd : decode cc pc = .ok (.if_icmp .eq off, 3)) (ht : (pc : Int) + off = (tgt : Int)) (kt : x = y → Zc X tgt ls st N g cells slots) (kf : x ≠ y → Zc X (pc + 3) ls st N g cells slots) : Zc X pc ls (.int (iI y) :: .int (iI x) :: st) N g cells slots := by
  obtain ⟨p, l, e, R, s, m, args, below, meth, c, Q, B⟩ := X
  obtain ⟨hx, hb, hml, hown, hts, hR, hnm, hNs⟩ := E
  intro H locs lsA hl hW hS
  obtain ⟨t1, t2, t3, t4, t5⟩ := iI_tri hx0 hy
  try rw [iI_0] at t1 t2 t3 t4 t5
  refine lv_icmp_eq hx hb hd ht (fun h => kt ?_ H locs lsA hl hW hS) (fun h => kf ?_ H locs lsA hl hW hS)
  · first | exact t1.mp h | exact t2.mp h | exact t3.mp h | exact t4.mp h | exact t5.mp h | exact fun q => h (t1.mpr q)
  · first | exact fun q => h (t1.mpr q) | exact Int.not_lt.mp (fun q => h (t2.mpr q)) | exact Int.not_le.mp (fun q => h (t3.mpr q)) | exact Int.not_lt.mp (fun q => h (t4.mpr q)) | exact Int.not_le.mp (fun q => h (t5.mpr q)) | exact t1.mp h
theorem z_if_eq (E : Ev X own cc nL rm nm) {x : Int} {off : Int} {tgt : Nat} (hx0 : inR x) (hd : decode cc pc = .ok (.ifCond .eq off, 3)) (ht : (pc : Int) + off = (tgt : Int)) (kt : x = 0 → Zc X tgt ls st N g cells slots) (kf : x ≠ 0 → Zc X (pc + 3) ls st N g cells slots) : Zc X pc ls (.int (iI x) :: st) N g cells slots := by
  obtain ⟨p, l, e, R, s, m, args, below, meth, c, Q, B⟩ := X
  obtain ⟨hx, hb, hml, hown, hts, hR, hnm, hNs⟩ := E
  intro H locs lsA hl hW hS
  obtain ⟨t1, t2, t3, t4, t5⟩ := iI_tri (y := 0) hx0 ⟨by omega, by omega⟩
  try rw [iI_0] at t1 t2 t3 t4 t5
  refine lv_if_eq hx hb hd ht (fun h => kt ?_ H locs lsA hl hW hS) (fun h => kf ?_ H locs lsA hl hW hS)
  · first | exact t1.mp h | exact t2.mp h | exact t3.mp h | exact t4.mp h | exact t5.mp h | exact fun q => h (t1.mpr q)
  · first | exact fun q => h (t1.mpr q) | exact Int.not_lt.mp (fun q => h (t2.mpr q)) | exact Int.not_le.mp (fun q => h (t3.mpr q)) | exact Int.not_lt.mp (fun q => h (t4.mpr q)) | exact Int.not_le.mp (fun q => h (t5.mpr q)) | exact t1.mp h
theorem z_icmp_ne (E : Ev X own cc nL rm nm) {x y : Int} {off : Int} {tgt : Nat} (hx0 : inR x) (hy : inR y) (hd : decode cc pc = .ok (.if_icmp .ne off, 3)) (ht : (pc : Int) + off = (tgt : Int)) (kt : x ≠ y → Zc X tgt ls st N g cells slots) (kf : x = y → Zc X (pc + 3) ls st N g cells slots) : Zc X pc ls (.int (iI y) :: .int (iI x) :: st) N g cells slots := by
  obtain ⟨p, l, e, R, s, m, args, below, meth, c, Q, B⟩ := X
  obtain ⟨hx, hb, hml, hown, hts, hR, hnm, hNs⟩ := E
  intro H locs lsA hl hW hS
  obtain ⟨t1, t2, t3, t4, t5⟩ := iI_tri hx0 hy
  try rw [iI_0] at t1 t2 t3 t4 t5
  refine lv_icmp_ne hx hb hd ht (fun h => kt ?_ H locs lsA hl hW hS) (fun h => kf ?_ H locs lsA hl hW hS)
  · first | exact t1.mp h | exact t2.mp h | exact t3.mp h | exact t4.mp h | exact t5.mp h | exact fun q => h (t1.mpr q)
  · first | exact fun q => h (t1.mpr q) | exact Int.not_lt.mp (fun q => h (t2.mpr q)) | exact Int.not_le.mp (fun q => h (t3.mpr q)) | exact Int.not_lt.mp (fun q => h (t4.mpr q)) | exact Int.not_le.mp (fun q => h (t5.mpr q)) | exact t1.mp h
theorem z_if_ne (E : Ev X own cc nL rm nm) {x : Int} {off : Int} {tgt : Nat} (hx0 : inR x) (hd : decode cc pc = .ok (.ifCond .ne off, 3)) (ht : (pc : Int) + off = (tgt : Int)) (kt : x ≠ 0 → Zc X tgt ls st N g cells slots) (kf : x = 0 → Zc X (pc + 3) ls st N g cells slots) : Zc X pc ls (.int (iI x) :: st) N g cells slots := by
  obtain ⟨p, l, e, R, s, m, args, below, meth, c, Q, B⟩ := X
  obtain ⟨hx, hb, hml, hown, hts, hR, hnm, hNs⟩ := E
  intro H locs lsA hl hW hS
  obtain ⟨t1, t2, t3, t4, t5⟩ := iI_tri (y := 0) hx0 ⟨by omega, by omega⟩
  try rw [iI_0] at t1 t2 t3 t4 t5
  refine lv_if_ne hx hb hd ht (fun h => kt ?_ H locs lsA hl hW hS) (fun h => kf ?_ H locs lsA hl hW hS)
  · first | exact t1.mp h | exact t2.mp h | exact t3.mp h | exact t4.mp h | exact t5.mp h | exact fun q => h (t1.mpr q)
  · first | exact fun q => h (t1.mpr q) | exact Int.not_lt.mp (fun q => h (t2.mpr q)) | exact Int.not_le.mp (fun q => h (t3.mpr q)) | exact Int.not_lt.mp (fun q => h (t4.mpr q)) | exact Int.not_le.mp (fun q => h (t5.mpr q)) | exact t1.mp h
theorem z_icmp_lt (E : Ev X own cc nL rm nm) {x y : Int} {off : Int} {tgt : Nat} (hx0 : inR x) (hy : inR y) (hd : decode cc pc = .ok (.if_icmp .lt off, 3)) (ht : (pc : Int) + off = (tgt : Int)) (kt : x < y → Zc X tgt ls st N g cells slots) (kf : y ≤ x → Zc X (pc + 3) ls st N g cells slots) : Zc X pc ls (.int (iI y) :: .int (iI x) :: st) N g cells slots := by
  obtain ⟨p, l, e, R, s, m, args, below, meth, c, Q, B⟩ := X
  obtain ⟨hx, hb, hml, hown, hts, hR, hnm, hNs⟩ := E
  intro H locs lsA hl hW hS
  obtain ⟨t1, t2, t3, t4, t5⟩ := iI_tri hx0 hy
  try rw [iI_0] at t1 t2 t3 t4 t5
  refine lv_icmp_lt hx hb hd ht (fun h => kt ?_ H locs lsA hl hW hS) (fun h => kf ?_ H locs lsA hl hW hS)
  · first | exact t1.mp h | exact t2.mp h | exact t3.mp h | exact t4.mp h | exact t5.mp h | exact fun q => h (t1.mpr q)
  · first | exact fun q => h (t1.mpr q) | exact Int.not_lt.mp (fun q => h (t2.mpr q)) | exact Int.not_le.mp (fun q => h (t3.mpr q)) | exact Int.not_lt.mp (fun q => h (t4.mpr q)) | exact Int.not_le.mp (fun q => h (t5.mpr q)) | exact t1.mp h
theorem z_if_lt (E : Ev X own cc nL rm nm) {x : Int} {off : Int} {tgt : Nat} (hx0 : inR x) (hd : decode cc pc = .ok (.ifCond .lt off, 3)) (ht : (pc : Int) + off = (tgt : Int)) (kt : x < 0 → Zc X tgt ls st N g cells slots) (kf : 0 ≤ x → Zc X (pc + 3) ls st N g cells slots) : Zc X pc ls (.int (iI x) :: st) N g cells slots := by
  obtain ⟨p, l, e, R, s, m, args, below, meth, c, Q, B⟩ := X
  obtain ⟨hx, hb, hml, hown, hts, hR, hnm, hNs⟩ := E
  intro H locs lsA hl hW hS
  obtain ⟨t1, t2, t3, t4, t5⟩ := iI_tri (y := 0) hx0 ⟨by omega, by omega⟩
  try rw [iI_0] at t1 t2 t3 t4 t5
  refine lv_if_lt hx hb hd ht (fun h => kt ?_ H locs lsA hl hW hS) (fun h => kf ?_ H locs lsA hl hW hS)
  · first | exact t1.mp h | exact t2.mp h | exact t3.mp h | exact t4.mp h | exact t5.mp h | exact fun q => h (t1.mpr q)
  · first | exact fun q => h (t1.mpr q) | exact Int.not_lt.mp (fun q => h (t2.mpr q)) | exact Int.not_le.mp (fun q => h (t3.mpr q)) | exact Int.not_lt.mp (fun q => h (t4.mpr q)) | exact Int.not_le.mp (fun q => h (t5.mpr q)) | exact t1.mp h
theorem z_icmp_ge (E : Ev X own cc nL rm nm) {x y : Int} {off : Int} {tgt : Nat} (hx0 : inR x) (hy : inR y) (hd : decode cc pc = .ok (.if_icmp .ge off, 3)) (ht : (pc : Int) + off = (tgt : Int)) (kt : y ≤ x → Zc X tgt ls st N g cells slots) (kf : x < y → Zc X (pc + 3) ls st N g cells slots) : Zc X pc ls (.int (iI y) :: .int (iI x) :: st) N g cells slots := by
  obtain ⟨p, l, e, R, s, m, args, below, meth, c, Q, B⟩ := X
  obtain ⟨hx, hb, hml, hown, hts, hR, hnm, hNs⟩ := E
  intro H locs lsA hl hW hS
  obtain ⟨t1, t2, t3, t4, t5⟩ := iI_tri hx0 hy
  try rw [iI_0] at t1 t2 t3 t4 t5
  refine lv_icmp_ge hx hb hd ht (fun h => kt ?_ H locs lsA hl hW hS) (fun h => kf ?_ H locs lsA hl hW hS)
  · first | exact t1.mp h | exact t2.mp h | exact t3.mp h | exact t4.mp h | exact t5.mp h | exact fun q => h (t1.mpr q)
  · first | exact fun q => h (t1.mpr q) | exact Int.not_lt.mp (fun q => h (t2.mpr q)) | exact Int.not_le.mp (fun q => h (t3.mpr q)) | exact Int.not_lt.mp (fun q => h (t4.mpr q)) | exact Int.not_le.mp (fun q => h (t5.mpr q)) | exact t1.mp h
theorem z_if_ge (E : Ev X own cc nL rm nm) {x : Int} {off : Int} {tgt : Nat} (hx0 : inR x) (hd : decode cc pc = .ok (.ifCond .ge off, 3)) (ht : (pc : Int) + off = (tgt : Int)) (kt : 0 ≤ x → Zc X tgt ls st N g cells slots) (kf : x < 0 → Zc X (pc + 3) ls st N g cells slots) : Zc X pc ls (.int (iI x) :: st) N g cells slots := by
  obtain ⟨p, l, e, R, s, m, args, below, meth, c, Q, B⟩ := X
  obtain ⟨hx, hb, hml, hown, hts, hR, hnm, hNs⟩ := E
  intro H locs lsA hl hW hS
  obtain ⟨t1, t2, t3, t4, t5⟩ := iI_tri (y := 0) hx0 ⟨by omega, by omega⟩
  try rw [iI_0] at t1 t2 t3 t4 t5
  refine lv_if_ge hx hb hd ht (fun h => kt ?_ H locs lsA hl hW hS) (fun h => kf ?_ H locs lsA hl hW hS)
  · first | exact t1.mp h | exact t2.mp h | exact t3.mp h | exact t4.mp h | exact t5.mp h | exact fun q => h (t1.mpr q)
  · first | exact fun q => h (t1.mpr q) | exact Int.not_lt.mp (fun q => h (t2.mpr q)) | exact Int.not_le.mp (fun q => h (t3.mpr q)) | exact Int.not_lt.mp (fun q => h (t4.mpr q)) | exact Int.not_le.mp (fun q => h (t5.mpr q)) | exact t1.mp h
theorem z_icmp_gt (E : Ev X own cc nL rm nm) {x y : Int} {off : Int} {tgt : Nat} (hx0 : inR x) (hy : inR y) (hd : decode cc pc = .ok (.if_icmp .gt off, 3)) (ht : (pc : Int) + off = (tgt : Int)) (kt : y < x → Zc X tgt ls st N g cells slots) (kf : x ≤ y → Zc X (pc + 3) ls st N g cells slots) : Zc X pc ls (.int (iI y) :: .int (iI x) :: st) N g cells slots := by
  obtain ⟨p, l, e, R, s, m, args, below, meth, c, Q, B⟩ := X
  obtain ⟨hx, hb, hml, hown, hts, hR, hnm, hNs⟩ := E
  intro H locs lsA hl hW hS
  obtain ⟨t1, t2, t3, t4, t5⟩ := iI_tri hx0 hy
  try rw [iI_0] at t1 t2 t3 t4 t5
  refine lv_icmp_gt hx hb hd ht (fun h => kt ?_ H locs lsA hl hW hS) (fun h => kf ?_ H locs lsA hl hW hS)
  · first | exact t1.mp h | exact t2.mp h | exact t3.mp h | exact t4.mp h | exact t5.mp h | exact fun q => h (t1.mpr q)
  · first | exact fun q => h (t1.mpr q) | exact Int.not_lt.mp (fun q => h (t2.mpr q)) | exact Int.not_le.mp (fun q => h (t3.mpr q)) | exact Int.not_lt.mp (fun q => h (t4.mpr q)) | exact Int.not_le.mp (fun q => h (t5.mpr q)) | exact t1.mp h
theorem z_if_gt (E : Ev X own cc nL rm nm) {x : Int} {off : Int} {tgt : Nat} (hx0 : inR x) (hd : decode cc pc = .ok (.ifCond .gt off, 3)) (ht : (pc : Int) + off = (tgt : Int)) (kt : 0 < x → Zc X tgt ls st N g cells slots) (kf : x ≤ 0 → Zc X (pc + 3) ls st N g cells slots) : Zc X pc ls (.int (iI x) :: st) N g cells slots := by
  obtain ⟨p, l, e, R, s, m, args, below, meth, c, Q, B⟩ := X
  obtain ⟨hx, hb, hml, hown, hts, hR, hnm, hNs⟩ := E
  intro H locs lsA hl hW hS
  obtain ⟨t1, t2, t3, t4, t5⟩ := iI_tri (y := 0) hx0 ⟨by omega, by omega⟩
  try rw [iI_0] at t1 t2 t3 t4 t5
  refine lv_if_gt hx hb hd ht (fun h => kt ?_ H locs lsA hl hW hS) (fun h => kf ?_ H locs lsA hl hW hS)
  · first | exact t1.mp h | exact t2.mp h | exact t3.mp h | exact t4.mp h | exact t5.mp h | exact fun q => h (t1.mpr q)
  · first | exact fun q => h (t1.mpr q) | exact Int.not_lt.mp (fun q => h (t2.mpr q)) | exact Int.not_le.mp (fun q => h (t3.mpr q)) | exact Int.not_lt.mp (fun q => h (t4.mpr q)) | exact Int.not_le.mp (fun q => h (t5.mpr q)) | exact t1.mp h
theorem z_icmp_le (E : Ev X own cc nL rm nm) {x y : Int} {off : Int} {tgt : Nat} (hx0 : inR x) (hy : inR y) (hd : decode cc pc = .ok (.if_icmp .le off, 3)) (ht : (pc : Int) + off = (tgt : Int)) (kt : x ≤ y → Zc X tgt ls st N g cells slots) (kf : y < x → Zc X (pc + 3) ls st N g cells slots) : Zc X pc ls (.int (iI y) :: .int (iI x) :: st) N g cells slots := by
  obtain ⟨p, l, e, R, s, m, args, below, meth, c, Q, B⟩ := X
  obtain ⟨hx, hb, hml, hown, hts, hR, hnm, hNs⟩ := E
  intro H locs lsA hl hW hS
  obtain ⟨t1, t2, t3, t4, t5⟩ := iI_tri hx0 hy
  try rw [iI_0] at t1 t2 t3 t4 t5
  refine lv_icmp_le hx hb hd ht (fun h => kt ?_ H locs lsA hl hW hS) (fun h => kf ?_ H locs lsA hl hW hS)
  · first | exact t1.mp h | exact t2.mp h | exact t3.mp h | exact t4.mp h | exact t5.mp h | exact fun q => h (t1.mpr q)
  · first | exact fun q => h (t1.mpr q) | exact Int.not_lt.mp (fun q => h (t2.mpr q)) | exact Int.not_le.mp (fun q => h (t3.mpr q)) | exact Int.not_lt.mp (fun q => h (t4.mpr q)) | exact Int.not_le.mp (fun q => h (t5.mpr q)) | exact t1.mp h
theorem z_if_le (E : Ev X own cc nL rm nm) {x : Int} {off : Int} {tgt : Nat} (hx0 : inR x) (hd : decode cc pc = .ok (.ifCond .le off, 3)) (ht : (pc : Int) + off = (tgt : Int)) (kt : x ≤ 0 → Zc X tgt ls st N g cells slots) (kf : 0 < x → Zc X (pc + 3) ls st N g cells slots) : Zc X pc ls (.int (iI x) :: st) N g cells slots := by
  obtain ⟨p, l, e, R, s, m, args, below, meth, c, Q, B⟩ := X
  obtain ⟨hx, hb, hml, hown, hts, hR, hnm, hNs⟩ := E
  intro H locs lsA hl hW hS
  obtain ⟨t1, t2, t3, t4, t5⟩ := iI_tri (y := 0) hx0 ⟨by omega, by omega⟩
  try rw [iI_0] at t1 t2 t3 t4 t5
  refine lv_if_le hx hb hd ht (fun h => kt ?_ H locs lsA hl hW hS) (fun h => kf ?_ H locs lsA hl hW hS)
  · first | exact t1.mp h | exact t2.mp h | exact t3.mp h | exact t4.mp h | exact t5.mp h | exact fun q => h (t1.mpr q)
  · first | exact fun q => h (t1.mpr q) | exact Int.not_lt.mp (fun q => h (t2.mpr q)) | exact Int.not_le.mp (fun q => h (t3.mpr q)) | exact Int.not_lt.mp (fun q => h (t4.mpr q)) | exact Int.not_le.mp (fun q => h (t5.mpr q)) | exact t1.mp h
theorem z_lcmp (E : Ev X own cc nL rm nm) {x y : Int} (hx0 : inL x) (hy : inL y) (hd : decode cc pc = .ok (.lcmp, 1)) (k : ∀ z : Int, inR z → (z < 0 ↔ x < y) → (0 < z ↔ y < x) → Zc X (pc + 1) ls (.int (iI z) :: st) N g cells slots) : Zc X pc ls (.long (lI y) :: .long (lI x) :: st) N g cells slots := by
  obtain ⟨p, l, e, R, s, m, args, below, meth, c, Q, B⟩ := X
  obtain ⟨hx, hb, hml, hown, hts, hR, hnm, hNs⟩ := E
  intro H locs lsA hl hW hS
  refine W.lcmp hx hb hd ?_
  rw [lcmp_lt hx0 hy]
  refine k _ ?_ ?_ ?_ H locs lsA hl hW hS
  · by_cases h1 : y < x
    · rw [if_pos h1]; exact ⟨by omega, by omega⟩
    · rw [if_neg h1]
      by_cases h2 : x = y
      · rw [if_pos h2]; exact ⟨by omega, by omega⟩
      · rw [if_neg h2]; exact ⟨by omega, by omega⟩
  · by_cases h1 : y < x
    · rw [if_pos h1]; omega
    · rw [if_neg h1]
      by_cases h2 : x = y
      · rw [if_pos h2]; omega
      · rw [if_neg h2]; omega
  · by_cases h1 : y < x
    · rw [if_pos h1]; omega
    · rw [if_neg h1]
      by_cases h2 : x = y
      · rw [if_pos h2]; omega
      · rw [if_neg h2]; omega
theorem z_tswIn (E : Ev X own cc nL rm nm) {dflt hi off : Int} {offs : Array Int} {len tgt j : Nat} {x : Int} (hd : decode cc pc = .ok (.tableswitch dflt 0 hi offs, len)) (hj : x = (j : Int)) (hr : inR x) (hh : (j : Int) ≤ hi) (ho : offs[j]? = some off) (ht : (pc : Int) + off = (tgt : Int)) (k : Zc X (tgt) ls st N g cells slots) : Zc X pc ls (.int (iI x) :: st) N g cells slots := by
  obtain ⟨p, l, e, R, s, m, args, below, meth, c, Q, B⟩ := X
  obtain ⟨hx, hb, hml, hown, hts, hR, hnm, hNs⟩ := E
  intro H locs lsA hl hW hS
  have ex : (iI x).toInt = (j : Int) := by rw [iI_toInt hr, hj]
  exact lv_tableIn hx hb hd (by rw [ex]; omega) (by rw [ex]; omega) (by rw [ex, show ((j : Int) - 0).toNat = j by omega]; exact ho) ht (k H locs lsA hl hW hS)
theorem z_tswOut (E : Ev X own cc nL rm nm) {dflt hi : Int} {offs : Array Int} {len tgt : Nat} {x : Int} (hd : decode cc pc = .ok (.tableswitch dflt 0 hi offs, len)) (hr : inR x) (h : x < 0 ∨ hi < x) (ht : (pc : Int) + dflt = (tgt : Int)) (k : Zc X (tgt) ls st N g cells slots) : Zc X pc ls (.int (iI x) :: st) N g cells slots := by
  obtain ⟨p, l, e, R, s, m, args, below, meth, c, Q, B⟩ := X
  obtain ⟨hx, hb, hml, hown, hts, hR, hnm, hNs⟩ := E
  intro H locs lsA hl hW hS
  exact lv_tableOut hx hb hd (by rw [iI_toInt hr]; exact h) ht (k H locs lsA hl hW hS)
theorem clsIn : ∀ (ci : Nat) (r : vw_C), vwCl[ci]? = some r → (∀ w ∈ u_ws r.1 r.2.1 r.2.2, w ∈ tblG) ∧ ∃ ty0 : Nat → FieldType, (∀ k, k < r.2.2 → parseFieldDescriptor (r.2.1 k).2.2.1 = some (ty0 k)) ∧ (∀ a, a < r.2.2 → ∀ b, b < r.2.2 → a ≠ b → (r.2.1 a).2.1 ≠ (r.2.1 b).2.1)
  | 0, _, h => by cases h; exact ⟨by decide +kernel, tyX0, tyX0_ok, nmX0⟩
  | 1, _, h => by cases h; exact ⟨by decide +kernel, tyX1, tyX1_ok, nmX1⟩
  | 2, _, h => by cases h; exact ⟨by decide +kernel, tyX3, tyX3_ok, nmX3⟩
  | 3, _, h => by cases h; exact ⟨by decide +kernel, tyX4, tyX4_ok, nmX4⟩
  | 4, _, h => by cases h; exact ⟨by decide +kernel, tyX5, tyX5_ok, nmX5⟩
  | 5, _, h => by cases h; exact ⟨by decide +kernel, tyX6, tyX6_ok, nmX6⟩
  | _ + 6, _, h => by cases h
theorem vw_lt {ci : Nat} {r : vw_C} (h : vwCl[ci]? = some r) : ci < 6 := (List.getElem?_eq_some_iff.mp h).1
/-- the field k of the objects of tag ci, by the pool's entry idx of own -/
def Fl (own : String) (idx ci k : Nat) : Prop := ∃ r : vw_C, vwCl[ci]? = some r ∧ k < r.2.2 ∧ Cond.fieldLink own idx (r.2.1 k).1 (r.2.1 k).2.1 (r.2.1 k).2.2.1 ∈ tblG
def Fp (own : String) (idx ci k : Nat) (ty : FieldType) : Prop := ∃ r : vw_C, vwCl[ci]? = some r ∧ k < r.2.2 ∧ Cond.fieldLink own idx (r.2.1 k).1 (r.2.1 k).2.1 (r.2.1 k).2.2.1 ∈ tblG ∧ (r.2.1 k).2.2.2 = false ∧ parseFieldDescriptor (r.2.1 k).2.2.1 = some ty
def Ff (own : String) (idx ci k : Nat) (ty : FieldType) : Prop := ∃ r : vw_C, vwCl[ci]? = some r ∧ k < r.2.2 ∧ Cond.fieldLink own idx (r.2.1 k).1 (r.2.1 k).2.1 (r.2.1 k).2.2.1 ∈ tblG ∧ (r.2.1 k).2.2.2 = true ∧ (r.2.1 k).1 = own ∧ parseFieldDescriptor (r.2.1 k).2.2.1 = some ty
theorem z_get (E : Ev X own cc nL rm nm) {idx a ci j : Nat} {fs : List Value} {v : Value} (hd : decode cc pc = .ok (.getfield idx, 3)) (hg : g a = (ci, fs)) (hf : Fl own idx ci j) (hv : fs[j]? = some v) (k : Zc X (pc + 3) ls (v :: st) N g cells slots) : Zc X pc ls (.ref a :: st) N g cells slots := by
  obtain ⟨p, l, e, R, s, m, args, below, meth, c, Q, B⟩ := X
  obtain ⟨hx, hb, hml, hown, hts, hR, hnm, hNs⟩ := E
  intro H locs lsA hl hW hS
  obtain ⟨r, hr, hj, hlink⟩ := hf
  obtain ⟨hz, D, hKn, hc⟩ := id hW
  have hlt := vw_lt hr
  have ha := hc a (by rw [hg]; show ci < 12; omega)
  rw [hg] at ha
  obtain ⟨hlen, cell, q1, q2, q3, q4⟩ := ha.1 r hr
  obtain ⟨hSl, hfc, kC, hkC, hkind⟩ := hKn ci r hr
  obtain ⟨cf, kf, fi, f, hi, hsl⟩ := hSl j hj
  refine W.getf (v := mv B v) hx hb hown (hts _ hlink) hi (u_facts hfc hkC (u_lays hts (clsIn ci r hr).1 hj) hi).1 q1 (by rw [q3]; exact fun h => by cases h) ?_ rfl rfl hd (k H locs lsA hl hW hS)
  rw [hsl, q4 j hj]
  simp [hv]
theorem z_put (E : Ev X own cc nL rm nm) {idx a ci j : Nat} {fs : List Value} {v : Value} {ty : FieldType} (hd : decode cc pc = .ok (.putfield idx, 3)) (hg : g a = (ci, fs)) (hf : Fp own idx ci j ty) (hn : ∀ B, narrow ty (mv B v) = mv B v) (hfit : ∀ B, fits ty (mv B v) = true) (k : Zc X (pc + 3) ls st N (va_up g a (ci, fs.set j v)) cells slots) : Zc X pc ls (v :: .ref a :: st) N g cells slots := by
  obtain ⟨p, l, e, R, s, m, args, below, meth, c, Q, B⟩ := X
  obtain ⟨hx, hb, hml, hown, hts, hR, hnm, hNs⟩ := E
  intro H locs lsA hl hW hS
  obtain ⟨r, hr, hj, hlink, hfin, hdsc⟩ := hf
  obtain ⟨hz, D, hKn, hc⟩ := id hW
  have hlt := vw_lt hr
  have ha := hc a (by rw [hg]; show ci < 12; omega)
  rw [hg] at ha
  obtain ⟨hlen, cell, q1, q2, q3, q4⟩ := ha.1 r hr
  obtain ⟨hin, ty0, hty, hnm2⟩ := clsIn ci r hr
  have hap := va_apart (own := own) (tys := []) hts hin ty0 hty hnm2 ⟨hKn, fun k q h => by simp at h⟩ hr
  obtain ⟨hSl, hfc, kC, hkC, hkind⟩ := hKn ci r hr
  obtain ⟨cf, kf, fi, f, hi, hsl⟩ := hSl j hj
  have hlay := hts _ (hin _ (u_in_lay hj))
  unfold u_lay at hlay
  rw [if_neg (by rw [hfin]; decide)] at hlay
  have hst := (u_facts hfc hkC (u_lays hts hin hj) hi).1
  have h6 := u_store hfc hkC hkind hlay hi hdsc (hn B) (hfit B)
  refine W.putK hx hb (f := f) ⟨hown, hts _ hlink, ⟨_, _, _, hi⟩, hst⟩ (by rw [q2]; exact h6) q1 q3 (by rw [hsl]; exact k2_hasslot (q4 j hj)) rfl rfl hd fun H1 e1 e2 e3 => ?_
  rw [hsl] at e1 ⊢
  refine k H1 _ lsA hl ⟨e2.trans hz, D, hKn, cells_upd hc e3 ⟨fun r2 hr2 => ?_, fun h6 => by have : 6 ≤ ci := h6; omega⟩⟩ (hS.put e2 e3 (Nat.le_add_right B a))
  cases hr.symm.trans hr2
  refine ⟨by simpa using hlen, t_OB.to ⟨_, e1, q2, q3, t_set q4 hap hj (mv B v)⟩ fun i hi2 => ?_⟩
  by_cases e9 : i = j
  · subst e9
    have h9 : i < fs.length := by have : fs.length = r.2.2 := hlen; omega
    simp [updV, h9]
  · simp [updV, e9, List.getD_eq_getElem?_getD, List.getElem?_set_ne (Ne.symm e9)]
theorem z_putF (E : Ev X own cc nL rm nm) {idx a ci j : Nat} {fs : List Value} {v : Value} {ty : FieldType} (hd : decode cc pc = .ok (.putfield idx, 3)) (hg : g a = (ci, fs)) (hf : Ff own idx ci j ty) (hni : nm = "<init>") (hn : ∀ B, narrow ty (mv B v) = mv B v) (hfit : ∀ B, fits ty (mv B v) = true) (k : Zc X (pc + 3) ls st N (va_up g a (ci, fs.set j v)) cells slots) : Zc X pc ls (v :: .ref a :: st) N g cells slots := by
  obtain ⟨p, l, e, R, s, m, args, below, meth, c, Q, B⟩ := X
  obtain ⟨hx, hb, hml, hown, hts, hR, hnm, hNs⟩ := E
  intro H locs lsA hl hW hS
  obtain ⟨r, hr, hj, hlink, hfin, hdecl, hdsc⟩ := hf
  obtain ⟨hz, D, hKn, hc⟩ := id hW
  have hlt := vw_lt hr
  have ha := hc a (by rw [hg]; show ci < 12; omega)
  rw [hg] at ha
  obtain ⟨hlen, cell, q1, q2, q3, q4⟩ := ha.1 r hr
  obtain ⟨hin, ty0, hty, hnm2⟩ := clsIn ci r hr
  have hap := va_apart (own := own) (tys := []) hts hin ty0 hty hnm2 ⟨hKn, fun k q h => by simp at h⟩ hr
  obtain ⟨hSl, hfc, kC, hkC, hkind⟩ := hKn ci r hr
  obtain ⟨cf, kf, fi, f, hi, hsl⟩ := hSl j hj
  have hlay := hts _ (hin _ (u_in_lay hj))
  unfold u_lay at hlay
  rw [if_pos hfin] at hlay
  have hst := (u_facts hfc hkC (u_lays hts hin hj) hi).1
  have hcf : m.cls = cf := by
    obtain ⟨_, _, c', _, _, _, -, -, hf', -, -, -, hown2, -⟩ := Cond.laysFinal_spec hlay
    have e1 : c' = cf := by have := hi.symm.trans hf'; simp at this; exact this.1.symm
    rw [hdecl] at hown2
    rw [← e1]; exact Option.some.inj (hown.symm.trans hown2)
  have h6 := u_fits hfc hkC hkind (Or.inr hlay) hi hdsc (hn B) (hfit B)
  refine W.putFinK hx hb hown (hts _ hlink) hi hst hcf (hnm.trans hni) (by rw [q2]; exact h6) q1 q3 (by rw [hsl]; exact k2_hasslot (q4 j hj)) rfl rfl hd fun H1 e1 e2 e3 => ?_
  rw [hsl] at e1 ⊢
  refine k H1 _ lsA hl ⟨e2.trans hz, D, hKn, cells_upd hc e3 ⟨fun r2 hr2 => ?_, fun h6 => by have : 6 ≤ ci := h6; omega⟩⟩ (hS.put e2 e3 (Nat.le_add_right B a))
  cases hr.symm.trans hr2
  refine ⟨by simpa using hlen, t_OB.to ⟨_, e1, q2, q3, t_set q4 hap hj (mv B v)⟩ fun i hi2 => ?_⟩
  by_cases e9 : i = j
  · subst e9
    have h9 : i < fs.length := by have : fs.length = r.2.2 := hlen; omega
    simp [updV, h9]
  · simp [updV, e9, List.getD_eq_getElem?_getD, List.getElem?_set_ne (Ne.symm e9)]
theorem z_iald (E : Ev X own cc nL rm nm) {a j : Nat} {x : Int} {vs : List Value} {v : Value} (hd : decode cc pc = .ok (.iaload, 1)) (hg : g a = (6, vs)) (hj : x = (j : Int)) (hb2 : j < 2147483648) (hv : vs[j]? = some v) (k : Zc X (pc + 1) ls (v :: st) N g cells slots) : Zc X pc ls (.int (iI x) :: .ref a :: st) N g cells slots := by
  obtain ⟨p, l, e, R, s, m, args, below, meth, c, Q, B⟩ := X
  obtain ⟨hx, hb, hml, hown, hts, hR, hnm, hNs⟩ := E
  intro H locs lsA hl hW hS
  obtain ⟨hz, D, hKn, hc⟩ := id hW
  have ha := hc a (by rw [hg]; show 6 < 12; omega)
  rw [hg] at ha
  obtain ⟨cA, h1, h2, h3⟩ := ha.2 (by show 6 ≤ 6; omega)
  have hlt : j < vs.length := (List.getElem?_eq_some_iff.mp hv).1
  exact W.iald (v := mv B v) hx hb h1 (h2 _ _) (fun q => by cases q) (by rw [arrV_size]; exact iI_idx hj hlt hb2) (by rw [iI_clamp hj hb2, arrV_read _ _ hlt]; simp [hv]) rfl rfl hd (k H locs lsA hl hW hS)
theorem z_zald (E : Ev X own cc nL rm nm) {a j : Nat} {x : Int} {vs : List Value} {v : Value} (hd : decode cc pc = .ok (.baload, 1)) (hg : g a = (7, vs)) (hj : x = (j : Int)) (hb2 : j < 2147483648) (hv : vs[j]? = some v) (k : Zc X (pc + 1) ls (v :: st) N g cells slots) : Zc X pc ls (.int (iI x) :: .ref a :: st) N g cells slots := by
  obtain ⟨p, l, e, R, s, m, args, below, meth, c, Q, B⟩ := X
  obtain ⟨hx, hb, hml, hown, hts, hR, hnm, hNs⟩ := E
  intro H locs lsA hl hW hS
  obtain ⟨hz, D, hKn, hc⟩ := id hW
  have ha := hc a (by rw [hg]; show 7 < 12; omega)
  rw [hg] at ha
  obtain ⟨cA, h1, h2, h3⟩ := ha.2 (by show 6 ≤ 7; omega)
  have hlt : j < vs.length := (List.getElem?_eq_some_iff.mp hv).1
  exact W.zald (v := mv B v) hx hb h1 (h2 _ _) (fun q => by cases q) (by rw [arrV_size]; exact iI_idx hj hlt hb2) (by rw [iI_clamp hj hb2, arrV_read _ _ hlt]; simp [hv]) rfl rfl hd (k H locs lsA hl hW hS)
theorem z_aald (E : Ev X own cc nL rm nm) {a j : Nat} {x : Int} {vs : List Value} {v : Value} {t : Nat} (ht6 : 8 ≤ t ∧ t < 12) (hd : decode cc pc = .ok (.aaload, 1)) (hg : g a = (t, vs)) (hj : x = (j : Int)) (hb2 : j < 2147483648) (hv : vs[j]? = some v) (k : Zc X (pc + 1) ls (v :: st) N g cells slots) : Zc X pc ls (.int (iI x) :: .ref a :: st) N g cells slots := by
  obtain ⟨p, l, e, R, s, m, args, below, meth, c, Q, B⟩ := X
  obtain ⟨hx, hb, hml, hown, hts, hR, hnm, hNs⟩ := E
  intro H locs lsA hl hW hS
  obtain ⟨hz, D, hKn, hc⟩ := id hW
  have ha := hc a (by rw [hg]; show t < 12; omega)
  rw [hg] at ha
  obtain ⟨cA, h1, h2, h3⟩ := ha.2 (by show 6 ≤ t; omega)
  have hlt : j < vs.length := (List.getElem?_eq_some_iff.mp hv).1
  exact W.aald (v := mv B v) (ty := kty t) hx hb h1 (h2 _ _) (by obtain ⟨q1, q2⟩ := ht6; rcases (show t = 8 ∨ t = 9 ∨ t = 10 ∨ t = 11 by omega) with rfl | rfl | rfl | rfl <;> rfl) (fun q => by cases q) (by rw [arrV_size]; exact iI_idx hj hlt hb2) (by rw [iI_clamp hj hb2, arrV_read _ _ hlt]; simp [hv]) rfl rfl hd (k H locs lsA hl hW hS)
theorem z_iast (E : Ev X own cc nL rm nm) {a j : Nat} {x : Int} {y : Int32} {vs : List Value} (hd : decode cc pc = .ok (.iastore, 1)) (hg : g a = (6, vs)) (hj : x = (j : Int)) (hb2 : j < 2147483648) (hlv : j < vs.length) (k : Zc X (pc + 1) ls st N (va_up g a (6, vs.set j (.int y))) cells slots) : Zc X pc ls (.int y :: .int (iI x) :: .ref a :: st) N g cells slots := by
  obtain ⟨p, l, e, R, s, m, args, below, meth, c, Q, B⟩ := X
  obtain ⟨hx, hb, hml, hown, hts, hR, hnm, hNs⟩ := E
  intro H locs lsA hl hW hS
  obtain ⟨hz, D, hKn, hc⟩ := id hW
  have ha := hc a (by rw [hg]; show 6 < 12; omega)
  rw [hg] at ha
  obtain ⟨cA, h1, h2, h3⟩ := ha.2 (by show 6 ≤ 6; omega)
  have hlt : j < vs.length := hlv
  refine W.iast hx hb h1 (h2 _ _) (fun q => by cases q) (by rw [arrV_size]; exact iI_idx hj hlt hb2) rfl rfl hd fun H1 e1 z1 oq => ?_
  rw [iI_clamp hj hb2] at e1 ⊢
  refine k H1 _ lsA hl ⟨z1.trans hz, D, hKn, cells_upd hc oq ⟨fun r2 hr2 => by have := vw_lt hr2; have : 6 < 6 := this; omega, fun _ => ⟨cA, ?_, h2, h3⟩⟩⟩ (hS.put z1 oq (Nat.le_add_right B a))
  rw [e1, arrV_store]
  show some (arrV cA vs.length _) = some (arrV cA (vs.set j (.int y)).length _)
  rw [List.length_set]
  refine congrArg (fun f => some (arrV cA vs.length f)) (funext fun i => ?_)
  by_cases e9 : i = j
  · subst e9
    simp [updV, hlt, mv]
  · simp [updV, e9, List.getD_eq_getElem?_getD, List.getElem?_set_ne (Ne.symm e9)]
theorem z_zast (E : Ev X own cc nL rm nm) {a j : Nat} {x : Int} {y : Int32} {vs : List Value} (hd : decode cc pc = .ok (.bastore, 1)) (hy : y = 0 ∨ y = 1) (hg : g a = (7, vs)) (hj : x = (j : Int)) (hb2 : j < 2147483648) (hlv : j < vs.length) (k : Zc X (pc + 1) ls st N (va_up g a (7, vs.set j (.int y))) cells slots) : Zc X pc ls (.int y :: .int (iI x) :: .ref a :: st) N g cells slots := by
  obtain ⟨p, l, e, R, s, m, args, below, meth, c, Q, B⟩ := X
  obtain ⟨hx, hb, hml, hown, hts, hR, hnm, hNs⟩ := E
  intro H locs lsA hl hW hS
  obtain ⟨hz, D, hKn, hc⟩ := id hW
  have ha := hc a (by rw [hg]; show 7 < 12; omega)
  rw [hg] at ha
  obtain ⟨cA, h1, h2, h3⟩ := ha.2 (by show 6 ≤ 7; omega)
  have hlt : j < vs.length := hlv
  have hnar : narrow .boolean (.int y) = .int y := by rcases hy with rfl | rfl <;> rfl
  refine W.zast hx hb h1 (h2 _ _) (fun q => by cases q) (by rw [arrV_size]; exact iI_idx hj hlt hb2) rfl rfl hd fun H1 e1 z1 oq => ?_
  rw [iI_clamp hj hb2] at e1 ⊢
  refine k H1 _ lsA hl ⟨z1.trans hz, D, hKn, cells_upd hc oq ⟨fun r2 hr2 => by have := vw_lt hr2; have : 7 < 6 := this; omega, fun _ => ⟨cA, ?_, h2, h3⟩⟩⟩ (hS.put z1 oq (Nat.le_add_right B a))
  rw [e1, hnar, arrV_store]
  show some (arrV cA vs.length _) = some (arrV cA (vs.set j (.int y)).length _)
  rw [List.length_set]
  refine congrArg (fun f => some (arrV cA vs.length f)) (funext fun i => ?_)
  by_cases e9 : i = j
  · subst e9
    simp [updV, hlt, mv]
  · simp [updV, e9, List.getD_eq_getElem?_getD, List.getElem?_set_ne (Ne.symm e9)]
theorem z_alen (E : Ev X own cc nL rm nm) {a t : Nat} {vs : List Value} (hd : decode cc pc = .ok (.arraylength, 1)) (ht6 : 6 ≤ t ∧ t < 12) (hg : g a = (t, vs)) (k : Zc X (pc + 1) ls (.int (iI (vs.length : Int)) :: st) N g cells slots) : Zc X pc ls (.ref a :: st) N g cells slots := by
  obtain ⟨p, l, e, R, s, m, args, below, meth, c, Q, B⟩ := X
  obtain ⟨hx, hb, hml, hown, hts, hR, hnm, hNs⟩ := E
  intro H locs lsA hl hW hS
  obtain ⟨hz, D, hKn, hc⟩ := id hW
  have ha := hc a (by rw [hg]; exact ht6.2)
  rw [hg] at ha
  obtain ⟨cA, h1, h2, h3⟩ := ha.2 ht6.1
  exact W.alen (n := iI (vs.length : Int)) hx hb h1 (h2 _ _) (by rw [arrV_size]; exact (Int32.ofInt_eq_ofNat).symm) rfl rfl hd (k H locs lsA hl hW hS)
theorem z_iret (E : Ev X own cc nL rm nm) {P : Option Value → Mem → Prop} (F : Rt X (some .int) N P cells slots) {v : Int32} (hd : decode cc pc = .ok (.ireturn, 1)) (hP : P (some (.int v)) g) : Zc X pc ls [.int v] N g cells slots := by
  obtain ⟨p, l, e, R, s, m, args, below, meth, c, Q, B⟩ := X
  obtain ⟨hx, hb, hml, hown, hts, hR, hnm, hNs⟩ := E
  obtain ⟨hr, hlocks, hsB, hQ⟩ := F
  intro H locs lsA hl hW hS
  subst hQ
  exact W.iret hx hb hr (fun t ht hw => ⟨some (.int v), g, rfl, hP, by rw [ht]; exact hW.moved hw.alike, fun q hq => by rw [ht]; exact hS.2.1 q (Nat.lt_of_lt_of_le hq hsB) (Nat.not_le.mpr hq)⟩) hS.2.2 hd hlocks
theorem z_zret (E : Ev X own cc nL rm nm) {P : Option Value → Mem → Prop} (F : Rt X (some .boolean) N P cells slots) {v : Int32} (hv : v = 0 ∨ v = 1) (hd : decode cc pc = .ok (.ireturn, 1)) (hP : P (some (.int v)) g) : Zc X pc ls [.int v] N g cells slots := by
  obtain ⟨p, l, e, R, s, m, args, below, meth, c, Q, B⟩ := X
  obtain ⟨hx, hb, hml, hown, hts, hR, hnm, hNs⟩ := E
  obtain ⟨hr, hlocks, hsB, hQ⟩ := F
  intro H locs lsA hl hW hS
  subst hQ
  exact W.zret hx hb hr (by rcases hv with rfl | rfl <;> rfl) (fun t ht hw => ⟨some (.int v), g, rfl, hP, by rw [ht]; exact hW.moved hw.alike, fun q hq => by rw [ht]; exact hS.2.1 q (Nat.lt_of_lt_of_le hq hsB) (Nat.not_le.mpr hq)⟩) hS.2.2 hd hlocks
theorem z_lret (E : Ev X own cc nL rm nm) {P : Option Value → Mem → Prop} (F : Rt X (some .long) N P cells slots) {v : Int64} (hd : decode cc pc = .ok (.lreturn, 1)) (hP : P (some (.long v)) g) : Zc X pc ls [.long v] N g cells slots := by
  obtain ⟨p, l, e, R, s, m, args, below, meth, c, Q, B⟩ := X
  obtain ⟨hx, hb, hml, hown, hts, hR, hnm, hNs⟩ := E
  obtain ⟨hr, hlocks, hsB, hQ⟩ := F
  intro H locs lsA hl hW hS
  subst hQ
  exact W.lret hx hb hr (fun t ht hw => ⟨some (.long v), g, rfl, hP, by rw [ht]; exact hW.moved hw.alike, fun q hq => by rw [ht]; exact hS.2.1 q (Nat.lt_of_lt_of_le hq hsB) (Nat.not_le.mpr hq)⟩) hS.2.2 hd hlocks
theorem z_vret (E : Ev X own cc nL rm nm) {P : Option Value → Mem → Prop} (F : Rt X none N P cells slots) (hd : decode cc pc = .ok (.return_, 1)) (hP : P none g) : Zc X pc ls [] N g cells slots := by
  obtain ⟨p, l, e, R, s, m, args, below, meth, c, Q, B⟩ := X
  obtain ⟨hx, hb, hml, hown, hts, hR, hnm, hNs⟩ := E
  obtain ⟨hr, hlocks, hsB, hQ⟩ := F
  intro H locs lsA hl hW hS
  subst hQ
  exact W.vret hx hb hr (fun t ht hw => ⟨none, g, rfl, hP, by rw [ht]; exact hW.moved hw.alike, fun q hq => by rw [ht]; exact hS.2.1 q (Nat.lt_of_lt_of_le hq hsB) (Nat.not_le.mpr hq)⟩) hS.2.2 hd hlocks
theorem z_widen {k n : Nat} (h1 : cells ≤ k) (h2 : slots ≤ n) (kk : Zc X pc ls st N g k n) : Zc X pc ls st N g cells slots := by
  obtain ⟨p, l, e, R, s, m, args, below, meth, c, Q, B⟩ := X
  intro H locs lsA hl hW hS
  exact W.widen h1 h2 (kk H locs lsA hl hW hS)
theorem z_mem {g' : Mem} (h : g = g') (k : Zc X pc ls st N g' cells slots) : Zc X pc ls st N g cells slots := h ▸ k
end ROWS
end
section
/-! contracts and calls -/
abbrev Md : Type := MethodName × ByteArray × Nat × Option FieldType × Room
def mws (M : Md) : List Cond := .code M.1 M.2.1 M.2.2.1 M.2.2.2.1 :: tblG
def OkM (M : Md) (av : List Value) (N : Nat) (g : Mem) (N' : Nat) (P : Option Value → Mem → Prop) : Prop :=
  ∀ (l : Launch) (B : Nat), Met l M.1 (mws M) M.2.2.2.2 (va_Pc (av.map (mv B)) (fun U => Wd B N g U U.heap ∧ NestOK U)) (Qk B N' P) M.2.2.2.2.cells M.2.2.2.2.slots (fun q => B ≤ q)
/-- a contract that tells answer and memory -/
abbrev OkR (M : Md) (av : List Value) (N : Nat) (g : Mem) (r : Option Value) (g' : Mem) : Prop := OkM M av N g N (fun r2 g2 => r2 = r ∧ g2 = g')
theorem tbl_good : tblG.all goodWord = true := by
  rw [List.all_eq_true]
  intro w hw
  exact (List.mem_filter.mp hw).2
theorem NestOK.warm {s U : State} (hW : s.WarmedH U.vm) (h : NestOK s) : NestOK U := ⟨fun a i x hh hm => (h.1 a i x hh hm).warmM hW, fun C hm => (h.2.1 C hm).moved hW.alike, h.2.2.moved hW.alike⟩
theorem mws_good {M : Md} (h : Cond.code M.1 M.2.1 M.2.2.1 M.2.2.2.1 ∈ tblG) : GoodIn tblG (mws M) := by
  intro w hw
  have hw2 : w ∈ tblG := by
    rcases List.mem_cons.mp hw with e | e
    · rw [e]; exact h
    · exact e
  exact ⟨hw2, good_of_word (List.all_eq_true.mp tbl_good w hw2)⟩
theorem OkM.of {y : MethodName} {cc : ByteArray} {nL : Nat} {ret : Option FieldType} {rm : Room} {av : List Value} {N N' : Nat} {g : Mem} {P : Option Value → Mem → Prop} (ls : List (Option Value)) (hy : plainFor y = true) (hls : entL av nL = ls) (hlen : (expA av).length ≤ nL)
    (body : ∀ X : ZX, Ev X y.cls cc nL rm y.name → Rt X ret N' P rm.cells rm.slots → Zc X 0 ls [] N g 0 0) : OkM (y, cc, nL, ret, rm) av N g N' P := by
  intro l B
  refine va_MetF (cc := cc) (maxL := nL) (ret := ret) hy rfl ?_
  intro p e s m args below meth c s₁ Bd hml hv
  obtain ⟨rfl, hW, hNs⟩ := hv
  have hts := atoms_spec (ws := mws (y, cc, nL, ret, rm)) Bd.pre
  have hown : s.vm.findClass y.cls = some m.cls := findClass_of_methodNamed Bd.named
  have hname : meth.name = y.name := (name_of_methodNamed Bd.named Bd.method).1
  rw [lg_entry_eq]
  have hl : lh B ((lg_sl (av.map (mv B)) ++ List.replicate (nL - (lg_sl (av.map (mv B))).length) Slot.unset).toArray) ls := hls ▸ entL_has av hlen
  exact body (p, l, e, rm, s, m, (av.map (mv B)).toArray, below, meth, c, MQ below (Qk B N' P) (av.map (mv B)).toArray s rm.cells rm.slots (fun q => B ≤ q), B) ⟨Bd.exec, Bd.bytes, hml, hown, fun w hw => hts w (List.mem_cons_of_mem _ hw), rfl, hname, hNs⟩ ⟨Bd.returns, Bd.notSynchronized, by have := hW.1; omega, rfl⟩ s.heap [] _ hl hW va_S.rf
section RUNS
variable {p : Program} {l : Launch} {e : Env} {R : Room} {s : State} {m : MethodId} {args : Array Value} {below : List Frame} {meth : Method} {c : Code} {H : Heap} {locs : List Loc} {cells slots : Nat} {Q : State → Prop} {B : Nat}
theorem z_run {pc : Nat} {ls : List (Option Value)} {lsA : Array Slot} {st0 st : List Value} {N N' mc ms : Nat} {g : Mem} {a : Array Value} {P : Option Value → Mem → Prop}
    (hr : va_Run p l e R s m args below meth c H locs cells slots mc ms (F0 m pc lsA st0) (st.map (mv B)) (Qk B N' P a) (fun q => B ≤ q)) (hl : lh B lsA ls) (hW : Wd B N g s H) (hS : va_S (fun q => B ≤ q) s.heap H locs) (hgr : N ≤ N')
    (k : ∀ (r : Option Value) (g' : Mem), P r g' → Zc (p, l, e, R, s, m, args, below, meth, c, Q, B) (pc + 3) ls (r.toList ++ st) N' g' (cells + mc) (slots + ms)) : W p l e R s m args below meth c H locs cells slots Q (F0 m pc lsA st0) := by
  intro T hT X
  obtain ⟨v, st₀, t, T', L, h0, X', hL, e1, e2, ⟨r, g', hv, hP, hWd, hfr⟩, st1⟩ := hr T hT X
  cases hv
  rw [h0] at hfr
  have hz0 := hW.1
  have hz1 := hWd.1
  obtain ⟨t2, a1, b1⟩ := k r g' hP T'.heap (locs ++ L) lsA hl (by rw [e1]; exact hWd.moved (by rw [← e2]; exact X'.warmed.alike.symm)) ⟨by rw [e1, hz1]; have := hS.1; omega, fun q q1 q2 => by rw [e1, hfr q (Nat.not_le.mp q2)]; exact hS.2.1 q q1 q2, fun q hq => by
      rcases List.mem_append.mp hq with h | h
      · exact hS.2.2 q h
      · exact hL q h⟩ T' rfl X'
  refine ⟨t2, st1 t2 ?_, b1⟩
  cases r <;> exact a1
end RUNS
/-- what the tables say of a call: static, of an object, of a constructor -/
def LkS (own : String) (idx : Nat) (M : Md) (n : Nat) : Prop := Cond.methodLink own idx M.1 ∈ tblG ∧ Cond.static M.1 ∈ tblG ∧ Cond.initialized M.1.cls ∈ tblG ∧ Cond.code M.1 M.2.1 M.2.2.1 M.2.2.2.1 ∈ tblG ∧ M.1.cls ≠ "java/lang/invoke/MethodHandle" ∧ M.1.cls ≠ "java/lang/invoke/VarHandle" ∧ (parseMethodDescriptor M.1.desc).map (fun d => d.parameters.length) = some n
def LkV (own : String) (idx : Nat) (M : Md) (n ci : Nat) : Prop := Cond.methodLink own idx M.1 ∈ tblG ∧ Cond.instanceMethod M.1 ∈ tblG ∧ Cond.initialized M.1.cls ∈ tblG ∧ Cond.code M.1 M.2.1 M.2.2.1 M.2.2.2.1 ∈ tblG ∧ Cond.selects M.1.cls M.1 M.1 ∈ tblG ∧ (∃ r, vwCl[ci]? = some r ∧ r.1 = M.1.cls) ∧ M.1.cls ≠ "java/lang/invoke/MethodHandle" ∧ M.1.cls ≠ "java/lang/invoke/VarHandle" ∧ (parseMethodDescriptor M.1.desc).map (fun d => d.parameters.length) = some n
section CALLS
variable {X : ZX} {own nm : String} {cc : ByteArray} {nL : Nat} {rm : Room} {pc : Nat} {ls : List (Option Value)} {st : List Value} {N N' : Nat} {g : Mem} {cells slots : Nat}
theorem wd_blind {B N : Nat} {g : Mem} {av : List Value} : FrameBlind (va_Pc (av.map (mv B)) (fun U => Wd B N g U U.heap ∧ NestOK U)) := fun a U g2 mk q => ⟨q.1, Wd.moved (u := U) (U := U.calling g2 mk a) (Vm.Alike.refl U.vm) q.2.1, fun a1 i x h hm => (q.2.2.1 a1 i x h hm).same rfl rfl, fun C hm => (q.2.2.2.1 C hm).moved (U := U.calling g2 mk a) (Vm.Alike.refl U.vm), q.2.2.2.2.moved (U := U.calling g2 mk a) (Vm.Alike.refl U.vm)⟩
theorem cats_mv (B : Nat) (st : List Value) : ((st.map (mv B)).map fun v => v.category).sum = (st.map fun v => v.category).sum := by
  rw [List.map_map]
  congr 1
  apply List.map_congr_left
  intro v _
  exact mv_cat B v
theorem z_callS (E : Ev X own cc nL rm nm) {idx n : Nat} {M : Md} {av : List Value} {P : Option Value → Mem → Prop} (hd : decode cc pc = .ok (.invokestatic idx, 3)) (lk : LkS own idx M n) (hok : OkM M av N g N' P) (hn : av.length = n) (hls : ls.length = nL) (hst : (st.map fun v => v.category).sum ≤ 8) (hgr : N ≤ N')
    (hroom : M.2.2.2.2.frames + 1 ≤ rm.frames ∧ 8 + (M.2.2.1 + 11) + M.2.2.2.2.locals ≤ rm.locals) (hcell : cells + M.2.2.2.2.cells ≤ rm.cells ∧ slots + M.2.2.2.2.slots ≤ rm.slots)
    (k : ∀ (r : Option Value) (g' : Mem), P r g' → Zc X (pc + 3) ls (r.toList ++ st) N' g' (cells + M.2.2.2.2.cells) (slots + M.2.2.2.2.slots)) : Zc X pc ls (av.reverse ++ st) N g cells slots := by
  obtain ⟨p, l, e, R, s, m, args, below, meth, c, Q, B⟩ := X
  obtain ⟨hx, hb, hml, hown, hts, hR, hnm, hNs⟩ := E
  subst hR
  intro H locs lsA hl hW hS
  obtain ⟨k1, k2, k3, k4, k5⟩ := lk
  refine z_run (va_runS (Ts := tblG) (As := av.map (mv B)) (rest := st.map (mv B)) (n := n) ⟨hx, hb, hml, hown, hts⟩ (hok l B) ⟨callB_of n hts (mws_good k4) rfl rfl rfl (hts _ k3) (hts _ k1) k5 hroom, hts _ k2⟩ ⟨wd_blind, fun U hU hw => ⟨rfl, (congrArg (Wd B N g U) hU).mpr (hW.moved hw.alike), hNs.warm hw⟩⟩ rfl (by rw [List.length_map]; exact hn) (hl.1.trans hls) (by simp [List.map_append, List.map_reverse]) (lv_room (by rw [cats_mv]; exact hst)) hd hcell) hl hW hS hgr k
theorem z_callV (E : Ev X own cc nL rm nm) {idx n ci a : Nat} {fs : List Value} {M : Md} {av : List Value} {P : Option Value → Mem → Prop} (hd : decode cc pc = .ok (.invokevirtual idx, 3)) (lk : LkV own idx M n ci) (hg : g a = (ci, fs)) (hok : OkM M (.ref a :: av) N g N' P) (hn : av.length = n) (hls : ls.length = nL) (hst : (st.map fun v => v.category).sum ≤ 8) (hgr : N ≤ N')
    (hroom : M.2.2.2.2.frames + 1 ≤ rm.frames ∧ 8 + (M.2.2.1 + 11) + M.2.2.2.2.locals ≤ rm.locals) (hcell : cells + M.2.2.2.2.cells ≤ rm.cells ∧ slots + M.2.2.2.2.slots ≤ rm.slots)
    (k : ∀ (r : Option Value) (g' : Mem), P r g' → Zc X (pc + 3) ls (r.toList ++ st) N' g' (cells + M.2.2.2.2.cells) (slots + M.2.2.2.2.slots)) : Zc X pc ls (av.reverse ++ .ref a :: st) N g cells slots := by
  obtain ⟨p, l, e, R, s, m, args, below, meth, c, Q, B⟩ := X
  obtain ⟨hx, hb, hml, hown, hts, hR, hnm, hNs⟩ := E
  subst hR
  intro H locs lsA hl hW hS
  obtain ⟨k1, k2, k3, k4, k6, ⟨r, hr, hrc⟩, k5⟩ := lk
  obtain ⟨hz, D, hKn, hc⟩ := id hW
  have hlt := vw_lt hr
  have ha := hc a (by rw [hg]; show ci < 12; omega)
  rw [hg] at ha
  obtain ⟨hlen, cell, q1, q2, q3, q4⟩ := ha.1 r hr
  refine z_run (va_runV (Ts := tblG) (C := M.1.cls) (b := B + a) (As := av.map (mv B)) (rest := st.map (mv B)) (n := n) ⟨hx, hb, hml, hown, hts⟩ (hok l B) ⟨callB_of n hts (mws_good k4) rfl rfl rfl (hts _ k3) (hts _ k1) k5 hroom, hts _ k2, hts _ k6⟩ ⟨wd_blind (av := .ref a :: av), ⟨cell, q1, by rw [q3]; rfl, by rw [q2, ← hrc]; exact (hKn ci r hr).2.1⟩, fun U hU hw => ⟨rfl, (congrArg (Wd B N g U) hU).mpr (hW.moved hw.alike), hNs.warm hw⟩⟩ rfl (by rw [List.length_map]; exact hn) (hl.1.trans hls) (by simp [List.map_append, List.map_reverse, mv]) (lv_room (by rw [cats_mv]; exact hst)) hd hcell) hl hW hS hgr k
/-- the same where the contract tells answer and memory -/
theorem z_cS (E : Ev X own cc nL rm nm) {idx n : Nat} {M : Md} {av : List Value} {r : Option Value} {g' : Mem} (hd : decode cc pc = .ok (.invokestatic idx, 3)) (lk : LkS own idx M n) (hok : OkR M av N g r g') (hn : av.length = n) (hls : ls.length = nL) (hst : (st.map fun v => v.category).sum ≤ 8)
    (hroom : M.2.2.2.2.frames + 1 ≤ rm.frames ∧ 8 + (M.2.2.1 + 11) + M.2.2.2.2.locals ≤ rm.locals) (hc0 : M.2.2.2.2.cells = 0) (hs0 : M.2.2.2.2.slots = 0) (hcell : cells ≤ rm.cells ∧ slots ≤ rm.slots)
    (k : Zc X (pc + 3) ls (r.toList ++ st) N g' cells slots) : Zc X pc ls (av.reverse ++ st) N g cells slots := by
  refine z_callS E hd lk hok hn hls hst (Nat.le_refl N) hroom (by rw [hc0, hs0]; exact hcell) ?_
  intro r2 g2 h
  obtain ⟨rfl, rfl⟩ := h
  rw [hc0, hs0]
  exact k
theorem z_cV (E : Ev X own cc nL rm nm) {idx n ci a : Nat} {fs : List Value} {M : Md} {av : List Value} {r : Option Value} {g' : Mem} (hd : decode cc pc = .ok (.invokevirtual idx, 3)) (lk : LkV own idx M n ci) (hg : g a = (ci, fs)) (hok : OkR M (.ref a :: av) N g r g') (hn : av.length = n) (hls : ls.length = nL) (hst : (st.map fun v => v.category).sum ≤ 8)
    (hroom : M.2.2.2.2.frames + 1 ≤ rm.frames ∧ 8 + (M.2.2.1 + 11) + M.2.2.2.2.locals ≤ rm.locals) (hc0 : M.2.2.2.2.cells = 0) (hs0 : M.2.2.2.2.slots = 0) (hcell : cells ≤ rm.cells ∧ slots ≤ rm.slots)
    (k : Zc X (pc + 3) ls (r.toList ++ st) N g' cells slots) : Zc X pc ls (av.reverse ++ .ref a :: st) N g cells slots := by
  refine z_callV E hd lk hg hok hn hls hst (Nat.le_refl N) hroom (by rw [hc0, hs0]; exact hcell) ?_
  intro r2 g2 h
  obtain ⟨rfl, rfl⟩ := h
  rw [hc0, hs0]
  exact k
/-- System.arraycopy between int arrays -/
def cpy (f h : Nat → Int) (sp dp n : Nat) : Nat → Int := fun k => if dp ≤ k ∧ k < dp + n then f (sp + (k - dp)) else h k
def LkC (own : String) (idx : Nat) : Prop := Cond.methodLink own idx arraycopyName ∈ tblG
theorem acp_in : Cond.native arraycopyName ∈ tblG ∧ Cond.static arraycopyName ∈ tblG ∧ Cond.initialized "java/lang/System" ∈ tblG := by decide +kernel
theorem vals_arr (B n : Nat) (h : Nat → Int) (cA : ClassId) : arrV cA (vals n h).length (fun j => mv B ((vals n h).getD j .null)) = arrV cA n (fun j => .int (iI (h j))) := by
  rw [vals_len]
  unfold arrV
  congr 2
  funext j
  have hj := j.isLt
  simp [List.getD_eq_getElem?_getD, vals_at h hj, mv]
theorem z_copy (E : Ev X own cc nL rm nm) {idx a0 a n0 n1 sp dp n : Nat} {f h : Nat → Int} {zs zd zn : Int} (hd : decode cc pc = .ok (.invokestatic idx, 3)) (lk : LkC own idx) (hg0 : g a0 = (6, vals n0 f)) (hg1 : g a = (6, vals n1 h)) (hs : zs = (sp : Int)) (hdp : zd = (dp : Int)) (hn : zn = (n : Int)) (h4 : sp + n ≤ n0) (h5 : dp + n ≤ n1) (hsm : n0 < 2147483648 ∧ n1 < 2147483648) (hls : ls.length = nL)
    (hfr : 1 ≤ rm.frames) (hlo : (st.map fun v => v.category).sum + (nativeFrameWords "java/lang/System" "arraycopy" 5 + 11) ≤ rm.locals)
    (k : Zc X (pc + 3) ls st N (va_up g a (6, vals n1 (cpy f h sp dp n))) cells slots) : Zc X pc ls (.int (iI zn) :: .int (iI zd) :: .ref a :: .int (iI zs) :: .ref a0 :: st) N g cells slots := by
  obtain ⟨p, l, e, R, s, m, args, below, meth, c, Q, B⟩ := X
  obtain ⟨hx, hb, hml, hown, hts, hR, hnm, hNs⟩ := E
  subst hR
  intro H locs lsA hl hW hS
  obtain ⟨hz, D, hKn, hc⟩ := id hW
  have ha0 := hc a0 (by rw [hg0]; show 6 < 12; omega)
  have ha1 := hc a (by rw [hg1]; show 6 < 12; omega)
  rw [hg0] at ha0
  rw [hg1] at ha1
  obtain ⟨c0, x1, x2, x3⟩ := ha0.2 (Nat.le_refl 6)
  obtain ⟨c1, y1, y2, y3⟩ := ha1.2 (Nat.le_refl 6)
  have e0 : ∀ z : Int, ∀ j : Nat, z = (j : Int) → j < 2147483648 → ¬ iI z < 0 := fun z j hj hb3 q => by
    rw [← iI_0, iI_lt ⟨by omega, by omega⟩ ⟨by omega, by omega⟩] at q
    omega
  intro T hT Xs
  have hc0 : H[B + a0]? = some (arrV c0 n0 (fun j => .int (iI (f j)))) := by rw [← vals_arr B n0 f c0]; exact x1
  have hc1 : H[B + a]? = some (arrV c1 n1 (fun j => .int (iI (h j)))) := by rw [← vals_arr B n1 h c1]; exact y1
  obtain ⟨-, k0, hk0, cm0, hkk0⟩ := x2 n0 (fun j => .int (iI (f j)))
  obtain ⟨-, k1, hk1, cm1, hkk1⟩ := y2 n1 (fun j => .int (iI (h j)))
  have ts : (iI zs).toInt = (sp : Int) := by rw [iI_toInt ⟨by omega, by omega⟩, hs]
  have td : (iI zd).toInt = (dp : Int) := by rw [iI_toInt ⟨by omega, by omega⟩, hdp]
  have tn : (iI zn).toInt = (n : Int) := by rw [iI_toInt ⟨by omega, by omega⟩, hn]
  obtain ⟨vm', X', step⟩ := Xs.arraycopy hx hown (hts _ lk) (hts _ acp_in.1) (hts _ acp_in.2.1) (hts _ acp_in.2.2) (src := B + a0) (dst := B + a) (cs := arrV c0 n0 (fun j => .int (iI (f j)))) (cd := arrV c1 n1 (fun j => .int (iI (h j)))) (srcPos := iI zs) (destPos := iI zd) (n := iI zn) (by rw [hT]; exact hc0) (by rw [hT]; exact hc1)
    (fun _ q => by cases q) (fun _ q => by cases q) (fun q => by cases q) (fun q => by cases q) hk0 hk1 hkk0 hkk1 (by simp [kty]) (e0 zs sp hs (by omega)) (e0 zd dp hdp (by omega)) (e0 zn n hn (by omega))
    (by rw [ts, tn, arrV_size]; omega)
    (by rw [td, tn, arrV_size]; omega)
    (fun vm₁ _ i hi => by
      rw [iI_clamp hn (by omega)] at hi
      have e : (arrV c0 n0 (fun j => Value.int (iI (f j)))).slots.getD ((iI zs).toNatClampNeg + i) .null = .int (iI (f (sp + i))) := by
        rw [iI_clamp hs (by omega), Array.getD_eq_getD_getElem?, arrV_read _ _ (by omega)]
        rfl
      refine ⟨?_, ?_⟩
      · rw [e]; rfl
      · rw [e]; exact trivial)
    (g := F0 m pc lsA (.int (iI zn) :: .int (iI zd) :: .ref (B + a) :: .int (iI zs) :: .ref (B + a0) :: st.map (mv B))) rfl (by rw [hml, ← hls, ← hl.1]) (rest := st.map (mv B)) rfl (by rw [hb]; exact hd) hfr (by show 2 * 0 + _ + _ ≤ _; rw [cats_mv]; omega)
  have e1 : copied (arrV c0 n0 (fun j => Value.int (iI (f j)))) (arrV c1 n1 (fun j => Value.int (iI (h j)))) (iI zs) (iI zd) (iI zn) = arrV c1 n1 (fun j => .int (iI (cpy f h sp dp n j))) := by
    have q := va_copied (fun z : Int => Value.int (iI z)) c0 c1 (n0 := n0) (n1 := n1) (sp := (iI zs).toNatClampNeg) (dp := (iI zd).toNatClampNeg) (n := (iI zn).toNatClampNeg) f h (by rw [iI_clamp hs (by omega), iI_clamp hn (by omega)]; exact h4)
    refine q.trans ?_
    rw [iI_clamp hs (by omega), iI_clamp hn (by omega), iI_clamp hdp (by omega)]
    rfl
  rw [e1] at X' step
  have hlt : B + a < H.size := (Array.getElem?_eq_some_iff.mp hc1).1
  have hheap : ((T.setVm vm').setCell (B + a) (arrV c1 n1 (fun j => .int (iI (cpy f h sp dp n j))))).heap = H.setIfInBounds (B + a) (arrV c1 n1 (fun j => .int (iI (cpy f h sp dp n j)))) := by rw [← hT]; rfl
  have oq : ∀ q : Nat, q ≠ B + a → (H.setIfInBounds (B + a) (arrV c1 n1 (fun j => .int (iI (cpy f h sp dp n j)))))[q]? = H[q]? := fun q hq => by simp [Array.getElem?_setIfInBounds, Ne.symm hq]
  obtain ⟨t, a1, b1⟩ := k _ _ lsA hl ⟨by simp; exact hz, D, hKn, cells_upd hc oq ⟨fun r2 hr2 => by have := vw_lt hr2; have : 6 < 6 := this; omega, fun _ => ⟨c1, by
      show _ = some (arrV c1 (vals n1 (cpy f h sp dp n)).length _)
      rw [vals_arr]
      simp [Array.getElem?_setIfInBounds, hlt], y2, y3⟩⟩⟩ ⟨by simp; exact hS.1, fun q g1 g2 => by
      rw [oq q (fun e => g2 (by rw [e]; exact Nat.le_add_right B a))]
      exact hS.2.1 q g1 g2, fun q hq => by
      rcases List.mem_append.mp hq with h | h
      · exact hS.2.2 q h
      · obtain ⟨z, -, hz⟩ := List.mem_map.mp h
        rw [← hz]
        exact Nat.le_add_right B a⟩ _ hheap X'
  exact ⟨t, step t a1, b1⟩
end CALLS
end
section
theorem in_tbl (i : Nat) {w : Cond} (h : lw_tbl[i]? = some w) (hg : goodWord w = true) : w ∈ tblG := List.mem_filter.mpr ⟨List.mem_of_getElem? h, hg⟩
abbrev mX0_init : Md := (yX0_init, cX0_init, 3, none, { frames := 2, cells := 36, slots := 406, locals := 44 })
abbrev mX0_ofKind : Md := (yX0_ofKind, cX0_ofKind, 4, none, { frames := 3, cells := 0, slots := 0, locals := 65 })
abbrev mX0_geometric : Md := (yX0_geometric, cX0_geometric, 4, none, { frames := 0, cells := 0, slots := 0, locals := 0 })
abbrev mX0_exponential : Md := (yX0_exponential, cX0_exponential, 4, none, { frames := 1, cells := 0, slots := 0, locals := 23 })
abbrev mX0_logarithm : Md := (yX0_logarithm, cX0_logarithm, 4, none, { frames := 2, cells := 0, slots := 0, locals := 42 })
abbrev mX0_turned : Md := (yX0_turned, cX0_turned, 4, none, { frames := 4, cells := 0, slots := 0, locals := 90 })
abbrev mX0_tBy : Md := (yX0_tBy, cX0_tBy, 3, none, { frames := 3, cells := 0, slots := 0, locals := 68 })
abbrev mX0_oneByInto : Md := (yX0_oneByInto, cX0_oneByInto, 4, none, { frames := 3, cells := 0, slots := 0, locals := 68 })
abbrev mX0_operated : Md := (yX0_operated, cX0_operated, 7, none, { frames := 0, cells := 0, slots := 0, locals := 0 })
abbrev mX0_build : Md := (yX0_build, cX0_build, 7, none, { frames := 5, cells := 0, slots := 0, locals := 113 })
abbrev mX0_firstNotLowered : Md := (yX0_firstNotLowered, cX0_firstNotLowered, 4, (some .int), { frames := 1, cells := 0, slots := 0, locals := 26 })
abbrev mX0_isTimes : Md := (yX0_isTimes, cX0_isTimes, 4, (some .boolean), { frames := 0, cells := 0, slots := 0, locals := 0 })
abbrev mX0_toldIn : Md := (yX0_toldIn, cX0_toldIn, 8, (some .int), { frames := 2, cells := 0, slots := 0, locals := 61 })
abbrev mX0_binomialUpTo : Md := (yX0_binomialUpTo, cX0_binomialUpTo, 4, (some .int), { frames := 3, cells := 0, slots := 0, locals := 66 })
abbrev mX0_isBinomialAt : Md := (yX0_isBinomialAt, cX0_isBinomialAt, 6, (some .boolean), { frames := 0, cells := 0, slots := 0, locals := 0 })
abbrev mX0_summed : Md := (yX0_summed, cX0_summed, 8, (some .int), { frames := 4, cells := 0, slots := 0, locals := 90 })
abbrev mX0_differenceAt : Md := (yX0_differenceAt, cX0_differenceAt, 4, (some .int), { frames := 4, cells := 0, slots := 0, locals := 90 })
abbrev mX0_fillDifferencesAt : Md := (yX0_fillDifferencesAt, cX0_fillDifferencesAt, 5, none, { frames := 3, cells := 0, slots := 0, locals := 66 })
abbrev mX0_valuesToDifferences : Md := (yX0_valuesToDifferences, cX0_valuesToDifferences, 3, none, { frames := 2, cells := 0, slots := 0, locals := 42 })
abbrev mX0_throughValues : Md := (yX0_throughValues, cX0_throughValues, 6, none, { frames := 3, cells := 0, slots := 0, locals := 64 })
abbrev mX1_init : Md := (yX1_init, cX1_init, 2, none, { frames := 2, cells := 21, slots := 120, locals := 40 })
abbrev mX2_of : Md := (yX2_of, cX2_of, 1, (some .int), { frames := 1, cells := 0, slots := 0, locals := 22 })
abbrev mX2_inverse : Md := (yX2_inverse, cX2_inverse, 3, (some .int), { frames := 0, cells := 0, slots := 0, locals := 0 })
abbrev mX3_init : Md := (yX3_init, cX3_init, 1, none, { frames := 1, cells := 1, slots := 10, locals := 20 })
abbrev mX3_canDivide : Md := (yX3_canDivide, cX3_canDivide, 1, (some .boolean), { frames := 0, cells := 0, slots := 0, locals := 0 })
abbrev mX3_canBePutIn : Md := (yX3_canBePutIn, cX3_canBePutIn, 1, (some .boolean), { frames := 0, cells := 0, slots := 0, locals := 0 })
abbrev mX3_canTurn : Md := (yX3_canTurn, cX3_canTurn, 1, (some .boolean), { frames := 0, cells := 0, slots := 0, locals := 0 })
abbrev mX3_becomeConstant : Md := (yX3_becomeConstant, cX3_becomeConstant, 2, none, { frames := 1, cells := 0, slots := 0, locals := 23 })
abbrev mX3_becomeCopyOf : Md := (yX3_becomeCopyOf, cX3_becomeCopyOf, 2, none, { frames := 1, cells := 0, slots := 0, locals := 40 })
abbrev mX3_becomeTotal : Md := (yX3_becomeTotal, cX3_becomeTotal, 4, none, { frames := 0, cells := 0, slots := 0, locals := 0 })
abbrev mX3_becomeRest : Md := (yX3_becomeRest, cX3_becomeRest, 4, none, { frames := 2, cells := 0, slots := 0, locals := 42 })
abbrev mX3_becomeTimes : Md := (yX3_becomeTimes, cX3_becomeTimes, 6, none, { frames := 0, cells := 0, slots := 0, locals := 0 })
abbrev mX3_becomeQuotient : Md := (yX3_becomeQuotient, cX3_becomeQuotient, 7, none, { frames := 2, cells := 0, slots := 0, locals := 42 })
abbrev mX3_becomeInto : Md := (yX3_becomeInto, cX3_becomeInto, 4, none, { frames := 2, cells := 0, slots := 0, locals := 44 })
abbrev mX3_becomeRaised : Md := (yX3_becomeRaised, cX3_becomeRaised, 4, none, { frames := 2, cells := 0, slots := 0, locals := 44 })
abbrev mX3_becomeShiftedDown : Md := (yX3_becomeShiftedDown, cX3_becomeShiftedDown, 2, none, { frames := 1, cells := 0, slots := 0, locals := 40 })
abbrev mX3_becomeShiftedUp : Md := (yX3_becomeShiftedUp, cX3_becomeShiftedUp, 2, none, { frames := 1, cells := 0, slots := 0, locals := 40 })
abbrev mX3_becomeTimesFactor : Md := (yX3_becomeTimesFactor, cX3_becomeTimesFactor, 3, none, { frames := 2, cells := 0, slots := 0, locals := 42 })
abbrev mX3_valueAt : Md := (yX3_valueAt, cX3_valueAt, 5, (some .int), { frames := 2, cells := 0, slots := 0, locals := 42 })
abbrev mX3_degree : Md := (yX3_degree, cX3_degree, 2, (some .int), { frames := 0, cells := 0, slots := 0, locals := 0 })
abbrev mX3_mixedInto : Md := (yX3_mixedInto, cX3_mixedInto, 6, (some .long), { frames := 0, cells := 0, slots := 0, locals := 0 })
abbrev mX4_init : Md := (yX4_init, cX4_init, 1, none, { frames := 1, cells := 1, slots := 20, locals := 20 })
abbrev mX4_renew : Md := (yX4_renew, cX4_renew, 3, none, { frames := 1, cells := 0, slots := 0, locals := 23 })
abbrev mX4_findingAt : Md := (yX4_findingAt, cX4_findingAt, 3, (some .int), { frames := 0, cells := 0, slots := 0, locals := 0 })
abbrev mX4_hasStretch : Md := (yX4_hasStretch, cX4_hasStretch, 3, (some .boolean), { frames := 0, cells := 0, slots := 0, locals := 0 })
abbrev mX4_number : Md := (yX4_number, cX4_number, 2, (some .int), { frames := 2, cells := 0, slots := 0, locals := 42 })
abbrev mX5_init : Md := (yX5_init, cX5_init, 2, none, { frames := 3, cells := 155, slots := 1175, locals := 66 })
abbrev mX5_sheet : Md := (yX5_sheet, cX5_sheet, 4, (some .int), { frames := 2, cells := 0, slots := 0, locals := 45 })
abbrev mX5_lose : Md := (yX5_lose, cX5_lose, 2, (some .int), { frames := 1, cells := 0, slots := 0, locals := 21 })
abbrev mX5_put : Md := (yX5_put, cX5_put, 6, (some .int), { frames := 1, cells := 0, slots := 0, locals := 22 })
abbrev mX5_get : Md := (yX5_get, cX5_get, 5, (some .int), { frames := 1, cells := 0, slots := 0, locals := 22 })
abbrev mX5_copy : Md := (yX5_copy, cX5_copy, 6, (some .int), { frames := 1, cells := 0, slots := 0, locals := 40 })
abbrev mX5_term : Md := (yX5_term, cX5_term, 3, (some .int), { frames := 3, cells := 0, slots := 0, locals := 63 })
abbrev mX5_kind : Md := (yX5_kind, cX5_kind, 4, (some .int), { frames := 4, cells := 0, slots := 0, locals := 88 })
abbrev mX5_join : Md := (yX5_join, cX5_join, 5, (some .int), { frames := 4, cells := 0, slots := 0, locals := 86 })
abbrev mX5_over : Md := (yX5_over, cX5_over, 4, (some .int), { frames := 4, cells := 0, slots := 0, locals := 86 })
abbrev mX5_into : Md := (yX5_into, cX5_into, 4, (some .int), { frames := 4, cells := 0, slots := 0, locals := 86 })
abbrev mX5_turn : Md := (yX5_turn, cX5_turn, 3, (some .int), { frames := 5, cells := 0, slots := 0, locals := 113 })
abbrev mX5_power : Md := (yX5_power, cX5_power, 4, (some .int), { frames := 4, cells := 0, slots := 0, locals := 86 })
abbrev mX5_value : Md := (yX5_value, cX5_value, 3, (some .int), { frames := 4, cells := 0, slots := 0, locals := 86 })
abbrev mX5_apply : Md := (yX5_apply, cX5_apply, 4, (some .int), { frames := 4, cells := 0, slots := 0, locals := 86 })
abbrev mX5_ladder : Md := (yX5_ladder, cX5_ladder, 4, (some .int), { frames := 6, cells := 0, slots := 0, locals := 139 })
abbrev mX5_step : Md := (yX5_step, cX5_step, 4, (some .int), { frames := 1, cells := 0, slots := 0, locals := 20 })
abbrev mX5_at : Md := (yX5_at, cX5_at, 4, (some .int), { frames := 3, cells := 0, slots := 0, locals := 66 })
abbrev mX5_tell : Md := (yX5_tell, cX5_tell, 4, (some .int), { frames := 3, cells := 0, slots := 0, locals := 67 })
abbrev mX5_lowers : Md := (yX5_lowers, cX5_lowers, 3, (some .int), { frames := 4, cells := 0, slots := 0, locals := 86 })
abbrev mX5_bound : Md := (yX5_bound, cX5_bound, 5, (some .int), { frames := 3, cells := 0, slots := 0, locals := 88 })
abbrev mX5_binomial : Md := (yX5_binomial, cX5_binomial, 2, (some .int), { frames := 4, cells := 0, slots := 0, locals := 89 })
abbrev mX5_sum : Md := (yX5_sum, cX5_sum, 4, (some .int), { frames := 5, cells := 0, slots := 0, locals := 117 })
abbrev mX5_through : Md := (yX5_through, cX5_through, 4, (some .int), { frames := 4, cells := 0, slots := 0, locals := 89 })
abbrev mX5_difference : Md := (yX5_difference, cX5_difference, 4, (some .int), { frames := 5, cells := 0, slots := 0, locals := 113 })
abbrev mX5_triangle : Md := (yX5_triangle, cX5_triangle, 5, (some .int), { frames := 4, cells := 0, slots := 0, locals := 86 })
abbrev mX5_product : Md := (yX5_product, cX5_product, 7, (some .int), { frames := 4, cells := 0, slots := 0, locals := 86 })
abbrev mX5_back : Md := (yX5_back, cX5_back, 5, (some .int), { frames := 5, cells := 0, slots := 0, locals := 113 })
abbrev mX5_aRow : Md := (yX5_aRow, cX5_aRow, 3, (some .int), { frames := 5, cells := 0, slots := 0, locals := 113 })
abbrev mX5_count : Md := (yX5_count, cX5_count, 2, (some .int), { frames := 1, cells := 0, slots := 0, locals := 22 })
abbrev mX5_digest : Md := (yX5_digest, cX5_digest, 4, (some .long), { frames := 4, cells := 0, slots := 0, locals := 86 })
abbrev mX5_isSheet : Md := (yX5_isSheet, cX5_isSheet, 1, (some .boolean), { frames := 0, cells := 0, slots := 0, locals := 0 })
abbrev mX5_isForm : Md := (yX5_isForm, cX5_isForm, 1, (some .boolean), { frames := 0, cells := 0, slots := 0, locals := 0 })
abbrev mX5_isLadder : Md := (yX5_isLadder, cX5_isLadder, 1, (some .boolean), { frames := 0, cells := 0, slots := 0, locals := 0 })
abbrev mX5_isPlace : Md := (yX5_isPlace, cX5_isPlace, 1, (some .boolean), { frames := 0, cells := 0, slots := 0, locals := 0 })
abbrev mX5_narrowed : Md := (yX5_narrowed, cX5_narrowed, 2, (some .int), { frames := 0, cells := 0, slots := 0, locals := 0 })
abbrev mX5_found : Md := (yX5_found, cX5_found, 2, (some .int), { frames := 0, cells := 0, slots := 0, locals := 0 })
abbrev mX5_reads : Md := (yX5_reads, cX5_reads, 4, (some .boolean), { frames := 3, cells := 0, slots := 0, locals := 63 })
abbrev mX5_becomes : Md := (yX5_becomes, cX5_becomes, 3, (some .int), { frames := 2, cells := 0, slots := 0, locals := 45 })
abbrev mX5_sheetsKept : Md := (yX5_sheetsKept, cX5_sheetsKept, 3, (some .int), { frames := 0, cells := 0, slots := 0, locals := 0 })
abbrev mX5_laddersStanding : Md := (yX5_laddersStanding, cX5_laddersStanding, 3, (some .int), { frames := 0, cells := 0, slots := 0, locals := 0 })
abbrev mX6_init : Md := (yX6_init, cX6_init, 1, none, { frames := 1, cells := 15, slots := 688, locals := 20 })
abbrev mX6_in : Md := (yX6_in, cX6_in, 3, (some .boolean), { frames := 0, cells := 0, slots := 0, locals := 0 })
abbrev mX6_mod : Md := (yX6_mod, cX6_mod, 4, (some .int), { frames := 0, cells := 0, slots := 0, locals := 0 })
abbrev mX6_toThe : Md := (yX6_toThe, cX6_toThe, 7, (some .int), { frames := 0, cells := 0, slots := 0, locals := 0 })
abbrev mX6_turnedNumber : Md := (yX6_turnedNumber, cX6_turnedNumber, 1, (some .int), { frames := 1, cells := 0, slots := 0, locals := 26 })
abbrev mX6_factorial : Md := (yX6_factorial, cX6_factorial, 3, (some .int), { frames := 1, cells := 0, slots := 0, locals := 23 })
abbrev mX6_meets : Md := (yX6_meets, cX6_meets, 2, (some .int), { frames := 0, cells := 0, slots := 0, locals := 0 })
abbrev mX6_isSheet : Md := (yX6_isSheet, cX6_isSheet, 1, (some .boolean), { frames := 1, cells := 0, slots := 0, locals := 22 })
abbrev mX6_sheet : Md := (yX6_sheet, cX6_sheet, 5, (some .int), { frames := 2, cells := 0, slots := 0, locals := 42 })
abbrev mX6_lose : Md := (yX6_lose, cX6_lose, 2, (some .int), { frames := 2, cells := 0, slots := 0, locals := 42 })
abbrev mX6_lacks : Md := (yX6_lacks, cX6_lacks, 4, (some .int), { frames := 1, cells := 0, slots := 0, locals := 22 })
abbrev mX6_put : Md := (yX6_put, cX6_put, 6, (some .int), { frames := 2, cells := 0, slots := 0, locals := 45 })
abbrev mX6_get : Md := (yX6_get, cX6_get, 5, (some .int), { frames := 2, cells := 0, slots := 0, locals := 45 })
abbrev mX6_copy : Md := (yX6_copy, cX6_copy, 7, (some .int), { frames := 2, cells := 0, slots := 0, locals := 42 })
abbrev mX6_read : Md := (yX6_read, cX6_read, 4, none, { frames := 1, cells := 0, slots := 0, locals := 23 })
abbrev mX6_tells : Md := (yX6_tells, cX6_tells, 4, (some .int), { frames := 0, cells := 0, slots := 0, locals := 0 })
abbrev mX6_set : Md := (yX6_set, cX6_set, 3, none, { frames := 0, cells := 0, slots := 0, locals := 0 })
abbrev mX6_times : Md := (yX6_times, cX6_times, 7, none, { frames := 1, cells := 0, slots := 0, locals := 23 })
abbrev mX6_by : Md := (yX6_by, cX6_by, 8, none, { frames := 2, cells := 0, slots := 0, locals := 46 })
abbrev mX6_one : Md := (yX6_one, cX6_one, 2, none, { frames := 0, cells := 0, slots := 0, locals := 0 })
abbrev mX6_puts : Md := (yX6_puts, cX6_puts, 6, none, { frames := 2, cells := 0, slots := 0, locals := 49 })
abbrev mX6_canTurn : Md := (yX6_canTurn, cX6_canTurn, 1, (some .boolean), { frames := 0, cells := 0, slots := 0, locals := 0 })
abbrev mX6_turns : Md := (yX6_turns, cX6_turns, 6, none, { frames := 3, cells := 0, slots := 0, locals := 74 })
abbrev mX6_term : Md := (yX6_term, cX6_term, 3, (some .int), { frames := 2, cells := 0, slots := 0, locals := 46 })
abbrev mX6_kind : Md := (yX6_kind, cX6_kind, 9, (some .int), { frames := 2, cells := 0, slots := 0, locals := 46 })
abbrev mX6_isLost : Md := (yX6_isLost, cX6_isLost, 2, (some .boolean), { frames := 0, cells := 0, slots := 0, locals := 0 })
abbrev mX6_join : Md := (yX6_join, cX6_join, 6, (some .int), { frames := 2, cells := 0, slots := 0, locals := 49 })
abbrev mX6_over : Md := (yX6_over, cX6_over, 4, (some .int), { frames := 3, cells := 0, slots := 0, locals := 73 })
abbrev mX6_into : Md := (yX6_into, cX6_into, 4, (some .int), { frames := 3, cells := 0, slots := 0, locals := 74 })
abbrev mX6_turn : Md := (yX6_turn, cX6_turn, 3, (some .int), { frames := 4, cells := 0, slots := 0, locals := 99 })
abbrev mX6_power : Md := (yX6_power, cX6_power, 5, (some .int), { frames := 2, cells := 0, slots := 0, locals := 49 })
abbrev mX6_valueOf : Md := (yX6_valueOf, cX6_valueOf, 4, (some .int), { frames := 1, cells := 0, slots := 0, locals := 23 })
abbrev mX6_value : Md := (yX6_value, cX6_value, 3, (some .int), { frames := 2, cells := 0, slots := 0, locals := 46 })
abbrev mX6_works : Md := (yX6_works, cX6_works, 9, none, { frames := 1, cells := 0, slots := 0, locals := 23 })
abbrev mX6_apply : Md := (yX6_apply, cX6_apply, 4, (some .int), { frames := 2, cells := 0, slots := 0, locals := 51 })
abbrev mX6_isRung : Md := (yX6_isRung, cX6_isRung, 2, (some .boolean), { frames := 1, cells := 0, slots := 0, locals := 22 })
abbrev mX6_canLadder : Md := (yX6_canLadder, cX6_canLadder, 1, (some .boolean), { frames := 4, cells := 0, slots := 0, locals := 99 })
abbrev mX6_ladder : Md := (yX6_ladder, cX6_ladder, 7, (some .int), { frames := 5, cells := 0, slots := 0, locals := 119 })
abbrev mX6_step : Md := (yX6_step, cX6_step, 4, (some .int), { frames := 2, cells := 0, slots := 0, locals := 43 })
abbrev mX6_rung : Md := (yX6_rung, cX6_rung, 5, none, { frames := 0, cells := 0, slots := 0, locals := 0 })
abbrev mX6_at : Md := (yX6_at, cX6_at, 4, (some .int), { frames := 2, cells := 0, slots := 0, locals := 46 })
abbrev mX6_tell : Md := (yX6_tell, cX6_tell, 4, (some .int), { frames := 2, cells := 0, slots := 0, locals := 43 })
abbrev mX6_lowers : Md := (yX6_lowers, cX6_lowers, 5, (some .int), { frames := 2, cells := 0, slots := 0, locals := 51 })
abbrev mX6_bound : Md := (yX6_bound, cX6_bound, 8, (some .int), { frames := 2, cells := 0, slots := 0, locals := 46 })
abbrev mX6_choose : Md := (yX6_choose, cX6_choose, 2, (some .int), { frames := 2, cells := 0, slots := 0, locals := 46 })
abbrev mX6_stepAt : Md := (yX6_stepAt, cX6_stepAt, 4, (some .int), { frames := 2, cells := 0, slots := 0, locals := 46 })
abbrev mX6_isBinomial : Md := (yX6_isBinomial, cX6_isBinomial, 8, (some .boolean), { frames := 3, cells := 0, slots := 0, locals := 69 })
abbrev mX6_binomial : Md := (yX6_binomial, cX6_binomial, 3, (some .int), { frames := 4, cells := 0, slots := 0, locals := 96 })
abbrev mX6_differs : Md := (yX6_differs, cX6_differs, 8, (some .int), { frames := 3, cells := 0, slots := 0, locals := 67 })
abbrev mX6_sum : Md := (yX6_sum, cX6_sum, 7, (some .int), { frames := 4, cells := 0, slots := 0, locals := 94 })
abbrev mX6_through : Md := (yX6_through, cX6_through, 8, (some .int), { frames := 2, cells := 0, slots := 0, locals := 46 })
abbrev mX6_difference : Md := (yX6_difference, cX6_difference, 4, (some .int), { frames := 4, cells := 0, slots := 0, locals := 94 })
abbrev mX6_triangle : Md := (yX6_triangle, cX6_triangle, 6, (some .int), { frames := 2, cells := 0, slots := 0, locals := 49 })
abbrev mX6_product : Md := (yX6_product, cX6_product, 9, (some .int), { frames := 3, cells := 0, slots := 0, locals := 74 })
abbrev mX6_back : Md := (yX6_back, cX6_back, 7, (some .int), { frames := 5, cells := 0, slots := 0, locals := 119 })
abbrev mX6_aRow : Md := (yX6_aRow, cX6_aRow, 4, (some .int), { frames := 4, cells := 0, slots := 0, locals := 99 })
abbrev mX6_count : Md := (yX6_count, cX6_count, 4, (some .int), { frames := 0, cells := 0, slots := 0, locals := 0 })
abbrev mX6_digest : Md := (yX6_digest, cX6_digest, 5, (some .long), { frames := 2, cells := 0, slots := 0, locals := 46 })
abbrev mJ9_floorMod_7cf53 : Md := (yJ9_floorMod_7cf53, cJ9_floorMod_7cf53, 3, (some .int), { frames := 0, cells := 0, slots := 0, locals := 0 })
abbrev mJ7_fill_53178 : Md := (yJ7_fill_53178, cJ7_fill_53178, 4, none, { frames := 0, cells := 0, slots := 0, locals := 0 })
theorem lkL_13 : LkV RL 13 mX5_sheet 3 4 := ⟨(in_tbl 185 (by decide +kernel) rfl), (in_tbl 186 (by decide +kernel) rfl), (in_tbl 24 (by decide +kernel) rfl), (in_tbl 188 (by decide +kernel) rfl), (in_tbl 187 (by decide +kernel) rfl), ⟨_, rfl, rfl⟩, by decide +kernel, by decide +kernel, by decide +kernel⟩
theorem lkL_17 : LkV RL 17 mX6_sheet 3 5 := ⟨(in_tbl 581 (by decide +kernel) rfl), (in_tbl 582 (by decide +kernel) rfl), (in_tbl 31 (by decide +kernel) rfl), (in_tbl 584 (by decide +kernel) rfl), (in_tbl 583 (by decide +kernel) rfl), ⟨_, rfl, rfl⟩, by decide +kernel, by decide +kernel, by decide +kernel⟩
theorem lkL_18 : LkV RL 18 mX5_lose 1 4 := ⟨(in_tbl 204 (by decide +kernel) rfl), (in_tbl 205 (by decide +kernel) rfl), (in_tbl 24 (by decide +kernel) rfl), (in_tbl 207 (by decide +kernel) rfl), (in_tbl 206 (by decide +kernel) rfl), ⟨_, rfl, rfl⟩, by decide +kernel, by decide +kernel, by decide +kernel⟩
theorem lkL_22 : LkV RL 22 mX6_lose 1 5 := ⟨(in_tbl 595 (by decide +kernel) rfl), (in_tbl 596 (by decide +kernel) rfl), (in_tbl 31 (by decide +kernel) rfl), (in_tbl 598 (by decide +kernel) rfl), (in_tbl 597 (by decide +kernel) rfl), ⟨_, rfl, rfl⟩, by decide +kernel, by decide +kernel, by decide +kernel⟩
theorem lkL_23 : LkV RL 23 mX5_put 4 4 := ⟨(in_tbl 208 (by decide +kernel) rfl), (in_tbl 209 (by decide +kernel) rfl), (in_tbl 24 (by decide +kernel) rfl), (in_tbl 211 (by decide +kernel) rfl), (in_tbl 210 (by decide +kernel) rfl), ⟨_, rfl, rfl⟩, by decide +kernel, by decide +kernel, by decide +kernel⟩
theorem lkL_27 : LkV RL 27 mX6_put 4 5 := ⟨(in_tbl 599 (by decide +kernel) rfl), (in_tbl 600 (by decide +kernel) rfl), (in_tbl 31 (by decide +kernel) rfl), (in_tbl 602 (by decide +kernel) rfl), (in_tbl 601 (by decide +kernel) rfl), ⟨_, rfl, rfl⟩, by decide +kernel, by decide +kernel, by decide +kernel⟩
theorem lkL_28 : LkV RL 28 mX5_get 3 4 := ⟨(in_tbl 219 (by decide +kernel) rfl), (in_tbl 220 (by decide +kernel) rfl), (in_tbl 24 (by decide +kernel) rfl), (in_tbl 222 (by decide +kernel) rfl), (in_tbl 221 (by decide +kernel) rfl), ⟨_, rfl, rfl⟩, by decide +kernel, by decide +kernel, by decide +kernel⟩
theorem lkL_31 : LkV RL 31 mX6_get 3 5 := ⟨(in_tbl 607 (by decide +kernel) rfl), (in_tbl 608 (by decide +kernel) rfl), (in_tbl 31 (by decide +kernel) rfl), (in_tbl 610 (by decide +kernel) rfl), (in_tbl 609 (by decide +kernel) rfl), ⟨_, rfl, rfl⟩, by decide +kernel, by decide +kernel, by decide +kernel⟩
theorem lkL_32 : LkV RL 32 mX5_copy 5 4 := ⟨(in_tbl 224 (by decide +kernel) rfl), (in_tbl 225 (by decide +kernel) rfl), (in_tbl 24 (by decide +kernel) rfl), (in_tbl 227 (by decide +kernel) rfl), (in_tbl 226 (by decide +kernel) rfl), ⟨_, rfl, rfl⟩, by decide +kernel, by decide +kernel, by decide +kernel⟩
theorem lkL_36 : LkV RL 36 mX6_copy 5 5 := ⟨(in_tbl 612 (by decide +kernel) rfl), (in_tbl 613 (by decide +kernel) rfl), (in_tbl 31 (by decide +kernel) rfl), (in_tbl 615 (by decide +kernel) rfl), (in_tbl 614 (by decide +kernel) rfl), ⟨_, rfl, rfl⟩, by decide +kernel, by decide +kernel, by decide +kernel⟩
theorem lkL_37 : LkV RL 37 mX5_term 2 4 := ⟨(in_tbl 235 (by decide +kernel) rfl), (in_tbl 236 (by decide +kernel) rfl), (in_tbl 24 (by decide +kernel) rfl), (in_tbl 238 (by decide +kernel) rfl), (in_tbl 237 (by decide +kernel) rfl), ⟨_, rfl, rfl⟩, by decide +kernel, by decide +kernel, by decide +kernel⟩
theorem lkL_41 : LkV RL 41 mX6_term 2 5 := ⟨(in_tbl 616 (by decide +kernel) rfl), (in_tbl 617 (by decide +kernel) rfl), (in_tbl 31 (by decide +kernel) rfl), (in_tbl 619 (by decide +kernel) rfl), (in_tbl 618 (by decide +kernel) rfl), ⟨_, rfl, rfl⟩, by decide +kernel, by decide +kernel, by decide +kernel⟩
theorem lkL_42 : LkV RL 42 mX5_kind 3 4 := ⟨(in_tbl 252 (by decide +kernel) rfl), (in_tbl 253 (by decide +kernel) rfl), (in_tbl 24 (by decide +kernel) rfl), (in_tbl 255 (by decide +kernel) rfl), (in_tbl 254 (by decide +kernel) rfl), ⟨_, rfl, rfl⟩, by decide +kernel, by decide +kernel, by decide +kernel⟩
theorem lkL_45 : LkV RL 45 mX6_kind 3 5 := ⟨(in_tbl 628 (by decide +kernel) rfl), (in_tbl 629 (by decide +kernel) rfl), (in_tbl 31 (by decide +kernel) rfl), (in_tbl 631 (by decide +kernel) rfl), (in_tbl 630 (by decide +kernel) rfl), ⟨_, rfl, rfl⟩, by decide +kernel, by decide +kernel, by decide +kernel⟩
theorem lkL_46 : LkV RL 46 mX5_join 4 4 := ⟨(in_tbl 282 (by decide +kernel) rfl), (in_tbl 283 (by decide +kernel) rfl), (in_tbl 24 (by decide +kernel) rfl), (in_tbl 285 (by decide +kernel) rfl), (in_tbl 284 (by decide +kernel) rfl), ⟨_, rfl, rfl⟩, by decide +kernel, by decide +kernel, by decide +kernel⟩
theorem lkL_49 : LkV RL 49 mX6_join 4 5 := ⟨(in_tbl 646 (by decide +kernel) rfl), (in_tbl 647 (by decide +kernel) rfl), (in_tbl 31 (by decide +kernel) rfl), (in_tbl 649 (by decide +kernel) rfl), (in_tbl 648 (by decide +kernel) rfl), ⟨_, rfl, rfl⟩, by decide +kernel, by decide +kernel, by decide +kernel⟩
theorem lkL_50 : LkV RL 50 mX5_over 3 4 := ⟨(in_tbl 303 (by decide +kernel) rfl), (in_tbl 304 (by decide +kernel) rfl), (in_tbl 24 (by decide +kernel) rfl), (in_tbl 306 (by decide +kernel) rfl), (in_tbl 305 (by decide +kernel) rfl), ⟨_, rfl, rfl⟩, by decide +kernel, by decide +kernel, by decide +kernel⟩
theorem lkL_53 : LkV RL 53 mX6_over 3 5 := ⟨(in_tbl 657 (by decide +kernel) rfl), (in_tbl 658 (by decide +kernel) rfl), (in_tbl 31 (by decide +kernel) rfl), (in_tbl 660 (by decide +kernel) rfl), (in_tbl 659 (by decide +kernel) rfl), ⟨_, rfl, rfl⟩, by decide +kernel, by decide +kernel, by decide +kernel⟩
theorem lkL_54 : LkV RL 54 mX5_into 3 4 := ⟨(in_tbl 316 (by decide +kernel) rfl), (in_tbl 317 (by decide +kernel) rfl), (in_tbl 24 (by decide +kernel) rfl), (in_tbl 319 (by decide +kernel) rfl), (in_tbl 318 (by decide +kernel) rfl), ⟨_, rfl, rfl⟩, by decide +kernel, by decide +kernel, by decide +kernel⟩
theorem lkL_57 : LkV RL 57 mX6_into 3 5 := ⟨(in_tbl 664 (by decide +kernel) rfl), (in_tbl 665 (by decide +kernel) rfl), (in_tbl 31 (by decide +kernel) rfl), (in_tbl 667 (by decide +kernel) rfl), (in_tbl 666 (by decide +kernel) rfl), ⟨_, rfl, rfl⟩, by decide +kernel, by decide +kernel, by decide +kernel⟩
theorem lkL_58 : LkV RL 58 mX5_turn 2 4 := ⟨(in_tbl 330 (by decide +kernel) rfl), (in_tbl 331 (by decide +kernel) rfl), (in_tbl 24 (by decide +kernel) rfl), (in_tbl 333 (by decide +kernel) rfl), (in_tbl 332 (by decide +kernel) rfl), ⟨_, rfl, rfl⟩, by decide +kernel, by decide +kernel, by decide +kernel⟩
theorem lkL_61 : LkV RL 61 mX6_turn 2 5 := ⟨(in_tbl 678 (by decide +kernel) rfl), (in_tbl 679 (by decide +kernel) rfl), (in_tbl 31 (by decide +kernel) rfl), (in_tbl 681 (by decide +kernel) rfl), (in_tbl 680 (by decide +kernel) rfl), ⟨_, rfl, rfl⟩, by decide +kernel, by decide +kernel, by decide +kernel⟩
theorem lkL_62 : LkV RL 62 mX5_power 3 4 := ⟨(in_tbl 352 (by decide +kernel) rfl), (in_tbl 353 (by decide +kernel) rfl), (in_tbl 24 (by decide +kernel) rfl), (in_tbl 355 (by decide +kernel) rfl), (in_tbl 354 (by decide +kernel) rfl), ⟨_, rfl, rfl⟩, by decide +kernel, by decide +kernel, by decide +kernel⟩
theorem lkL_65 : LkV RL 65 mX6_power 3 5 := ⟨(in_tbl 689 (by decide +kernel) rfl), (in_tbl 690 (by decide +kernel) rfl), (in_tbl 31 (by decide +kernel) rfl), (in_tbl 692 (by decide +kernel) rfl), (in_tbl 691 (by decide +kernel) rfl), ⟨_, rfl, rfl⟩, by decide +kernel, by decide +kernel, by decide +kernel⟩
theorem lkL_66 : LkV RL 66 mX5_value 2 4 := ⟨(in_tbl 360 (by decide +kernel) rfl), (in_tbl 361 (by decide +kernel) rfl), (in_tbl 24 (by decide +kernel) rfl), (in_tbl 363 (by decide +kernel) rfl), (in_tbl 362 (by decide +kernel) rfl), ⟨_, rfl, rfl⟩, by decide +kernel, by decide +kernel, by decide +kernel⟩
theorem lkL_69 : LkV RL 69 mX6_value 2 5 := ⟨(in_tbl 693 (by decide +kernel) rfl), (in_tbl 694 (by decide +kernel) rfl), (in_tbl 31 (by decide +kernel) rfl), (in_tbl 696 (by decide +kernel) rfl), (in_tbl 695 (by decide +kernel) rfl), ⟨_, rfl, rfl⟩, by decide +kernel, by decide +kernel, by decide +kernel⟩
theorem lkL_70 : LkV RL 70 mX5_apply 3 4 := ⟨(in_tbl 368 (by decide +kernel) rfl), (in_tbl 369 (by decide +kernel) rfl), (in_tbl 24 (by decide +kernel) rfl), (in_tbl 371 (by decide +kernel) rfl), (in_tbl 370 (by decide +kernel) rfl), ⟨_, rfl, rfl⟩, by decide +kernel, by decide +kernel, by decide +kernel⟩
theorem lkL_73 : LkV RL 73 mX6_apply 3 5 := ⟨(in_tbl 700 (by decide +kernel) rfl), (in_tbl 701 (by decide +kernel) rfl), (in_tbl 31 (by decide +kernel) rfl), (in_tbl 703 (by decide +kernel) rfl), (in_tbl 702 (by decide +kernel) rfl), ⟨_, rfl, rfl⟩, by decide +kernel, by decide +kernel, by decide +kernel⟩
theorem lkL_74 : LkV RL 74 mX5_ladder 3 4 := ⟨(in_tbl 376 (by decide +kernel) rfl), (in_tbl 377 (by decide +kernel) rfl), (in_tbl 24 (by decide +kernel) rfl), (in_tbl 379 (by decide +kernel) rfl), (in_tbl 378 (by decide +kernel) rfl), ⟨_, rfl, rfl⟩, by decide +kernel, by decide +kernel, by decide +kernel⟩
theorem lkL_77 : LkV RL 77 mX6_ladder 3 5 := ⟨(in_tbl 707 (by decide +kernel) rfl), (in_tbl 708 (by decide +kernel) rfl), (in_tbl 31 (by decide +kernel) rfl), (in_tbl 710 (by decide +kernel) rfl), (in_tbl 709 (by decide +kernel) rfl), ⟨_, rfl, rfl⟩, by decide +kernel, by decide +kernel, by decide +kernel⟩
theorem lkL_78 : LkV RL 78 mX5_step 3 4 := ⟨(in_tbl 393 (by decide +kernel) rfl), (in_tbl 394 (by decide +kernel) rfl), (in_tbl 24 (by decide +kernel) rfl), (in_tbl 396 (by decide +kernel) rfl), (in_tbl 395 (by decide +kernel) rfl), ⟨_, rfl, rfl⟩, by decide +kernel, by decide +kernel, by decide +kernel⟩
theorem lkL_81 : LkV RL 81 mX6_step 3 5 := ⟨(in_tbl 715 (by decide +kernel) rfl), (in_tbl 716 (by decide +kernel) rfl), (in_tbl 31 (by decide +kernel) rfl), (in_tbl 718 (by decide +kernel) rfl), (in_tbl 717 (by decide +kernel) rfl), ⟨_, rfl, rfl⟩, by decide +kernel, by decide +kernel, by decide +kernel⟩
theorem lkL_82 : LkV RL 82 mX5_at 3 4 := ⟨(in_tbl 397 (by decide +kernel) rfl), (in_tbl 398 (by decide +kernel) rfl), (in_tbl 24 (by decide +kernel) rfl), (in_tbl 400 (by decide +kernel) rfl), (in_tbl 399 (by decide +kernel) rfl), ⟨_, rfl, rfl⟩, by decide +kernel, by decide +kernel, by decide +kernel⟩
theorem lkL_85 : LkV RL 85 mX6_at 3 5 := ⟨(in_tbl 722 (by decide +kernel) rfl), (in_tbl 723 (by decide +kernel) rfl), (in_tbl 31 (by decide +kernel) rfl), (in_tbl 725 (by decide +kernel) rfl), (in_tbl 724 (by decide +kernel) rfl), ⟨_, rfl, rfl⟩, by decide +kernel, by decide +kernel, by decide +kernel⟩
theorem lkL_86 : LkV RL 86 mX5_tell 3 4 := ⟨(in_tbl 401 (by decide +kernel) rfl), (in_tbl 402 (by decide +kernel) rfl), (in_tbl 24 (by decide +kernel) rfl), (in_tbl 404 (by decide +kernel) rfl), (in_tbl 403 (by decide +kernel) rfl), ⟨_, rfl, rfl⟩, by decide +kernel, by decide +kernel, by decide +kernel⟩
theorem lkL_89 : LkV RL 89 mX6_tell 3 5 := ⟨(in_tbl 730 (by decide +kernel) rfl), (in_tbl 731 (by decide +kernel) rfl), (in_tbl 31 (by decide +kernel) rfl), (in_tbl 733 (by decide +kernel) rfl), (in_tbl 732 (by decide +kernel) rfl), ⟨_, rfl, rfl⟩, by decide +kernel, by decide +kernel, by decide +kernel⟩
theorem lkL_90 : LkV RL 90 mX5_lowers 2 4 := ⟨(in_tbl 405 (by decide +kernel) rfl), (in_tbl 406 (by decide +kernel) rfl), (in_tbl 24 (by decide +kernel) rfl), (in_tbl 408 (by decide +kernel) rfl), (in_tbl 407 (by decide +kernel) rfl), ⟨_, rfl, rfl⟩, by decide +kernel, by decide +kernel, by decide +kernel⟩
theorem lkL_93 : LkV RL 93 mX6_lowers 2 5 := ⟨(in_tbl 734 (by decide +kernel) rfl), (in_tbl 735 (by decide +kernel) rfl), (in_tbl 31 (by decide +kernel) rfl), (in_tbl 737 (by decide +kernel) rfl), (in_tbl 736 (by decide +kernel) rfl), ⟨_, rfl, rfl⟩, by decide +kernel, by decide +kernel, by decide +kernel⟩
theorem lkL_94 : LkV RL 94 mX5_bound 4 4 := ⟨(in_tbl 417 (by decide +kernel) rfl), (in_tbl 418 (by decide +kernel) rfl), (in_tbl 24 (by decide +kernel) rfl), (in_tbl 420 (by decide +kernel) rfl), (in_tbl 419 (by decide +kernel) rfl), ⟨_, rfl, rfl⟩, by decide +kernel, by decide +kernel, by decide +kernel⟩
theorem lkL_97 : LkV RL 97 mX6_bound 4 5 := ⟨(in_tbl 738 (by decide +kernel) rfl), (in_tbl 739 (by decide +kernel) rfl), (in_tbl 31 (by decide +kernel) rfl), (in_tbl 741 (by decide +kernel) rfl), (in_tbl 740 (by decide +kernel) rfl), ⟨_, rfl, rfl⟩, by decide +kernel, by decide +kernel, by decide +kernel⟩
theorem lkL_98 : LkV RL 98 mX5_binomial 1 4 := ⟨(in_tbl 429 (by decide +kernel) rfl), (in_tbl 430 (by decide +kernel) rfl), (in_tbl 24 (by decide +kernel) rfl), (in_tbl 432 (by decide +kernel) rfl), (in_tbl 431 (by decide +kernel) rfl), ⟨_, rfl, rfl⟩, by decide +kernel, by decide +kernel, by decide +kernel⟩
theorem lkL_101 : LkV RL 101 mX6_binomial 1 5 := ⟨(in_tbl 742 (by decide +kernel) rfl), (in_tbl 743 (by decide +kernel) rfl), (in_tbl 31 (by decide +kernel) rfl), (in_tbl 745 (by decide +kernel) rfl), (in_tbl 744 (by decide +kernel) rfl), ⟨_, rfl, rfl⟩, by decide +kernel, by decide +kernel, by decide +kernel⟩
theorem lkL_102 : LkV RL 102 mX5_sum 3 4 := ⟨(in_tbl 442 (by decide +kernel) rfl), (in_tbl 443 (by decide +kernel) rfl), (in_tbl 24 (by decide +kernel) rfl), (in_tbl 445 (by decide +kernel) rfl), (in_tbl 444 (by decide +kernel) rfl), ⟨_, rfl, rfl⟩, by decide +kernel, by decide +kernel, by decide +kernel⟩
theorem lkL_105 : LkV RL 105 mX6_sum 3 5 := ⟨(in_tbl 757 (by decide +kernel) rfl), (in_tbl 758 (by decide +kernel) rfl), (in_tbl 31 (by decide +kernel) rfl), (in_tbl 760 (by decide +kernel) rfl), (in_tbl 759 (by decide +kernel) rfl), ⟨_, rfl, rfl⟩, by decide +kernel, by decide +kernel, by decide +kernel⟩
theorem lkL_106 : LkV RL 106 mX5_through 3 4 := ⟨(in_tbl 459 (by decide +kernel) rfl), (in_tbl 460 (by decide +kernel) rfl), (in_tbl 24 (by decide +kernel) rfl), (in_tbl 462 (by decide +kernel) rfl), (in_tbl 461 (by decide +kernel) rfl), ⟨_, rfl, rfl⟩, by decide +kernel, by decide +kernel, by decide +kernel⟩
theorem lkL_109 : LkV RL 109 mX6_through 3 5 := ⟨(in_tbl 766 (by decide +kernel) rfl), (in_tbl 767 (by decide +kernel) rfl), (in_tbl 31 (by decide +kernel) rfl), (in_tbl 769 (by decide +kernel) rfl), (in_tbl 768 (by decide +kernel) rfl), ⟨_, rfl, rfl⟩, by decide +kernel, by decide +kernel, by decide +kernel⟩
theorem lkL_110 : LkV RL 110 mX5_difference 3 4 := ⟨(in_tbl 476 (by decide +kernel) rfl), (in_tbl 477 (by decide +kernel) rfl), (in_tbl 24 (by decide +kernel) rfl), (in_tbl 479 (by decide +kernel) rfl), (in_tbl 478 (by decide +kernel) rfl), ⟨_, rfl, rfl⟩, by decide +kernel, by decide +kernel, by decide +kernel⟩
theorem lkL_113 : LkV RL 113 mX6_difference 3 5 := ⟨(in_tbl 770 (by decide +kernel) rfl), (in_tbl 771 (by decide +kernel) rfl), (in_tbl 31 (by decide +kernel) rfl), (in_tbl 773 (by decide +kernel) rfl), (in_tbl 772 (by decide +kernel) rfl), ⟨_, rfl, rfl⟩, by decide +kernel, by decide +kernel, by decide +kernel⟩
theorem lkL_114 : LkV RL 114 mX5_triangle 4 4 := ⟨(in_tbl 484 (by decide +kernel) rfl), (in_tbl 485 (by decide +kernel) rfl), (in_tbl 24 (by decide +kernel) rfl), (in_tbl 487 (by decide +kernel) rfl), (in_tbl 486 (by decide +kernel) rfl), ⟨_, rfl, rfl⟩, by decide +kernel, by decide +kernel, by decide +kernel⟩
theorem lkL_117 : LkV RL 117 mX6_triangle 4 5 := ⟨(in_tbl 774 (by decide +kernel) rfl), (in_tbl 775 (by decide +kernel) rfl), (in_tbl 31 (by decide +kernel) rfl), (in_tbl 777 (by decide +kernel) rfl), (in_tbl 776 (by decide +kernel) rfl), ⟨_, rfl, rfl⟩, by decide +kernel, by decide +kernel, by decide +kernel⟩
theorem lkL_118 : LkV RL 118 mX5_product 6 4 := ⟨(in_tbl 488 (by decide +kernel) rfl), (in_tbl 489 (by decide +kernel) rfl), (in_tbl 24 (by decide +kernel) rfl), (in_tbl 491 (by decide +kernel) rfl), (in_tbl 490 (by decide +kernel) rfl), ⟨_, rfl, rfl⟩, by decide +kernel, by decide +kernel, by decide +kernel⟩
theorem lkL_122 : LkV RL 122 mX6_product 6 5 := ⟨(in_tbl 778 (by decide +kernel) rfl), (in_tbl 779 (by decide +kernel) rfl), (in_tbl 31 (by decide +kernel) rfl), (in_tbl 781 (by decide +kernel) rfl), (in_tbl 780 (by decide +kernel) rfl), ⟨_, rfl, rfl⟩, by decide +kernel, by decide +kernel, by decide +kernel⟩
theorem lkL_123 : LkV RL 123 mX5_back 4 4 := ⟨(in_tbl 492 (by decide +kernel) rfl), (in_tbl 493 (by decide +kernel) rfl), (in_tbl 24 (by decide +kernel) rfl), (in_tbl 495 (by decide +kernel) rfl), (in_tbl 494 (by decide +kernel) rfl), ⟨_, rfl, rfl⟩, by decide +kernel, by decide +kernel, by decide +kernel⟩
theorem lkL_126 : LkV RL 126 mX6_back 4 5 := ⟨(in_tbl 782 (by decide +kernel) rfl), (in_tbl 783 (by decide +kernel) rfl), (in_tbl 31 (by decide +kernel) rfl), (in_tbl 785 (by decide +kernel) rfl), (in_tbl 784 (by decide +kernel) rfl), ⟨_, rfl, rfl⟩, by decide +kernel, by decide +kernel, by decide +kernel⟩
theorem lkL_127 : LkV RL 127 mX5_aRow 2 4 := ⟨(in_tbl 497 (by decide +kernel) rfl), (in_tbl 498 (by decide +kernel) rfl), (in_tbl 24 (by decide +kernel) rfl), (in_tbl 500 (by decide +kernel) rfl), (in_tbl 499 (by decide +kernel) rfl), ⟨_, rfl, rfl⟩, by decide +kernel, by decide +kernel, by decide +kernel⟩
theorem lkL_130 : LkV RL 130 mX6_aRow 2 5 := ⟨(in_tbl 786 (by decide +kernel) rfl), (in_tbl 787 (by decide +kernel) rfl), (in_tbl 31 (by decide +kernel) rfl), (in_tbl 789 (by decide +kernel) rfl), (in_tbl 788 (by decide +kernel) rfl), ⟨_, rfl, rfl⟩, by decide +kernel, by decide +kernel, by decide +kernel⟩
theorem lkL_131 : LkV RL 131 mX5_count 1 4 := ⟨(in_tbl 502 (by decide +kernel) rfl), (in_tbl 503 (by decide +kernel) rfl), (in_tbl 24 (by decide +kernel) rfl), (in_tbl 505 (by decide +kernel) rfl), (in_tbl 504 (by decide +kernel) rfl), ⟨_, rfl, rfl⟩, by decide +kernel, by decide +kernel, by decide +kernel⟩
theorem lkL_134 : LkV RL 134 mX6_count 1 5 := ⟨(in_tbl 790 (by decide +kernel) rfl), (in_tbl 791 (by decide +kernel) rfl), (in_tbl 31 (by decide +kernel) rfl), (in_tbl 793 (by decide +kernel) rfl), (in_tbl 792 (by decide +kernel) rfl), ⟨_, rfl, rfl⟩, by decide +kernel, by decide +kernel, by decide +kernel⟩
theorem lkL_135 : LkV RL 135 mX5_digest 0 4 := ⟨(in_tbl 514 (by decide +kernel) rfl), (in_tbl 515 (by decide +kernel) rfl), (in_tbl 24 (by decide +kernel) rfl), (in_tbl 517 (by decide +kernel) rfl), (in_tbl 516 (by decide +kernel) rfl), ⟨_, rfl, rfl⟩, by decide +kernel, by decide +kernel, by decide +kernel⟩
theorem lkL_139 : LkV RL 139 mX6_digest 0 5 := ⟨(in_tbl 794 (by decide +kernel) rfl), (in_tbl 795 (by decide +kernel) rfl), (in_tbl 31 (by decide +kernel) rfl), (in_tbl 797 (by decide +kernel) rfl), (in_tbl 796 (by decide +kernel) rfl), ⟨_, rfl, rfl⟩, by decide +kernel, by decide +kernel, by decide +kernel⟩
theorem lkX0_51 : LkV RX0 51 mX3_becomeConstant 1 2 := ⟨(in_tbl 67 (by decide +kernel) rfl), (in_tbl 68 (by decide +kernel) rfl), (in_tbl 26 (by decide +kernel) rfl), (in_tbl 70 (by decide +kernel) rfl), (in_tbl 69 (by decide +kernel) rfl), ⟨_, rfl, rfl⟩, by decide +kernel, by decide +kernel, by decide +kernel⟩
theorem lkX0_55 : LkS RX0 55 mX2_inverse 1 := ⟨(in_tbl 74 (by decide +kernel) rfl), (in_tbl 75 (by decide +kernel) rfl), (in_tbl 28 (by decide +kernel) rfl), (in_tbl 76 (by decide +kernel) rfl), by decide +kernel, by decide +kernel, by decide +kernel⟩
theorem lkX0_64 : LkV RX0 64 mX0_exponential 2 0 := ⟨(in_tbl 260 (by decide +kernel) rfl), (in_tbl 262 (by decide +kernel) rfl), (in_tbl 25 (by decide +kernel) rfl), (in_tbl 263 (by decide +kernel) rfl), (in_tbl 1 (by decide +kernel) rfl), ⟨_, rfl, rfl⟩, by decide +kernel, by decide +kernel, by decide +kernel⟩
theorem lkX0_68 : LkV RX0 68 mX0_geometric 2 0 := ⟨(in_tbl 264 (by decide +kernel) rfl), (in_tbl 266 (by decide +kernel) rfl), (in_tbl 25 (by decide +kernel) rfl), (in_tbl 267 (by decide +kernel) rfl), (in_tbl 2 (by decide +kernel) rfl), ⟨_, rfl, rfl⟩, by decide +kernel, by decide +kernel, by decide +kernel⟩
theorem lkX0_71 : LkV RX0 71 mX3_becomeShiftedUp 1 2 := ⟨(in_tbl 268 (by decide +kernel) rfl), (in_tbl 269 (by decide +kernel) rfl), (in_tbl 26 (by decide +kernel) rfl), (in_tbl 271 (by decide +kernel) rfl), (in_tbl 270 (by decide +kernel) rfl), ⟨_, rfl, rfl⟩, by decide +kernel, by decide +kernel, by decide +kernel⟩
theorem lkX0_75 : LkV RX0 75 mX0_logarithm 2 0 := ⟨(in_tbl 273 (by decide +kernel) rfl), (in_tbl 275 (by decide +kernel) rfl), (in_tbl 25 (by decide +kernel) rfl), (in_tbl 276 (by decide +kernel) rfl), (in_tbl 3 (by decide +kernel) rfl), ⟨_, rfl, rfl⟩, by decide +kernel, by decide +kernel, by decide +kernel⟩
theorem lkX0_78 : LkS RX0 78 mX2_of 1 := ⟨(in_tbl 277 (by decide +kernel) rfl), (in_tbl 247 (by decide +kernel) rfl), (in_tbl 28 (by decide +kernel) rfl), (in_tbl 248 (by decide +kernel) rfl), by decide +kernel, by decide +kernel, by decide +kernel⟩
theorem lkX0_81 : LkV RX0 81 mX0_tBy 2 0 := ⟨(in_tbl 342 (by decide +kernel) rfl), (in_tbl 343 (by decide +kernel) rfl), (in_tbl 25 (by decide +kernel) rfl), (in_tbl 345 (by decide +kernel) rfl), (in_tbl 344 (by decide +kernel) rfl), ⟨_, rfl, rfl⟩, by decide +kernel, by decide +kernel, by decide +kernel⟩
theorem lkX0_85 : LkV RX0 85 mX3_becomeTimes 2 2 := ⟨(in_tbl 351 (by decide +kernel) rfl), (in_tbl 300 (by decide +kernel) rfl), (in_tbl 26 (by decide +kernel) rfl), (in_tbl 302 (by decide +kernel) rfl), (in_tbl 301 (by decide +kernel) rfl), ⟨_, rfl, rfl⟩, by decide +kernel, by decide +kernel, by decide +kernel⟩
theorem lkX0_88 : LkV RX0 88 mX3_becomeShiftedDown 1 2 := ⟨(in_tbl 346 (by decide +kernel) rfl), (in_tbl 347 (by decide +kernel) rfl), (in_tbl 26 (by decide +kernel) rfl), (in_tbl 349 (by decide +kernel) rfl), (in_tbl 348 (by decide +kernel) rfl), ⟨_, rfl, rfl⟩, by decide +kernel, by decide +kernel, by decide +kernel⟩
theorem lkX0_91 : LkV RX0 91 mX3_becomeQuotient 2 2 := ⟨(in_tbl 350 (by decide +kernel) rfl), (in_tbl 312 (by decide +kernel) rfl), (in_tbl 26 (by decide +kernel) rfl), (in_tbl 314 (by decide +kernel) rfl), (in_tbl 313 (by decide +kernel) rfl), ⟨_, rfl, rfl⟩, by decide +kernel, by decide +kernel, by decide +kernel⟩
theorem lkX0_94 : LkV RX0 94 mX3_becomeInto 2 2 := ⟨(in_tbl 392 (by decide +kernel) rfl), (in_tbl 325 (by decide +kernel) rfl), (in_tbl 26 (by decide +kernel) rfl), (in_tbl 327 (by decide +kernel) rfl), (in_tbl 326 (by decide +kernel) rfl), ⟨_, rfl, rfl⟩, by decide +kernel, by decide +kernel, by decide +kernel⟩
theorem lkX0_97 : LkV RX0 97 mX0_turned 2 0 := ⟨(in_tbl 387 (by decide +kernel) rfl), (in_tbl 339 (by decide +kernel) rfl), (in_tbl 25 (by decide +kernel) rfl), (in_tbl 341 (by decide +kernel) rfl), (in_tbl 340 (by decide +kernel) rfl), ⟨_, rfl, rfl⟩, by decide +kernel, by decide +kernel, by decide +kernel⟩
theorem lkX0_100 : LkV RX0 100 mX0_oneByInto 3 0 := ⟨(in_tbl 388 (by decide +kernel) rfl), (in_tbl 389 (by decide +kernel) rfl), (in_tbl 25 (by decide +kernel) rfl), (in_tbl 391 (by decide +kernel) rfl), (in_tbl 390 (by decide +kernel) rfl), ⟨_, rfl, rfl⟩, by decide +kernel, by decide +kernel, by decide +kernel⟩
theorem lkX0_114 : LkV RX0 114 mX0_operated 3 0 := ⟨(in_tbl 413 (by decide +kernel) rfl), (in_tbl 373 (by decide +kernel) rfl), (in_tbl 25 (by decide +kernel) rfl), (in_tbl 375 (by decide +kernel) rfl), (in_tbl 374 (by decide +kernel) rfl), ⟨_, rfl, rfl⟩, by decide +kernel, by decide +kernel, by decide +kernel⟩
theorem lkX0_117 : LkS RX0 117 mX0_isTimes 3 := ⟨(in_tbl 414 (by decide +kernel) rfl), (in_tbl 415 (by decide +kernel) rfl), (in_tbl 25 (by decide +kernel) rfl), (in_tbl 416 (by decide +kernel) rfl), by decide +kernel, by decide +kernel, by decide +kernel⟩
theorem lkX0_121 : LkV RX0 121 mX3_becomeCopyOf 1 2 := ⟨(in_tbl 425 (by decide +kernel) rfl), (in_tbl 426 (by decide +kernel) rfl), (in_tbl 26 (by decide +kernel) rfl), (in_tbl 428 (by decide +kernel) rfl), (in_tbl 427 (by decide +kernel) rfl), ⟨_, rfl, rfl⟩, by decide +kernel, by decide +kernel, by decide +kernel⟩
theorem lkX0_124 : LkV RX0 124 mX3_valueAt 1 2 := ⟨(in_tbl 437 (by decide +kernel) rfl), (in_tbl 365 (by decide +kernel) rfl), (in_tbl 26 (by decide +kernel) rfl), (in_tbl 367 (by decide +kernel) rfl), (in_tbl 366 (by decide +kernel) rfl), ⟨_, rfl, rfl⟩, by decide +kernel, by decide +kernel, by decide +kernel⟩
theorem lkX0_127 : LkV RX0 127 mX0_isBinomialAt 1 0 := ⟨(in_tbl 438 (by decide +kernel) rfl), (in_tbl 440 (by decide +kernel) rfl), (in_tbl 25 (by decide +kernel) rfl), (in_tbl 441 (by decide +kernel) rfl), (in_tbl 6 (by decide +kernel) rfl), ⟨_, rfl, rfl⟩, by decide +kernel, by decide +kernel, by decide +kernel⟩
theorem lkX0_131 : LkV RX0 131 mX0_fillDifferencesAt 2 0 := ⟨(in_tbl 451 (by decide +kernel) rfl), (in_tbl 453 (by decide +kernel) rfl), (in_tbl 25 (by decide +kernel) rfl), (in_tbl 454 (by decide +kernel) rfl), (in_tbl 7 (by decide +kernel) rfl), ⟨_, rfl, rfl⟩, by decide +kernel, by decide +kernel, by decide +kernel⟩
theorem lkX0_135 : LkV RX0 135 mX0_valuesToDifferences 0 0 := ⟨(in_tbl 455 (by decide +kernel) rfl), (in_tbl 457 (by decide +kernel) rfl), (in_tbl 25 (by decide +kernel) rfl), (in_tbl 458 (by decide +kernel) rfl), (in_tbl 8 (by decide +kernel) rfl), ⟨_, rfl, rfl⟩, by decide +kernel, by decide +kernel, by decide +kernel⟩
theorem lkX0_138 : LkC RX0 138 := (in_tbl 467 (by decide +kernel) rfl)
theorem lkX0_144 : LkV RX0 144 mX3_becomeTimesFactor 1 2 := ⟨(in_tbl 468 (by decide +kernel) rfl), (in_tbl 469 (by decide +kernel) rfl), (in_tbl 26 (by decide +kernel) rfl), (in_tbl 471 (by decide +kernel) rfl), (in_tbl 470 (by decide +kernel) rfl), ⟨_, rfl, rfl⟩, by decide +kernel, by decide +kernel, by decide +kernel⟩
theorem lkX2_9 : LkS RX2 9 mJ9_floorMod_7cf53 2 := ⟨(in_tbl 249 (by decide +kernel) rfl), (in_tbl 250 (by decide +kernel) rfl), (in_tbl 33 (by decide +kernel) rfl), (in_tbl 251 (by decide +kernel) rfl), by decide +kernel, by decide +kernel, by decide +kernel⟩
theorem lkX3_15 : LkS RX3 15 mJ7_fill_53178 2 := ⟨(in_tbl 71 (by decide +kernel) rfl), (in_tbl 72 (by decide +kernel) rfl), (in_tbl 27 (by decide +kernel) rfl), (in_tbl 73 (by decide +kernel) rfl), by decide +kernel, by decide +kernel, by decide +kernel⟩
theorem lkX3_21 : LkC RX3 21 := (in_tbl 272 (by decide +kernel) rfl)
theorem lkX3_27 : LkS RX3 27 mX2_of 1 := ⟨(in_tbl 298 (by decide +kernel) rfl), (in_tbl 247 (by decide +kernel) rfl), (in_tbl 28 (by decide +kernel) rfl), (in_tbl 248 (by decide +kernel) rfl), by decide +kernel, by decide +kernel, by decide +kernel⟩
theorem lkX3_33 : LkS RX3 33 mX2_inverse 1 := ⟨(in_tbl 315 (by decide +kernel) rfl), (in_tbl 75 (by decide +kernel) rfl), (in_tbl 28 (by decide +kernel) rfl), (in_tbl 76 (by decide +kernel) rfl), by decide +kernel, by decide +kernel, by decide +kernel⟩
theorem lkX3_36 : LkV RX3 36 mX3_becomeConstant 1 2 := ⟨(in_tbl 328 (by decide +kernel) rfl), (in_tbl 68 (by decide +kernel) rfl), (in_tbl 26 (by decide +kernel) rfl), (in_tbl 70 (by decide +kernel) rfl), (in_tbl 69 (by decide +kernel) rfl), ⟨_, rfl, rfl⟩, by decide +kernel, by decide +kernel, by decide +kernel⟩
theorem lkX3_40 : LkV RX3 40 mX3_becomeTimes 2 2 := ⟨(in_tbl 329 (by decide +kernel) rfl), (in_tbl 300 (by decide +kernel) rfl), (in_tbl 26 (by decide +kernel) rfl), (in_tbl 302 (by decide +kernel) rfl), (in_tbl 301 (by decide +kernel) rfl), ⟨_, rfl, rfl⟩, by decide +kernel, by decide +kernel, by decide +kernel⟩
theorem lkX4_26 : LkS RX4 26 mJ7_fill_53178 2 := ⟨(in_tbl 203 (by decide +kernel) rfl), (in_tbl 72 (by decide +kernel) rfl), (in_tbl 27 (by decide +kernel) rfl), (in_tbl 73 (by decide +kernel) rfl), by decide +kernel, by decide +kernel, by decide +kernel⟩
theorem lkX4_32 : LkS RX4 32 mX2_of 1 := ⟨(in_tbl 246 (by decide +kernel) rfl), (in_tbl 247 (by decide +kernel) rfl), (in_tbl 28 (by decide +kernel) rfl), (in_tbl 248 (by decide +kernel) rfl), by decide +kernel, by decide +kernel, by decide +kernel⟩
theorem lkX5_56 : LkS RX5 56 mX5_isSheet 1 := ⟨(in_tbl 189 (by decide +kernel) rfl), (in_tbl 190 (by decide +kernel) rfl), (in_tbl 24 (by decide +kernel) rfl), (in_tbl 191 (by decide +kernel) rfl), by decide +kernel, by decide +kernel, by decide +kernel⟩
theorem lkX5_60 : LkS RX5 60 mX5_isForm 1 := ⟨(in_tbl 192 (by decide +kernel) rfl), (in_tbl 193 (by decide +kernel) rfl), (in_tbl 24 (by decide +kernel) rfl), (in_tbl 194 (by decide +kernel) rfl), by decide +kernel, by decide +kernel, by decide +kernel⟩
theorem lkX5_63 : LkV RX5 63 mX5_found 1 4 := ⟨(in_tbl 195 (by decide +kernel) rfl), (in_tbl 197 (by decide +kernel) rfl), (in_tbl 24 (by decide +kernel) rfl), (in_tbl 198 (by decide +kernel) rfl), (in_tbl 0 (by decide +kernel) rfl), ⟨_, rfl, rfl⟩, by decide +kernel, by decide +kernel, by decide +kernel⟩
theorem lkX5_67 : LkV RX5 67 mX4_renew 2 3 := ⟨(in_tbl 199 (by decide +kernel) rfl), (in_tbl 200 (by decide +kernel) rfl), (in_tbl 29 (by decide +kernel) rfl), (in_tbl 202 (by decide +kernel) rfl), (in_tbl 201 (by decide +kernel) rfl), ⟨_, rfl, rfl⟩, by decide +kernel, by decide +kernel, by decide +kernel⟩
theorem lkX5_78 : LkV RX5 78 mX4_findingAt 2 3 := ⟨(in_tbl 212 (by decide +kernel) rfl), (in_tbl 213 (by decide +kernel) rfl), (in_tbl 29 (by decide +kernel) rfl), (in_tbl 215 (by decide +kernel) rfl), (in_tbl 214 (by decide +kernel) rfl), ⟨_, rfl, rfl⟩, by decide +kernel, by decide +kernel, by decide +kernel⟩
theorem lkX5_86 : LkS RX5 86 mX5_narrowed 2 := ⟨(in_tbl 216 (by decide +kernel) rfl), (in_tbl 217 (by decide +kernel) rfl), (in_tbl 24 (by decide +kernel) rfl), (in_tbl 218 (by decide +kernel) rfl), by decide +kernel, by decide +kernel, by decide +kernel⟩
theorem lkX5_93 : LkV RX5 93 mX4_hasStretch 2 3 := ⟨(in_tbl 228 (by decide +kernel) rfl), (in_tbl 229 (by decide +kernel) rfl), (in_tbl 29 (by decide +kernel) rfl), (in_tbl 231 (by decide +kernel) rfl), (in_tbl 230 (by decide +kernel) rfl), ⟨_, rfl, rfl⟩, by decide +kernel, by decide +kernel, by decide +kernel⟩
theorem lkX5_97 : LkC RX5 97 := (in_tbl 232 (by decide +kernel) rfl)
theorem lkX5_103 : LkS RX5 103 mX5_isPlace 1 := ⟨(in_tbl 239 (by decide +kernel) rfl), (in_tbl 240 (by decide +kernel) rfl), (in_tbl 24 (by decide +kernel) rfl), (in_tbl 241 (by decide +kernel) rfl), by decide +kernel, by decide +kernel, by decide +kernel⟩
theorem lkX5_106 : LkV RX5 106 mX4_number 1 3 := ⟨(in_tbl 242 (by decide +kernel) rfl), (in_tbl 243 (by decide +kernel) rfl), (in_tbl 29 (by decide +kernel) rfl), (in_tbl 245 (by decide +kernel) rfl), (in_tbl 244 (by decide +kernel) rfl), ⟨_, rfl, rfl⟩, by decide +kernel, by decide +kernel, by decide +kernel⟩
theorem lkX5_109 : LkV RX5 109 mX0_ofKind 3 0 := ⟨(in_tbl 256 (by decide +kernel) rfl), (in_tbl 257 (by decide +kernel) rfl), (in_tbl 25 (by decide +kernel) rfl), (in_tbl 259 (by decide +kernel) rfl), (in_tbl 258 (by decide +kernel) rfl), ⟨_, rfl, rfl⟩, by decide +kernel, by decide +kernel, by decide +kernel⟩
theorem lkX5_113 : LkV RX5 113 mX5_becomes 2 4 := ⟨(in_tbl 278 (by decide +kernel) rfl), (in_tbl 280 (by decide +kernel) rfl), (in_tbl 24 (by decide +kernel) rfl), (in_tbl 281 (by decide +kernel) rfl), (in_tbl 4 (by decide +kernel) rfl), ⟨_, rfl, rfl⟩, by decide +kernel, by decide +kernel, by decide +kernel⟩
theorem lkX5_117 : LkV RX5 117 mX5_reads 2 4 := ⟨(in_tbl 286 (by decide +kernel) rfl), (in_tbl 288 (by decide +kernel) rfl), (in_tbl 24 (by decide +kernel) rfl), (in_tbl 289 (by decide +kernel) rfl), (in_tbl 5 (by decide +kernel) rfl), ⟨_, rfl, rfl⟩, by decide +kernel, by decide +kernel, by decide +kernel⟩
theorem lkX5_121 : LkV RX5 121 mX3_becomeTotal 2 2 := ⟨(in_tbl 290 (by decide +kernel) rfl), (in_tbl 291 (by decide +kernel) rfl), (in_tbl 26 (by decide +kernel) rfl), (in_tbl 293 (by decide +kernel) rfl), (in_tbl 292 (by decide +kernel) rfl), ⟨_, rfl, rfl⟩, by decide +kernel, by decide +kernel, by decide +kernel⟩
theorem lkX5_125 : LkV RX5 125 mX3_becomeRest 2 2 := ⟨(in_tbl 294 (by decide +kernel) rfl), (in_tbl 295 (by decide +kernel) rfl), (in_tbl 26 (by decide +kernel) rfl), (in_tbl 297 (by decide +kernel) rfl), (in_tbl 296 (by decide +kernel) rfl), ⟨_, rfl, rfl⟩, by decide +kernel, by decide +kernel, by decide +kernel⟩
theorem lkX5_128 : LkV RX5 128 mX3_becomeTimes 2 2 := ⟨(in_tbl 299 (by decide +kernel) rfl), (in_tbl 300 (by decide +kernel) rfl), (in_tbl 26 (by decide +kernel) rfl), (in_tbl 302 (by decide +kernel) rfl), (in_tbl 301 (by decide +kernel) rfl), ⟨_, rfl, rfl⟩, by decide +kernel, by decide +kernel, by decide +kernel⟩
theorem lkX5_131 : LkV RX5 131 mX3_canDivide 0 2 := ⟨(in_tbl 307 (by decide +kernel) rfl), (in_tbl 308 (by decide +kernel) rfl), (in_tbl 26 (by decide +kernel) rfl), (in_tbl 310 (by decide +kernel) rfl), (in_tbl 309 (by decide +kernel) rfl), ⟨_, rfl, rfl⟩, by decide +kernel, by decide +kernel, by decide +kernel⟩
theorem lkX5_135 : LkV RX5 135 mX3_becomeQuotient 2 2 := ⟨(in_tbl 311 (by decide +kernel) rfl), (in_tbl 312 (by decide +kernel) rfl), (in_tbl 26 (by decide +kernel) rfl), (in_tbl 314 (by decide +kernel) rfl), (in_tbl 313 (by decide +kernel) rfl), ⟨_, rfl, rfl⟩, by decide +kernel, by decide +kernel, by decide +kernel⟩
theorem lkX5_138 : LkV RX5 138 mX3_canBePutIn 0 2 := ⟨(in_tbl 320 (by decide +kernel) rfl), (in_tbl 321 (by decide +kernel) rfl), (in_tbl 26 (by decide +kernel) rfl), (in_tbl 323 (by decide +kernel) rfl), (in_tbl 322 (by decide +kernel) rfl), ⟨_, rfl, rfl⟩, by decide +kernel, by decide +kernel, by decide +kernel⟩
theorem lkX5_141 : LkV RX5 141 mX3_becomeInto 2 2 := ⟨(in_tbl 324 (by decide +kernel) rfl), (in_tbl 325 (by decide +kernel) rfl), (in_tbl 26 (by decide +kernel) rfl), (in_tbl 327 (by decide +kernel) rfl), (in_tbl 326 (by decide +kernel) rfl), ⟨_, rfl, rfl⟩, by decide +kernel, by decide +kernel, by decide +kernel⟩
theorem lkX5_144 : LkV RX5 144 mX3_canTurn 0 2 := ⟨(in_tbl 334 (by decide +kernel) rfl), (in_tbl 335 (by decide +kernel) rfl), (in_tbl 26 (by decide +kernel) rfl), (in_tbl 337 (by decide +kernel) rfl), (in_tbl 336 (by decide +kernel) rfl), ⟨_, rfl, rfl⟩, by decide +kernel, by decide +kernel, by decide +kernel⟩
theorem lkX5_147 : LkV RX5 147 mX0_turned 2 0 := ⟨(in_tbl 338 (by decide +kernel) rfl), (in_tbl 339 (by decide +kernel) rfl), (in_tbl 25 (by decide +kernel) rfl), (in_tbl 341 (by decide +kernel) rfl), (in_tbl 340 (by decide +kernel) rfl), ⟨_, rfl, rfl⟩, by decide +kernel, by decide +kernel, by decide +kernel⟩
theorem lkX5_150 : LkV RX5 150 mX3_becomeRaised 2 2 := ⟨(in_tbl 356 (by decide +kernel) rfl), (in_tbl 357 (by decide +kernel) rfl), (in_tbl 26 (by decide +kernel) rfl), (in_tbl 359 (by decide +kernel) rfl), (in_tbl 358 (by decide +kernel) rfl), ⟨_, rfl, rfl⟩, by decide +kernel, by decide +kernel, by decide +kernel⟩
theorem lkX5_154 : LkV RX5 154 mX3_valueAt 1 2 := ⟨(in_tbl 364 (by decide +kernel) rfl), (in_tbl 365 (by decide +kernel) rfl), (in_tbl 26 (by decide +kernel) rfl), (in_tbl 367 (by decide +kernel) rfl), (in_tbl 366 (by decide +kernel) rfl), ⟨_, rfl, rfl⟩, by decide +kernel, by decide +kernel, by decide +kernel⟩
theorem lkX5_157 : LkV RX5 157 mX0_operated 3 0 := ⟨(in_tbl 372 (by decide +kernel) rfl), (in_tbl 373 (by decide +kernel) rfl), (in_tbl 25 (by decide +kernel) rfl), (in_tbl 375 (by decide +kernel) rfl), (in_tbl 374 (by decide +kernel) rfl), ⟨_, rfl, rfl⟩, by decide +kernel, by decide +kernel, by decide +kernel⟩
theorem lkX5_161 : LkS RX5 161 mX5_isLadder 1 := ⟨(in_tbl 380 (by decide +kernel) rfl), (in_tbl 381 (by decide +kernel) rfl), (in_tbl 24 (by decide +kernel) rfl), (in_tbl 382 (by decide +kernel) rfl), by decide +kernel, by decide +kernel, by decide +kernel⟩
theorem lkX5_164 : LkV RX5 164 mX0_build 3 0 := ⟨(in_tbl 383 (by decide +kernel) rfl), (in_tbl 384 (by decide +kernel) rfl), (in_tbl 25 (by decide +kernel) rfl), (in_tbl 386 (by decide +kernel) rfl), (in_tbl 385 (by decide +kernel) rfl), ⟨_, rfl, rfl⟩, by decide +kernel, by decide +kernel, by decide +kernel⟩
theorem lkX5_178 : LkV RX5 178 mX0_firstNotLowered 2 0 := ⟨(in_tbl 409 (by decide +kernel) rfl), (in_tbl 410 (by decide +kernel) rfl), (in_tbl 25 (by decide +kernel) rfl), (in_tbl 412 (by decide +kernel) rfl), (in_tbl 411 (by decide +kernel) rfl), ⟨_, rfl, rfl⟩, by decide +kernel, by decide +kernel, by decide +kernel⟩
theorem lkX5_182 : LkV RX5 182 mX0_toldIn 3 0 := ⟨(in_tbl 421 (by decide +kernel) rfl), (in_tbl 422 (by decide +kernel) rfl), (in_tbl 25 (by decide +kernel) rfl), (in_tbl 424 (by decide +kernel) rfl), (in_tbl 423 (by decide +kernel) rfl), ⟨_, rfl, rfl⟩, by decide +kernel, by decide +kernel, by decide +kernel⟩
theorem lkX5_186 : LkV RX5 186 mX0_binomialUpTo 1 0 := ⟨(in_tbl 433 (by decide +kernel) rfl), (in_tbl 434 (by decide +kernel) rfl), (in_tbl 25 (by decide +kernel) rfl), (in_tbl 436 (by decide +kernel) rfl), (in_tbl 435 (by decide +kernel) rfl), ⟨_, rfl, rfl⟩, by decide +kernel, by decide +kernel, by decide +kernel⟩
theorem lkX5_191 : LkV RX5 191 mX0_summed 3 0 := ⟨(in_tbl 447 (by decide +kernel) rfl), (in_tbl 448 (by decide +kernel) rfl), (in_tbl 25 (by decide +kernel) rfl), (in_tbl 450 (by decide +kernel) rfl), (in_tbl 449 (by decide +kernel) rfl), ⟨_, rfl, rfl⟩, by decide +kernel, by decide +kernel, by decide +kernel⟩
theorem lkX5_195 : LkV RX5 195 mX0_throughValues 3 0 := ⟨(in_tbl 463 (by decide +kernel) rfl), (in_tbl 464 (by decide +kernel) rfl), (in_tbl 25 (by decide +kernel) rfl), (in_tbl 466 (by decide +kernel) rfl), (in_tbl 465 (by decide +kernel) rfl), ⟨_, rfl, rfl⟩, by decide +kernel, by decide +kernel, by decide +kernel⟩
theorem lkX5_199 : LkV RX5 199 mX3_degree 0 2 := ⟨(in_tbl 472 (by decide +kernel) rfl), (in_tbl 473 (by decide +kernel) rfl), (in_tbl 26 (by decide +kernel) rfl), (in_tbl 475 (by decide +kernel) rfl), (in_tbl 474 (by decide +kernel) rfl), ⟨_, rfl, rfl⟩, by decide +kernel, by decide +kernel, by decide +kernel⟩
theorem lkX5_203 : LkV RX5 203 mX0_differenceAt 3 0 := ⟨(in_tbl 480 (by decide +kernel) rfl), (in_tbl 481 (by decide +kernel) rfl), (in_tbl 25 (by decide +kernel) rfl), (in_tbl 483 (by decide +kernel) rfl), (in_tbl 482 (by decide +kernel) rfl), ⟨_, rfl, rfl⟩, by decide +kernel, by decide +kernel, by decide +kernel⟩
theorem lkX5_206 : LkV RX5 206 mX0_oneByInto 3 0 := ⟨(in_tbl 496 (by decide +kernel) rfl), (in_tbl 389 (by decide +kernel) rfl), (in_tbl 25 (by decide +kernel) rfl), (in_tbl 391 (by decide +kernel) rfl), (in_tbl 390 (by decide +kernel) rfl), ⟨_, rfl, rfl⟩, by decide +kernel, by decide +kernel, by decide +kernel⟩
theorem lkX5_209 : LkV RX5 209 mX0_tBy 2 0 := ⟨(in_tbl 501 (by decide +kernel) rfl), (in_tbl 343 (by decide +kernel) rfl), (in_tbl 25 (by decide +kernel) rfl), (in_tbl 345 (by decide +kernel) rfl), (in_tbl 344 (by decide +kernel) rfl), ⟨_, rfl, rfl⟩, by decide +kernel, by decide +kernel, by decide +kernel⟩
theorem lkX5_212 : LkV RX5 212 mX5_sheetsKept 0 4 := ⟨(in_tbl 506 (by decide +kernel) rfl), (in_tbl 508 (by decide +kernel) rfl), (in_tbl 24 (by decide +kernel) rfl), (in_tbl 509 (by decide +kernel) rfl), (in_tbl 9 (by decide +kernel) rfl), ⟨_, rfl, rfl⟩, by decide +kernel, by decide +kernel, by decide +kernel⟩
theorem lkX5_215 : LkV RX5 215 mX5_laddersStanding 0 4 := ⟨(in_tbl 510 (by decide +kernel) rfl), (in_tbl 512 (by decide +kernel) rfl), (in_tbl 24 (by decide +kernel) rfl), (in_tbl 513 (by decide +kernel) rfl), (in_tbl 10 (by decide +kernel) rfl), ⟨_, rfl, rfl⟩, by decide +kernel, by decide +kernel, by decide +kernel⟩
theorem lkX5_222 : LkV RX5 222 mX3_mixedInto 1 2 := ⟨(in_tbl 520 (by decide +kernel) rfl), (in_tbl 521 (by decide +kernel) rfl), (in_tbl 26 (by decide +kernel) rfl), (in_tbl 523 (by decide +kernel) rfl), (in_tbl 522 (by decide +kernel) rfl), ⟨_, rfl, rfl⟩, by decide +kernel, by decide +kernel, by decide +kernel⟩
theorem lkX6_58 : LkS RX6 58 mX6_toThe 2 := ⟨(in_tbl 632 (by decide +kernel) rfl), (in_tbl 633 (by decide +kernel) rfl), (in_tbl 31 (by decide +kernel) rfl), (in_tbl 634 (by decide +kernel) rfl), by decide +kernel, by decide +kernel, by decide +kernel⟩
theorem lkX6_62 : LkS RX6 62 mX6_mod 1 := ⟨(in_tbl 624 (by decide +kernel) rfl), (in_tbl 625 (by decide +kernel) rfl), (in_tbl 31 (by decide +kernel) rfl), (in_tbl 626 (by decide +kernel) rfl), by decide +kernel, by decide +kernel, by decide +kernel⟩
theorem lkX6_70 : LkS RX6 70 mX6_in 3 := ⟨(in_tbl 588 (by decide +kernel) rfl), (in_tbl 589 (by decide +kernel) rfl), (in_tbl 31 (by decide +kernel) rfl), (in_tbl 590 (by decide +kernel) rfl), by decide +kernel, by decide +kernel, by decide +kernel⟩
theorem lkX6_74 : LkS RX6 74 mX6_isSheet 1 := ⟨(in_tbl 585 (by decide +kernel) rfl), (in_tbl 586 (by decide +kernel) rfl), (in_tbl 31 (by decide +kernel) rfl), (in_tbl 587 (by decide +kernel) rfl), by decide +kernel, by decide +kernel, by decide +kernel⟩
theorem lkX6_78 : LkV RX6 78 mX6_meets 1 5 := ⟨(in_tbl 591 (by decide +kernel) rfl), (in_tbl 593 (by decide +kernel) rfl), (in_tbl 31 (by decide +kernel) rfl), (in_tbl 594 (by decide +kernel) rfl), (in_tbl 11 (by decide +kernel) rfl), ⟨_, rfl, rfl⟩, by decide +kernel, by decide +kernel, by decide +kernel⟩
theorem lkX6_82 : LkV RX6 82 mX6_lacks 3 5 := ⟨(in_tbl 603 (by decide +kernel) rfl), (in_tbl 605 (by decide +kernel) rfl), (in_tbl 31 (by decide +kernel) rfl), (in_tbl 606 (by decide +kernel) rfl), (in_tbl 12 (by decide +kernel) rfl), ⟨_, rfl, rfl⟩, by decide +kernel, by decide +kernel, by decide +kernel⟩
theorem lkX6_87 : LkS RX6 87 mX6_turnedNumber 1 := ⟨(in_tbl 638 (by decide +kernel) rfl), (in_tbl 639 (by decide +kernel) rfl), (in_tbl 31 (by decide +kernel) rfl), (in_tbl 640 (by decide +kernel) rfl), by decide +kernel, by decide +kernel, by decide +kernel⟩
theorem lkX6_90 : LkS RX6 90 mX6_one 1 := ⟨(in_tbl 672 (by decide +kernel) rfl), (in_tbl 673 (by decide +kernel) rfl), (in_tbl 31 (by decide +kernel) rfl), (in_tbl 674 (by decide +kernel) rfl), by decide +kernel, by decide +kernel, by decide +kernel⟩
theorem lkX6_94 : LkS RX6 94 mX6_times 3 := ⟨(in_tbl 654 (by decide +kernel) rfl), (in_tbl 655 (by decide +kernel) rfl), (in_tbl 31 (by decide +kernel) rfl), (in_tbl 656 (by decide +kernel) rfl), by decide +kernel, by decide +kernel, by decide +kernel⟩
theorem lkX6_98 : LkS RX6 98 mX6_set 2 := ⟨(in_tbl 675 (by decide +kernel) rfl), (in_tbl 676 (by decide +kernel) rfl), (in_tbl 31 (by decide +kernel) rfl), (in_tbl 677 (by decide +kernel) rfl), by decide +kernel, by decide +kernel, by decide +kernel⟩
theorem lkX6_102 : LkV RX6 102 mX6_puts 3 5 := ⟨(in_tbl 668 (by decide +kernel) rfl), (in_tbl 670 (by decide +kernel) rfl), (in_tbl 31 (by decide +kernel) rfl), (in_tbl 671 (by decide +kernel) rfl), (in_tbl 16 (by decide +kernel) rfl), ⟨_, rfl, rfl⟩, by decide +kernel, by decide +kernel, by decide +kernel⟩
theorem lkX6_105 : LkV RX6 105 mX6_read 2 5 := ⟨(in_tbl 620 (by decide +kernel) rfl), (in_tbl 622 (by decide +kernel) rfl), (in_tbl 31 (by decide +kernel) rfl), (in_tbl 623 (by decide +kernel) rfl), (in_tbl 13 (by decide +kernel) rfl), ⟨_, rfl, rfl⟩, by decide +kernel, by decide +kernel, by decide +kernel⟩
theorem lkX6_109 : LkS RX6 109 mX6_factorial 1 := ⟨(in_tbl 635 (by decide +kernel) rfl), (in_tbl 636 (by decide +kernel) rfl), (in_tbl 31 (by decide +kernel) rfl), (in_tbl 637 (by decide +kernel) rfl), by decide +kernel, by decide +kernel, by decide +kernel⟩
theorem lkX6_114 : LkV RX6 114 mX6_tells 2 5 := ⟨(in_tbl 642 (by decide +kernel) rfl), (in_tbl 644 (by decide +kernel) rfl), (in_tbl 31 (by decide +kernel) rfl), (in_tbl 645 (by decide +kernel) rfl), (in_tbl 14 (by decide +kernel) rfl), ⟨_, rfl, rfl⟩, by decide +kernel, by decide +kernel, by decide +kernel⟩
theorem lkX6_118 : LkV RX6 118 mX6_isLost 1 5 := ⟨(in_tbl 650 (by decide +kernel) rfl), (in_tbl 652 (by decide +kernel) rfl), (in_tbl 31 (by decide +kernel) rfl), (in_tbl 653 (by decide +kernel) rfl), (in_tbl 15 (by decide +kernel) rfl), ⟨_, rfl, rfl⟩, by decide +kernel, by decide +kernel, by decide +kernel⟩
theorem lkX6_121 : LkS RX6 121 mX6_by 3 := ⟨(in_tbl 661 (by decide +kernel) rfl), (in_tbl 662 (by decide +kernel) rfl), (in_tbl 31 (by decide +kernel) rfl), (in_tbl 663 (by decide +kernel) rfl), by decide +kernel, by decide +kernel, by decide +kernel⟩
theorem lkX6_124 : LkS RX6 124 mX6_canTurn 1 := ⟨(in_tbl 682 (by decide +kernel) rfl), (in_tbl 683 (by decide +kernel) rfl), (in_tbl 31 (by decide +kernel) rfl), (in_tbl 684 (by decide +kernel) rfl), by decide +kernel, by decide +kernel, by decide +kernel⟩
theorem lkX6_128 : LkV RX6 128 mX6_turns 2 5 := ⟨(in_tbl 685 (by decide +kernel) rfl), (in_tbl 687 (by decide +kernel) rfl), (in_tbl 31 (by decide +kernel) rfl), (in_tbl 688 (by decide +kernel) rfl), (in_tbl 17 (by decide +kernel) rfl), ⟨_, rfl, rfl⟩, by decide +kernel, by decide +kernel, by decide +kernel⟩
theorem lkX6_131 : LkS RX6 131 mX6_valueOf 2 := ⟨(in_tbl 697 (by decide +kernel) rfl), (in_tbl 698 (by decide +kernel) rfl), (in_tbl 31 (by decide +kernel) rfl), (in_tbl 699 (by decide +kernel) rfl), by decide +kernel, by decide +kernel, by decide +kernel⟩
theorem lkX6_134 : LkS RX6 134 mX6_works 3 := ⟨(in_tbl 704 (by decide +kernel) rfl), (in_tbl 705 (by decide +kernel) rfl), (in_tbl 31 (by decide +kernel) rfl), (in_tbl 706 (by decide +kernel) rfl), by decide +kernel, by decide +kernel, by decide +kernel⟩
theorem lkX6_137 : LkV RX6 137 mX6_canLadder 0 5 := ⟨(in_tbl 711 (by decide +kernel) rfl), (in_tbl 713 (by decide +kernel) rfl), (in_tbl 31 (by decide +kernel) rfl), (in_tbl 714 (by decide +kernel) rfl), (in_tbl 18 (by decide +kernel) rfl), ⟨_, rfl, rfl⟩, by decide +kernel, by decide +kernel, by decide +kernel⟩
theorem lkX6_141 : LkS RX6 141 mX6_isRung 2 := ⟨(in_tbl 719 (by decide +kernel) rfl), (in_tbl 720 (by decide +kernel) rfl), (in_tbl 31 (by decide +kernel) rfl), (in_tbl 721 (by decide +kernel) rfl), by decide +kernel, by decide +kernel, by decide +kernel⟩
theorem lkX6_145 : LkV RX6 145 mX6_rung 3 5 := ⟨(in_tbl 726 (by decide +kernel) rfl), (in_tbl 728 (by decide +kernel) rfl), (in_tbl 31 (by decide +kernel) rfl), (in_tbl 729 (by decide +kernel) rfl), (in_tbl 19 (by decide +kernel) rfl), ⟨_, rfl, rfl⟩, by decide +kernel, by decide +kernel, by decide +kernel⟩
theorem lkX6_149 : LkS RX6 149 mX6_choose 2 := ⟨(in_tbl 750 (by decide +kernel) rfl), (in_tbl 751 (by decide +kernel) rfl), (in_tbl 31 (by decide +kernel) rfl), (in_tbl 752 (by decide +kernel) rfl), by decide +kernel, by decide +kernel, by decide +kernel⟩
theorem lkX6_152 : LkV RX6 152 mX6_stepAt 3 5 := ⟨(in_tbl 753 (by decide +kernel) rfl), (in_tbl 755 (by decide +kernel) rfl), (in_tbl 31 (by decide +kernel) rfl), (in_tbl 756 (by decide +kernel) rfl), (in_tbl 21 (by decide +kernel) rfl), ⟨_, rfl, rfl⟩, by decide +kernel, by decide +kernel, by decide +kernel⟩
theorem lkX6_155 : LkV RX6 155 mX6_isBinomial 2 5 := ⟨(in_tbl 746 (by decide +kernel) rfl), (in_tbl 748 (by decide +kernel) rfl), (in_tbl 31 (by decide +kernel) rfl), (in_tbl 749 (by decide +kernel) rfl), (in_tbl 20 (by decide +kernel) rfl), ⟨_, rfl, rfl⟩, by decide +kernel, by decide +kernel, by decide +kernel⟩
theorem lkX6_159 : LkV RX6 159 mX6_differs 2 5 := ⟨(in_tbl 762 (by decide +kernel) rfl), (in_tbl 764 (by decide +kernel) rfl), (in_tbl 31 (by decide +kernel) rfl), (in_tbl 765 (by decide +kernel) rfl), (in_tbl 22 (by decide +kernel) rfl), ⟨_, rfl, rfl⟩, by decide +kernel, by decide +kernel, by decide +kernel⟩
theorem lkX6_166 : LkV RX6 166 mX6_count 1 5 := ⟨(in_tbl 800 (by decide +kernel) rfl), (in_tbl 791 (by decide +kernel) rfl), (in_tbl 31 (by decide +kernel) rfl), (in_tbl 793 (by decide +kernel) rfl), (in_tbl 792 (by decide +kernel) rfl), ⟨_, rfl, rfl⟩, by decide +kernel, by decide +kernel, by decide +kernel⟩
theorem flX0_9 : Fl RX0 9 0 0 := ⟨_, rfl, by decide, (in_tbl 77 (by decide +kernel) rfl)⟩
theorem ffX0_9 : Ff RX0 9 0 0 (.array .int) := ⟨_, rfl, by decide, (in_tbl 77 (by decide +kernel) rfl), rfl, rfl, by decide +kernel⟩
theorem flX0_15 : Fl RX0 15 0 1 := ⟨_, rfl, by decide, (in_tbl 78 (by decide +kernel) rfl)⟩
theorem ffX0_15 : Ff RX0 15 0 1 (.array .int) := ⟨_, rfl, by decide, (in_tbl 78 (by decide +kernel) rfl), rfl, rfl, by decide +kernel⟩
theorem flX0_18 : Fl RX0 18 0 2 := ⟨_, rfl, by decide, (in_tbl 79 (by decide +kernel) rfl)⟩
theorem ffX0_18 : Ff RX0 18 0 2 (.array .int) := ⟨_, rfl, by decide, (in_tbl 79 (by decide +kernel) rfl), rfl, rfl, by decide +kernel⟩
theorem flX0_23 : Fl RX0 23 0 3 := ⟨_, rfl, by decide, (in_tbl 80 (by decide +kernel) rfl)⟩
theorem ffX0_23 : Ff RX0 23 0 3 (.array (.array .int)) := ⟨_, rfl, by decide, (in_tbl 80 (by decide +kernel) rfl), rfl, rfl, by decide +kernel⟩
theorem flX0_26 : Fl RX0 26 0 4 := ⟨_, rfl, by decide, (in_tbl 81 (by decide +kernel) rfl)⟩
theorem ffX0_26 : Ff RX0 26 0 4 (.array (.array .int)) := ⟨_, rfl, by decide, (in_tbl 81 (by decide +kernel) rfl), rfl, rfl, by decide +kernel⟩
theorem flX0_29 : Fl RX0 29 0 5 := ⟨_, rfl, by decide, (in_tbl 82 (by decide +kernel) rfl)⟩
theorem ffX0_29 : Ff RX0 29 0 5 (.array .int) := ⟨_, rfl, by decide, (in_tbl 82 (by decide +kernel) rfl), rfl, rfl, by decide +kernel⟩
theorem flX0_35 : Fl RX0 35 0 6 := ⟨_, rfl, by decide, (in_tbl 83 (by decide +kernel) rfl)⟩
theorem ffX0_35 : Ff RX0 35 0 6 (.object "DeltaLadders$Series") := ⟨_, rfl, by decide, (in_tbl 83 (by decide +kernel) rfl), rfl, rfl, by decide +kernel⟩
theorem flX0_39 : Fl RX0 39 0 7 := ⟨_, rfl, by decide, (in_tbl 84 (by decide +kernel) rfl)⟩
theorem ffX0_39 : Ff RX0 39 0 7 (.object "DeltaLadders$Series") := ⟨_, rfl, by decide, (in_tbl 84 (by decide +kernel) rfl), rfl, rfl, by decide +kernel⟩
theorem flX0_42 : Fl RX0 42 0 8 := ⟨_, rfl, by decide, (in_tbl 85 (by decide +kernel) rfl)⟩
theorem ffX0_42 : Ff RX0 42 0 8 (.object "DeltaLadders$Series") := ⟨_, rfl, by decide, (in_tbl 85 (by decide +kernel) rfl), rfl, rfl, by decide +kernel⟩
theorem flX0_45 : Fl RX0 45 0 9 := ⟨_, rfl, by decide, (in_tbl 86 (by decide +kernel) rfl)⟩
theorem ffX0_45 : Ff RX0 45 0 9 (.object "DeltaLadders$Series") := ⟨_, rfl, by decide, (in_tbl 86 (by decide +kernel) rfl), rfl, rfl, by decide +kernel⟩
theorem flX0_48 : Fl RX0 48 0 10 := ⟨_, rfl, by decide, (in_tbl 87 (by decide +kernel) rfl)⟩
theorem ffX0_48 : Ff RX0 48 0 10 (.object "DeltaLadders$Series") := ⟨_, rfl, by decide, (in_tbl 87 (by decide +kernel) rfl), rfl, rfl, by decide +kernel⟩
theorem flX0_61 : Fl RX0 61 2 0 := ⟨_, rfl, by decide, (in_tbl 61 (by decide +kernel) rfl)⟩
theorem flX0_104 : Fl RX0 104 1 0 := ⟨_, rfl, by decide, (in_tbl 144 (by decide +kernel) rfl)⟩
theorem flX0_110 : Fl RX0 110 1 1 := ⟨_, rfl, by decide, (in_tbl 147 (by decide +kernel) rfl)⟩
theorem fpX0_110 : Fp RX0 110 1 1 .boolean := ⟨_, rfl, by decide, (in_tbl 147 (by decide +kernel) rfl), rfl, by decide +kernel⟩
theorem flX1_11 : Fl RX1 11 1 0 := ⟨_, rfl, by decide, (in_tbl 143 (by decide +kernel) rfl)⟩
theorem ffX1_11 : Ff RX1 11 1 0 (.array (.object "DeltaLadders$Series")) := ⟨_, rfl, by decide, (in_tbl 143 (by decide +kernel) rfl), rfl, rfl, by decide +kernel⟩
theorem flX1_17 : Fl RX1 17 1 1 := ⟨_, rfl, by decide, (in_tbl 146 (by decide +kernel) rfl)⟩
theorem fpX1_17 : Fp RX1 17 1 1 .boolean := ⟨_, rfl, by decide, (in_tbl 146 (by decide +kernel) rfl), rfl, by decide +kernel⟩
theorem flX3_9 : Fl RX3 9 2 0 := ⟨_, rfl, by decide, (in_tbl 60 (by decide +kernel) rfl)⟩
theorem ffX3_9 : Ff RX3 9 2 0 (.array .int) := ⟨_, rfl, by decide, (in_tbl 60 (by decide +kernel) rfl), rfl, rfl, by decide +kernel⟩
theorem flX4_9 : Fl RX4 9 3 0 := ⟨_, rfl, by decide, (in_tbl 118 (by decide +kernel) rfl)⟩
theorem ffX4_9 : Ff RX4 9 3 0 (.array .int) := ⟨_, rfl, by decide, (in_tbl 118 (by decide +kernel) rfl), rfl, rfl, by decide +kernel⟩
theorem flX4_15 : Fl RX4 15 3 1 := ⟨_, rfl, by decide, (in_tbl 120 (by decide +kernel) rfl)⟩
theorem fpX4_15 : Fp RX4 15 3 1 .boolean := ⟨_, rfl, by decide, (in_tbl 120 (by decide +kernel) rfl), rfl, by decide +kernel⟩
theorem flX4_19 : Fl RX4 19 3 2 := ⟨_, rfl, by decide, (in_tbl 122 (by decide +kernel) rfl)⟩
theorem fpX4_19 : Fp RX4 19 3 2 .int := ⟨_, rfl, by decide, (in_tbl 122 (by decide +kernel) rfl), rfl, by decide +kernel⟩
theorem flX4_23 : Fl RX4 23 3 3 := ⟨_, rfl, by decide, (in_tbl 124 (by decide +kernel) rfl)⟩
theorem fpX4_23 : Fp RX4 23 3 3 .int := ⟨_, rfl, by decide, (in_tbl 124 (by decide +kernel) rfl), rfl, by decide +kernel⟩
theorem flX5_11 : Fl RX5 11 4 0 := ⟨_, rfl, by decide, (in_tbl 154 (by decide +kernel) rfl)⟩
theorem ffX5_11 : Ff RX5 11 4 0 (.array (.object "DeltaLadders$Sheet")) := ⟨_, rfl, by decide, (in_tbl 154 (by decide +kernel) rfl), rfl, rfl, by decide +kernel⟩
theorem flX5_17 : Fl RX5 17 4 1 := ⟨_, rfl, by decide, (in_tbl 155 (by decide +kernel) rfl)⟩
theorem ffX5_17 : Ff RX5 17 4 1 (.array (.object "DeltaLadders$Ladder")) := ⟨_, rfl, by decide, (in_tbl 155 (by decide +kernel) rfl), rfl, rfl, by decide +kernel⟩
theorem flX5_24 : Fl RX5 24 4 2 := ⟨_, rfl, by decide, (in_tbl 156 (by decide +kernel) rfl)⟩
theorem ffX5_24 : Ff RX5 24 4 2 (.object "DeltaLadders$Algebra") := ⟨_, rfl, by decide, (in_tbl 156 (by decide +kernel) rfl), rfl, rfl, by decide +kernel⟩
theorem flX5_31 : Fl RX5 31 4 3 := ⟨_, rfl, by decide, (in_tbl 157 (by decide +kernel) rfl)⟩
theorem ffX5_31 : Ff RX5 31 4 3 (.object "DeltaLadders$Series") := ⟨_, rfl, by decide, (in_tbl 157 (by decide +kernel) rfl), rfl, rfl, by decide +kernel⟩
theorem flX5_35 : Fl RX5 35 4 4 := ⟨_, rfl, by decide, (in_tbl 158 (by decide +kernel) rfl)⟩
theorem ffX5_35 : Ff RX5 35 4 4 (.object "DeltaLadders$Series") := ⟨_, rfl, by decide, (in_tbl 158 (by decide +kernel) rfl), rfl, rfl, by decide +kernel⟩
theorem flX5_38 : Fl RX5 38 4 5 := ⟨_, rfl, by decide, (in_tbl 159 (by decide +kernel) rfl)⟩
theorem ffX5_38 : Ff RX5 38 4 5 (.object "DeltaLadders$Series") := ⟨_, rfl, by decide, (in_tbl 159 (by decide +kernel) rfl), rfl, rfl, by decide +kernel⟩
theorem flX5_41 : Fl RX5 41 4 6 := ⟨_, rfl, by decide, (in_tbl 160 (by decide +kernel) rfl)⟩
theorem ffX5_41 : Ff RX5 41 4 6 (.object "DeltaLadders$Series") := ⟨_, rfl, by decide, (in_tbl 160 (by decide +kernel) rfl), rfl, rfl, by decide +kernel⟩
theorem flX5_44 : Fl RX5 44 4 7 := ⟨_, rfl, by decide, (in_tbl 161 (by decide +kernel) rfl)⟩
theorem ffX5_44 : Ff RX5 44 4 7 (.object "DeltaLadders$Series") := ⟨_, rfl, by decide, (in_tbl 161 (by decide +kernel) rfl), rfl, rfl, by decide +kernel⟩
theorem flX5_47 : Fl RX5 47 4 8 := ⟨_, rfl, by decide, (in_tbl 162 (by decide +kernel) rfl)⟩
theorem ffX5_47 : Ff RX5 47 4 8 (.object "DeltaLadders$Series") := ⟨_, rfl, by decide, (in_tbl 162 (by decide +kernel) rfl), rfl, rfl, by decide +kernel⟩
theorem flX5_50 : Fl RX5 50 4 9 := ⟨_, rfl, by decide, (in_tbl 163 (by decide +kernel) rfl)⟩
theorem fpX5_50 : Fp RX5 50 4 9 .int := ⟨_, rfl, by decide, (in_tbl 163 (by decide +kernel) rfl), rfl, by decide +kernel⟩
theorem flX5_71 : Fl RX5 71 3 1 := ⟨_, rfl, by decide, (in_tbl 121 (by decide +kernel) rfl)⟩
theorem fpX5_71 : Fp RX5 71 3 1 .boolean := ⟨_, rfl, by decide, (in_tbl 121 (by decide +kernel) rfl), rfl, by decide +kernel⟩
theorem flX5_75 : Fl RX5 75 3 3 := ⟨_, rfl, by decide, (in_tbl 125 (by decide +kernel) rfl)⟩
theorem fpX5_75 : Fp RX5 75 3 3 .int := ⟨_, rfl, by decide, (in_tbl 125 (by decide +kernel) rfl), rfl, by decide +kernel⟩
theorem flX5_82 : Fl RX5 82 3 0 := ⟨_, rfl, by decide, (in_tbl 119 (by decide +kernel) rfl)⟩
theorem flX5_90 : Fl RX5 90 3 2 := ⟨_, rfl, by decide, (in_tbl 123 (by decide +kernel) rfl)⟩
theorem fpX5_90 : Fp RX5 90 3 2 .int := ⟨_, rfl, by decide, (in_tbl 123 (by decide +kernel) rfl), rfl, by decide +kernel⟩
theorem flX5_168 : Fl RX5 168 1 1 := ⟨_, rfl, by decide, (in_tbl 148 (by decide +kernel) rfl)⟩
theorem fpX5_168 : Fp RX5 168 1 1 .boolean := ⟨_, rfl, by decide, (in_tbl 148 (by decide +kernel) rfl), rfl, by decide +kernel⟩
theorem flX5_171 : Fl RX5 171 1 0 := ⟨_, rfl, by decide, (in_tbl 145 (by decide +kernel) rfl)⟩
theorem flX5_175 : Fl RX5 175 2 0 := ⟨_, rfl, by decide, (in_tbl 62 (by decide +kernel) rfl)⟩
theorem flX6_7 : Fl RX6 7 5 0 := ⟨_, rfl, by decide, (in_tbl 531 (by decide +kernel) rfl)⟩
theorem ffX6_7 : Ff RX6 7 5 0 (.array .boolean) := ⟨_, rfl, by decide, (in_tbl 531 (by decide +kernel) rfl), rfl, rfl, by decide +kernel⟩
theorem flX6_13 : Fl RX6 13 5 1 := ⟨_, rfl, by decide, (in_tbl 532 (by decide +kernel) rfl)⟩
theorem ffX6_13 : Ff RX6 13 5 1 (.array .int) := ⟨_, rfl, by decide, (in_tbl 532 (by decide +kernel) rfl), rfl, rfl, by decide +kernel⟩
theorem flX6_17 : Fl RX6 17 5 2 := ⟨_, rfl, by decide, (in_tbl 533 (by decide +kernel) rfl)⟩
theorem ffX6_17 : Ff RX6 17 5 2 (.array .int) := ⟨_, rfl, by decide, (in_tbl 533 (by decide +kernel) rfl), rfl, rfl, by decide +kernel⟩
theorem flX6_20 : Fl RX6 20 5 3 := ⟨_, rfl, by decide, (in_tbl 534 (by decide +kernel) rfl)⟩
theorem ffX6_20 : Ff RX6 20 5 3 (.array .int) := ⟨_, rfl, by decide, (in_tbl 534 (by decide +kernel) rfl), rfl, rfl, by decide +kernel⟩
theorem flX6_23 : Fl RX6 23 5 4 := ⟨_, rfl, by decide, (in_tbl 535 (by decide +kernel) rfl)⟩
theorem ffX6_23 : Ff RX6 23 5 4 (.array .int) := ⟨_, rfl, by decide, (in_tbl 535 (by decide +kernel) rfl), rfl, rfl, by decide +kernel⟩
theorem flX6_26 : Fl RX6 26 5 6 := ⟨_, rfl, by decide, (in_tbl 537 (by decide +kernel) rfl)⟩
theorem ffX6_26 : Ff RX6 26 5 6 (.array .int) := ⟨_, rfl, by decide, (in_tbl 537 (by decide +kernel) rfl), rfl, rfl, by decide +kernel⟩
theorem flX6_29 : Fl RX6 29 5 7 := ⟨_, rfl, by decide, (in_tbl 538 (by decide +kernel) rfl)⟩
theorem ffX6_29 : Ff RX6 29 5 7 (.array .int) := ⟨_, rfl, by decide, (in_tbl 538 (by decide +kernel) rfl), rfl, rfl, by decide +kernel⟩
theorem flX6_32 : Fl RX6 32 5 8 := ⟨_, rfl, by decide, (in_tbl 539 (by decide +kernel) rfl)⟩
theorem ffX6_32 : Ff RX6 32 5 8 (.array .int) := ⟨_, rfl, by decide, (in_tbl 539 (by decide +kernel) rfl), rfl, rfl, by decide +kernel⟩
theorem flX6_35 : Fl RX6 35 5 9 := ⟨_, rfl, by decide, (in_tbl 540 (by decide +kernel) rfl)⟩
theorem ffX6_35 : Ff RX6 35 5 9 (.array .int) := ⟨_, rfl, by decide, (in_tbl 540 (by decide +kernel) rfl), rfl, rfl, by decide +kernel⟩
theorem flX6_38 : Fl RX6 38 5 10 := ⟨_, rfl, by decide, (in_tbl 541 (by decide +kernel) rfl)⟩
theorem ffX6_38 : Ff RX6 38 5 10 (.array .int) := ⟨_, rfl, by decide, (in_tbl 541 (by decide +kernel) rfl), rfl, rfl, by decide +kernel⟩
theorem flX6_41 : Fl RX6 41 5 11 := ⟨_, rfl, by decide, (in_tbl 542 (by decide +kernel) rfl)⟩
theorem ffX6_41 : Ff RX6 41 5 11 (.array .int) := ⟨_, rfl, by decide, (in_tbl 542 (by decide +kernel) rfl), rfl, rfl, by decide +kernel⟩
theorem flX6_44 : Fl RX6 44 5 12 := ⟨_, rfl, by decide, (in_tbl 543 (by decide +kernel) rfl)⟩
theorem ffX6_44 : Ff RX6 44 5 12 (.array .int) := ⟨_, rfl, by decide, (in_tbl 543 (by decide +kernel) rfl), rfl, rfl, by decide +kernel⟩
theorem flX6_47 : Fl RX6 47 5 13 := ⟨_, rfl, by decide, (in_tbl 544 (by decide +kernel) rfl)⟩
theorem ffX6_47 : Ff RX6 47 5 13 (.array .int) := ⟨_, rfl, by decide, (in_tbl 544 (by decide +kernel) rfl), rfl, rfl, by decide +kernel⟩
theorem flX6_50 : Fl RX6 50 5 14 := ⟨_, rfl, by decide, (in_tbl 545 (by decide +kernel) rfl)⟩
theorem ffX6_50 : Ff RX6 50 5 14 (.array .boolean) := ⟨_, rfl, by decide, (in_tbl 545 (by decide +kernel) rfl), rfl, rfl, by decide +kernel⟩
theorem flX6_53 : Fl RX6 53 5 15 := ⟨_, rfl, by decide, (in_tbl 546 (by decide +kernel) rfl)⟩
theorem ffX6_53 : Ff RX6 53 5 15 (.array .int) := ⟨_, rfl, by decide, (in_tbl 546 (by decide +kernel) rfl), rfl, rfl, by decide +kernel⟩
theorem flX6_66 : Fl RX6 66 5 5 := ⟨_, rfl, by decide, (in_tbl 536 (by decide +kernel) rfl)⟩
theorem fpX6_66 : Fp RX6 66 5 5 .int := ⟨_, rfl, by decide, (in_tbl 536 (by decide +kernel) rfl), rfl, by decide +kernel⟩
theorem ctX3_44 : Cond.constantLong RX3 44 (31) ∈ tblG := (in_tbl 524 (by decide +kernel) rfl)
theorem ctX5_89 : Cond.constant RX5 89 (-2147483648) ∈ tblG := (in_tbl 223 (by decide +kernel) rfl)
theorem ctX5_190 : Cond.constant RX5 190 (2000000000) ∈ tblG := (in_tbl 446 (by decide +kernel) rfl)
theorem ctX5_218 : Cond.constantLong RX5 218 (17) ∈ tblG := (in_tbl 518 (by decide +kernel) rfl)
theorem ctX5_220 : Cond.constantLong RX5 220 (31) ∈ tblG := (in_tbl 519 (by decide +kernel) rfl)
theorem ctX6_56 : Cond.constantLong RX6 56 (10007) ∈ tblG := (in_tbl 627 (by decide +kernel) rfl)
theorem ctX6_86 : Cond.constant RX6 86 (-2147483648) ∈ tblG := (in_tbl 611 (by decide +kernel) rfl)
theorem ctX6_112 : Cond.constantLong RX6 112 (-1) ∈ tblG := (in_tbl 641 (by decide +kernel) rfl)
theorem ctX6_158 : Cond.constant RX6 158 (2000000000) ∈ tblG := (in_tbl 761 (by decide +kernel) rfl)
theorem ctX6_162 : Cond.constantLong RX6 162 (17) ∈ tblG := (in_tbl 798 (by decide +kernel) rfl)
theorem ctX6_164 : Cond.constantLong RX6 164 (31) ∈ tblG := (in_tbl 799 (by decide +kernel) rfl)
end
section
/-! the memory behind the two constructors: cell k is told by k and its numbers A k -/
def cel (k : Nat) (f : Nat → Int) : Cel :=
  if k < 52 then
    (if k = 0 then (4, [.ref 1, .ref 2, .ref 3, .ref 40, .ref 42, .ref 44, .ref 46, .ref 48, .ref 50, .int (iI (f 9))])
     else if k = 1 then (9, (List.range 8).map (fun s => .ref (52 + 2 * s)))
     else if k = 2 then (10, (List.range 4).map (fun s => .ref (68 + 22 * s)))
     else if k = 3 then (0, [.ref 4, .ref 5, .ref 6, .ref 7, .ref 18, .ref 29, .ref 30, .ref 32, .ref 34, .ref 36, .ref 38])
     else if k = 4 then (6, vals 11 f)
     else if k < 7 then (6, vals 10 f)
     else if k = 7 then (8, (List.range 10).map (fun n => .ref (8 + n)))
     else if k < 18 then (6, vals 10 f)
     else if k = 18 then (8, (List.range 10).map (fun n => .ref (19 + n)))
     else if k < 29 then (6, vals 19 f)
     else if k = 29 then (6, vals 10 f)
     else if k % 2 = 0 then (2, [.ref (k + 1)]) else (6, vals 10 f))
  else if k < 68 then (if k % 2 = 0 then (3, [.ref (k + 1), .int (iI (f 1)), .int (iI (f 2)), .int (iI (f 3))]) else (6, vals 20 f))
  else if k < 156 then
    (if (k - 68) % 22 = 0 then (1, [.ref (k + 1), .int (iI (f 1))])
     else if (k - 68) % 22 = 1 then (11, (List.range 10).map (fun n => .ref (k + 1 + 2 * n)))
     else if k % 2 = 0 then (2, [.ref (k + 1)]) else (6, vals 10 f))
  else if k = 156 then (5, [.ref 157, .ref 158, .ref 159, .ref 160, .ref 161, .int (iI (f 5)), .ref 162, .ref 163, .ref 164, .ref 165, .ref 166, .ref 167, .ref 168, .ref 169, .ref 170, .ref 171])
  else if k = 157 then (7, vals 8 f)
  else if k < 160 then (6, vals 8 f)
  else if k = 160 then (6, vals 160 f)
  else if k = 161 then (6, vals 20 f)
  else if k < 170 then (6, vals 10 f)
  else if k = 170 then (7, vals 4 f)
  else if k = 171 then (6, vals 400 f)
  else (99, [])
def mA (A : Nat → Nat → Int) : Mem := fun k => cel k (A k)
theorem mA_up (A : Nat → Nat → Int) (k : Nat) (f : Nat → Int) : va_up (mA A) k (cel k f) = mA (va_up A k f) := by
  funext j
  by_cases e : j = k
  · subst e; simp [mA, va_up]
  · simp [mA, va_up, e]
/-- the cells that are a SERIES: the object k, its row k + 1 -/
def SerK (k : Nat) : Prop := k % 2 = 0 ∧ ((30 ≤ k ∧ k < 52) ∨ (68 ≤ k ∧ k < 156 ∧ (k - 68) % 22 ≠ 0))
theorem cel_ser {k : Nat} (h : SerK k) (f : Nat → Int) : cel k f = (2, [.ref (k + 1)]) := by
  obtain ⟨h2, h | ⟨h3, h4, h5⟩⟩ := h
  · unfold cel
    rw [if_pos (by omega), if_neg (by omega), if_neg (by omega), if_neg (by omega), if_neg (by omega), if_neg (by omega), if_neg (by omega), if_neg (by omega), if_neg (by omega), if_neg (by omega), if_neg (by omega), if_neg (by omega), if_pos h2]
  · unfold cel
    rw [if_neg (by omega), if_neg (by omega), if_pos (by omega), if_neg h5, if_neg (by omega), if_pos h2]
theorem cel_row {k : Nat} (h : SerK k) (f : Nat → Int) : cel (k + 1) f = (6, vals 10 f) := by
  obtain ⟨h2, h | ⟨h3, h4, h5⟩⟩ := h
  · unfold cel
    rw [if_pos (by omega), if_neg (by omega), if_neg (by omega), if_neg (by omega), if_neg (by omega), if_neg (by omega), if_neg (by omega), if_neg (by omega), if_neg (by omega), if_neg (by omega), if_neg (by omega), if_neg (by omega), if_neg (by omega)]
  · unfold cel
    rw [if_neg (by omega), if_neg (by omega), if_pos (by omega), if_neg (by omega), if_neg (by omega), if_neg (by omega)]
theorem cel_sheet {s : Nat} (h : s < 8) (f : Nat → Int) : cel (52 + 2 * s) f = (3, [.ref (53 + 2 * s), .int (iI (f 1)), .int (iI (f 2)), .int (iI (f 3))]) := by
  unfold cel
  rw [if_neg (by omega), if_pos (by omega), if_pos (by omega), show 52 + 2 * s + 1 = 53 + 2 * s by omega]
theorem cel_items {s : Nat} (h : s < 8) (f : Nat → Int) : cel (53 + 2 * s) f = (6, vals 20 f) := by
  unfold cel
  rw [if_neg (by omega), if_pos (by omega), if_neg (by omega)]
theorem cel_lad {k : Nat} (h : k < 4) (f : Nat → Int) : cel (68 + 22 * k) f = (1, [.ref (69 + 22 * k), .int (iI (f 1))]) := by
  unfold cel
  rw [if_neg (by omega), if_neg (by omega), if_pos (by omega), if_pos (by omega), show 68 + 22 * k + 1 = 69 + 22 * k by omega]
theorem cel_steps {k : Nat} (h : k < 4) (f : Nat → Int) : cel (69 + 22 * k) f = (11, (List.range 10).map (fun n => .ref (70 + 22 * k + 2 * n))) := by
  unfold cel
  rw [if_neg (by omega), if_neg (by omega), if_pos (by omega), if_neg (by omega), if_pos (by omega), show 69 + 22 * k + 1 = 70 + 22 * k by omega]
theorem ser_step {k n : Nat} (h : k < 4) (hn : n < 10) : SerK (70 + 22 * k + 2 * n) := ⟨by omega, Or.inr ⟨by omega, by omega, by omega⟩⟩
theorem refs_at {n m j : Nat} {f : Nat → Nat} (h : j < n) : ((List.range n).map (fun i => Value.ref (f i)))[j]? = some (.ref (f j)) := by simp [h]
/-! rows over it -/
section AROWS
variable {X : ZX} {own nm : String} {cc : ByteArray} {nL : Nat} {rm : Room} {pc : Nat} {ls : List (Option Value)} {st : List Value} {N : Nat} {A : Nat → Nat → Int} {cells slots : Nat}
theorem a_iald (E : Ev X own cc nL rm nm) {a j n : Nat} {x : Int} (hd : decode cc pc = .ok (.iaload, 1)) (hk : ∀ f, cel a f = (6, vals n f)) (hj : x = (j : Int)) (hn : j < n) (hb : j < 2147483648) (k : Zc X (pc + 1) ls (.int (iI (A a j)) :: st) N (mA A) cells slots) : Zc X pc ls (.int (iI x) :: .ref a :: st) N (mA A) cells slots :=
  z_iald E hd (hk (A a)) hj hb (vals_at _ hn) k
theorem a_zald (E : Ev X own cc nL rm nm) {a j n : Nat} {x : Int} (hd : decode cc pc = .ok (.baload, 1)) (hk : ∀ f, cel a f = (7, vals n f)) (hj : x = (j : Int)) (hn : j < n) (hb : j < 2147483648) (k : Zc X (pc + 1) ls (.int (iI (A a j)) :: st) N (mA A) cells slots) : Zc X pc ls (.int (iI x) :: .ref a :: st) N (mA A) cells slots :=
  z_zald E hd (hk (A a)) hj hb (vals_at _ hn) k
theorem a_iast (E : Ev X own cc nL rm nm) {a j n : Nat} {x y : Int} (hd : decode cc pc = .ok (.iastore, 1)) (hk : ∀ f, cel a f = (6, vals n f)) (hj : x = (j : Int)) (hn : j < n) (hb : j < 2147483648) (k : Zc X (pc + 1) ls st N (mA (va_up A a (up (A a) j y))) cells slots) : Zc X pc ls (.int (iI y) :: .int (iI x) :: .ref a :: st) N (mA A) cells slots := by
  refine z_iast E hd (hk (A a)) hj hb (by rw [vals_len]; exact hn) ?_
  rw [vals_set, ← hk, mA_up]
  exact k
theorem a_zast (E : Ev X own cc nL rm nm) {a j n : Nat} {x y : Int} (hd : decode cc pc = .ok (.bastore, 1)) (hy : y = 0 ∨ y = 1) (hk : ∀ f, cel a f = (7, vals n f)) (hj : x = (j : Int)) (hn : j < n) (hb : j < 2147483648) (k : Zc X (pc + 1) ls st N (mA (va_up A a (up (A a) j y))) cells slots) : Zc X pc ls (.int (iI y) :: .int (iI x) :: .ref a :: st) N (mA A) cells slots := by
  refine z_zast E hd (by rcases hy with rfl | rfl <;> decide) (hk (A a)) hj hb (by rw [vals_len]; exact hn) ?_
  rw [vals_set, ← hk, mA_up]
  exact k
theorem a_aald (E : Ev X own cc nL rm nm) {a j n t : Nat} {x : Int} {r : Nat → Nat} (hd : decode cc pc = .ok (.aaload, 1)) (hk : cel a (A a) = (t, (List.range n).map (fun i => .ref (r i)))) (ht : 8 ≤ t ∧ t < 12) (hj : x = (j : Int)) (hn : j < n) (hb : j < 2147483648) (k : Zc X (pc + 1) ls (.ref (r j) :: st) N (mA A) cells slots) : Zc X pc ls (.int (iI x) :: .ref a :: st) N (mA A) cells slots :=
  z_aald E ht hd hk hj hb (by simp [hn]) k
/-- a number in a field -/
theorem a_put (E : Ev X own cc nL rm nm) {idx a ci j : Nat} {fs : List Value} {y : Int} (hd : decode cc pc = .ok (.putfield idx, 3)) (hf : Fp own idx ci j .int) (hg : cel a (A a) = (ci, fs)) (hs : (ci, fs.set j (.int (iI y))) = cel a (up (A a) j y)) (k : Zc X (pc + 3) ls st N (mA (va_up A a (up (A a) j y))) cells slots) : Zc X pc ls (.int (iI y) :: .ref a :: st) N (mA A) cells slots := by
  refine z_put E hd hg hf (fun _ => rfl) (fun _ => rfl) ?_
  rw [hs, mA_up]
  exact k
theorem a_putZ (E : Ev X own cc nL rm nm) {idx a ci j : Nat} {fs : List Value} {y : Int} (hd : decode cc pc = .ok (.putfield idx, 3)) (hf : Fp own idx ci j .boolean) (hy : y = 0 ∨ y = 1) (hg : cel a (A a) = (ci, fs)) (hs : (ci, fs.set j (.int (iI y))) = cel a (up (A a) j y)) (k : Zc X (pc + 3) ls st N (mA (va_up A a (up (A a) j y))) cells slots) : Zc X pc ls (.int (iI y) :: .ref a :: st) N (mA A) cells slots := by
  refine z_put E hd hg hf (fun _ => by rcases hy with rfl | rfl <;> rfl) (fun _ => by rcases hy with rfl | rfl <;> rfl) ?_
  rw [hs, mA_up]
  exact k
/-- calls that answer a value, calls that answer none -/
theorem c_S (E : Ev X own cc nL rm nm) {idx n : Nat} {M : Md} {av stk : List Value} {v : Value} {g g' : Mem} (hd : decode cc pc = .ok (.invokestatic idx, 3)) (lk : LkS own idx M n) (hok : OkR M av N g (some v) g') (hstk : av.reverse ++ st = stk) (hn : av.length = n) (hls : ls.length = nL) (hst : (st.map fun v => v.category).sum ≤ 8)
    (hroom : M.2.2.2.2.frames + 1 ≤ rm.frames ∧ 8 + (M.2.2.1 + 11) + M.2.2.2.2.locals ≤ rm.locals) (h00 : M.2.2.2.2.cells = 0 ∧ M.2.2.2.2.slots = 0) (hcell : cells ≤ rm.cells ∧ slots ≤ rm.slots)
    (k : Zc X (pc + 3) ls (v :: st) N g' cells slots) : Zc X pc ls stk N g cells slots := by
  subst hstk
  exact z_cS E hd lk hok hn hls hst hroom h00.1 h00.2 hcell k
theorem c_S0 (E : Ev X own cc nL rm nm) {idx n : Nat} {M : Md} {av stk : List Value} {g g' : Mem} (hd : decode cc pc = .ok (.invokestatic idx, 3)) (lk : LkS own idx M n) (hok : OkR M av N g none g') (hstk : av.reverse ++ st = stk) (hn : av.length = n) (hls : ls.length = nL) (hst : (st.map fun v => v.category).sum ≤ 8)
    (hroom : M.2.2.2.2.frames + 1 ≤ rm.frames ∧ 8 + (M.2.2.1 + 11) + M.2.2.2.2.locals ≤ rm.locals) (h00 : M.2.2.2.2.cells = 0 ∧ M.2.2.2.2.slots = 0) (hcell : cells ≤ rm.cells ∧ slots ≤ rm.slots)
    (k : Zc X (pc + 3) ls st N g' cells slots) : Zc X pc ls stk N g cells slots := by
  subst hstk
  exact z_cS E hd lk hok hn hls hst hroom h00.1 h00.2 hcell k
theorem c_V (E : Ev X own cc nL rm nm) {idx n ci a : Nat} {fs : List Value} {M : Md} {av stk : List Value} {v : Value} {g g' : Mem} (hd : decode cc pc = .ok (.invokevirtual idx, 3)) (lk : LkV own idx M n ci) (hok : OkR M (.ref a :: av) N g (some v) g') (hg : g a = (ci, fs)) (hstk : av.reverse ++ .ref a :: st = stk) (hn : av.length = n) (hls : ls.length = nL) (hst : (st.map fun v => v.category).sum ≤ 8)
    (hroom : M.2.2.2.2.frames + 1 ≤ rm.frames ∧ 8 + (M.2.2.1 + 11) + M.2.2.2.2.locals ≤ rm.locals) (h00 : M.2.2.2.2.cells = 0 ∧ M.2.2.2.2.slots = 0) (hcell : cells ≤ rm.cells ∧ slots ≤ rm.slots)
    (k : Zc X (pc + 3) ls (v :: st) N g' cells slots) : Zc X pc ls stk N g cells slots := by
  subst hstk
  exact z_cV E hd lk hg hok hn hls hst hroom h00.1 h00.2 hcell k
theorem c_V0 (E : Ev X own cc nL rm nm) {idx n ci a : Nat} {fs : List Value} {M : Md} {av stk : List Value} {g g' : Mem} (hd : decode cc pc = .ok (.invokevirtual idx, 3)) (lk : LkV own idx M n ci) (hok : OkR M (.ref a :: av) N g none g') (hg : g a = (ci, fs)) (hstk : av.reverse ++ .ref a :: st = stk) (hn : av.length = n) (hls : ls.length = nL) (hst : (st.map fun v => v.category).sum ≤ 8)
    (hroom : M.2.2.2.2.frames + 1 ≤ rm.frames ∧ 8 + (M.2.2.1 + 11) + M.2.2.2.2.locals ≤ rm.locals) (h00 : M.2.2.2.2.cells = 0 ∧ M.2.2.2.2.slots = 0) (hcell : cells ≤ rm.cells ∧ slots ≤ rm.slots)
    (k : Zc X (pc + 3) ls st N g' cells slots) : Zc X pc ls stk N g cells slots := by
  subst hstk
  exact z_cV E hd lk hg hok hn hls hst hroom h00.1 h00.2 hcell k
end AROWS
theorem OkM.weak {M : Md} {av : List Value} {N N' : Nat} {g : Mem} {P P' : Option Value → Mem → Prop} (h : OkM M av N g N' P) (hp : ∀ r g', P r g' → P' r g') : OkM M av N g N' P' := by
  intro l B p e ha hc hk s m args below hf happ hpre hkk
  obtain ⟨k, o, h1, h2, h3, ⟨hq, hr⟩⟩ := h l B p e ha hc hk s m args below hf happ hpre hkk
  obtain ⟨r, g', e1, e2, e3⟩ := hq
  exact ⟨k, o, h1, h2, h3, ⟨r, g', e1, hp r g' e2, e3⟩, hr⟩
end
section
/-! methods that read and write no cell -/
abbrev PP : Int := 10007
theorem iI_nI (n : Nat) : iI (n : Int) = nI n := Int32.ofInt_eq_ofNat
theorem xor_sign {a b : Int} (ha : inR a) (hb : inR b) (h0 : 0 ≤ b) : (iI a ^^^ iI b).toInt < 0 ↔ a < 0 := by
  have e1 : ∀ x : Int32, x.toInt < 0 ↔ x.toBitVec.msb = true := fun x => by
    show x.toBitVec.toInt < 0 ↔ _
    rw [BitVec.msb_eq_toInt]
    simp
  have h2 : (iI b).toBitVec.msb = false := by
    cases h : (iI b).toBitVec.msb with
    | false => rfl
    | true =>
      have := (e1 (iI b)).mpr h
      rw [iI_toInt hb] at this
      omega
  have h3 : (iI a ^^^ iI b).toBitVec.msb = (iI a).toBitVec.msb := by
    rw [Int32.toBitVec_xor, BitVec.msb_xor, h2]
    simp
  rw [e1, h3, ← e1, iI_toInt ha]
theorem tmod_P (x : Int) : (0 ≤ x.tmod 10007 → x.tmod 10007 = x % 10007) ∧ (x.tmod 10007 < 0 → x.tmod 10007 + 10007 = x % 10007) ∧ -10007 < x.tmod 10007 ∧ x.tmod 10007 < 10007 := by
  have h1 := Int.mul_tdiv_add_tmod x 10007
  have h2 := tmod_bounds (a := x) (M := 10007) (by omega)
  generalize x.tdiv 10007 = q at h1
  generalize x.tmod 10007 = t at h1 h2 ⊢
  refine ⟨fun h => by omega, fun h => by omega, h2.1, h2.2⟩
def pw (v : Int) : Nat → Int
  | 0 => 1
  | n + 1 => pw v n * v % 10007
theorem pw_in (v : Int) : ∀ n, 0 ≤ pw v n ∧ pw v n < 10007
  | 0 => by simp [pw]
  | n + 1 => by simp only [pw]; omega
theorem pw_self (v : Int) (n : Nat) : pw v n % 10007 = pw v n := by have := pw_in v n; omega
theorem em_l (a b : Int) : a % 10007 * b % 10007 = a * b % 10007 := by rw [Int.mul_emod, Int.emod_emod_of_dvd _ (Int.dvd_refl _), ← Int.mul_emod]
theorem em_r (a b : Int) : a * (b % 10007) % 10007 = a * b % 10007 := by rw [Int.mul_emod, Int.emod_emod_of_dvd _ (Int.dvd_refl _), ← Int.mul_emod]
theorem pw_add (v : Int) (a : Nat) : ∀ b, pw v a * pw v b % 10007 = pw v (a + b)
  | 0 => by simp only [pw, Int.mul_one, Nat.add_zero]; exact pw_self v a
  | b + 1 => by
    show pw v a * (pw v b * v % 10007) % 10007 = pw v (a + b) * v % 10007
    rw [← pw_add v a b, em_r, em_l, Int.mul_assoc]
theorem mul_in {a b : Int} (ha : 0 ≤ a ∧ a < 10007) (hb : 0 ≤ b ∧ b < 10007) : 0 ≤ a * b ∧ a * b ≤ 100120036 := by
  refine ⟨Int.mul_nonneg ha.1 hb.1, ?_⟩
  have h1 : a * b ≤ 10006 * b := Int.mul_le_mul_of_nonneg_right (by omega) hb.1
  omega
theorem tmod_s (x : Int) : (0 ≤ x → 0 ≤ x.tmod 10007) ∧ (x < 0 → x.tmod 10007 ≤ 0) := by
  refine ⟨fun h => Int.tmod_nonneg _ h, fun h => ?_⟩
  have h1 := Int.tmod_nonneg (a := -x) 10007 (by omega)
  rw [Int.neg_tmod] at h1
  omega
set_option maxRecDepth 100000 in
theorem ok_floorMod (x : Int) (hx : inR x) (N : Nat) (g : Mem) : OkR mJ9_floorMod_7cf53 [.int (iI x), .int (iI 10007)] N g (some (.int (iI (x % 10007)))) g := by
  obtain ⟨t1, t2, t3, t4⟩ := tmod_P x
  obtain ⟨s1, s2⟩ := tmod_s x
  have hs := xor_sign (a := x) (b := 10007) hx ⟨by omega, by omega⟩ (by omega)
  refine OkM.of [some (.int (iI x)), some (.int (iI 10007)), none] (by decide +kernel) rfl (Nat.le_of_ble_eq_true rfl) ?_
  intro X E F
  refine z_iload_n E dJ9_floorMod_7cf53_0 rfl ?_
  refine z_iload_n E dJ9_floorMod_7cf53_1 rfl ?_
  refine z_irem E (by omega) (by omega) (by omega) rfl dJ9_floorMod_7cf53_2 ?_
  refine z_istore_n (ls' := [_, _, _]) E rfl dJ9_floorMod_7cf53_3 (Nat.le_of_ble_eq_true rfl) rfl ?_
  refine z_iload_n E dJ9_floorMod_7cf53_4 rfl ?_
  refine z_iload_n E dJ9_floorMod_7cf53_5 rfl ?_
  refine z_ixor E (iI_self _).symm dJ9_floorMod_7cf53_6 ?_
  refine z_if_ge (tgt := 18) E (inR_toInt _) dJ9_floorMod_7cf53_7 (by decide) (fun h7 => ?_) (fun h7 => ?_)
  · refine z_iload_n E dJ9_floorMod_7cf53_18 rfl ?_
    rw [t1 (by omega)]
    exact z_iret E F dJ9_floorMod_7cf53_19 ⟨rfl, rfl⟩
  · refine z_iload_n E dJ9_floorMod_7cf53_10 rfl ?_
    refine z_if_eq (tgt := 18) E (by omega) dJ9_floorMod_7cf53_11 (by decide) (fun h11 => ?_) (fun h11 => ?_)
    · refine z_iload_n E dJ9_floorMod_7cf53_18 rfl ?_
      rw [t1 (by omega)]
      exact z_iret E F dJ9_floorMod_7cf53_19 ⟨rfl, rfl⟩
    · refine z_iload_n E dJ9_floorMod_7cf53_14 rfl ?_
      refine z_iload_n E dJ9_floorMod_7cf53_15 rfl ?_
      refine z_iadd E dJ9_floorMod_7cf53_16 ?_
      rw [t2 (by omega)]
      exact z_iret E F dJ9_floorMod_7cf53_17 ⟨rfl, rfl⟩
theorem ok_of (x : Int) (hx : inR x) (N : Nat) (g : Mem) : OkR mX2_of [.int (iI x)] N g (some (.int (iI (x % 10007)))) g := by
  refine OkM.of [some (.int (iI x))] (by decide +kernel) rfl (Nat.le_of_ble_eq_true rfl) ?_
  intro X E F
  refine z_iload_n E dX2_of_0 rfl ?_
  refine z_sipush E (by decide) dX2_of_1 ?_
  refine c_S E dX2_of_4 lkX2_9 (ok_floorMod x hx N g) rfl rfl rfl (Nat.le_of_ble_eq_true rfl) ⟨(Nat.le_of_ble_eq_true rfl), (Nat.le_of_ble_eq_true rfl)⟩ ⟨rfl, rfl⟩ ⟨Nat.zero_le _, Nat.zero_le _⟩ ?_
  exact z_iret E F dX2_of_7 ⟨rfl, rfl⟩
theorem shr_bit (b : Nat) (hb : b < 14) : iI 10005 >>> (iI (b : Int) &&& 31) = iI ((10005 / 2 ^ b : Nat) : Int) := by
  rcases (show b = 0 ∨ b = 1 ∨ b = 2 ∨ b = 3 ∨ b = 4 ∨ b = 5 ∨ b = 6 ∨ b = 7 ∨ b = 8 ∨ b = 9 ∨ b = 10 ∨ b = 11 ∨ b = 12 ∨ b = 13 by omega) with rfl | rfl | rfl | rfl | rfl | rfl | rfl | rfl | rfl | rfl | rfl | rfl | rfl | rfl <;> decide
theorem and_1 (n : Nat) (h : n < 2147483648) : iI (n : Int) &&& iI 1 = iI ((n % 2 : Nat) : Int) := by
  rw [iI_nI, iI_nI]
  exact pk_andN (n := n) (by omega) (m := iI 1) 1 (by decide)
set_option maxRecDepth 100000 in
theorem ok_inverse (v : Int) (hv : 0 ≤ v ∧ v < 10007) (N : Nat) (g : Mem) : OkR mX2_inverse [.int (iI v)] N g (some (.int (iI (pw v 10005)))) g := by
  refine OkM.of [some (.int (iI v)), none, none] (by decide +kernel) rfl (Nat.le_of_ble_eq_true rfl) ?_
  intro X E F
  refine z_iconst E dX2_inverse_0 ?_
  refine z_istore_n (ls' := [_, _, _]) E rfl dX2_inverse_1 (Nat.le_of_ble_eq_true rfl) rfl ?_
  refine z_bipush E (by decide) dX2_inverse_2 ?_
  refine z_istore_n (ls' := [_, _, _]) E rfl dX2_inverse_4 (Nat.le_of_ble_eq_true rfl) rfl ?_
  have loop : ∀ b : Nat, b ≤ 14 → Zc X 5 [some (.int (iI v)), some (.int (iI (pw v (10005 / 2 ^ b)))), some (.int (iI ((b : Int) - 1)))] [] N g 0 0 := by
    intro b
    induction b with
    | zero =>
      intro _
      refine z_iload_n E dX2_inverse_5 rfl ?_
      refine z_if_lt (tgt := 41) E (by omega) dX2_inverse_6 (by decide) (fun h6 => ?_) (fun h6 => ?_)
      · refine z_iload_n E dX2_inverse_41 rfl ?_
        exact z_iret E F dX2_inverse_42 ⟨rfl, rfl⟩
      · omega
    | succ b ih =>
      intro hb
      have i1 := pw_in v (10005 / 2 ^ (b + 1))
      have i2 := mul_in i1 i1
      have e1 := pw_add v (10005 / 2 ^ (b + 1)) (10005 / 2 ^ (b + 1))
      generalize he : 10005 / 2 ^ (b + 1) = e at *
      have hq : 10005 / 2 ^ b = 2 * e + 10005 / 2 ^ b % 2 := by
        rw [← he, Nat.pow_succ, ← Nat.div_div_eq_div_mul]; omega
      have hle : 10005 / 2 ^ b ≤ 10005 := Nat.div_le_self _ _
      have i3 := pw_in v (e + e)
      have i4 := mul_in i3 hv
      have iv := ih (by omega)
      refine z_iload_n E dX2_inverse_5 rfl ?_
      refine z_if_lt (tgt := 41) E (by omega) dX2_inverse_6 (by decide) (fun h6 => ?_) (fun h6 => ?_)
      · omega
      · refine z_iload_n E dX2_inverse_9 rfl ?_
        refine z_iload_n E dX2_inverse_10 rfl ?_
        refine z_imul E dX2_inverse_11 ?_
        refine z_sipush E (by decide) dX2_inverse_12 ?_
        refine z_irem E (by omega) (by omega) (by omega) (Int.tmod_eq_emod_of_nonneg (by omega)) dX2_inverse_15 ?_
        refine z_istore_n (ls' := [_, _, _]) E rfl dX2_inverse_16 (Nat.le_of_ble_eq_true rfl) rfl ?_
        refine z_sipush E (by decide) dX2_inverse_17 ?_
        refine z_iload_n E dX2_inverse_20 rfl ?_
        refine z_ishr E (by rw [show ((b + 1 : Nat) : Int) - 1 = (b : Int) by omega]; exact shr_bit b (by omega)) dX2_inverse_21 ?_
        refine z_iconst E dX2_inverse_22 ?_
        refine z_iand E (and_1 _ (by omega)) dX2_inverse_23 ?_
        refine z_if_eq (tgt := 35) E (by omega) dX2_inverse_24 (by decide) (fun h24 => ?_) (fun h24 => ?_)
        · rw [hq, show 2 * e + 10005 / 2 ^ b % 2 = e + e by omega] at iv
          refine z_iinc (ls' := [_, _, _]) E dX2_inverse_35 rfl rfl ?_
          refine z_goto (tgt := 5) E dX2_inverse_38 (by decide) ?_
          rw [e1]
          refine (show (_ : Prop) from ?_)
          have ez : ((b + 1 : Nat) : Int) - 1 + -1 = (b : Int) - 1 := by omega
          rw [ez]
          exact iv
        · have hone : 10005 / 2 ^ b % 2 = 1 := by omega
          rw [hq, hone] at iv
          rw [e1]
          refine z_iload_n E dX2_inverse_27 rfl ?_
          refine z_iload_n E dX2_inverse_28 rfl ?_
          refine z_imul E dX2_inverse_29 ?_
          refine z_sipush E (by decide) dX2_inverse_30 ?_
          refine z_irem E (by omega) (by omega) (by omega) (Int.tmod_eq_emod_of_nonneg (by omega)) dX2_inverse_33 ?_
          refine z_istore_n (ls' := [_, _, _]) E rfl dX2_inverse_34 (Nat.le_of_ble_eq_true rfl) rfl ?_
          refine z_iinc (ls' := [_, _, _]) E dX2_inverse_35 rfl rfl ?_
          refine z_goto (tgt := 5) E dX2_inverse_38 (by decide) ?_
          have ez : ((b + 1 : Nat) : Int) - 1 + -1 = (b : Int) - 1 := by omega
          rw [ez]
          rw [show 2 * e + 1 = (e + e) + 1 by omega] at iv
          exact iv
  exact loop 14 (by omega)
set_option maxRecDepth 100000 in
theorem ok_mod (z : Int) (hz : inL z) (hz2 : z < 9223372036854765800) (N : Nat) (g : Mem) : OkR mX6_mod [.long (lI z)] N g (some (.int (iI (z % 10007)))) g := by
  obtain ⟨t1, t2, t3, t4⟩ := tmod_P z
  refine OkM.of [some (.long (lI z)), none, none, none] (by decide +kernel) rfl (Nat.le_of_ble_eq_true rfl) ?_
  intro X E F
  refine z_lload_n E dX6_mod_0 rfl ?_
  refine z_ldc2 (z := 10007) E ctX6_56 (by decide) dX6_mod_1 ?_
  refine z_lrem E (by omega) (by omega) (by omega) rfl dX6_mod_4 ?_
  refine z_lstore_n (ls' := [_, _, _, _]) E rfl dX6_mod_5 (Nat.le_of_ble_eq_true rfl) rfl ?_
  refine z_lload_n E dX6_mod_6 rfl ?_
  refine z_lconst (z := 0) E rfl dX6_mod_7 ?_
  refine z_lcmp E (by omega) (by omega) dX6_mod_8 (fun z8 rz8 lt8 gt8 => ?_)
  refine z_if_ge (tgt := 20) E (by omega) dX6_mod_9 (by decide) (fun h9 => ?_) (fun h9 => ?_)
  · refine z_lload_n E dX6_mod_20 rfl ?_
    refine z_l2i E dX6_mod_21 ?_
    rw [t1 (by omega)]
    exact z_iret E F dX6_mod_22 ⟨rfl, rfl⟩
  · refine z_lload_n E dX6_mod_12 rfl ?_
    refine z_ldc2 (z := 10007) E ctX6_56 (by decide) dX6_mod_13 ?_
    refine z_ladd E dX6_mod_16 ?_
    refine z_goto (tgt := 21) E dX6_mod_17 (by decide) ?_
    refine z_l2i E dX6_mod_21 ?_
    rw [t2 (by omega)]
    exact z_iret E F dX6_mod_22 ⟨rfl, rfl⟩
theorem ok_in (v a b : Int) (hv : inR v) (ha : inR a) (hb : inR b) (N : Nat) (g : Mem) : OkR mX6_in [.int (iI v), .int (iI a), .int (iI b)] N g (some (.int (iI (if a ≤ v ∧ v ≤ b then 1 else 0)))) g := by
  refine OkM.of [some (.int (iI v)), some (.int (iI a)), some (.int (iI b))] (by decide +kernel) rfl (Nat.le_of_ble_eq_true rfl) ?_
  intro X E F
  refine z_iload_n E dX6_in_0 rfl ?_
  refine z_iload_n E dX6_in_1 rfl ?_
  refine z_icmp_lt (tgt := 14) E (by omega) (by omega) dX6_in_2 (by decide) (fun h2 => ?_) (fun h2 => ?_)
  · refine z_iconst E dX6_in_14 ?_
    exact z_zret E F (by first | exact Or.inl rfl | exact Or.inr rfl) dX6_in_15 ⟨by rw [if_neg (by omega)], rfl⟩
  · refine z_iload_n E dX6_in_5 rfl ?_
    refine z_iload_n E dX6_in_6 rfl ?_
    refine z_icmp_gt (tgt := 14) E (by omega) (by omega) dX6_in_7 (by decide) (fun h7 => ?_) (fun h7 => ?_)
    · refine z_iconst E dX6_in_14 ?_
      exact z_zret E F (by first | exact Or.inl rfl | exact Or.inr rfl) dX6_in_15 ⟨by rw [if_neg (by omega)], rfl⟩
    · refine z_iconst E dX6_in_10 ?_
      refine z_goto (tgt := 15) E dX6_in_11 (by decide) ?_
      exact z_zret E F (by first | exact Or.inl rfl | exact Or.inr rfl) dX6_in_15 ⟨by rw [if_pos (by omega)], rfl⟩
end
section
/-! SERIES -/
def sm (f : Nat → Int) : Nat → Int
  | 0 => 0
  | n + 1 => sm f n + f n
theorem sm_in {f : Nat → Int} {C : Int} : ∀ {n : Nat}, (∀ i, i < n → 0 ≤ f i ∧ f i ≤ C) → 0 ≤ sm f n ∧ sm f n ≤ (n : Int) * C
  | 0, _ => by simp [sm]
  | n + 1, h => by
    have h1 := sm_in (f := f) (C := C) (n := n) (fun i hi => h i (by omega))
    have h2 := h n (by omega)
    simp only [sm]
    have e : ((n + 1 : Nat) : Int) * C = (n : Int) * C + C := by
      rw [show ((n + 1 : Nat) : Int) = (n : Int) + 1 from rfl, Int.add_mul, Int.one_mul]
    omega
theorem sm_congr {f g : Nat → Int} : ∀ {n : Nat}, (∀ i, i < n → f i = g i) → sm f n = sm g n
  | 0, _ => rfl
  | n + 1, h => by simp only [sm]; rw [sm_congr (fun i hi => h i (by omega)), h n (by omega)]
def rok (f : Nat → Int) : Prop := ∀ j, j < 10 → 0 ≤ f j ∧ f j < 10007
def mulS (a b : Nat → Int) (n : Nat) : Int := sm (fun i => a i * b (n - i)) (n + 1) % 10007
theorem mulS_in (a b : Nat → Int) (n : Nat) : 0 ≤ mulS a b n ∧ mulS a b n < 10007 := by unfold mulS; omega
theorem mulS_rok (a b : Nat → Int) : rok (mulS a b) := fun j _ => mulS_in a b j
theorem ei (i : Nat) : (i : Int) + 1 = ((i + 1 : Nat) : Int) := rfl
theorem ed (i : Nat) : ((i + 1 : Nat) : Int) - 1 + -1 = (i : Int) - 1 := by omega
theorem ec (i : Nat) : ((i + 1 : Nat) : Int) - 1 = (i : Int) := by omega
theorem va_uu {α : Type} (A : Nat → α) (k : Nat) (f h : α) : va_up (va_up A k f) k h = va_up A k h := bx_uu A k f h
theorem row_eq {A : Nat → Nat → Int} {k n : Nat} {f h : Nat → Int} (hk : ∀ f, cel k f = (6, vals n f)) (e : ∀ j, j < n → f j = h j) : mA (va_up A k f) = mA (va_up A k h) := by
  rw [← mA_up, ← mA_up, hk, hk, vals_congr e]
theorem row_id {A : Nat → Nat → Int} {k n : Nat} {f : Nat → Int} (hk : ∀ f, cel k f = (6, vals n f)) (e : ∀ j, j < n → f j = A k j) : mA (va_up A k f) = mA A := by
  rw [row_eq hk e]
  congr 1
  funext j
  by_cases h : j = k
  · subst h; rw [va_up_self]
  · rw [va_up_ne _ _ h]
set_option maxRecDepth 100000 in
theorem ok_becomeTimes {o s t : Nat} (ho : SerK o) (hs : SerK s) (ht : SerK t) (A : Nat → Nat → Int) (ra : rok (A (s + 1))) (rb : rok (A (t + 1))) (N : Nat) : OkR mX3_becomeTimes [.ref o, .ref s, .ref t] N (mA A) none (mA (va_up A (o + 1) (mulS (A (s + 1)) (A (t + 1))))) := by
  refine OkM.of [some (.ref o), some (.ref s), some (.ref t), none, none, none] (by decide +kernel) rfl (Nat.le_of_ble_eq_true rfl) ?_
  intro X E F
  refine z_bipush E (by decide) dX3_becomeTimes_0 ?_
  refine z_istore_n (ls' := [_, _, _, _, _, _]) E rfl dX3_becomeTimes_2 (Nat.le_of_ble_eq_true rfl) rfl ?_
  have loop : ∀ (k : Nat), k ≤ 10 → ∀ (l4 l5 : Option Value) (A' : Nat → Nat → Int), A' = va_up A (o + 1) (fun j => if j < k then A (o + 1) j else mulS (A (s + 1)) (A (t + 1)) j) → Zc X 3 [some (.ref o), some (.ref s), some (.ref t), some (.int (iI ((k : Int) - 1))), l4, l5] [] N (mA A') 0 0 := by
    intro k
    induction k with
    | zero =>
      intro _ l4 l5 A' hA
      subst hA
      refine z_iload_n E dX3_becomeTimes_3 rfl ?_
      refine z_if_lt (tgt := 65) E (by omega) dX3_becomeTimes_4 (by decide) (fun h4 => ?_) (fun h4 => ?_)
      · exact z_vret E F dX3_becomeTimes_65 ⟨rfl, rfl⟩
      · omega
    | succ n ih =>
      intro hk l4 l5 A' hA
      have rd : ∀ q i, i < n + 1 → A' (q + 1) i = A (q + 1) i := fun q i hi => by
        rw [hA]
        by_cases e : q = o
        · subst e; rw [va_up_self, if_pos hi]
        · rw [va_up_ne _ _ (by omega)]
      have pr : ∀ i, i < n + 1 → 0 ≤ A (s + 1) i * A (t + 1) (n - i) ∧ A (s + 1) i * A (t + 1) (n - i) ≤ 100120036 := fun i hi => mul_in (ra i (by omega)) (rb (n - i) (by omega))
      refine z_iload_n E dX3_becomeTimes_3 rfl ?_
      refine z_if_lt (tgt := 65) E (by omega) dX3_becomeTimes_4 (by decide) (fun h4 => ?_) (fun h4 => ?_)
      · omega
      · refine z_iconst E dX3_becomeTimes_7 ?_
        refine z_istore (ls' := [_, _, _, _, _, _]) E dX3_becomeTimes_8 (Nat.le_of_ble_eq_true rfl) rfl ?_
        refine z_iconst E dX3_becomeTimes_10 ?_
        refine z_istore (ls' := [_, _, _, _, _, _]) E dX3_becomeTimes_11 (Nat.le_of_ble_eq_true rfl) rfl ?_
        have inner : ∀ (m i : Nat), i + m = n + 1 → Zc X 13 [some (.ref o), some (.ref s), some (.ref t), some (.int (iI (((n + 1 : Nat) : Int) - 1))), some (.int (iI (sm (fun i => A (s + 1) i * A (t + 1) (n - i)) i))), some (.int (iI (i : Int)))] [] N (mA A') 0 0 := by
          intro m
          induction m with
          | zero =>
            intro i hi
            have hi2 : i = n + 1 := by omega
            subst hi2
            have hsm := sm_in (f := fun i => A (s + 1) i * A (t + 1) (n - i)) (n := n + 1) pr
            refine z_iload E dX3_becomeTimes_13 rfl ?_
            refine z_iload_n E dX3_becomeTimes_15 rfl ?_
            refine z_icmp_gt (tgt := 47) E (by omega) (by omega) dX3_becomeTimes_16 (by decide) (fun h16 => ?_) (fun h16 => ?_)
            · refine z_aload_n E dX3_becomeTimes_47 rfl ?_
              refine z_get E dX3_becomeTimes_48 (cel_ser ho _) flX3_9 (by rfl) ?_
              refine z_iload_n E dX3_becomeTimes_51 rfl ?_
              refine z_iload E dX3_becomeTimes_52 rfl ?_
              refine z_sipush E (by decide) dX3_becomeTimes_54 ?_
              refine z_irem E (by omega) (by omega) (by omega) (Int.tmod_eq_emod_of_nonneg (by omega)) dX3_becomeTimes_57 ?_
              refine a_iast (j := n) E dX3_becomeTimes_58 (cel_row ho) (by omega) (by omega) (by omega) ?_
              refine z_iinc (ls' := [_, _, _, _, _, _]) E dX3_becomeTimes_59 rfl rfl ?_
              refine z_goto (tgt := 3) E dX3_becomeTimes_62 (by decide) ?_
              rw [ed]
              refine ih (by omega) _ _ _ ?_
              rw [hA, va_uu, va_up_self]
              congr 1
              funext j
              by_cases e1 : j = n
              · subst e1; rw [up_eq, if_neg (by omega)]; rfl
              · rw [up_ne _ _ e1]
                by_cases e2 : j < n
                · rw [if_pos e2, if_pos (by omega)]
                · rw [if_neg e2, if_neg (by omega)]
            · omega
          | succ m ihm =>
            intro i hi
            refine z_iload E dX3_becomeTimes_13 rfl ?_
            refine z_iload_n E dX3_becomeTimes_15 rfl ?_
            refine z_icmp_gt (tgt := 47) E (by omega) (by omega) dX3_becomeTimes_16 (by decide) (fun h16 => ?_) (fun h16 => ?_)
            · omega
            · refine z_iload E dX3_becomeTimes_19 rfl ?_
              refine z_aload_n E dX3_becomeTimes_21 rfl ?_
              refine z_get E dX3_becomeTimes_22 (cel_ser hs _) flX3_9 (by rfl) ?_
              refine z_iload E dX3_becomeTimes_25 rfl ?_
              refine a_iald (j := i) E dX3_becomeTimes_27 (cel_row hs) (by omega) (by omega) (by omega) ?_
              refine z_aload_n E dX3_becomeTimes_28 rfl ?_
              refine z_get E dX3_becomeTimes_29 (cel_ser ht _) flX3_9 (by rfl) ?_
              refine z_iload_n E dX3_becomeTimes_32 rfl ?_
              refine z_iload E dX3_becomeTimes_33 rfl ?_
              refine z_isub E dX3_becomeTimes_35 ?_
              refine a_iald (j := n - i) E dX3_becomeTimes_36 (cel_row ht) (by omega) (by omega) (by omega) ?_
              refine z_imul E dX3_becomeTimes_37 ?_
              refine z_iadd E dX3_becomeTimes_38 ?_
              refine z_istore (ls' := [_, _, _, _, _, _]) E dX3_becomeTimes_39 (Nat.le_of_ble_eq_true rfl) rfl ?_
              refine z_iinc (ls' := [_, _, _, _, _, _]) E dX3_becomeTimes_41 rfl rfl ?_
              refine z_goto (tgt := 13) E dX3_becomeTimes_44 (by decide) ?_
              rw [rd s i (by omega), rd t (n - i) (by omega), ei]
              exact ihm (i + 1) (by omega)
        exact inner (n + 1) 0 (by omega)
  refine z_mem ?_ (loop 10 (by omega) none none _ rfl)
  exact (row_id (cel_row ho) (fun j hj => by rw [if_pos hj])).symm
end
section
/-! more of SERIES -/
set_option maxRecDepth 100000 in
theorem ok_fill (a n : Nat) (h : Nat → Int) (v : Int) (N : Nat) (g : Mem) (hg : g a = (6, vals n h)) (hn : n < 1000) : OkR mJ7_fill_53178 [.ref a, .int (iI v)] N g none (va_up g a (6, vals n (fun _ => v))) := by
  refine OkM.of [some (.ref a), some (.int (iI v)), none, none] (by decide +kernel) rfl (Nat.le_of_ble_eq_true rfl) ?_
  intro X E F
  refine z_iconst E dJ7_fill_53178_0 ?_
  refine z_istore_n (ls' := [_, _, _, _]) E rfl dJ7_fill_53178_1 (Nat.le_of_ble_eq_true rfl) rfl ?_
  refine z_aload_n E dJ7_fill_53178_2 rfl ?_
  refine z_alen E dJ7_fill_53178_3 (by omega) hg ?_
  refine z_istore_n (ls' := [_, _, _, _]) E rfl dJ7_fill_53178_4 (Nat.le_of_ble_eq_true rfl) rfl ?_
  rw [vals_len]
  have loop : ∀ (m i : Nat), i + m = n → ∀ g' : Mem, g' = va_up g a (6, vals n (fun j => if j < i then v else h j)) → Zc X 5 [some (.ref a), some (.int (iI v)), some (.int (iI (i : Int))), some (.int (iI (n : Int)))] [] N g' 0 0 := by
    intro m
    induction m with
    | zero =>
      intro i hi g' hg'
      refine z_iload_n E dJ7_fill_53178_5 rfl ?_
      refine z_iload_n E dJ7_fill_53178_6 rfl ?_
      refine z_icmp_ge (tgt := 20) E (by omega) (by omega) dJ7_fill_53178_7 (by decide) (fun h7 => ?_) (fun h7 => ?_)
      · refine z_vret E F dJ7_fill_53178_20 ⟨rfl, ?_⟩
        rw [hg', vals_congr (fun j hj => if_pos (by omega))]
      · omega
    | succ m ih =>
      intro i hi g' hg'
      refine z_iload_n E dJ7_fill_53178_5 rfl ?_
      refine z_iload_n E dJ7_fill_53178_6 rfl ?_
      refine z_icmp_ge (tgt := 20) E (by omega) (by omega) dJ7_fill_53178_7 (by decide) (fun h7 => ?_) (fun h7 => ?_)
      · omega
      · refine z_aload_n E dJ7_fill_53178_10 rfl ?_
        refine z_iload_n E dJ7_fill_53178_11 rfl ?_
        refine z_iload_n E dJ7_fill_53178_12 rfl ?_
        refine z_iast (j := i) (vs := vals n (fun j => if j < i then v else h j)) E dJ7_fill_53178_13 (by rw [hg']; exact mem_at) (by omega) (by omega) (by rw [vals_len]; omega) ?_
        refine z_iinc (ls' := [_, _, _, _]) E dJ7_fill_53178_14 rfl rfl ?_
        refine z_goto (tgt := 5) E dJ7_fill_53178_17 (by decide) ?_
        rw [ei]
        refine ih (i + 1) (by omega) _ ?_
        rw [hg', vals_set, mem_uu]
        congr 2
        apply vals_congr
        intro j hj
        by_cases e : j = i
        · subst e; rw [up_eq, if_pos (by omega)]
        · rw [up_ne _ _ e]
          by_cases e2 : j < i
          · rw [if_pos e2, if_pos (by omega)]
          · rw [if_neg e2, if_neg (by omega)]
  refine loop n 0 (by omega) _ ?_
  funext k
  by_cases e : k = a
  · subst e; rw [va_up_self, hg, vals_congr (fun j hj => if_neg (by omega))]
  · rw [va_up_ne _ _ e]
def conS (a : Int) : Nat → Int := up (fun _ => 0) 0 a
theorem ok_becomeConstantG (o c : Nat) (h : Nat → Int) (v : Int) (N : Nat) (g : Mem) (ho : g o = (2, [.ref c])) (hc : g c = (6, vals 10 h)) (hne : o ≠ c) : OkR mX3_becomeConstant [.ref o, .int (iI v)] N g none (va_up g c (6, vals 10 (conS v))) := by
  refine OkM.of [some (.ref o), some (.int (iI v))] (by decide +kernel) rfl (Nat.le_of_ble_eq_true rfl) ?_
  intro X E F
  refine z_aload_n E dX3_becomeConstant_0 rfl ?_
  refine z_get E dX3_becomeConstant_1 ho flX3_9 (by rfl) ?_
  refine z_iconst E dX3_becomeConstant_4 ?_
  refine c_S0 E dX3_becomeConstant_5 lkX3_15 (ok_fill c 10 h 0 N g hc (by omega)) rfl rfl rfl (Nat.le_of_ble_eq_true rfl) ⟨(Nat.le_of_ble_eq_true rfl), (Nat.le_of_ble_eq_true rfl)⟩ ⟨rfl, rfl⟩ ⟨Nat.zero_le _, Nat.zero_le _⟩ ?_
  refine z_aload_n E dX3_becomeConstant_8 rfl ?_
  refine z_get E dX3_becomeConstant_9 (mem_ne hne ho) flX3_9 (by rfl) ?_
  refine z_iconst E dX3_becomeConstant_12 ?_
  refine z_iload_n E dX3_becomeConstant_13 rfl ?_
  refine z_iast (j := 0) (vs := vals 10 (fun _ => 0)) E dX3_becomeConstant_14 mem_at rfl (by omega) (by rw [vals_len]; omega) ?_
  rw [mem_uu, vals_set]
  exact z_vret E F dX3_becomeConstant_15 ⟨rfl, rfl⟩
theorem ok_becomeConstant {o : Nat} (ho : SerK o) (A : Nat → Nat → Int) (v : Int) (N : Nat) : OkR mX3_becomeConstant [.ref o, .int (iI v)] N (mA A) none (mA (va_up A (o + 1) (conS v))) := by
  rw [← mA_up, cel_row ho]
  exact ok_becomeConstantG o (o + 1) (A (o + 1)) v N (mA A) (cel_ser ho _) (cel_row ho _) (by omega)
theorem ok_canDivide {o : Nat} (ho : SerK o) (A : Nat → Nat → Int) (ra : rok (A (o + 1))) (N : Nat) : OkR mX3_canDivide [.ref o] N (mA A) (some (.int (iI (if A (o + 1) 0 ≠ 0 then 1 else 0)))) (mA A) := by
  have r0 := ra 0 (by omega)
  refine OkM.of [some (.ref o)] (by decide +kernel) rfl (Nat.le_of_ble_eq_true rfl) ?_
  intro X E F
  refine z_aload_n E dX3_canDivide_0 rfl ?_
  refine z_get E dX3_canDivide_1 (cel_ser ho _) flX3_9 (by rfl) ?_
  refine z_iconst E dX3_canDivide_4 ?_
  refine a_iald (j := 0) E dX3_canDivide_5 (cel_row ho) (by omega) (by omega) (by omega) ?_
  refine z_if_eq (tgt := 13) E (by omega) dX3_canDivide_6 (by decide) (fun h6 => ?_) (fun h6 => ?_)
  · refine z_iconst E dX3_canDivide_13 ?_
    exact z_zret E F (by first | exact Or.inl rfl | exact Or.inr rfl) dX3_canDivide_14 ⟨by rw [if_neg (by omega)], rfl⟩
  · refine z_iconst E dX3_canDivide_9 ?_
    refine z_goto (tgt := 14) E dX3_canDivide_10 (by decide) ?_
    exact z_zret E F (by first | exact Or.inl rfl | exact Or.inr rfl) dX3_canDivide_14 ⟨by rw [if_pos h6], rfl⟩
theorem ok_canBePutIn {o : Nat} (ho : SerK o) (A : Nat → Nat → Int) (ra : rok (A (o + 1))) (N : Nat) : OkR mX3_canBePutIn [.ref o] N (mA A) (some (.int (iI (if A (o + 1) 0 = 0 then 1 else 0)))) (mA A) := by
  have r0 := ra 0 (by omega)
  refine OkM.of [some (.ref o)] (by decide +kernel) rfl (Nat.le_of_ble_eq_true rfl) ?_
  intro X E F
  refine z_aload_n E dX3_canBePutIn_0 rfl ?_
  refine z_get E dX3_canBePutIn_1 (cel_ser ho _) flX3_9 (by rfl) ?_
  refine z_iconst E dX3_canBePutIn_4 ?_
  refine a_iald (j := 0) E dX3_canBePutIn_5 (cel_row ho) (by omega) (by omega) (by omega) ?_
  refine z_if_ne (tgt := 13) E (by omega) dX3_canBePutIn_6 (by decide) (fun h6 => ?_) (fun h6 => ?_)
  · refine z_iconst E dX3_canBePutIn_13 ?_
    exact z_zret E F (by first | exact Or.inl rfl | exact Or.inr rfl) dX3_canBePutIn_14 ⟨by rw [if_neg h6], rfl⟩
  · refine z_iconst E dX3_canBePutIn_9 ?_
    refine z_goto (tgt := 14) E dX3_canBePutIn_10 (by decide) ?_
    exact z_zret E F (by first | exact Or.inl rfl | exact Or.inr rfl) dX3_canBePutIn_14 ⟨by rw [if_pos h6], rfl⟩
theorem ok_canTurn {o : Nat} (ho : SerK o) (A : Nat → Nat → Int) (ra : rok (A (o + 1))) (N : Nat) : OkR mX3_canTurn [.ref o] N (mA A) (some (.int (iI (if A (o + 1) 0 = 0 ∧ A (o + 1) 1 ≠ 0 then 1 else 0)))) (mA A) := by
  have r0 := ra 0 (by omega)
  have r1 := ra 1 (by omega)
  refine OkM.of [some (.ref o)] (by decide +kernel) rfl (Nat.le_of_ble_eq_true rfl) ?_
  intro X E F
  refine z_aload_n E dX3_canTurn_0 rfl ?_
  refine z_get E dX3_canTurn_1 (cel_ser ho _) flX3_9 (by rfl) ?_
  refine z_iconst E dX3_canTurn_4 ?_
  refine a_iald (j := 0) E dX3_canTurn_5 (cel_row ho) (by omega) (by omega) (by omega) ?_
  refine z_if_ne (tgt := 22) E (by omega) dX3_canTurn_6 (by decide) (fun h6 => ?_) (fun h6 => ?_)
  · refine z_iconst E dX3_canTurn_22 ?_
    exact z_zret E F (by first | exact Or.inl rfl | exact Or.inr rfl) dX3_canTurn_23 ⟨by rw [if_neg (fun h => h6 h.1)], rfl⟩
  · refine z_aload_n E dX3_canTurn_9 rfl ?_
    refine z_get E dX3_canTurn_10 (cel_ser ho _) flX3_9 (by rfl) ?_
    refine z_iconst E dX3_canTurn_13 ?_
    refine a_iald (j := 1) E dX3_canTurn_14 (cel_row ho) (by omega) (by omega) (by omega) ?_
    refine z_if_eq (tgt := 22) E (by omega) dX3_canTurn_15 (by decide) (fun h15 => ?_) (fun h15 => ?_)
    · refine z_iconst E dX3_canTurn_22 ?_
      exact z_zret E F (by first | exact Or.inl rfl | exact Or.inr rfl) dX3_canTurn_23 ⟨by rw [if_neg (fun h => h.2 h15)], rfl⟩
    · refine z_iconst E dX3_canTurn_18 ?_
      refine z_goto (tgt := 23) E dX3_canTurn_19 (by decide) ?_
      exact z_zret E F (by first | exact Or.inl rfl | exact Or.inr rfl) dX3_canTurn_23 ⟨by rw [if_pos ⟨h6, h15⟩], rfl⟩
theorem ok_becomeCopyOf {o s : Nat} (ho : SerK o) (hs : SerK s) (A : Nat → Nat → Int) (N : Nat) : OkR mX3_becomeCopyOf [.ref o, .ref s] N (mA A) none (mA (va_up A (o + 1) (A (s + 1)))) := by
  refine OkM.of [some (.ref o), some (.ref s)] (by decide +kernel) rfl (Nat.le_of_ble_eq_true rfl) ?_
  intro X E F
  refine z_aload_n E dX3_becomeCopyOf_0 rfl ?_
  refine z_get E dX3_becomeCopyOf_1 (cel_ser hs _) flX3_9 (by rfl) ?_
  refine z_iconst E dX3_becomeCopyOf_4 ?_
  refine z_aload_n E dX3_becomeCopyOf_5 rfl ?_
  refine z_get E dX3_becomeCopyOf_6 (cel_ser ho _) flX3_9 (by rfl) ?_
  refine z_iconst E dX3_becomeCopyOf_9 ?_
  refine z_bipush E (by decide) dX3_becomeCopyOf_10 ?_
  refine z_copy (sp := 0) (dp := 0) (n := 10) E dX3_becomeCopyOf_12 lkX3_21 (cel_row hs _) (cel_row ho _) rfl rfl rfl (by omega) (by omega) (by omega) rfl (Nat.le_of_ble_eq_true rfl) (Nat.le_of_ble_eq_true rfl) ?_
  rw [← cel_row ho, mA_up]
  refine z_mem (row_eq (h := A (s + 1)) (cel_row ho) (fun j hj => ?_)) ?_
  · unfold cpy; rw [if_pos ⟨by omega, by omega⟩]; simp
  exact z_vret E F dX3_becomeCopyOf_15 ⟨rfl, rfl⟩
def shd (s : Nat → Int) : Nat → Int := fun j => if j < 9 then s (j + 1) else 0
def shu (s : Nat → Int) : Nat → Int := fun j => if j = 0 then 0 else s (j - 1)
theorem ok_becomeShiftedDown {o s : Nat} (ho : SerK o) (hs : SerK s) (A : Nat → Nat → Int) (N : Nat) : OkR mX3_becomeShiftedDown [.ref o, .ref s] N (mA A) none (mA (va_up A (o + 1) (shd (A (s + 1))))) := by
  refine OkM.of [some (.ref o), some (.ref s)] (by decide +kernel) rfl (Nat.le_of_ble_eq_true rfl) ?_
  intro X E F
  refine z_aload_n E dX3_becomeShiftedDown_0 rfl ?_
  refine z_get E dX3_becomeShiftedDown_1 (cel_ser hs _) flX3_9 (by rfl) ?_
  refine z_iconst E dX3_becomeShiftedDown_4 ?_
  refine z_aload_n E dX3_becomeShiftedDown_5 rfl ?_
  refine z_get E dX3_becomeShiftedDown_6 (cel_ser ho _) flX3_9 (by rfl) ?_
  refine z_iconst E dX3_becomeShiftedDown_9 ?_
  refine z_bipush E (by decide) dX3_becomeShiftedDown_10 ?_
  refine z_copy (sp := 1) (dp := 0) (n := 9) E dX3_becomeShiftedDown_12 lkX3_21 (cel_row hs _) (cel_row ho _) rfl rfl rfl (by omega) (by omega) (by omega) rfl (Nat.le_of_ble_eq_true rfl) (Nat.le_of_ble_eq_true rfl) ?_
  rw [← cel_row ho, mA_up]
  refine z_aload_n E dX3_becomeShiftedDown_15 rfl ?_
  refine z_get E dX3_becomeShiftedDown_16 (cel_ser ho _) flX3_9 (by rfl) ?_
  refine z_bipush E (by decide) dX3_becomeShiftedDown_19 ?_
  refine z_iconst E dX3_becomeShiftedDown_21 ?_
  refine a_iast (j := 9) E dX3_becomeShiftedDown_22 (cel_row ho) (by omega) (by omega) (by omega) ?_
  rw [va_uu, va_up_self]
  refine z_mem (row_eq (h := shd (A (s + 1))) (cel_row ho) (fun j hj => ?_)) ?_
  · unfold shd
    by_cases e : j = 9
    · subst e; rw [up_eq, if_neg (by omega)]
    · rw [up_ne _ _ e, if_pos (by omega)]
      unfold cpy
      rw [if_pos ⟨by omega, by omega⟩, show 1 + (j - 0) = j + 1 by omega]
  exact z_vret E F dX3_becomeShiftedDown_23 ⟨rfl, rfl⟩
theorem ok_becomeShiftedUp {o s : Nat} (ho : SerK o) (hs : SerK s) (A : Nat → Nat → Int) (N : Nat) : OkR mX3_becomeShiftedUp [.ref o, .ref s] N (mA A) none (mA (va_up A (o + 1) (shu (A (s + 1))))) := by
  refine OkM.of [some (.ref o), some (.ref s)] (by decide +kernel) rfl (Nat.le_of_ble_eq_true rfl) ?_
  intro X E F
  refine z_aload_n E dX3_becomeShiftedUp_0 rfl ?_
  refine z_get E dX3_becomeShiftedUp_1 (cel_ser hs _) flX3_9 (by rfl) ?_
  refine z_iconst E dX3_becomeShiftedUp_4 ?_
  refine z_aload_n E dX3_becomeShiftedUp_5 rfl ?_
  refine z_get E dX3_becomeShiftedUp_6 (cel_ser ho _) flX3_9 (by rfl) ?_
  refine z_iconst E dX3_becomeShiftedUp_9 ?_
  refine z_bipush E (by decide) dX3_becomeShiftedUp_10 ?_
  refine z_copy (sp := 0) (dp := 1) (n := 9) E dX3_becomeShiftedUp_12 lkX3_21 (cel_row hs _) (cel_row ho _) rfl rfl rfl (by omega) (by omega) (by omega) rfl (Nat.le_of_ble_eq_true rfl) (Nat.le_of_ble_eq_true rfl) ?_
  rw [← cel_row ho, mA_up]
  refine z_aload_n E dX3_becomeShiftedUp_15 rfl ?_
  refine z_get E dX3_becomeShiftedUp_16 (cel_ser ho _) flX3_9 (by rfl) ?_
  refine z_iconst E dX3_becomeShiftedUp_19 ?_
  refine z_iconst E dX3_becomeShiftedUp_20 ?_
  refine a_iast (j := 0) E dX3_becomeShiftedUp_21 (cel_row ho) (by omega) (by omega) (by omega) ?_
  rw [va_uu, va_up_self]
  refine z_mem (row_eq (h := shu (A (s + 1))) (cel_row ho) (fun j hj => ?_)) ?_
  · unfold shu
    by_cases e : j = 0
    · subst e; rw [up_eq, if_pos rfl]
    · rw [up_ne _ _ e, if_neg e]
      unfold cpy
      rw [if_pos ⟨by omega, by omega⟩, show 0 + (j - 1) = j - 1 by omega]
  exact z_vret E F dX3_becomeShiftedUp_22 ⟨rfl, rfl⟩
def addS (a b : Nat → Int) (j : Nat) : Int := (a j + b j) % 10007
def subS (a b : Nat → Int) (j : Nat) : Int := (a j - b j) % 10007
set_option maxRecDepth 100000 in
theorem ok_becomeTotal {o s t : Nat} (ho : SerK o) (hs : SerK s) (ht : SerK t) (A : Nat → Nat → Int) (ra : rok (A (s + 1))) (rb : rok (A (t + 1))) (N : Nat) : OkR mX3_becomeTotal [.ref o, .ref s, .ref t] N (mA A) none (mA (va_up A (o + 1) (addS (A (s + 1)) (A (t + 1))))) := by
  refine OkM.of [some (.ref o), some (.ref s), some (.ref t), none] (by decide +kernel) rfl (Nat.le_of_ble_eq_true rfl) ?_
  intro X E F
  refine z_iconst E dX3_becomeTotal_0 ?_
  refine z_istore_n (ls' := [_, _, _, _]) E rfl dX3_becomeTotal_1 (Nat.le_of_ble_eq_true rfl) rfl ?_
  have loop : ∀ (m i : Nat), i + m = 10 → ∀ (A' : Nat → Nat → Int), A' = va_up A (o + 1) (fun j => if j < i then addS (A (s + 1)) (A (t + 1)) j else A (o + 1) j) → Zc X 2 [some (.ref o), some (.ref s), some (.ref t), some (.int (iI (i : Int)))] [] N (mA A') 0 0 := by
    intro m
    induction m with
    | zero =>
      intro i hi A' hA
      refine z_iload_n E dX3_becomeTotal_2 rfl ?_
      refine z_bipush E (by decide) dX3_becomeTotal_3 ?_
      refine z_icmp_ge (tgt := 37) E (by omega) (by omega) dX3_becomeTotal_5 (by decide) (fun h5 => ?_) (fun h5 => ?_)
      · refine z_vret E F dX3_becomeTotal_37 ⟨rfl, ?_⟩
        rw [hA]
        exact row_eq (cel_row ho) (fun j hj => if_pos (by omega))
      · omega
    | succ m ih =>
      intro i hi A' hA
      have rd : ∀ q, A' (q + 1) i = A (q + 1) i := fun q => by
        rw [hA]
        by_cases e : q = o
        · subst e; rw [va_up_self, if_neg (by omega)]
        · rw [va_up_ne _ _ (by omega)]
      have r1 := ra i (by omega)
      have r2 := rb i (by omega)
      have r3 := rd s
      have r4 := rd t
      refine z_iload_n E dX3_becomeTotal_2 rfl ?_
      refine z_bipush E (by decide) dX3_becomeTotal_3 ?_
      refine z_icmp_ge (tgt := 37) E (by omega) (by omega) dX3_becomeTotal_5 (by decide) (fun h5 => ?_) (fun h5 => ?_)
      · omega
      · refine z_aload_n E dX3_becomeTotal_8 rfl ?_
        refine z_get E dX3_becomeTotal_9 (cel_ser ho _) flX3_9 (by rfl) ?_
        refine z_iload_n E dX3_becomeTotal_12 rfl ?_
        refine z_aload_n E dX3_becomeTotal_13 rfl ?_
        refine z_get E dX3_becomeTotal_14 (cel_ser hs _) flX3_9 (by rfl) ?_
        refine z_iload_n E dX3_becomeTotal_17 rfl ?_
        refine a_iald (j := i) E dX3_becomeTotal_18 (cel_row hs) (by omega) (by omega) (by omega) ?_
        refine z_aload_n E dX3_becomeTotal_19 rfl ?_
        refine z_get E dX3_becomeTotal_20 (cel_ser ht _) flX3_9 (by rfl) ?_
        refine z_iload_n E dX3_becomeTotal_23 rfl ?_
        refine a_iald (j := i) E dX3_becomeTotal_24 (cel_row ht) (by omega) (by omega) (by omega) ?_
        refine z_iadd E dX3_becomeTotal_25 ?_
        refine z_sipush E (by decide) dX3_becomeTotal_26 ?_
        refine z_irem E (by omega) (by omega) (by omega) (Int.tmod_eq_emod_of_nonneg (by omega)) dX3_becomeTotal_29 ?_
        refine a_iast (j := i) E dX3_becomeTotal_30 (cel_row ho) (by omega) (by omega) (by omega) ?_
        refine z_iinc (ls' := [_, _, _, _]) E dX3_becomeTotal_31 rfl rfl ?_
        refine z_goto (tgt := 2) E dX3_becomeTotal_34 (by decide) ?_
        rw [rd s, rd t, ei]
        refine ih (i + 1) (by omega) _ ?_
        rw [hA, va_uu, va_up_self]
        congr 1
        funext j
        by_cases e1 : j = i
        · subst e1; rw [up_eq, if_pos (by omega)]; rfl
        · rw [up_ne _ _ e1]
          by_cases e2 : j < i
          · rw [if_pos e2, if_pos (by omega)]
          · rw [if_neg e2, if_neg (by omega)]
  refine z_mem ?_ (loop 10 0 (by omega) _ rfl)
  exact (row_id (cel_row ho) (fun j hj => if_neg (by omega))).symm
set_option maxRecDepth 100000 in
theorem ok_becomeRest {o s t : Nat} (ho : SerK o) (hs : SerK s) (ht : SerK t) (A : Nat → Nat → Int) (ra : rok (A (s + 1))) (rb : rok (A (t + 1))) (N : Nat) : OkR mX3_becomeRest [.ref o, .ref s, .ref t] N (mA A) none (mA (va_up A (o + 1) (subS (A (s + 1)) (A (t + 1))))) := by
  refine OkM.of [some (.ref o), some (.ref s), some (.ref t), none] (by decide +kernel) rfl (Nat.le_of_ble_eq_true rfl) ?_
  intro X E F
  refine z_iconst E dX3_becomeRest_0 ?_
  refine z_istore_n (ls' := [_, _, _, _]) E rfl dX3_becomeRest_1 (Nat.le_of_ble_eq_true rfl) rfl ?_
  have loop : ∀ (m i : Nat), i + m = 10 → ∀ (A' : Nat → Nat → Int), A' = va_up A (o + 1) (fun j => if j < i then subS (A (s + 1)) (A (t + 1)) j else A (o + 1) j) → Zc X 2 [some (.ref o), some (.ref s), some (.ref t), some (.int (iI (i : Int)))] [] N (mA A') 0 0 := by
    intro m
    induction m with
    | zero =>
      intro i hi A' hA
      refine z_iload_n E dX3_becomeRest_2 rfl ?_
      refine z_bipush E (by decide) dX3_becomeRest_3 ?_
      refine z_icmp_ge (tgt := 36) E (by omega) (by omega) dX3_becomeRest_5 (by decide) (fun h5 => ?_) (fun h5 => ?_)
      · refine z_vret E F dX3_becomeRest_36 ⟨rfl, ?_⟩
        rw [hA]
        exact row_eq (cel_row ho) (fun j hj => if_pos (by omega))
      · omega
    | succ m ih =>
      intro i hi A' hA
      have rd : ∀ q, A' (q + 1) i = A (q + 1) i := fun q => by
        rw [hA]
        by_cases e : q = o
        · subst e; rw [va_up_self, if_neg (by omega)]
        · rw [va_up_ne _ _ (by omega)]
      have r1 := ra i (by omega)
      have r2 := rb i (by omega)
      refine z_iload_n E dX3_becomeRest_2 rfl ?_
      refine z_bipush E (by decide) dX3_becomeRest_3 ?_
      refine z_icmp_ge (tgt := 36) E (by omega) (by omega) dX3_becomeRest_5 (by decide) (fun h5 => ?_) (fun h5 => ?_)
      · omega
      · refine z_aload_n E dX3_becomeRest_8 rfl ?_
        refine z_get E dX3_becomeRest_9 (cel_ser ho _) flX3_9 (by rfl) ?_
        refine z_iload_n E dX3_becomeRest_12 rfl ?_
        refine z_aload_n E dX3_becomeRest_13 rfl ?_
        refine z_get E dX3_becomeRest_14 (cel_ser hs _) flX3_9 (by rfl) ?_
        refine z_iload_n E dX3_becomeRest_17 rfl ?_
        refine a_iald (j := i) E dX3_becomeRest_18 (cel_row hs) (by omega) (by omega) (by omega) ?_
        refine z_aload_n E dX3_becomeRest_19 rfl ?_
        refine z_get E dX3_becomeRest_20 (cel_ser ht _) flX3_9 (by rfl) ?_
        refine z_iload_n E dX3_becomeRest_23 rfl ?_
        refine a_iald (j := i) E dX3_becomeRest_24 (cel_row ht) (by omega) (by omega) (by omega) ?_
        refine z_isub E dX3_becomeRest_25 ?_
        rw [rd s, rd t]
        refine c_S E dX3_becomeRest_26 lkX3_27 (ok_of (A (s + 1) i - A (t + 1) i) ⟨by omega, by omega⟩ N (mA A')) rfl rfl rfl (Nat.le_of_ble_eq_true rfl) ⟨(Nat.le_of_ble_eq_true rfl), (Nat.le_of_ble_eq_true rfl)⟩ ⟨rfl, rfl⟩ ⟨Nat.zero_le _, Nat.zero_le _⟩ ?_
        refine a_iast (j := i) E dX3_becomeRest_29 (cel_row ho) (by omega) (by omega) (by omega) ?_
        refine z_iinc (ls' := [_, _, _, _]) E dX3_becomeRest_30 rfl rfl ?_
        refine z_goto (tgt := 2) E dX3_becomeRest_33 (by decide) ?_
        rw [ei]
        refine ih (i + 1) (by omega) _ ?_
        rw [hA, va_uu, va_up_self]
        congr 1
        funext j
        by_cases e1 : j = i
        · subst e1; rw [up_eq, if_pos (by omega)]; rfl
        · rw [up_ne _ _ e1]
          by_cases e2 : j < i
          · rw [if_pos e2, if_pos (by omega)]
          · rw [if_neg e2, if_neg (by omega)]
  refine z_mem ?_ (loop 10 0 (by omega) _ rfl)
  exact (row_id (cel_row ho) (fun j hj => if_neg (by omega))).symm
end
section
/-! quotients, values, powers of SERIES -/
/-- the quotient's terms, one after the other -/
def qT (a b : Nat → Int) : Nat → (Nat → Int)
  | 0 => fun _ => 0
  | n + 1 => up (qT a b n) n ((a n - sm (fun i => b (i + 1) * qT a b n (n - (i + 1))) n) % 10007 * pw (b 0) 10005 % 10007)
def qS (a b : Nat → Int) (n : Nat) : Int := qT a b (n + 1) n
theorem qT_lt (a b : Nat → Int) : ∀ m j, j < m → qT a b m j = qS a b j
  | 0, j, h => by omega
  | m + 1, j, h => by
    by_cases e : j = m
    · subst e; rfl
    · rw [qT, up_ne _ _ e]; exact qT_lt a b m j (by omega)
theorem qS_eq (a b : Nat → Int) (n : Nat) : qS a b n = (a n - sm (fun i => b (i + 1) * qS a b (n - (i + 1))) n) % 10007 * pw (b 0) 10005 % 10007 := by
  unfold qS
  rw [qT, up_eq]
  rw [sm_congr (g := fun i => b (i + 1) * qS a b (n - (i + 1))) (fun i hi => by rw [qT_lt a b n _ (by omega)])]
  rfl
theorem qS_in (a b : Nat → Int) (n : Nat) : 0 ≤ qS a b n ∧ qS a b n < 10007 := by rw [qS_eq]; omega
theorem qS_rok (a b : Nat → Int) : rok (qS a b) := fun j _ => qS_in a b j
set_option maxRecDepth 100000 in
theorem ok_becomeQuotient {o s t : Nat} (ho : SerK o) (hs : SerK s) (ht : SerK t) (hos : o ≠ s) (hot : o ≠ t) (A : Nat → Nat → Int) (ra : rok (A (s + 1))) (rb : rok (A (t + 1))) (N : Nat) : OkR mX3_becomeQuotient [.ref o, .ref s, .ref t] N (mA A) none (mA (va_up A (o + 1) (qS (A (s + 1)) (A (t + 1))))) := by
  have rb0 := rb 0 (by omega)
  have pv := pw_in (A (t + 1) 0) 10005
  refine OkM.of [some (.ref o), some (.ref s), some (.ref t), none, none, none, none] (by decide +kernel) rfl (Nat.le_of_ble_eq_true rfl) ?_
  intro X E F
  refine z_aload_n E dX3_becomeQuotient_0 rfl ?_
  refine z_get E dX3_becomeQuotient_1 (cel_ser ht _) flX3_9 (by rfl) ?_
  refine z_iconst E dX3_becomeQuotient_4 ?_
  refine a_iald (j := 0) E dX3_becomeQuotient_5 (cel_row ht) (by omega) (by omega) (by omega) ?_
  refine c_S E dX3_becomeQuotient_6 lkX3_33 (ok_inverse (A (t + 1) 0) rb0 N (mA A)) rfl rfl rfl (Nat.le_of_ble_eq_true rfl) ⟨(Nat.le_of_ble_eq_true rfl), (Nat.le_of_ble_eq_true rfl)⟩ ⟨rfl, rfl⟩ ⟨Nat.zero_le _, Nat.zero_le _⟩ ?_
  refine z_istore_n (ls' := [_, _, _, _, _, _, _]) E rfl dX3_becomeQuotient_9 (Nat.le_of_ble_eq_true rfl) rfl ?_
  refine z_iconst E dX3_becomeQuotient_10 ?_
  refine z_istore (ls' := [_, _, _, _, _, _, _]) E dX3_becomeQuotient_11 (Nat.le_of_ble_eq_true rfl) rfl ?_
  generalize hp : pw (A (t + 1) 0) 10005 = p at pv ⊢
  have loop : ∀ (m n : Nat), n + m = 10 → ∀ (l5 l6 : Option Value) (A' : Nat → Nat → Int), A' = va_up A (o + 1) (fun j => if j < n then qS (A (s + 1)) (A (t + 1)) j else A (o + 1) j) → Zc X 13 [some (.ref o), some (.ref s), some (.ref t), some (.int (iI p)), some (.int (iI (n : Int))), l5, l6] [] N (mA A') 0 0 := by
    intro m
    induction m with
    | zero =>
      intro n hn l5 l6 A' hA
      refine z_iload E dX3_becomeQuotient_13 rfl ?_
      refine z_bipush E (by decide) dX3_becomeQuotient_15 ?_
      refine z_icmp_ge (tgt := 94) E (by omega) (by omega) dX3_becomeQuotient_17 (by decide) (fun h17 => ?_) (fun h17 => ?_)
      · refine z_vret E F dX3_becomeQuotient_94 ⟨rfl, ?_⟩
        rw [hA]
        exact row_eq (cel_row ho) (fun j hj => if_pos (by omega))
      · omega
    | succ m ih =>
      intro n hn l5 l6 A' hA
      have rs : ∀ i, A' (s + 1) i = A (s + 1) i := fun i => by rw [hA, va_up_ne _ _ (by omega)]
      have rt : ∀ i, A' (t + 1) i = A (t + 1) i := fun i => by rw [hA, va_up_ne _ _ (by omega)]
      have rq : ∀ i, i < n → A' (o + 1) i = qS (A (s + 1)) (A (t + 1)) i := fun i hi => by rw [hA, va_up_self, if_pos hi]
      have pr : ∀ i, i < n → 0 ≤ A (t + 1) (i + 1) * qS (A (s + 1)) (A (t + 1)) (n - (i + 1)) ∧ A (t + 1) (i + 1) * qS (A (s + 1)) (A (t + 1)) (n - (i + 1)) ≤ 100120036 := fun i hi => mul_in (rb (i + 1) (by omega)) (qS_in _ _ _)
      have hra := ra n (by omega)
      refine z_iload E dX3_becomeQuotient_13 rfl ?_
      refine z_bipush E (by decide) dX3_becomeQuotient_15 ?_
      refine z_icmp_ge (tgt := 94) E (by omega) (by omega) dX3_becomeQuotient_17 (by decide) (fun h17 => ?_) (fun h17 => ?_)
      · omega
      · refine z_iconst E dX3_becomeQuotient_20 ?_
        refine z_istore (ls' := [_, _, _, _, _, _, _]) E dX3_becomeQuotient_21 (Nat.le_of_ble_eq_true rfl) rfl ?_
        refine z_iconst E dX3_becomeQuotient_23 ?_
        refine z_istore (ls' := [_, _, _, _, _, _, _]) E dX3_becomeQuotient_24 (Nat.le_of_ble_eq_true rfl) rfl ?_
        have inner : ∀ (m2 i : Nat), i + m2 = n → Zc X 26 [some (.ref o), some (.ref s), some (.ref t), some (.int (iI p)), some (.int (iI (n : Int))), some (.int (iI (sm (fun i => A (t + 1) (i + 1) * qS (A (s + 1)) (A (t + 1)) (n - (i + 1))) i))), some (.int (iI ((i : Int) + 1)))] [] N (mA A') 0 0 := by
          intro m2
          induction m2 with
          | zero =>
            intro i hi
            have hi2 : i = n := by omega
            subst hi2
            have hsm := sm_in (n := i) pr
            refine z_iload E dX3_becomeQuotient_26 rfl ?_
            refine z_iload E dX3_becomeQuotient_28 rfl ?_
            refine z_icmp_gt (tgt := 62) E (by omega) (by omega) dX3_becomeQuotient_30 (by decide) (fun h30 => ?_) (fun h30 => ?_)
            · refine z_aload_n E dX3_becomeQuotient_62 rfl ?_
              refine z_get E dX3_becomeQuotient_63 (cel_ser ho _) flX3_9 (by rfl) ?_
              refine z_iload E dX3_becomeQuotient_66 rfl ?_
              refine z_aload_n E dX3_becomeQuotient_68 rfl ?_
              refine z_get E dX3_becomeQuotient_69 (cel_ser hs _) flX3_9 (by rfl) ?_
              refine z_iload E dX3_becomeQuotient_72 rfl ?_
              refine a_iald (j := i) E dX3_becomeQuotient_74 (cel_row hs) (by omega) (by omega) (by omega) ?_
              refine z_iload E dX3_becomeQuotient_75 rfl ?_
              refine z_isub E dX3_becomeQuotient_77 ?_
              rw [rs]
              refine c_S E dX3_becomeQuotient_78 lkX3_27 (ok_of _ ⟨by omega, by omega⟩ N (mA A')) rfl rfl rfl (Nat.le_of_ble_eq_true rfl) ⟨(Nat.le_of_ble_eq_true rfl), (Nat.le_of_ble_eq_true rfl)⟩ ⟨rfl, rfl⟩ ⟨Nat.zero_le _, Nat.zero_le _⟩ ?_
              have hq2 := mul_in (a := (A (s + 1) i - sm (fun j => A (t + 1) (j + 1) * qS (A (s + 1)) (A (t + 1)) (i - (j + 1))) i) % 10007) (b := p) (by omega) pv
              refine z_iload_n E dX3_becomeQuotient_81 rfl ?_
              refine z_imul E dX3_becomeQuotient_82 ?_
              refine z_sipush E (by decide) dX3_becomeQuotient_83 ?_
              refine z_irem E (by omega) (by omega) (by omega) (Int.tmod_eq_emod_of_nonneg (by omega)) dX3_becomeQuotient_86 ?_
              refine a_iast (j := i) E dX3_becomeQuotient_87 (cel_row ho) (by omega) (by omega) (by omega) ?_
              refine z_iinc (ls' := [_, _, _, _, _, _, _]) E dX3_becomeQuotient_88 rfl rfl ?_
              refine z_goto (tgt := 13) E dX3_becomeQuotient_91 (by decide) ?_
              rw [ei]
              refine ih (i + 1) (by omega) _ _ _ ?_
              rw [hA, va_uu, va_up_self]
              refine congrArg (va_up A (o + 1)) (funext fun j => ?_)
              by_cases e1 : j = i
              · subst e1; rw [up_eq, if_pos (by omega), qS_eq, hp]
              · rw [up_ne _ _ e1]
                by_cases e2 : j < i
                · rw [if_pos e2, if_pos (by omega)]
                · rw [if_neg e2, if_neg (by omega)]
            · omega
          | succ m2 ihm =>
            intro i hi
            refine z_iload E dX3_becomeQuotient_26 rfl ?_
            refine z_iload E dX3_becomeQuotient_28 rfl ?_
            refine z_icmp_gt (tgt := 62) E (by omega) (by omega) dX3_becomeQuotient_30 (by decide) (fun h30 => ?_) (fun h30 => ?_)
            · omega
            · refine z_iload E dX3_becomeQuotient_33 rfl ?_
              refine z_aload_n E dX3_becomeQuotient_35 rfl ?_
              refine z_get E dX3_becomeQuotient_36 (cel_ser ht _) flX3_9 (by rfl) ?_
              refine z_iload E dX3_becomeQuotient_39 rfl ?_
              refine a_iald (j := i + 1) E dX3_becomeQuotient_41 (cel_row ht) (by omega) (by omega) (by omega) ?_
              refine z_aload_n E dX3_becomeQuotient_42 rfl ?_
              refine z_get E dX3_becomeQuotient_43 (cel_ser ho _) flX3_9 (by rfl) ?_
              refine z_iload E dX3_becomeQuotient_46 rfl ?_
              refine z_iload E dX3_becomeQuotient_48 rfl ?_
              refine z_isub E dX3_becomeQuotient_50 ?_
              refine a_iald (j := n - (i + 1)) E dX3_becomeQuotient_51 (cel_row ho) (by omega) (by omega) (by omega) ?_
              refine z_imul E dX3_becomeQuotient_52 ?_
              refine z_iadd E dX3_becomeQuotient_53 ?_
              refine z_istore (ls' := [_, _, _, _, _, _, _]) E dX3_becomeQuotient_54 (Nat.le_of_ble_eq_true rfl) rfl ?_
              refine z_iinc (ls' := [_, _, _, _, _, _, _]) E dX3_becomeQuotient_56 rfl rfl ?_
              refine z_goto (tgt := 26) E dX3_becomeQuotient_59 (by decide) ?_
              rw [rt, rq _ (by omega), ei]
              exact ihm (i + 1) (by omega)
        exact inner n 0 (by omega)
  refine z_mem ?_ (loop 10 0 (by omega) none none _ rfl)
  exact (row_id (cel_row ho) (fun j hj => if_neg (by omega))).symm
/-- a polynomial's value, by Horner's way: k terms from the highest on -/
def hv (c : Nat → Int) (p : Int) : Nat → Int
  | 0 => 0
  | k + 1 => (hv c p k * p + c (9 - k)) % 10007
theorem hv_in (c : Nat → Int) (p : Int) : ∀ k, 0 ≤ hv c p k ∧ hv c p k < 10007
  | 0 => by simp [hv]
  | k + 1 => by simp only [hv]; omega
set_option maxRecDepth 100000 in
theorem ok_valueAt {o : Nat} (ho : SerK o) (A : Nat → Nat → Int) (ra : rok (A (o + 1))) (x : Int) (hx : inR x) (N : Nat) : OkR mX3_valueAt [.ref o, .int (iI x)] N (mA A) (some (.int (iI (hv (A (o + 1)) (x % 10007) 10)))) (mA A) := by
  refine OkM.of [some (.ref o), some (.int (iI x)), none, none, none] (by decide +kernel) rfl (Nat.le_of_ble_eq_true rfl) ?_
  intro X E F
  refine z_iload_n E dX3_valueAt_0 rfl ?_
  refine c_S E dX3_valueAt_1 lkX3_27 (ok_of x hx N (mA A)) rfl rfl rfl (Nat.le_of_ble_eq_true rfl) ⟨(Nat.le_of_ble_eq_true rfl), (Nat.le_of_ble_eq_true rfl)⟩ ⟨rfl, rfl⟩ ⟨Nat.zero_le _, Nat.zero_le _⟩ ?_
  refine z_istore_n (ls' := [_, _, _, _, _]) E rfl dX3_valueAt_4 (Nat.le_of_ble_eq_true rfl) rfl ?_
  refine z_iconst E dX3_valueAt_5 ?_
  refine z_istore_n (ls' := [_, _, _, _, _]) E rfl dX3_valueAt_6 (Nat.le_of_ble_eq_true rfl) rfl ?_
  refine z_bipush E (by decide) dX3_valueAt_7 ?_
  refine z_istore (ls' := [_, _, _, _, _]) E dX3_valueAt_9 (Nat.le_of_ble_eq_true rfl) rfl ?_
  have loop : ∀ (m k : Nat), k + m = 10 → Zc X 11 [some (.ref o), some (.int (iI x)), some (.int (iI (x % 10007))), some (.int (iI (hv (A (o + 1)) (x % 10007) k))), some (.int (iI (9 - (k : Int))))] [] N (mA A) 0 0 := by
    intro m
    induction m with
    | zero =>
      intro k hk
      have hk2 : k = 10 := by omega
      subst hk2
      refine z_iload E dX3_valueAt_11 rfl ?_
      refine z_if_lt (tgt := 38) E (by omega) dX3_valueAt_13 (by decide) (fun h13 => ?_) (fun h13 => ?_)
      · refine z_iload_n E dX3_valueAt_38 rfl ?_
        exact z_iret E F dX3_valueAt_39 ⟨rfl, rfl⟩
      · omega
    | succ m ih =>
      intro k hk
      have h1 := hv_in (A (o + 1)) (x % 10007) k
      have h2 := mul_in h1 (b := x % 10007) (by omega)
      have h3 := ra (9 - k) (by omega)
      refine z_iload E dX3_valueAt_11 rfl ?_
      refine z_if_lt (tgt := 38) E (by omega) dX3_valueAt_13 (by decide) (fun h13 => ?_) (fun h13 => ?_)
      · omega
      · refine z_iload_n E dX3_valueAt_16 rfl ?_
        refine z_iload_n E dX3_valueAt_17 rfl ?_
        refine z_imul E dX3_valueAt_18 ?_
        refine z_aload_n E dX3_valueAt_19 rfl ?_
        refine z_get E dX3_valueAt_20 (cel_ser ho _) flX3_9 (by rfl) ?_
        refine z_iload E dX3_valueAt_23 rfl ?_
        refine a_iald (j := 9 - k) E dX3_valueAt_25 (cel_row ho) (by omega) (by omega) (by omega) ?_
        refine z_iadd E dX3_valueAt_26 ?_
        refine z_sipush E (by decide) dX3_valueAt_27 ?_
        refine z_irem E (by omega) (by omega) (by omega) (Int.tmod_eq_emod_of_nonneg (by omega)) dX3_valueAt_30 ?_
        refine z_istore_n (ls' := [_, _, _, _, _]) E rfl dX3_valueAt_31 (Nat.le_of_ble_eq_true rfl) rfl ?_
        refine z_iinc (ls' := [_, _, _, _, _]) E dX3_valueAt_32 rfl rfl ?_
        refine z_goto (tgt := 11) E dX3_valueAt_35 (by decide) ?_
        rw [show 9 - (k : Int) + -1 = 9 - ((k + 1 : Nat) : Int) by omega]
        exact ih (k + 1) (by omega)
  exact loop 10 0 (by omega)
def dg (c : Nat → Int) : Nat → Nat
  | 0 => 0
  | i + 1 => if c (i + 1) = 0 then dg c i else i + 1
set_option maxRecDepth 100000 in
theorem ok_degree {o : Nat} (ho : SerK o) (A : Nat → Nat → Int) (ra : rok (A (o + 1))) (N : Nat) : OkR mX3_degree [.ref o] N (mA A) (some (.int (iI (dg (A (o + 1)) 9 : Nat)))) (mA A) := by
  refine OkM.of [some (.ref o), none] (by decide +kernel) rfl (Nat.le_of_ble_eq_true rfl) ?_
  intro X E F
  refine z_bipush E (by decide) dX3_degree_0 ?_
  refine z_istore_n (ls' := [_, _]) E rfl dX3_degree_2 (Nat.le_of_ble_eq_true rfl) rfl ?_
  have loop : ∀ (k : Nat), k ≤ 9 → dg (A (o + 1)) k = dg (A (o + 1)) 9 → Zc X 3 [some (.ref o), some (.int (iI (k : Int)))] [] N (mA A) 0 0 := by
    intro k
    induction k with
    | zero =>
      intro _ he
      refine z_iload_n E dX3_degree_3 rfl ?_
      refine z_if_le (tgt := 24) E (by omega) dX3_degree_4 (by decide) (fun h4 => ?_) (fun h4 => ?_)
      · refine z_iconst E dX3_degree_24 ?_
        exact z_iret E F dX3_degree_25 ⟨by rw [← he]; rfl, rfl⟩
      · omega
    | succ k ih =>
      intro hk he
      have h3 := ra (k + 1) (by omega)
      refine z_iload_n E dX3_degree_3 rfl ?_
      refine z_if_le (tgt := 24) E (by omega) dX3_degree_4 (by decide) (fun h4 => ?_) (fun h4 => ?_)
      · omega
      · refine z_aload_n E dX3_degree_7 rfl ?_
        refine z_get E dX3_degree_8 (cel_ser ho _) flX3_9 (by rfl) ?_
        refine z_iload_n E dX3_degree_11 rfl ?_
        refine a_iald (j := k + 1) E dX3_degree_12 (cel_row ho) (by omega) (by omega) (by omega) ?_
        refine z_if_eq (tgt := 18) E (by omega) dX3_degree_13 (by decide) (fun h13 => ?_) (fun h13 => ?_)
        · refine z_iinc (ls' := [_, _]) E dX3_degree_18 rfl rfl ?_
          refine z_goto (tgt := 3) E dX3_degree_21 (by decide) ?_
          rw [show ((k + 1 : Nat) : Int) + -1 = (k : Int) by omega]
          refine ih (by omega) ?_
          rw [← he, dg, if_pos h13]
        · refine z_iload_n E dX3_degree_16 rfl ?_
          exact z_iret E F dX3_degree_17 ⟨by rw [← he, dg, if_neg h13], rfl⟩
  exact loop 9 (by omega) rfl
def mx (c : Nat → Int) (h : Int) : Nat → Int
  | 0 => h
  | k + 1 => 31 * mx c h k + c k
set_option maxRecDepth 100000 in
theorem ok_mixedInto {o : Nat} (ho : SerK o) (A : Nat → Nat → Int) (ra : rok (A (o + 1))) (h : Int) (N : Nat) : OkR mX3_mixedInto [.ref o, .long (lI h)] N (mA A) (some (.long (lI (mx (A (o + 1)) h 10)))) (mA A) := by
  refine OkM.of [some (.ref o), some (.long (lI h)), none, none, none, none] (by decide +kernel) rfl (Nat.le_of_ble_eq_true rfl) ?_
  intro X E F
  refine z_lload_n E dX3_mixedInto_0 rfl ?_
  refine z_lstore_n (ls' := [_, _, _, _, _, _]) E rfl dX3_mixedInto_1 (Nat.le_of_ble_eq_true rfl) rfl ?_
  refine z_iconst E dX3_mixedInto_2 ?_
  refine z_istore (ls' := [_, _, _, _, _, _]) E dX3_mixedInto_3 (Nat.le_of_ble_eq_true rfl) rfl ?_
  have loop : ∀ (m k : Nat), k + m = 10 → Zc X 5 [some (.ref o), some (.long (lI h)), none, some (.long (lI (mx (A (o + 1)) h k))), none, some (.int (iI (k : Int)))] [] N (mA A) 0 0 := by
    intro m
    induction m with
    | zero =>
      intro k hk
      have hk2 : k = 10 := by omega
      subst hk2
      refine z_iload E dX3_mixedInto_5 rfl ?_
      refine z_bipush E (by decide) dX3_mixedInto_7 ?_
      refine z_icmp_ge (tgt := 33) E (by omega) (by omega) dX3_mixedInto_9 (by decide) (fun h9 => ?_) (fun h9 => ?_)
      · refine z_lload_n E dX3_mixedInto_33 rfl ?_
        exact z_lret E F dX3_mixedInto_34 ⟨rfl, rfl⟩
      · omega
    | succ m ih =>
      intro k hk
      have h3 := ra k (by omega)
      refine z_iload E dX3_mixedInto_5 rfl ?_
      refine z_bipush E (by decide) dX3_mixedInto_7 ?_
      refine z_icmp_ge (tgt := 33) E (by omega) (by omega) dX3_mixedInto_9 (by decide) (fun h9 => ?_) (fun h9 => ?_)
      · omega
      · refine z_ldc2 (z := 31) E ctX3_44 (by decide) dX3_mixedInto_12 ?_
        refine z_lload_n E dX3_mixedInto_15 rfl ?_
        refine z_lmul E dX3_mixedInto_16 ?_
        refine z_aload_n E dX3_mixedInto_17 rfl ?_
        refine z_get E dX3_mixedInto_18 (cel_ser ho _) flX3_9 (by rfl) ?_
        refine z_iload E dX3_mixedInto_21 rfl ?_
        refine a_iald (j := k) E dX3_mixedInto_23 (cel_row ho) (by omega) (by omega) (by omega) ?_
        refine z_i2l E (by omega) dX3_mixedInto_24 ?_
        refine z_ladd E dX3_mixedInto_25 ?_
        refine z_lstore_n (ls' := [_, _, _, _, _, _]) E rfl dX3_mixedInto_26 (Nat.le_of_ble_eq_true rfl) rfl ?_
        refine z_iinc (ls' := [_, _, _, _, _, _]) E dX3_mixedInto_27 rfl rfl ?_
        refine z_goto (tgt := 5) E dX3_mixedInto_30 (by decide) ?_
        rw [ei]
        exact ih (k + 1) (by omega)
  exact loop 10 0 (by omega)
def tfS (r : Int) (c : Nat → Int) (j : Nat) : Int := if j = 0 then (-r * c 0) % 10007 else (c (j - 1) - r * c j) % 10007
set_option maxRecDepth 100000 in
theorem ok_becomeTimesFactor {o : Nat} (ho : SerK o) (A : Nat → Nat → Int) (ra : rok (A (o + 1))) (r : Int) (hr : 0 ≤ r ∧ r < 10) (N : Nat) : OkR mX3_becomeTimesFactor [.ref o, .int (iI r)] N (mA A) none (mA (va_up A (o + 1) (tfS r (A (o + 1))))) := by
  have pr : ∀ j, j < 10 → 0 ≤ r * A (o + 1) j ∧ r * A (o + 1) j ≤ 100120036 := fun j hj => mul_in (by omega) (ra j hj)
  refine OkM.of [some (.ref o), some (.int (iI r)), none] (by decide +kernel) rfl (Nat.le_of_ble_eq_true rfl) ?_
  intro X E F
  refine z_bipush E (by decide) dX3_becomeTimesFactor_0 ?_
  refine z_istore_n (ls' := [_, _, _]) E rfl dX3_becomeTimesFactor_2 (Nat.le_of_ble_eq_true rfl) rfl ?_
  have loop : ∀ (k : Nat), k ≤ 9 → ∀ A' : Nat → Nat → Int, A' = va_up A (o + 1) (fun j => if j ≤ k then A (o + 1) j else tfS r (A (o + 1)) j) → Zc X 3 [some (.ref o), some (.int (iI r)), some (.int (iI (k : Int)))] [] N (mA A') 0 0 := by
    intro k
    induction k with
    | zero =>
      intro _ A' hA
      have p0 := pr 0 (by omega)
      have e0 : A' (o + 1) 0 = A (o + 1) 0 := by rw [hA, va_up_self, if_pos (by omega)]
      refine z_iload_n E dX3_becomeTimesFactor_3 rfl ?_
      refine z_if_le (tgt := 39) E (by omega) dX3_becomeTimesFactor_4 (by decide) (fun h4 => ?_) (fun h4 => ?_)
      · refine z_aload_n E dX3_becomeTimesFactor_39 rfl ?_
        refine z_get E dX3_becomeTimesFactor_40 (cel_ser ho _) flX3_9 (by rfl) ?_
        refine z_iconst E dX3_becomeTimesFactor_43 ?_
        refine z_iload_n E dX3_becomeTimesFactor_44 rfl ?_
        refine z_ineg E dX3_becomeTimesFactor_45 ?_
        refine z_aload_n E dX3_becomeTimesFactor_46 rfl ?_
        refine z_get E dX3_becomeTimesFactor_47 (cel_ser ho _) flX3_9 (by rfl) ?_
        refine z_iconst E dX3_becomeTimesFactor_50 ?_
        refine a_iald (j := 0) E dX3_becomeTimesFactor_51 (cel_row ho) (by omega) (by omega) (by omega) ?_
        refine z_imul E dX3_becomeTimesFactor_52 ?_
        rw [e0, Int.neg_mul]
        refine c_S E dX3_becomeTimesFactor_53 lkX3_27 (ok_of (-(r * A (o + 1) 0)) ⟨by omega, by omega⟩ N (mA A')) rfl rfl rfl (Nat.le_of_ble_eq_true rfl) ⟨(Nat.le_of_ble_eq_true rfl), (Nat.le_of_ble_eq_true rfl)⟩ ⟨rfl, rfl⟩ ⟨Nat.zero_le _, Nat.zero_le _⟩ ?_
        refine a_iast (j := 0) E dX3_becomeTimesFactor_56 (cel_row ho) (by omega) (by omega) (by omega) ?_
        refine z_vret E F dX3_becomeTimesFactor_57 ⟨rfl, ?_⟩
        rw [hA, va_uu, va_up_self]
        refine row_eq (cel_row ho) (fun j hj => ?_)
        by_cases e1 : j = 0
        · subst e1; rw [up_eq, tfS, if_pos rfl, Int.neg_mul]
        · rw [up_ne _ _ e1, if_neg (by omega)]
      · omega
    | succ k ih =>
      intro hk A' hA
      have p0 := pr (k + 1) (by omega)
      have r0 := ra k (by omega)
      have e0 : ∀ j, j ≤ k + 1 → A' (o + 1) j = A (o + 1) j := fun j hj => by rw [hA, va_up_self, if_pos hj]
      refine z_iload_n E dX3_becomeTimesFactor_3 rfl ?_
      refine z_if_le (tgt := 39) E (by omega) dX3_becomeTimesFactor_4 (by decide) (fun h4 => ?_) (fun h4 => ?_)
      · omega
      · refine z_aload_n E dX3_becomeTimesFactor_7 rfl ?_
        refine z_get E dX3_becomeTimesFactor_8 (cel_ser ho _) flX3_9 (by rfl) ?_
        refine z_iload_n E dX3_becomeTimesFactor_11 rfl ?_
        refine z_aload_n E dX3_becomeTimesFactor_12 rfl ?_
        refine z_get E dX3_becomeTimesFactor_13 (cel_ser ho _) flX3_9 (by rfl) ?_
        refine z_iload_n E dX3_becomeTimesFactor_16 rfl ?_
        refine z_iconst E dX3_becomeTimesFactor_17 ?_
        refine z_isub E dX3_becomeTimesFactor_18 ?_
        refine a_iald (j := k) E dX3_becomeTimesFactor_19 (cel_row ho) (by omega) (by omega) (by omega) ?_
        refine z_iload_n E dX3_becomeTimesFactor_20 rfl ?_
        refine z_aload_n E dX3_becomeTimesFactor_21 rfl ?_
        refine z_get E dX3_becomeTimesFactor_22 (cel_ser ho _) flX3_9 (by rfl) ?_
        refine z_iload_n E dX3_becomeTimesFactor_25 rfl ?_
        refine a_iald (j := k + 1) E dX3_becomeTimesFactor_26 (cel_row ho) (by omega) (by omega) (by omega) ?_
        refine z_imul E dX3_becomeTimesFactor_27 ?_
        refine z_isub E dX3_becomeTimesFactor_28 ?_
        rw [e0 k (by omega), e0 (k + 1) (by omega)]
        refine c_S E dX3_becomeTimesFactor_29 lkX3_27 (ok_of (A (o + 1) k - r * A (o + 1) (k + 1)) ⟨by omega, by omega⟩ N (mA A')) rfl rfl rfl (Nat.le_of_ble_eq_true rfl) ⟨(Nat.le_of_ble_eq_true rfl), (Nat.le_of_ble_eq_true rfl)⟩ ⟨rfl, rfl⟩ ⟨Nat.zero_le _, Nat.zero_le _⟩ ?_
        refine a_iast (j := k + 1) E dX3_becomeTimesFactor_32 (cel_row ho) (by omega) (by omega) (by omega) ?_
        refine z_iinc (ls' := [_, _, _]) E dX3_becomeTimesFactor_33 rfl rfl ?_
        refine z_goto (tgt := 3) E dX3_becomeTimesFactor_36 (by decide) ?_
        rw [show ((k + 1 : Nat) : Int) + -1 = (k : Int) by omega]
        refine ih (by omega) _ ?_
        rw [hA, va_uu, va_up_self]
        congr 1
        funext j
        by_cases e1 : j = k + 1
        · subst e1; rw [up_eq, if_neg (by omega), tfS, if_neg (by omega), Nat.add_sub_cancel]
        · rw [up_ne _ _ e1]
          by_cases e2 : j ≤ k
          · rw [if_pos e2, if_pos (by omega)]
          · rw [if_neg e2, if_neg (by omega)]
  refine z_mem ?_ (loop 9 (by omega) _ rfl)
  exact (row_id (cel_row ho) (fun j hj => if_pos (by omega))).symm
theorem tfS_rok (r : Int) (c : Nat → Int) : rok (tfS r c) := fun j _ => by unfold tfS; split <;> omega
theorem conS_rok {a : Int} (h : 0 ≤ a ∧ a < 10007) : rok (conS a) := fun j _ => by
  unfold conS up
  dsimp only
  split <;> omega
/-- s put into t, by Horner's way -/
def hoS (s t : Nat → Int) : Nat → (Nat → Int)
  | 0 => conS (s 9)
  | k + 1 => up (mulS (hoS s t k) t) 0 ((mulS (hoS s t k) t 0 + s (8 - k)) % 10007)
theorem up_rok {f : Nat → Int} {k : Nat} {x : Int} (h : rok f) (hx : 0 ≤ x ∧ x < 10007) : rok (up f k x) := fun j hj => by
  by_cases e : j = k
  · subst e; rw [up_eq]; exact hx
  · rw [up_ne _ _ e]; exact h j hj
theorem hoS_rok {s : Nat → Int} (t : Nat → Int) (h : rok s) : ∀ k, rok (hoS s t k)
  | 0 => conS_rok (h 9 (by omega))
  | k + 1 => up_rok (mulS_rok _ _) (by omega)
set_option maxRecDepth 100000 in
theorem ok_becomeInto {o s t : Nat} (ho : SerK o) (hs : SerK s) (ht : SerK t) (hos : o ≠ s) (hot : o ≠ t) (A : Nat → Nat → Int) (ra : rok (A (s + 1))) (rb : rok (A (t + 1))) (N : Nat) : OkR mX3_becomeInto [.ref o, .ref s, .ref t] N (mA A) none (mA (va_up A (o + 1) (hoS (A (s + 1)) (A (t + 1)) 9))) := by
  refine OkM.of [some (.ref o), some (.ref s), some (.ref t), none] (by decide +kernel) rfl (Nat.le_of_ble_eq_true rfl) ?_
  intro X E F
  refine z_aload_n E dX3_becomeInto_0 rfl ?_
  refine z_aload_n E dX3_becomeInto_1 rfl ?_
  refine z_get E dX3_becomeInto_2 (cel_ser hs _) flX3_9 (by rfl) ?_
  refine z_bipush E (by decide) dX3_becomeInto_5 ?_
  refine a_iald (j := 9) E dX3_becomeInto_7 (cel_row hs) (by omega) (by omega) (by omega) ?_
  refine c_V0 E dX3_becomeInto_8 lkX3_36 (ok_becomeConstant ho A (A (s + 1) 9) N) (cel_ser ho _) rfl rfl rfl (Nat.le_of_ble_eq_true rfl) ⟨(Nat.le_of_ble_eq_true rfl), (Nat.le_of_ble_eq_true rfl)⟩ ⟨rfl, rfl⟩ ⟨Nat.zero_le _, Nat.zero_le _⟩ ?_
  refine z_bipush E (by decide) dX3_becomeInto_11 ?_
  refine z_istore_n (ls' := [_, _, _, _]) E rfl dX3_becomeInto_13 (Nat.le_of_ble_eq_true rfl) rfl ?_
  have loop : ∀ (m k : Nat), k + m = 9 → ∀ A' : Nat → Nat → Int, A' = va_up A (o + 1) (hoS (A (s + 1)) (A (t + 1)) k) → Zc X 14 [some (.ref o), some (.ref s), some (.ref t), some (.int (iI (8 - (k : Int))))] [] N (mA A') 0 0 := by
    intro m
    induction m with
    | zero =>
      intro k hk A' hA
      have hk2 : k = 9 := by omega
      subst hk2
      refine z_iload_n E dX3_becomeInto_14 rfl ?_
      refine z_if_lt (tgt := 53) E (by omega) dX3_becomeInto_15 (by decide) (fun h15 => ?_) (fun h15 => ?_)
      · exact z_vret E F dX3_becomeInto_53 ⟨rfl, by rw [hA]⟩
      · omega
    | succ m ih =>
      intro k hk A' hA
      have es : A' (s + 1) = A (s + 1) := by rw [hA, va_up_ne _ _ (by omega)]
      have et : A' (t + 1) = A (t + 1) := by rw [hA, va_up_ne _ _ (by omega)]
      have eo : A' (o + 1) = hoS (A (s + 1)) (A (t + 1)) k := by rw [hA, va_up_self]
      have h3 := ra (8 - k) (by omega)
      refine z_iload_n E dX3_becomeInto_14 rfl ?_
      refine z_if_lt (tgt := 53) E (by omega) dX3_becomeInto_15 (by decide) (fun h15 => ?_) (fun h15 => ?_)
      · omega
      · refine z_aload_n E dX3_becomeInto_18 rfl ?_
        refine z_aload_n E dX3_becomeInto_19 rfl ?_
        refine z_aload_n E dX3_becomeInto_20 rfl ?_
        refine c_V0 E dX3_becomeInto_21 lkX3_40 (ok_becomeTimes ho ho ht A' (by rw [eo]; exact hoS_rok _ ra k) (by rw [et]; exact rb) N) (cel_ser ho _) rfl rfl rfl (Nat.le_of_ble_eq_true rfl) ⟨(Nat.le_of_ble_eq_true rfl), (Nat.le_of_ble_eq_true rfl)⟩ ⟨rfl, rfl⟩ ⟨Nat.zero_le _, Nat.zero_le _⟩ ?_
        rw [eo, et]
        have h4 := mulS_in (hoS (A (s + 1)) (A (t + 1)) k) (A (t + 1)) 0
        refine z_aload_n E dX3_becomeInto_24 rfl ?_
        refine z_get E dX3_becomeInto_25 (cel_ser ho _) flX3_9 (by rfl) ?_
        refine z_iconst E dX3_becomeInto_28 ?_
        refine z_aload_n E dX3_becomeInto_29 rfl ?_
        refine z_get E dX3_becomeInto_30 (cel_ser ho _) flX3_9 (by rfl) ?_
        refine z_iconst E dX3_becomeInto_33 ?_
        refine a_iald (j := 0) E dX3_becomeInto_34 (cel_row ho) (by omega) (by omega) (by omega) ?_
        rw [va_up_self]
        refine z_aload_n E dX3_becomeInto_35 rfl ?_
        refine z_get E dX3_becomeInto_36 (cel_ser hs _) flX3_9 (by rfl) ?_
        refine z_iload_n E dX3_becomeInto_39 rfl ?_
        refine a_iald (j := 8 - k) E dX3_becomeInto_40 (cel_row hs) (by omega) (by omega) (by omega) ?_
        rw [va_up_ne (k := o + 1) (j := s + 1) _ _ (by omega), es]
        refine z_iadd E dX3_becomeInto_41 ?_
        refine z_sipush E (by decide) dX3_becomeInto_42 ?_
        refine z_irem E (by omega) (by omega) (by omega) (Int.tmod_eq_emod_of_nonneg (by omega)) dX3_becomeInto_45 ?_
        refine a_iast (j := 0) E dX3_becomeInto_46 (cel_row ho) (by omega) (by omega) (by omega) ?_
        refine z_iinc (ls' := [_, _, _, _]) E dX3_becomeInto_47 rfl rfl ?_
        refine z_goto (tgt := 14) E dX3_becomeInto_50 (by decide) ?_
        rw [show 8 - (k : Int) + -1 = 8 - ((k + 1 : Nat) : Int) by omega]
        refine ih (k + 1) (by omega) _ ?_
        rw [hA, va_uu, va_uu, va_up_self]
        rfl
  exact loop 9 0 (by omega) _ rfl
/-- s to the n, bit by bit from the highest of ten on -/
def raS (s : Nat → Int) (n : Nat) : Nat → (Nat → Int)
  | 0 => conS 1
  | k + 1 => if n / 2 ^ (9 - k) % 2 = 1 then mulS (mulS (raS s n k) (raS s n k)) s else mulS (raS s n k) (raS s n k)
theorem raS_rok (s : Nat → Int) (n : Nat) : ∀ k, rok (raS s n k)
  | 0 => conS_rok (by omega)
  | k + 1 => by
    unfold raS
    split
    · exact mulS_rok _ _
    · exact mulS_rok _ _
theorem shr_n (n b : Nat) (hn : n < 2147483648) (hb : b < 10) : iI (n : Int) >>> (iI (b : Int) &&& 31) = iI ((n / 2 ^ b : Nat) : Int) := by
  rw [iI_nI, iI_nI]
  refine pk_shrN hn (iI (b : Int) &&& 31) b ?_
  rcases (show b = 0 ∨ b = 1 ∨ b = 2 ∨ b = 3 ∨ b = 4 ∨ b = 5 ∨ b = 6 ∨ b = 7 ∨ b = 8 ∨ b = 9 by omega) with rfl | rfl | rfl | rfl | rfl | rfl | rfl | rfl | rfl | rfl <;> decide
set_option maxRecDepth 100000 in
theorem ok_becomeRaised {o s : Nat} (ho : SerK o) (hs : SerK s) (hos : o ≠ s) (A : Nat → Nat → Int) (ra : rok (A (s + 1))) (n : Nat) (hn : n ≤ 1000) (N : Nat) : OkR mX3_becomeRaised [.ref o, .ref s, .int (iI (n : Int))] N (mA A) none (mA (va_up A (o + 1) (raS (A (s + 1)) n 10))) := by
  refine OkM.of [some (.ref o), some (.ref s), some (.int (iI (n : Int))), none] (by decide +kernel) rfl (Nat.le_of_ble_eq_true rfl) ?_
  intro X E F
  refine z_aload_n E dX3_becomeRaised_0 rfl ?_
  refine z_iconst E dX3_becomeRaised_1 ?_
  refine c_V0 E dX3_becomeRaised_2 lkX3_36 (ok_becomeConstant ho A 1 N) (cel_ser ho _) rfl rfl rfl (Nat.le_of_ble_eq_true rfl) ⟨(Nat.le_of_ble_eq_true rfl), (Nat.le_of_ble_eq_true rfl)⟩ ⟨rfl, rfl⟩ ⟨Nat.zero_le _, Nat.zero_le _⟩ ?_
  refine z_bipush E (by decide) dX3_becomeRaised_5 ?_
  refine z_istore_n (ls' := [_, _, _, _]) E rfl dX3_becomeRaised_7 (Nat.le_of_ble_eq_true rfl) rfl ?_
  have loop : ∀ (m k : Nat), k + m = 10 → ∀ A' : Nat → Nat → Int, A' = va_up A (o + 1) (raS (A (s + 1)) n k) → Zc X 8 [some (.ref o), some (.ref s), some (.int (iI (n : Int))), some (.int (iI (9 - (k : Int))))] [] N (mA A') 0 0 := by
    intro m
    induction m with
    | zero =>
      intro k hk A' hA
      have hk2 : k = 10 := by omega
      subst hk2
      refine z_iload_n E dX3_becomeRaised_8 rfl ?_
      refine z_if_lt (tgt := 38) E (by omega) dX3_becomeRaised_9 (by decide) (fun h9 => ?_) (fun h9 => ?_)
      · exact z_vret E F dX3_becomeRaised_38 ⟨rfl, by rw [hA]⟩
      · omega
    | succ m ih =>
      intro k hk A' hA
      have es : A' (s + 1) = A (s + 1) := by rw [hA, va_up_ne _ _ (by omega)]
      have eo : A' (o + 1) = raS (A (s + 1)) n k := by rw [hA, va_up_self]
      have hle : n / 2 ^ (9 - k) ≤ n := Nat.div_le_self _ _
      refine z_iload_n E dX3_becomeRaised_8 rfl ?_
      refine z_if_lt (tgt := 38) E (by omega) dX3_becomeRaised_9 (by decide) (fun h9 => ?_) (fun h9 => ?_)
      · omega
      · refine z_aload_n E dX3_becomeRaised_12 rfl ?_
        refine z_aload_n E dX3_becomeRaised_13 rfl ?_
        refine z_aload_n E dX3_becomeRaised_14 rfl ?_
        refine c_V0 E dX3_becomeRaised_15 lkX3_40 (ok_becomeTimes ho ho ho A' (by rw [eo]; exact raS_rok _ n k) (by rw [eo]; exact raS_rok _ n k) N) (cel_ser ho _) rfl rfl rfl (Nat.le_of_ble_eq_true rfl) ⟨(Nat.le_of_ble_eq_true rfl), (Nat.le_of_ble_eq_true rfl)⟩ ⟨rfl, rfl⟩ ⟨Nat.zero_le _, Nat.zero_le _⟩ ?_
        rw [eo]
        refine z_iload_n E dX3_becomeRaised_18 rfl ?_
        refine z_iload_n E dX3_becomeRaised_19 rfl ?_
        refine z_ishr E (by rw [show 9 - (k : Int) = ((9 - k : Nat) : Int) by omega]; exact shr_n n (9 - k) (by omega) (by omega)) dX3_becomeRaised_20 ?_
        refine z_iconst E dX3_becomeRaised_21 ?_
        refine z_iand E (and_1 _ (by omega)) dX3_becomeRaised_22 ?_
        refine z_if_eq (tgt := 32) E (by omega) dX3_becomeRaised_23 (by decide) (fun h23 => ?_) (fun h23 => ?_)
        · refine z_iinc (ls' := [_, _, _, _]) E dX3_becomeRaised_32 rfl rfl ?_
          refine z_goto (tgt := 8) E dX3_becomeRaised_35 (by decide) ?_
          rw [show 9 - (k : Int) + -1 = 9 - ((k + 1 : Nat) : Int) by omega]
          refine ih (k + 1) (by omega) _ ?_
          rw [hA, va_uu, raS, if_neg (by omega)]
        · refine z_aload_n E dX3_becomeRaised_26 rfl ?_
          refine z_aload_n E dX3_becomeRaised_27 rfl ?_
          refine z_aload_n E dX3_becomeRaised_28 rfl ?_
          refine c_V0 E dX3_becomeRaised_29 lkX3_40 (ok_becomeTimes ho ho hs _ (by rw [va_up_self]; exact mulS_rok _ _) (by rw [va_up_ne _ _ (by omega), es]; exact ra) N) (cel_ser ho _) rfl rfl rfl (Nat.le_of_ble_eq_true rfl) ⟨(Nat.le_of_ble_eq_true rfl), (Nat.le_of_ble_eq_true rfl)⟩ ⟨rfl, rfl⟩ ⟨Nat.zero_le _, Nat.zero_le _⟩ ?_
          rw [va_up_self, va_up_ne (k := o + 1) (j := s + 1) _ _ (by omega), es]
          refine z_iinc (ls' := [_, _, _, _]) E dX3_becomeRaised_32 rfl rfl ?_
          refine z_goto (tgt := 8) E dX3_becomeRaised_35 (by decide) ?_
          rw [show 9 - (k : Int) + -1 = 9 - ((k + 1 : Nat) : Int) by omega]
          refine ih (k + 1) (by omega) _ ?_
          rw [hA, va_uu, va_uu, raS, if_pos (by omega)]
  exact loop 10 0 (by omega) _ rfl
end
section
/-! contracts whose memory is told by a relation; the reckoner's methods -/
abbrev OkQ (M : Md) (av : List Value) (N : Nat) (g : Mem) (Q : Mem → Prop) : Prop := OkM M av N g N (fun r2 g2 => r2 = none ∧ Q g2)
abbrev OkI (M : Md) (av : List Value) (N : Nat) (g : Mem) (v : Value) (Q : Mem → Prop) : Prop := OkM M av N g N (fun r2 g2 => r2 = some v ∧ Q g2)
section QROWS
variable {X : ZX} {own nm : String} {cc : ByteArray} {nL : Nat} {rm : Room} {pc : Nat} {ls : List (Option Value)} {st : List Value} {N : Nat} {cells slots : Nat}
theorem c_V0Q (E : Ev X own cc nL rm nm) {idx n ci a : Nat} {fs : List Value} {M : Md} {av stk : List Value} {g : Mem} {Q : Mem → Prop} (hd : decode cc pc = .ok (.invokevirtual idx, 3)) (lk : LkV own idx M n ci) (hok : OkQ M (.ref a :: av) N g Q) (hg : g a = (ci, fs)) (hstk : av.reverse ++ .ref a :: st = stk) (hn : av.length = n) (hls : ls.length = nL) (hst : (st.map fun v => v.category).sum ≤ 8)
    (hroom : M.2.2.2.2.frames + 1 ≤ rm.frames ∧ 8 + (M.2.2.1 + 11) + M.2.2.2.2.locals ≤ rm.locals) (h00 : M.2.2.2.2.cells = 0 ∧ M.2.2.2.2.slots = 0) (hcell : cells ≤ rm.cells ∧ slots ≤ rm.slots)
    (k : ∀ g', Q g' → Zc X (pc + 3) ls st N g' cells slots) : Zc X pc ls stk N g cells slots := by
  subst hstk
  refine z_callV E hd lk hg hok hn hls hst (Nat.le_refl N) hroom (by rw [h00.1, h00.2]; exact hcell) ?_
  intro r2 g2 h
  obtain ⟨rfl, h⟩ := h
  rw [h00.1, h00.2]
  exact k g2 h
theorem c_VQ (E : Ev X own cc nL rm nm) {idx n ci a : Nat} {fs : List Value} {M : Md} {av stk : List Value} {g : Mem} {v : Value} {Q : Mem → Prop} (hd : decode cc pc = .ok (.invokevirtual idx, 3)) (lk : LkV own idx M n ci) (hok : OkI M (.ref a :: av) N g v Q) (hg : g a = (ci, fs)) (hstk : av.reverse ++ .ref a :: st = stk) (hn : av.length = n) (hls : ls.length = nL) (hst : (st.map fun v => v.category).sum ≤ 8)
    (hroom : M.2.2.2.2.frames + 1 ≤ rm.frames ∧ 8 + (M.2.2.1 + 11) + M.2.2.2.2.locals ≤ rm.locals) (h00 : M.2.2.2.2.cells = 0 ∧ M.2.2.2.2.slots = 0) (hcell : cells ≤ rm.cells ∧ slots ≤ rm.slots)
    (k : ∀ g', Q g' → Zc X (pc + 3) ls (v :: st) N g' cells slots) : Zc X pc ls stk N g cells slots := by
  subst hstk
  refine z_callV E hd lk hg hok hn hls hst (Nat.le_refl N) hroom (by rw [h00.1, h00.2]; exact hcell) ?_
  intro r2 g2 h
  obtain ⟨rfl, h⟩ := h
  rw [h00.1, h00.2]
  exact k g2 h
end QROWS
def Off (A A' : Nat → Nat → Int) (S : List Nat) : Prop := ∀ k, k ∉ S → A' k = A k
/-- the tables that the constructor lays -/
def fcl : Nat → Int
  | 0 => 1
  | n + 1 => fcl n * ((n + 1 : Nat) : Int) % 10007
def ifc : Nat → Int
  | 0 => 1
  | n + 1 => ifc n * pw ((n + 1 : Nat) : Int) 10005 % 10007
def chs : Nat → Nat → Int
  | _, 0 => 1
  | 0, _ + 1 => 0
  | n + 1, k + 1 => chs n k + chs n (k + 1)
theorem fcl_in : ∀ n, 0 ≤ fcl n ∧ fcl n < 10007
  | 0 => by simp [fcl]
  | n + 1 => by simp only [fcl]; omega
theorem ifc_in : ∀ n, 0 ≤ ifc n ∧ ifc n < 10007
  | 0 => by simp [ifc]
  | n + 1 => by simp only [ifc]; omega
def KA (A : Nat → Nat → Int) : Prop := (∀ n, 1 ≤ n → n ≤ 10 → A 4 n = pw (n : Int) 10005) ∧ (∀ n, n < 10 → A 5 n = fcl n) ∧ (∀ n, n < 10 → A 6 n = ifc n) ∧ A 31 = conS 1 ∧ ∀ n k, k ≤ n → n < 10 → A (8 + n) k = chs n k
theorem KA.off {A A' : Nat → Nat → Int} {S : List Nat} (h : KA A) (ho : Off A A' S) (hS : ∀ k ∈ S, 18 ≤ k ∧ k ≠ 31) : KA A' := by
  have e : ∀ k, (k < 18 ∨ k = 31) → A' k = A k := fun k hk => ho k (fun q => by have := hS k q; omega)
  refine ⟨fun n h1 h2 => by rw [e 4 (by omega)]; exact h.1 n h1 h2, fun n hn => by rw [e 5 (by omega)]; exact h.2.1 n hn, fun n hn => by rw [e 6 (by omega)]; exact h.2.2.1 n hn, by rw [e 31 (by omega)]; exact h.2.2.2.1, fun n k hk hn => by rw [e (8 + n) (by omega)]; exact h.2.2.2.2 n k hk hn⟩
theorem KA.up {A : Nat → Nat → Int} (h : KA A) {k : Nat} {f : Nat → Int} (hk : 18 ≤ k ∧ k ≠ 31) : KA (va_up A k f) :=
  h.off (S := [k]) (fun j hj => va_up_ne _ _ (by simpa using hj)) (by simp; exact hk)
set_option maxRecDepth 100000 in
theorem ok_geometric {o : Nat} (ho : SerK o) (A : Nat → Nat → Int) (a : Int) (ha : 0 ≤ a ∧ a < 10007) (N : Nat) : OkR mX0_geometric [.ref 3, .int (iI a), .ref o] N (mA A) none (mA (va_up A (o + 1) (pw a))) := by
  refine OkM.of [some (.ref 3), some (.int (iI a)), some (.ref o), none] (by decide +kernel) rfl (Nat.le_of_ble_eq_true rfl) ?_
  intro X E F
  refine z_aload_n E dX0_geometric_0 rfl ?_
  refine z_get E dX0_geometric_1 (cel_ser ho _) flX0_61 (by rfl) ?_
  refine z_iconst E dX0_geometric_4 ?_
  refine z_iconst E dX0_geometric_5 ?_
  refine a_iast (j := 0) E dX0_geometric_6 (cel_row ho) (by omega) (by omega) (by omega) ?_
  refine z_iconst E dX0_geometric_7 ?_
  refine z_istore_n (ls' := [_, _, _, _]) E rfl dX0_geometric_8 (Nat.le_of_ble_eq_true rfl) rfl ?_
  have loop : ∀ (m n : Nat), n + m = 9 → ∀ A' : Nat → Nat → Int, A' = va_up A (o + 1) (fun j => if j ≤ n then pw a j else A (o + 1) j) → Zc X 9 [some (.ref 3), some (.int (iI a)), some (.ref o), some (.int (iI ((n : Int) + 1)))] [] N (mA A') 0 0 := by
    intro m
    induction m with
    | zero =>
      intro n hn A' hA
      refine z_iload_n E dX0_geometric_9 rfl ?_
      refine z_bipush E (by decide) dX0_geometric_10 ?_
      refine z_icmp_ge (tgt := 41) E (by omega) (by omega) dX0_geometric_12 (by decide) (fun h12 => ?_) (fun h12 => ?_)
      · refine z_vret E F dX0_geometric_41 ⟨rfl, ?_⟩
        rw [hA]
        exact row_eq (cel_row ho) (fun j hj => if_pos (by omega))
      · omega
    | succ m ih =>
      intro n hn A' hA
      have e0 : A' (o + 1) n = pw a n := by rw [hA, va_up_self, if_pos (Nat.le_refl n)]
      have p0 := mul_in (pw_in a n) ha
      refine z_iload_n E dX0_geometric_9 rfl ?_
      refine z_bipush E (by decide) dX0_geometric_10 ?_
      refine z_icmp_ge (tgt := 41) E (by omega) (by omega) dX0_geometric_12 (by decide) (fun h12 => ?_) (fun h12 => ?_)
      · omega
      · refine z_aload_n E dX0_geometric_15 rfl ?_
        refine z_get E dX0_geometric_16 (cel_ser ho _) flX0_61 (by rfl) ?_
        refine z_iload_n E dX0_geometric_19 rfl ?_
        refine z_aload_n E dX0_geometric_20 rfl ?_
        refine z_get E dX0_geometric_21 (cel_ser ho _) flX0_61 (by rfl) ?_
        refine z_iload_n E dX0_geometric_24 rfl ?_
        refine z_iconst E dX0_geometric_25 ?_
        refine z_isub E dX0_geometric_26 ?_
        refine a_iald (j := n) E dX0_geometric_27 (cel_row ho) (by omega) (by omega) (by omega) ?_
        rw [e0]
        refine z_iload_n E dX0_geometric_28 rfl ?_
        refine z_imul E dX0_geometric_29 ?_
        refine z_sipush E (by decide) dX0_geometric_30 ?_
        refine z_irem E (by omega) (by omega) (by omega) (Int.tmod_eq_emod_of_nonneg (by omega)) dX0_geometric_33 ?_
        refine a_iast (j := n + 1) E dX0_geometric_34 (cel_row ho) (by omega) (by omega) (by omega) ?_
        refine z_iinc (ls' := [_, _, _, _]) E dX0_geometric_35 rfl rfl ?_
        refine z_goto (tgt := 9) E dX0_geometric_38 (by decide) ?_
        rw [ei]
        refine ih (n + 1) (by omega) _ ?_
        rw [hA, va_uu, va_up_self]
        refine congrArg (va_up A (o + 1)) (funext fun j => ?_)
        by_cases e1 : j = n + 1
        · subst e1; rw [up_eq, if_pos (by omega)]; rfl
        · rw [up_ne _ _ e1]
          by_cases e2 : j ≤ n
          · rw [if_pos e2, if_pos (by omega)]
          · rw [if_neg e2, if_neg (by omega)]
  refine loop 9 0 (by omega) _ ?_
  refine congrArg (va_up A (o + 1)) (funext fun j => ?_)
  by_cases e1 : j = 0
  · subst e1; rw [up_eq, if_pos (by omega)]; rfl
  · rw [up_ne _ _ e1, if_neg (by omega)]
def expS (a : Int) (j : Nat) : Int := pw a j * ifc j % 10007
set_option maxRecDepth 100000 in
theorem ok_exponential {o : Nat} (ho : SerK o) (A : Nat → Nat → Int) (hK : KA A) (a : Int) (ha : 0 ≤ a ∧ a < 10007) (N : Nat) : OkR mX0_exponential [.ref 3, .int (iI a), .ref o] N (mA A) none (mA (va_up A (o + 1) (expS a))) := by
  refine OkM.of [some (.ref 3), some (.int (iI a)), some (.ref o), none] (by decide +kernel) rfl (Nat.le_of_ble_eq_true rfl) ?_
  intro X E F
  refine z_aload_n E dX0_exponential_0 rfl ?_
  refine z_iload_n E dX0_exponential_1 rfl ?_
  refine z_aload_n E dX0_exponential_2 rfl ?_
  refine c_V0 E dX0_exponential_3 lkX0_68 (ok_geometric ho A a ha N) (by rfl) rfl rfl rfl (Nat.le_of_ble_eq_true rfl) ⟨(Nat.le_of_ble_eq_true rfl), (Nat.le_of_ble_eq_true rfl)⟩ ⟨rfl, rfl⟩ ⟨Nat.zero_le _, Nat.zero_le _⟩ ?_
  refine z_iconst E dX0_exponential_6 ?_
  refine z_istore_n (ls' := [_, _, _, _]) E rfl dX0_exponential_7 (Nat.le_of_ble_eq_true rfl) rfl ?_
  have loop : ∀ (m n : Nat), n + m = 10 → ∀ A' : Nat → Nat → Int, A' = va_up A (o + 1) (fun j => if j < n then expS a j else pw a j) → Zc X 8 [some (.ref 3), some (.int (iI a)), some (.ref o), some (.int (iI (n : Int)))] [] N (mA A') 0 0 := by
    intro m
    induction m with
    | zero =>
      intro n hn A' hA
      refine z_iload_n E dX0_exponential_8 rfl ?_
      refine z_bipush E (by decide) dX0_exponential_9 ?_
      refine z_icmp_ge (tgt := 43) E (by omega) (by omega) dX0_exponential_11 (by decide) (fun h11 => ?_) (fun h11 => ?_)
      · refine z_vret E F dX0_exponential_43 ⟨rfl, ?_⟩
        rw [hA]
        exact row_eq (cel_row ho) (fun j hj => if_pos (by omega))
      · omega
    | succ m ih =>
      intro n hn A' hA
      have e0 : A' (o + 1) n = pw a n := by rw [hA, va_up_self, if_neg (by omega)]
      have e6 : A' 6 n = ifc n := by rw [hA, va_up_ne _ _ (by have := ho.2; omega)]; exact hK.2.2.1 n (by omega)
      have p0 := mul_in (pw_in a n) (ifc_in n)
      refine z_iload_n E dX0_exponential_8 rfl ?_
      refine z_bipush E (by decide) dX0_exponential_9 ?_
      refine z_icmp_ge (tgt := 43) E (by omega) (by omega) dX0_exponential_11 (by decide) (fun h11 => ?_) (fun h11 => ?_)
      · omega
      · refine z_aload_n E dX0_exponential_14 rfl ?_
        refine z_get E dX0_exponential_15 (cel_ser ho _) flX0_61 (by rfl) ?_
        refine z_iload_n E dX0_exponential_18 rfl ?_
        refine z_aload_n E dX0_exponential_19 rfl ?_
        refine z_get E dX0_exponential_20 (cel_ser ho _) flX0_61 (by rfl) ?_
        refine z_iload_n E dX0_exponential_23 rfl ?_
        refine a_iald (j := n) E dX0_exponential_24 (cel_row ho) (by omega) (by omega) (by omega) ?_
        refine z_aload_n E dX0_exponential_25 rfl ?_
        refine z_get E dX0_exponential_26 (by rfl) flX0_18 (by rfl) ?_
        refine z_iload_n E dX0_exponential_29 rfl ?_
        refine a_iald (j := n) E dX0_exponential_30 (fun _ => rfl) (by omega) (by omega) (by omega) ?_
        rw [e0, e6]
        refine z_imul E dX0_exponential_31 ?_
        refine z_sipush E (by decide) dX0_exponential_32 ?_
        refine z_irem E (by omega) (by omega) (by omega) (Int.tmod_eq_emod_of_nonneg (by omega)) dX0_exponential_35 ?_
        refine a_iast (j := n) E dX0_exponential_36 (cel_row ho) (by omega) (by omega) (by omega) ?_
        refine z_iinc (ls' := [_, _, _, _]) E dX0_exponential_37 rfl rfl ?_
        refine z_goto (tgt := 8) E dX0_exponential_40 (by decide) ?_
        rw [ei]
        refine ih (n + 1) (by omega) _ ?_
        rw [hA, va_uu, va_up_self]
        refine congrArg (va_up A (o + 1)) (funext fun j => ?_)
        by_cases e1 : j = n
        · subst e1; rw [up_eq, if_pos (by omega)]; rfl
        · rw [up_ne _ _ e1]
          by_cases e2 : j < n
          · rw [if_pos e2, if_pos (by omega)]
          · rw [if_neg e2, if_neg (by omega)]
  refine loop 10 0 (by omega) _ ?_
  exact congrArg (va_up A (o + 1)) (funext fun j => (if_neg (by omega)).symm)
def logS (a : Int) (j : Nat) : Int := if j = 0 then 0 else -(pw (-a % 10007) j * pw (j : Int) 10005) % 10007
set_option maxRecDepth 100000 in
theorem ok_logarithm {o : Nat} (ho : SerK o) (A : Nat → Nat → Int) (hK : KA A) (a : Int) (ha : 0 ≤ a ∧ a < 10007) (N : Nat) : OkR mX0_logarithm [.ref 3, .int (iI a), .ref o] N (mA A) none (mA (va_up A (o + 1) (logS a))) := by
  refine OkM.of [some (.ref 3), some (.int (iI a)), some (.ref o), none] (by decide +kernel) rfl (Nat.le_of_ble_eq_true rfl) ?_
  intro X E F
  refine z_aload_n E dX0_logarithm_0 rfl ?_
  refine z_iload_n E dX0_logarithm_1 rfl ?_
  refine z_ineg E dX0_logarithm_2 ?_
  refine c_S E dX0_logarithm_3 lkX0_78 (ok_of (-a) ⟨by omega, by omega⟩ N (mA A)) rfl rfl rfl (Nat.le_of_ble_eq_true rfl) ⟨(Nat.le_of_ble_eq_true rfl), (Nat.le_of_ble_eq_true rfl)⟩ ⟨rfl, rfl⟩ ⟨Nat.zero_le _, Nat.zero_le _⟩ ?_
  refine z_aload_n E dX0_logarithm_6 rfl ?_
  refine c_V0 E dX0_logarithm_7 lkX0_68 (ok_geometric ho A (-a % 10007) (by omega) N) (by rfl) rfl rfl rfl (Nat.le_of_ble_eq_true rfl) ⟨(Nat.le_of_ble_eq_true rfl), (Nat.le_of_ble_eq_true rfl)⟩ ⟨rfl, rfl⟩ ⟨Nat.zero_le _, Nat.zero_le _⟩ ?_
  refine z_aload_n E dX0_logarithm_10 rfl ?_
  refine z_get E dX0_logarithm_11 (cel_ser ho _) flX0_61 (by rfl) ?_
  refine z_iconst E dX0_logarithm_14 ?_
  refine z_iconst E dX0_logarithm_15 ?_
  refine a_iast (j := 0) E dX0_logarithm_16 (cel_row ho) (by omega) (by omega) (by omega) ?_
  refine z_iconst E dX0_logarithm_17 ?_
  refine z_istore_n (ls' := [_, _, _, _]) E rfl dX0_logarithm_18 (Nat.le_of_ble_eq_true rfl) rfl ?_
  have loop : ∀ (m n : Nat), n + m = 9 → ∀ A' : Nat → Nat → Int, A' = va_up A (o + 1) (fun j => if j ≤ n then logS a j else pw (-a % 10007) j) → Zc X 19 [some (.ref 3), some (.int (iI a)), some (.ref o), some (.int (iI ((n : Int) + 1)))] [] N (mA A') 0 0 := by
    intro m
    induction m with
    | zero =>
      intro n hn A' hA
      refine z_iload_n E dX0_logarithm_19 rfl ?_
      refine z_bipush E (by decide) dX0_logarithm_20 ?_
      refine z_icmp_ge (tgt := 54) E (by omega) (by omega) dX0_logarithm_22 (by decide) (fun h22 => ?_) (fun h22 => ?_)
      · refine z_vret E F dX0_logarithm_54 ⟨rfl, ?_⟩
        rw [hA]
        exact row_eq (cel_row ho) (fun j hj => if_pos (by omega))
      · omega
    | succ m ih =>
      intro n hn A' hA
      have e0 : A' (o + 1) (n + 1) = pw (-a % 10007) (n + 1) := by rw [hA, va_up_self, if_neg (by omega)]
      have e4 : A' 4 (n + 1) = pw ((n + 1 : Nat) : Int) 10005 := by rw [hA, va_up_ne _ _ (by have := ho.2; omega)]; exact hK.1 (n + 1) (by omega) (by omega)
      have p0 := mul_in (pw_in (-a % 10007) (n + 1)) (pw_in ((n + 1 : Nat) : Int) 10005)
      refine z_iload_n E dX0_logarithm_19 rfl ?_
      refine z_bipush E (by decide) dX0_logarithm_20 ?_
      refine z_icmp_ge (tgt := 54) E (by omega) (by omega) dX0_logarithm_22 (by decide) (fun h22 => ?_) (fun h22 => ?_)
      · omega
      · refine z_aload_n E dX0_logarithm_25 rfl ?_
        refine z_get E dX0_logarithm_26 (cel_ser ho _) flX0_61 (by rfl) ?_
        refine z_iload_n E dX0_logarithm_29 rfl ?_
        refine z_aload_n E dX0_logarithm_30 rfl ?_
        refine z_get E dX0_logarithm_31 (cel_ser ho _) flX0_61 (by rfl) ?_
        refine z_iload_n E dX0_logarithm_34 rfl ?_
        refine a_iald (j := n + 1) E dX0_logarithm_35 (cel_row ho) (by omega) (by omega) (by omega) ?_
        refine z_aload_n E dX0_logarithm_36 rfl ?_
        refine z_get E dX0_logarithm_37 (by rfl) flX0_9 (by rfl) ?_
        refine z_iload_n E dX0_logarithm_40 rfl ?_
        refine a_iald (j := n + 1) E dX0_logarithm_41 (fun _ => rfl) (by omega) (by omega) (by omega) ?_
        rw [e0, e4]
        refine z_imul E dX0_logarithm_42 ?_
        refine z_ineg E dX0_logarithm_43 ?_
        refine c_S E dX0_logarithm_44 lkX0_78 (ok_of _ ⟨by omega, by omega⟩ N (mA A')) rfl rfl rfl (Nat.le_of_ble_eq_true rfl) ⟨(Nat.le_of_ble_eq_true rfl), (Nat.le_of_ble_eq_true rfl)⟩ ⟨rfl, rfl⟩ ⟨Nat.zero_le _, Nat.zero_le _⟩ ?_
        refine a_iast (j := n + 1) E dX0_logarithm_47 (cel_row ho) (by omega) (by omega) (by omega) ?_
        refine z_iinc (ls' := [_, _, _, _]) E dX0_logarithm_48 rfl rfl ?_
        refine z_goto (tgt := 19) E dX0_logarithm_51 (by decide) ?_
        rw [ei]
        refine ih (n + 1) (by omega) _ ?_
        rw [hA, va_uu, va_up_self]
        refine congrArg (va_up A (o + 1)) (funext fun j => ?_)
        by_cases e1 : j = n + 1
        · subst e1; rw [up_eq, if_pos (by omega), logS, if_neg (by omega)]
        · rw [up_ne _ _ e1]
          by_cases e2 : j ≤ n
          · rw [if_pos e2, if_pos (by omega)]
          · rw [if_neg e2, if_neg (by omega)]
  refine loop 9 0 (by omega) _ ?_
  rw [va_uu, va_up_self]
  refine congrArg (va_up A (o + 1)) (funext fun j => ?_)
  by_cases e1 : j = 0
  · subst e1; rw [up_eq, if_pos (by omega), logS, if_pos rfl]
  · rw [up_ne _ _ e1, if_neg (by omega)]
def tbS (f : Nat → Int) : Nat → Int := up (qS (conS 1) (shd f)) 9 0
theorem shd_rok {f : Nat → Int} (h : rok f) : rok (shd f) := fun j hj => by
  unfold shd
  by_cases e : j < 9
  · rw [if_pos e]; exact h (j + 1) (by omega)
  · rw [if_neg e]; omega
theorem tbS_rok (f : Nat → Int) : rok (tbS f) := up_rok (qS_rok _ _) (by omega)
theorem s30 : SerK 30 := ⟨by omega, by omega⟩
theorem s32 : SerK 32 := ⟨by omega, by omega⟩
theorem s34 : SerK 34 := ⟨by omega, by omega⟩
theorem s36 : SerK 36 := ⟨by omega, by omega⟩
theorem s38 : SerK 38 := ⟨by omega, by omega⟩
set_option maxRecDepth 100000 in
theorem ok_tBy {f o : Nat} (hf : SerK f) (ho : SerK o) (h1 : o ≠ 30) (h2 : o ≠ 32) (A : Nat → Nat → Int) (hK : KA A) (rf : rok (A (f + 1))) (N : Nat) : OkR mX0_tBy [.ref 3, .ref f, .ref o] N (mA A) none (mA (va_up (va_up A 33 (shd (A (f + 1)))) (o + 1) (tbS (A (f + 1))))) := by
  refine OkM.of [some (.ref 3), some (.ref f), some (.ref o)] (by decide +kernel) rfl (Nat.le_of_ble_eq_true rfl) ?_
  intro X E F
  refine z_aload_n E dX0_tBy_0 rfl ?_
  refine z_get E dX0_tBy_1 (by rfl) flX0_39 (by rfl) ?_
  refine z_aload_n E dX0_tBy_4 rfl ?_
  refine c_V0 E dX0_tBy_5 lkX0_88 (ok_becomeShiftedDown s32 hf A N) (by rfl) rfl rfl rfl (Nat.le_of_ble_eq_true rfl) ⟨(Nat.le_of_ble_eq_true rfl), (Nat.le_of_ble_eq_true rfl)⟩ ⟨rfl, rfl⟩ ⟨Nat.zero_le _, Nat.zero_le _⟩ ?_
  refine z_aload_n E dX0_tBy_8 rfl ?_
  refine z_aload_n E dX0_tBy_9 rfl ?_
  refine z_get E dX0_tBy_10 (by rfl) flX0_35 (by rfl) ?_
  refine z_aload_n E dX0_tBy_13 rfl ?_
  refine z_get E dX0_tBy_14 (by rfl) flX0_39 (by rfl) ?_
  refine c_V0 E dX0_tBy_17 lkX0_91 (ok_becomeQuotient ho s30 s32 h1 h2 _ (by show rok (va_up A 33 _ 31); rw [va_up_ne _ _ (by omega), hK.2.2.2.1]; exact conS_rok (by omega)) (by show rok (va_up A 33 _ 33); rw [va_up_self]; exact shd_rok rf) N) (cel_ser ho _) rfl rfl rfl (Nat.le_of_ble_eq_true rfl) ⟨(Nat.le_of_ble_eq_true rfl), (Nat.le_of_ble_eq_true rfl)⟩ ⟨rfl, rfl⟩ ⟨Nat.zero_le _, Nat.zero_le _⟩ ?_
  refine z_aload_n E dX0_tBy_20 rfl ?_
  refine z_get E dX0_tBy_21 (cel_ser ho _) flX0_61 (by rfl) ?_
  refine z_bipush E (by decide) dX0_tBy_24 ?_
  refine z_iconst E dX0_tBy_26 ?_
  refine a_iast (j := 9) E dX0_tBy_27 (cel_row ho) (by omega) (by omega) (by omega) ?_
  refine z_vret E F dX0_tBy_28 ⟨rfl, ?_⟩
  rw [va_uu, va_up_self]
  show mA (va_up _ _ (up (qS (va_up A 33 _ 31) (va_up A 33 _ 33)) 9 0)) = _
  rw [va_up_self, va_up_ne (j := 31) _ _ (by omega), hK.2.2.2.1]
  rfl
/-- s into t, and 1 by it -/
def obS (s t : Nat → Int) : Nat → Int := qS (conS 1) (hoS s t 9)
set_option maxRecDepth 100000 in
theorem ok_oneByInto {s t o : Nat} (hs : SerK s) (ht : SerK t) (ho : SerK o) (h1 : o ≠ 30) (h2 : o ≠ 36) (h3 : s ≠ 36) (h4 : t ≠ 36) (A : Nat → Nat → Int) (hK : KA A) (ra : rok (A (s + 1))) (rb : rok (A (t + 1))) (N : Nat) : OkR mX0_oneByInto [.ref 3, .ref s, .ref t, .ref o] N (mA A) none (mA (va_up (va_up A 37 (hoS (A (s + 1)) (A (t + 1)) 9)) (o + 1) (obS (A (s + 1)) (A (t + 1))))) := by
  refine OkM.of [some (.ref 3), some (.ref s), some (.ref t), some (.ref o)] (by decide +kernel) rfl (Nat.le_of_ble_eq_true rfl) ?_
  intro X E F
  refine z_aload_n E dX0_oneByInto_0 rfl ?_
  refine z_get E dX0_oneByInto_1 (by rfl) flX0_45 (by rfl) ?_
  refine z_aload_n E dX0_oneByInto_4 rfl ?_
  refine z_aload_n E dX0_oneByInto_5 rfl ?_
  refine c_V0 E dX0_oneByInto_6 lkX0_94 (ok_becomeInto s36 hs ht (Ne.symm h3) (Ne.symm h4) A ra rb N) (by rfl) rfl rfl rfl (Nat.le_of_ble_eq_true rfl) ⟨(Nat.le_of_ble_eq_true rfl), (Nat.le_of_ble_eq_true rfl)⟩ ⟨rfl, rfl⟩ ⟨Nat.zero_le _, Nat.zero_le _⟩ ?_
  refine z_aload_n E dX0_oneByInto_9 rfl ?_
  refine z_aload_n E dX0_oneByInto_10 rfl ?_
  refine z_get E dX0_oneByInto_11 (by rfl) flX0_35 (by rfl) ?_
  refine z_aload_n E dX0_oneByInto_14 rfl ?_
  refine z_get E dX0_oneByInto_15 (by rfl) flX0_45 (by rfl) ?_
  refine c_V0 E dX0_oneByInto_18 lkX0_91 (ok_becomeQuotient ho s30 s36 h1 h2 _ (by show rok (va_up A 37 _ 31); rw [va_up_ne _ _ (by omega), hK.2.2.2.1]; exact conS_rok (by omega)) (by show rok (va_up A 37 _ 37); rw [va_up_self]; exact hoS_rok _ ra 9) N) (cel_ser ho _) rfl rfl rfl (Nat.le_of_ble_eq_true rfl) ⟨(Nat.le_of_ble_eq_true rfl), (Nat.le_of_ble_eq_true rfl)⟩ ⟨rfl, rfl⟩ ⟨Nat.zero_le _, Nat.zero_le _⟩ ?_
  refine z_vret E F dX0_oneByInto_21 ⟨rfl, ?_⟩
  show mA (va_up _ _ (qS (va_up A 37 _ 31) (va_up A 37 _ 37))) = _
  rw [va_up_self, va_up_ne (j := 31) _ _ (by omega), hK.2.2.2.1]
  rfl
/-- powers of a SERIES -/
def pS (b : Nat → Int) : Nat → (Nat → Int)
  | 0 => conS 1
  | n + 1 => mulS (pS b n) b
theorem pS_rok (b : Nat → Int) : ∀ n, rok (pS b n)
  | 0 => conS_rok (by omega)
  | n + 1 => mulS_rok _ _
/-- Lagrange's row -/
def tuS (f : Nat → Int) (j : Nat) : Int := if j = 0 then 0 else pS (tbS f) j (j - 1) * pw (j : Int) 10005 % 10007
theorem tuS_rok (f : Nat → Int) : rok (tuS f) := fun j _ => by unfold tuS; split <;> omega
set_option maxRecDepth 100000 in
theorem ok_turned {f o : Nat} (hf : SerK f) (ho : SerK o) (h1 : o ≠ 30) (h2 : o ≠ 32) (h3 : o ≠ 34) (h4 : o ≠ 36) (A : Nat → Nat → Int) (hK : KA A) (rf : rok (A (f + 1))) (N : Nat) : OkQ mX0_turned [.ref 3, .ref f, .ref o] N (mA A) (fun g' => ∃ A', g' = mA A' ∧ A' (o + 1) = tuS (A (f + 1)) ∧ Off A A' [33, 35, 37, o + 1]) := by
  generalize hF : A (f + 1) = G at rf ⊢
  refine OkM.of [some (.ref 3), some (.ref f), some (.ref o), none] (by decide +kernel) rfl (Nat.le_of_ble_eq_true rfl) ?_
  intro X E F
  refine z_aload_n E dX0_turned_0 rfl ?_
  refine z_aload_n E dX0_turned_1 rfl ?_
  refine z_aload_n E dX0_turned_2 rfl ?_
  refine z_get E dX0_turned_3 (by rfl) flX0_42 (by rfl) ?_
  refine c_V0 E dX0_turned_6 lkX0_81 (ok_tBy hf s34 (by omega) (by omega) A hK (by rw [hF]; exact rf) N) (by rfl) rfl rfl rfl (Nat.le_of_ble_eq_true rfl) ⟨(Nat.le_of_ble_eq_true rfl), (Nat.le_of_ble_eq_true rfl)⟩ ⟨rfl, rfl⟩ ⟨Nat.zero_le _, Nat.zero_le _⟩ ?_
  rw [hF]
  refine z_aload_n E dX0_turned_9 rfl ?_
  refine z_get E dX0_turned_10 (by rfl) flX0_45 (by rfl) ?_
  refine z_iconst E dX0_turned_13 ?_
  refine c_V0 E dX0_turned_14 lkX0_51 (ok_becomeConstant s36 _ 1 N) (by rfl) rfl rfl rfl (Nat.le_of_ble_eq_true rfl) ⟨(Nat.le_of_ble_eq_true rfl), (Nat.le_of_ble_eq_true rfl)⟩ ⟨rfl, rfl⟩ ⟨Nat.zero_le _, Nat.zero_le _⟩ ?_
  refine z_aload_n E dX0_turned_17 rfl ?_
  refine z_get E dX0_turned_18 (cel_ser ho _) flX0_61 (by rfl) ?_
  refine z_iconst E dX0_turned_21 ?_
  refine z_iconst E dX0_turned_22 ?_
  refine a_iast (j := 0) E dX0_turned_23 (cel_row ho) (by omega) (by omega) (by omega) ?_
  refine z_iconst E dX0_turned_24 ?_
  refine z_istore_n (ls' := [_, _, _, _]) E rfl dX0_turned_25 (Nat.le_of_ble_eq_true rfl) rfl ?_
  have loop : ∀ (m n : Nat), n + m = 9 → ∀ A' : Nat → Nat → Int, A' 35 = tbS G → A' 37 = pS (tbS G) n → (∀ j, j ≤ n → A' (o + 1) j = tuS G j) → Off A A' [33, 35, 37, o + 1] → Zc X 26 [some (.ref 3), some (.ref f), some (.ref o), some (.int (iI ((n : Int) + 1)))] [] N (mA A') 0 0 := by
    intro m
    induction m with
    | zero =>
      intro n hn A' e35 e37 eo hoff
      refine z_iload_n E dX0_turned_26 rfl ?_
      refine z_bipush E (by decide) dX0_turned_27 ?_
      refine z_icmp_ge (tgt := 81) E (by omega) (by omega) dX0_turned_29 (by decide) (fun h29 => ?_) (fun h29 => ?_)
      · refine z_vret E F dX0_turned_81 ⟨rfl, va_up A' (o + 1) (tuS G), ?_, va_up_self _ _ _, fun k hk => ?_⟩
        · exact (row_id (cel_row ho) (fun j hj => (eo j (by omega)).symm)).symm
        · rw [va_up_ne _ _ (by simp at hk; omega)]; exact hoff k hk
      · omega
    | succ m ih =>
      intro n hn A' e35 e37 eo hoff
      have hK' : KA A' := hK.off hoff (by simp; have := ho.1; have := ho.2; omega)
      have p0 := mul_in (pS_rok (tbS G) (n + 1) n (by omega)) (pw_in ((n + 1 : Nat) : Int) 10005)
      refine z_iload_n E dX0_turned_26 rfl ?_
      refine z_bipush E (by decide) dX0_turned_27 ?_
      refine z_icmp_ge (tgt := 81) E (by omega) (by omega) dX0_turned_29 (by decide) (fun h29 => ?_) (fun h29 => ?_)
      · omega
      · refine z_aload_n E dX0_turned_32 rfl ?_
        refine z_get E dX0_turned_33 (by rfl) flX0_45 (by rfl) ?_
        refine z_aload_n E dX0_turned_36 rfl ?_
        refine z_get E dX0_turned_37 (by rfl) flX0_45 (by rfl) ?_
        refine z_aload_n E dX0_turned_40 rfl ?_
        refine z_get E dX0_turned_41 (by rfl) flX0_42 (by rfl) ?_
        refine c_V0 E dX0_turned_44 lkX0_85 (ok_becomeTimes s36 s36 s34 A' (by show rok (A' 37); rw [e37]; exact pS_rok _ n) (by show rok (A' 35); rw [e35]; exact tbS_rok _) N) (by rfl) rfl rfl rfl (Nat.le_of_ble_eq_true rfl) ⟨(Nat.le_of_ble_eq_true rfl), (Nat.le_of_ble_eq_true rfl)⟩ ⟨rfl, rfl⟩ ⟨Nat.zero_le _, Nat.zero_le _⟩ ?_
        have e9 : mulS (A' (36 + 1)) (A' (34 + 1)) = pS (tbS G) (n + 1) := by show mulS (A' 37) (A' 35) = _; rw [e37, e35]; rfl
        rw [e9]
        have e4 : va_up A' (36 + 1) (pS (tbS G) (n + 1)) 4 (n + 1) = pw ((n + 1 : Nat) : Int) 10005 := by rw [va_up_ne _ _ (by omega)]; exact hK'.1 (n + 1) (by omega) (by omega)
        have e8 : va_up A' (36 + 1) (pS (tbS G) (n + 1)) 37 n = pS (tbS G) (n + 1) n := by show va_up A' 37 _ 37 n = _; rw [va_up_self]
        refine z_aload_n E dX0_turned_47 rfl ?_
        refine z_get E dX0_turned_48 (cel_ser ho _) flX0_61 (by rfl) ?_
        refine z_iload_n E dX0_turned_51 rfl ?_
        refine z_aload_n E dX0_turned_52 rfl ?_
        refine z_get E dX0_turned_53 (by rfl) flX0_45 (by rfl) ?_
        refine z_get E dX0_turned_56 (cel_ser s36 _) flX0_61 (by rfl) ?_
        refine z_iload_n E dX0_turned_59 rfl ?_
        refine z_iconst E dX0_turned_60 ?_
        refine z_isub E dX0_turned_61 ?_
        refine a_iald (j := n) E dX0_turned_62 (fun _ => rfl) (by omega) (by omega) (by omega) ?_
        refine z_aload_n E dX0_turned_63 rfl ?_
        refine z_get E dX0_turned_64 (by rfl) flX0_9 (by rfl) ?_
        refine z_iload_n E dX0_turned_67 rfl ?_
        refine a_iald (j := n + 1) E dX0_turned_68 (fun _ => rfl) (by omega) (by omega) (by omega) ?_
        rw [e4, e8]
        refine z_imul E dX0_turned_69 ?_
        refine z_sipush E (by decide) dX0_turned_70 ?_
        refine z_irem E (by omega) (by omega) (by omega) (Int.tmod_eq_emod_of_nonneg (by omega)) dX0_turned_73 ?_
        refine a_iast (j := n + 1) E dX0_turned_74 (cel_row ho) (by omega) (by omega) (by omega) ?_
        refine z_iinc (ls' := [_, _, _, _]) E dX0_turned_75 rfl rfl ?_
        refine z_goto (tgt := 26) E dX0_turned_78 (by decide) ?_
        rw [ei]
        have hne : o + 1 ≠ 36 + 1 := by omega
        refine ih (n + 1) (by omega) _ ?_ ?_ ?_ ?_
        · rw [va_up_ne _ _ (by omega), va_up_ne _ _ (by omega)]; exact e35
        · rw [va_up_ne _ _ (by omega)]; exact va_up_self _ _ _
        · intro j hj
          rw [va_up_self, va_up_ne _ _ hne]
          by_cases e1 : j = n + 1
          · subst e1; rw [up_eq, tuS, if_neg (by omega), Nat.add_sub_cancel]
          · rw [up_ne _ _ e1]; exact eo j (by omega)
        · intro k hk
          have hk2 := hk
          simp at hk2
          rw [va_up_ne _ _ (by omega), va_up_ne _ _ (by omega)]
          exact hoff k hk
  have hne : o + 1 ≠ 36 + 1 := by omega
  refine loop 9 0 (by omega) _ ?_ ?_ ?_ ?_
  · rw [va_up_ne _ _ (by omega), va_up_ne _ _ (by omega)]; exact va_up_self _ _ _
  · rw [va_up_ne _ _ (by omega)]; exact va_up_self _ _ _
  · intro j hj
    have : j = 0 := by omega
    subst this
    rw [va_up_self, up_eq, tuS, if_pos rfl]
  · intro k hk
    simp at hk
    rw [va_up_ne _ _ (by omega), va_up_ne _ _ (by omega), va_up_ne _ _ (by omega), va_up_ne _ _ (by omega)]
end
section
/-! KINDS, OPERATORS, differences -/
noncomputable def b01 (p : Prop) : Int := @ite Int p (Classical.propDecidable p) 1 0
theorem b01_t {p : Prop} (h : p) : b01 p = 1 := @if_pos p (Classical.propDecidable p) h Int 1 0
theorem b01_f {p : Prop} (h : ¬ p) : b01 p = 0 := @if_neg p (Classical.propDecidable p) h Int 1 0
def kS (kd : Nat) (a : Int) : Nat → Int := match kd with
  | 0 => up (conS 0) 1 1
  | 1 => expS a
  | 2 => up (expS a) 0 0
  | 3 => pw a
  | 4 => shu (expS a)
  | 5 => logS a
  | 6 => shu (pw (-a % 10007))
  | _ => conS a
theorem up_same (A : Nat → Nat → Int) (k : Nat) : va_up A k (A k) = A := by
  funext j
  by_cases e : j = k
  · subst e; rw [va_up_self]
  · rw [va_up_ne _ _ e]
set_option maxRecDepth 100000 in
theorem ok_ofKind {o : Nat} (ho : SerK o) (h1 : o ≠ 36) (A : Nat → Nat → Int) (hK : KA A) (kd : Nat) (hk : kd < 8) (a : Int) (ha : 0 ≤ a ∧ a < 10007) (N : Nat) : OkQ mX0_ofKind [.ref 3, .int (iI (kd : Int)), .int (iI a), .ref o] N (mA A) (fun g' => ∃ R, g' = mA (va_up (va_up A 37 R) (o + 1) (kS kd a))) := by
  have e31 : o + 1 ≠ 31 ∨ o = 30 := by omega
  refine OkM.of [some (.ref 3), some (.int (iI (kd : Int))), some (.int (iI a)), some (.ref o)] (by decide +kernel) rfl (Nat.le_of_ble_eq_true rfl) ?_
  intro X E F
  refine z_iload_n E dX0_ofKind_0 rfl ?_
  rcases (show kd = 0 ∨ kd = 1 ∨ kd = 2 ∨ kd = 3 ∨ kd = 4 ∨ kd = 5 ∨ kd = 6 ∨ kd = 7 by omega) with rfl | rfl | rfl | rfl | rfl | rfl | rfl | rfl
  · refine z_tswIn (j := 0) (tgt := 44) E dX0_ofKind_1 rfl (by omega) (by omega) rfl (by decide) ?_
    refine z_aload_n E dX0_ofKind_44 rfl ?_
    refine z_iconst E dX0_ofKind_45 ?_
    refine c_V0 E dX0_ofKind_46 lkX0_51 (ok_becomeConstant ho A 0 N) (cel_ser ho _) rfl rfl rfl (Nat.le_of_ble_eq_true rfl) ⟨(Nat.le_of_ble_eq_true rfl), (Nat.le_of_ble_eq_true rfl)⟩ ⟨rfl, rfl⟩ ⟨Nat.zero_le _, Nat.zero_le _⟩ ?_
    refine z_aload_n E dX0_ofKind_49 rfl ?_
    refine z_get E dX0_ofKind_50 (cel_ser ho _) flX0_61 (by rfl) ?_
    refine z_iconst E dX0_ofKind_53 ?_
    refine z_iconst E dX0_ofKind_54 ?_
    refine a_iast (j := 1) E dX0_ofKind_55 (cel_row ho) (by omega) (by omega) (by omega) ?_
    refine z_goto (tgt := 151) E dX0_ofKind_56 (by decide) ?_
    refine z_vret E F dX0_ofKind_151 ⟨rfl, A 37, ?_⟩
    rw [up_same, va_uu, va_up_self]
    rfl
  · refine z_tswIn (j := 1) (tgt := 59) E dX0_ofKind_1 rfl (by omega) (by omega) rfl (by decide) ?_
    refine z_aload_n E dX0_ofKind_59 rfl ?_
    refine z_iload_n E dX0_ofKind_60 rfl ?_
    refine z_aload_n E dX0_ofKind_61 rfl ?_
    refine c_V0 E dX0_ofKind_62 lkX0_64 (ok_exponential ho A hK a ha N) (by rfl) rfl rfl rfl (Nat.le_of_ble_eq_true rfl) ⟨(Nat.le_of_ble_eq_true rfl), (Nat.le_of_ble_eq_true rfl)⟩ ⟨rfl, rfl⟩ ⟨Nat.zero_le _, Nat.zero_le _⟩ ?_
    refine z_goto (tgt := 151) E dX0_ofKind_65 (by decide) ?_
    refine z_vret E F dX0_ofKind_151 ⟨rfl, A 37, ?_⟩
    rw [up_same]
    rfl
  · refine z_tswIn (j := 2) (tgt := 68) E dX0_ofKind_1 rfl (by omega) (by omega) rfl (by decide) ?_
    refine z_aload_n E dX0_ofKind_68 rfl ?_
    refine z_iload_n E dX0_ofKind_69 rfl ?_
    refine z_aload_n E dX0_ofKind_70 rfl ?_
    refine c_V0 E dX0_ofKind_71 lkX0_64 (ok_exponential ho A hK a ha N) (by rfl) rfl rfl rfl (Nat.le_of_ble_eq_true rfl) ⟨(Nat.le_of_ble_eq_true rfl), (Nat.le_of_ble_eq_true rfl)⟩ ⟨rfl, rfl⟩ ⟨Nat.zero_le _, Nat.zero_le _⟩ ?_
    refine z_aload_n E dX0_ofKind_74 rfl ?_
    refine z_get E dX0_ofKind_75 (cel_ser ho _) flX0_61 (by rfl) ?_
    refine z_iconst E dX0_ofKind_78 ?_
    refine z_iconst E dX0_ofKind_79 ?_
    refine a_iast (j := 0) E dX0_ofKind_80 (cel_row ho) (by omega) (by omega) (by omega) ?_
    refine z_goto (tgt := 151) E dX0_ofKind_81 (by decide) ?_
    refine z_vret E F dX0_ofKind_151 ⟨rfl, A 37, ?_⟩
    rw [up_same, va_uu, va_up_self]
    rfl
  · refine z_tswIn (j := 3) (tgt := 84) E dX0_ofKind_1 rfl (by omega) (by omega) rfl (by decide) ?_
    refine z_aload_n E dX0_ofKind_84 rfl ?_
    refine z_iload_n E dX0_ofKind_85 rfl ?_
    refine z_aload_n E dX0_ofKind_86 rfl ?_
    refine c_V0 E dX0_ofKind_87 lkX0_68 (ok_geometric ho A a ha N) (by rfl) rfl rfl rfl (Nat.le_of_ble_eq_true rfl) ⟨(Nat.le_of_ble_eq_true rfl), (Nat.le_of_ble_eq_true rfl)⟩ ⟨rfl, rfl⟩ ⟨Nat.zero_le _, Nat.zero_le _⟩ ?_
    refine z_goto (tgt := 151) E dX0_ofKind_90 (by decide) ?_
    refine z_vret E F dX0_ofKind_151 ⟨rfl, A 37, ?_⟩
    rw [up_same]
    rfl
  · refine z_tswIn (j := 4) (tgt := 93) E dX0_ofKind_1 rfl (by omega) (by omega) rfl (by decide) ?_
    refine z_aload_n E dX0_ofKind_93 rfl ?_
    refine z_iload_n E dX0_ofKind_94 rfl ?_
    refine z_aload_n E dX0_ofKind_95 rfl ?_
    refine z_get E dX0_ofKind_96 (by rfl) flX0_45 (by rfl) ?_
    refine c_V0 E dX0_ofKind_99 lkX0_64 (ok_exponential s36 A hK a ha N) (by rfl) rfl rfl rfl (Nat.le_of_ble_eq_true rfl) ⟨(Nat.le_of_ble_eq_true rfl), (Nat.le_of_ble_eq_true rfl)⟩ ⟨rfl, rfl⟩ ⟨Nat.zero_le _, Nat.zero_le _⟩ ?_
    refine z_aload_n E dX0_ofKind_102 rfl ?_
    refine z_aload_n E dX0_ofKind_103 rfl ?_
    refine z_get E dX0_ofKind_104 (by rfl) flX0_45 (by rfl) ?_
    refine c_V0 E dX0_ofKind_107 lkX0_71 (ok_becomeShiftedUp ho s36 _ N) (cel_ser ho _) rfl rfl rfl (Nat.le_of_ble_eq_true rfl) ⟨(Nat.le_of_ble_eq_true rfl), (Nat.le_of_ble_eq_true rfl)⟩ ⟨rfl, rfl⟩ ⟨Nat.zero_le _, Nat.zero_le _⟩ ?_
    refine z_goto (tgt := 151) E dX0_ofKind_110 (by decide) ?_
    refine z_vret E F dX0_ofKind_151 ⟨rfl, expS a, ?_⟩
    show mA (va_up _ _ (shu (va_up A 37 (expS a) 37))) = _
    rw [va_up_self]
    rfl
  · refine z_tswIn (j := 5) (tgt := 113) E dX0_ofKind_1 rfl (by omega) (by omega) rfl (by decide) ?_
    refine z_aload_n E dX0_ofKind_113 rfl ?_
    refine z_iload_n E dX0_ofKind_114 rfl ?_
    refine z_aload_n E dX0_ofKind_115 rfl ?_
    refine c_V0 E dX0_ofKind_116 lkX0_75 (ok_logarithm ho A hK a ha N) (by rfl) rfl rfl rfl (Nat.le_of_ble_eq_true rfl) ⟨(Nat.le_of_ble_eq_true rfl), (Nat.le_of_ble_eq_true rfl)⟩ ⟨rfl, rfl⟩ ⟨Nat.zero_le _, Nat.zero_le _⟩ ?_
    refine z_goto (tgt := 151) E dX0_ofKind_119 (by decide) ?_
    refine z_vret E F dX0_ofKind_151 ⟨rfl, A 37, ?_⟩
    rw [up_same]
    rfl
  · refine z_tswIn (j := 6) (tgt := 122) E dX0_ofKind_1 rfl (by omega) (by omega) rfl (by decide) ?_
    refine z_aload_n E dX0_ofKind_122 rfl ?_
    refine z_iload_n E dX0_ofKind_123 rfl ?_
    refine z_ineg E dX0_ofKind_124 ?_
    refine c_S E dX0_ofKind_125 lkX0_78 (ok_of (-a) ⟨by omega, by omega⟩ N (mA A)) rfl rfl rfl (Nat.le_of_ble_eq_true rfl) ⟨(Nat.le_of_ble_eq_true rfl), (Nat.le_of_ble_eq_true rfl)⟩ ⟨rfl, rfl⟩ ⟨Nat.zero_le _, Nat.zero_le _⟩ ?_
    refine z_aload_n E dX0_ofKind_128 rfl ?_
    refine z_get E dX0_ofKind_129 (by rfl) flX0_45 (by rfl) ?_
    refine c_V0 E dX0_ofKind_132 lkX0_68 (ok_geometric s36 A (-a % 10007) (by omega) N) (by rfl) rfl rfl rfl (Nat.le_of_ble_eq_true rfl) ⟨(Nat.le_of_ble_eq_true rfl), (Nat.le_of_ble_eq_true rfl)⟩ ⟨rfl, rfl⟩ ⟨Nat.zero_le _, Nat.zero_le _⟩ ?_
    refine z_aload_n E dX0_ofKind_135 rfl ?_
    refine z_aload_n E dX0_ofKind_136 rfl ?_
    refine z_get E dX0_ofKind_137 (by rfl) flX0_45 (by rfl) ?_
    refine c_V0 E dX0_ofKind_140 lkX0_71 (ok_becomeShiftedUp ho s36 _ N) (cel_ser ho _) rfl rfl rfl (Nat.le_of_ble_eq_true rfl) ⟨(Nat.le_of_ble_eq_true rfl), (Nat.le_of_ble_eq_true rfl)⟩ ⟨rfl, rfl⟩ ⟨Nat.zero_le _, Nat.zero_le _⟩ ?_
    refine z_goto (tgt := 151) E dX0_ofKind_143 (by decide) ?_
    refine z_vret E F dX0_ofKind_151 ⟨rfl, pw (-a % 10007), ?_⟩
    show mA (va_up _ _ (shu (va_up A 37 (pw (-a % 10007)) 37))) = _
    rw [va_up_self]
    rfl
  · refine z_tswOut (tgt := 146) E dX0_ofKind_1 (by omega) (by omega) (by decide) ?_
    refine z_aload_n E dX0_ofKind_146 rfl ?_
    refine z_iload_n E dX0_ofKind_147 rfl ?_
    refine c_V0 E dX0_ofKind_148 lkX0_51 (ok_becomeConstant ho A a N) (cel_ser ho _) rfl rfl rfl (Nat.le_of_ble_eq_true rfl) ⟨(Nat.le_of_ble_eq_true rfl), (Nat.le_of_ble_eq_true rfl)⟩ ⟨rfl, rfl⟩ ⟨Nat.zero_le _, Nat.zero_le _⟩ ?_
    refine z_vret E F dX0_ofKind_151 ⟨rfl, A 37, ?_⟩
    rw [up_same]
    rfl
/-- an OPERATOR on a polynomial -/
def opS (a b : Nat → Int) (m : Nat) : Int := sm (fun i => a i * (b (m + i) * fcl (m + i) % 10007)) (10 - m) % 10007 * ifc m % 10007
theorem opS_in (a b : Nat → Int) (m : Nat) : 0 ≤ opS a b m ∧ opS a b m < 10007 := by unfold opS; omega
set_option maxRecDepth 100000 in
theorem ok_operated {s t o : Nat} (hs : SerK s) (ht : SerK t) (ho : SerK o) (h1 : o ≠ s) (h2 : o ≠ t) (A : Nat → Nat → Int) (hK : KA A) (h31 : o ≠ 30) (ra : rok (A (s + 1))) (rb : rok (A (t + 1))) (N : Nat) : OkR mX0_operated [.ref 3, .ref s, .ref t, .ref o] N (mA A) none (mA (va_up A (o + 1) (opS (A (s + 1)) (A (t + 1))))) := by
  refine OkM.of [some (.ref 3), some (.ref s), some (.ref t), some (.ref o), none, none, none] (by decide +kernel) rfl (Nat.le_of_ble_eq_true rfl) ?_
  intro X E F
  refine z_iconst E dX0_operated_0 ?_
  refine z_istore (ls' := [_, _, _, _, _, _, _]) E dX0_operated_1 (Nat.le_of_ble_eq_true rfl) rfl ?_
  have loop : ∀ (q m : Nat), m + q = 10 → ∀ (l5 l6 : Option Value) (A' : Nat → Nat → Int), A' = va_up A (o + 1) (fun j => if j < m then opS (A (s + 1)) (A (t + 1)) j else A (o + 1) j) → Zc X 3 [some (.ref 3), some (.ref s), some (.ref t), some (.ref o), some (.int (iI (m : Int))), l5, l6] [] N (mA A') 0 0 := by
    intro q
    induction q with
    | zero =>
      intro m hm l5 l6 A' hA
      refine z_iload E dX0_operated_3 rfl ?_
      refine z_bipush E (by decide) dX0_operated_5 ?_
      refine z_icmp_ge (tgt := 96) E (by omega) (by omega) dX0_operated_7 (by decide) (fun h7 => ?_) (fun h7 => ?_)
      · refine z_vret E F dX0_operated_96 ⟨rfl, ?_⟩
        rw [hA]
        exact row_eq (cel_row ho) (fun j hj => if_pos (by omega))
      · omega
    | succ q ih =>
      intro m hm l5 l6 A' hA
      have es : A' (s + 1) = A (s + 1) := by rw [hA, va_up_ne _ _ (by omega)]
      have et : A' (t + 1) = A (t + 1) := by rw [hA, va_up_ne _ _ (by omega)]
      have hK' : KA A' := by rw [hA]; exact hK.up (by have := ho.1; have := ho.2; omega)
      have pb : ∀ i, m + i < 10 → 0 ≤ A (t + 1) (m + i) * fcl (m + i) ∧ A (t + 1) (m + i) * fcl (m + i) ≤ 100120036 := fun i hi => mul_in (rb (m + i) hi) (fcl_in _)
      have pr : ∀ i, i < 10 - m → 0 ≤ A (s + 1) i * (A (t + 1) (m + i) * fcl (m + i) % 10007) ∧ A (s + 1) i * (A (t + 1) (m + i) * fcl (m + i) % 10007) ≤ 100120036 := fun i hi => mul_in (ra i (by omega)) (by omega)
      refine z_iload E dX0_operated_3 rfl ?_
      refine z_bipush E (by decide) dX0_operated_5 ?_
      refine z_icmp_ge (tgt := 96) E (by omega) (by omega) dX0_operated_7 (by decide) (fun h7 => ?_) (fun h7 => ?_)
      · omega
      · refine z_iconst E dX0_operated_10 ?_
        refine z_istore (ls' := [_, _, _, _, _, _, _]) E dX0_operated_11 (Nat.le_of_ble_eq_true rfl) rfl ?_
        refine z_iload E dX0_operated_13 rfl ?_
        refine z_istore (ls' := [_, _, _, _, _, _, _]) E dX0_operated_15 (Nat.le_of_ble_eq_true rfl) rfl ?_
        have inner : ∀ (q2 i : Nat), i + q2 = 10 - m → Zc X 17 [some (.ref 3), some (.ref s), some (.ref t), some (.ref o), some (.int (iI (m : Int))), some (.int (iI (sm (fun i => A (s + 1) i * (A (t + 1) (m + i) * fcl (m + i) % 10007)) i))), some (.int (iI ((m : Int) + (i : Int))))] [] N (mA A') 0 0 := by
          intro q2
          induction q2 with
          | zero =>
            intro i hi
            have hi2 : i = 10 - m := by omega
            subst hi2
            have hsm := sm_in (n := 10 - m) pr
            have e6 := hK'.2.2.1 m (by omega)
            have p6 := mul_in (a := sm (fun i => A (s + 1) i * (A (t + 1) (m + i) * fcl (m + i) % 10007)) (10 - m) % 10007) (by omega) (ifc_in m)
            refine z_iload E dX0_operated_17 rfl ?_
            refine z_bipush E (by decide) dX0_operated_19 ?_
            refine z_icmp_ge (tgt := 65) E (by omega) (by omega) dX0_operated_21 (by decide) (fun h21 => ?_) (fun h21 => ?_)
            · refine z_aload_n E dX0_operated_65 rfl ?_
              refine z_get E dX0_operated_66 (cel_ser ho _) flX0_61 (by rfl) ?_
              refine z_iload E dX0_operated_69 rfl ?_
              refine z_iload E dX0_operated_71 rfl ?_
              refine z_sipush E (by decide) dX0_operated_73 ?_
              refine z_irem E (by omega) (by omega) (by omega) (Int.tmod_eq_emod_of_nonneg (by omega)) dX0_operated_76 ?_
              refine z_aload_n E dX0_operated_77 rfl ?_
              refine z_get E dX0_operated_78 (by rfl) flX0_18 (by rfl) ?_
              refine z_iload E dX0_operated_81 rfl ?_
              refine a_iald (j := m) E dX0_operated_83 (fun _ => rfl) (by omega) (by omega) (by omega) ?_
              rw [e6]
              refine z_imul E dX0_operated_84 ?_
              refine z_sipush E (by decide) dX0_operated_85 ?_
              refine z_irem E (by omega) (by omega) (by omega) (Int.tmod_eq_emod_of_nonneg (by omega)) dX0_operated_88 ?_
              refine a_iast (j := m) E dX0_operated_89 (cel_row ho) (by omega) (by omega) (by omega) ?_
              refine z_iinc (ls' := [_, _, _, _, _, _, _]) E dX0_operated_90 rfl rfl ?_
              refine z_goto (tgt := 3) E dX0_operated_93 (by decide) ?_
              rw [ei]
              refine ih (m + 1) (by omega) _ _ _ ?_
              rw [hA, va_uu, va_up_self]
              refine congrArg (va_up A (o + 1)) (funext fun j => ?_)
              by_cases e1 : j = m
              · subst e1; rw [up_eq, if_pos (by omega)]; rfl
              · rw [up_ne _ _ e1]
                by_cases e2 : j < m
                · rw [if_pos e2, if_pos (by omega)]
                · rw [if_neg e2, if_neg (by omega)]
            · omega
          | succ q2 ihm =>
            intro i hi
            have e5 := hK'.2.1 (m + i) (by omega)
            have p5 := pb i (by omega)
            refine z_iload E dX0_operated_17 rfl ?_
            refine z_bipush E (by decide) dX0_operated_19 ?_
            refine z_icmp_ge (tgt := 65) E (by omega) (by omega) dX0_operated_21 (by decide) (fun h21 => ?_) (fun h21 => ?_)
            · omega
            · refine z_iload E dX0_operated_24 rfl ?_
              refine z_aload_n E dX0_operated_26 rfl ?_
              refine z_get E dX0_operated_27 (cel_ser hs _) flX0_61 (by rfl) ?_
              refine z_iload E dX0_operated_30 rfl ?_
              refine z_iload E dX0_operated_32 rfl ?_
              refine z_isub E dX0_operated_34 ?_
              refine a_iald (j := i) E dX0_operated_35 (cel_row hs) (by omega) (by omega) (by omega) ?_
              refine z_aload_n E dX0_operated_36 rfl ?_
              refine z_get E dX0_operated_37 (cel_ser ht _) flX0_61 (by rfl) ?_
              refine z_iload E dX0_operated_40 rfl ?_
              refine a_iald (j := m + i) E dX0_operated_42 (cel_row ht) (by omega) (by omega) (by omega) ?_
              refine z_aload_n E dX0_operated_43 rfl ?_
              refine z_get E dX0_operated_44 (by rfl) flX0_15 (by rfl) ?_
              refine z_iload E dX0_operated_47 rfl ?_
              refine a_iald (j := m + i) E dX0_operated_49 (fun _ => rfl) (by omega) (by omega) (by omega) ?_
              rw [es, et, e5]
              refine z_imul E dX0_operated_50 ?_
              refine z_sipush E (by decide) dX0_operated_51 ?_
              refine z_irem E (by omega) (by omega) (by omega) (Int.tmod_eq_emod_of_nonneg (by omega)) dX0_operated_54 ?_
              refine z_imul E dX0_operated_55 ?_
              refine z_iadd E dX0_operated_56 ?_
              refine z_istore (ls' := [_, _, _, _, _, _, _]) E dX0_operated_57 (Nat.le_of_ble_eq_true rfl) rfl ?_
              refine z_iinc (ls' := [_, _, _, _, _, _, _]) E dX0_operated_59 rfl rfl ?_
              refine z_goto (tgt := 17) E dX0_operated_62 (by decide) ?_
              rw [show (m : Int) + (i : Int) + 1 = (m : Int) + ((i + 1 : Nat) : Int) by omega]
              exact ihm (i + 1) (by omega)
        refine Eq.mp ?_ (inner (10 - m) 0 (by omega))
        rw [show (m : Int) + ((0 : Nat) : Int) = (m : Int) by omega]
        rfl
  refine z_mem ?_ (loop 10 0 (by omega) none none _ rfl)
  exact (row_id (cel_row ho) (fun j hj => if_neg (by omega))).symm
set_option maxRecDepth 100000 in
theorem ok_isTimes {s t : Nat} (hs : SerK s) (ht : SerK t) (A : Nat → Nat → Int) (ra : rok (A (s + 1))) (rb : rok (A (t + 1))) (n : Nat) (hn : n < 10) (N : Nat) : OkR mX0_isTimes [.ref s, .int (iI (n : Int)), .ref t] N (mA A) (some (.int (iI (b01 (∀ i, i < 10 → A (s + 1) i = (n : Int) * A (t + 1) i % 10007))))) (mA A) := by
  refine OkM.of [some (.ref s), some (.int (iI (n : Int))), some (.ref t), none] (by decide +kernel) rfl (Nat.le_of_ble_eq_true rfl) ?_
  intro X E F
  refine z_iconst E dX0_isTimes_0 ?_
  refine z_istore_n (ls' := [_, _, _, _]) E rfl dX0_isTimes_1 (Nat.le_of_ble_eq_true rfl) rfl ?_
  have loop : ∀ (m i : Nat), i + m = 10 → (∀ j, j < i → A (s + 1) j = (n : Int) * A (t + 1) j % 10007) → Zc X 2 [some (.ref s), some (.int (iI (n : Int))), some (.ref t), some (.int (iI (i : Int)))] [] N (mA A) 0 0 := by
    intro m
    induction m with
    | zero =>
      intro i hi hall
      refine z_iload_n E dX0_isTimes_2 rfl ?_
      refine z_bipush E (by decide) dX0_isTimes_3 ?_
      refine z_icmp_ge (tgt := 37) E (by omega) (by omega) dX0_isTimes_5 (by decide) (fun h5 => ?_) (fun h5 => ?_)
      · refine z_iconst E dX0_isTimes_37 ?_
        exact z_zret E F (by first | exact Or.inl rfl | exact Or.inr rfl) dX0_isTimes_38 ⟨by rw [b01_t (fun j hj => hall j (by omega))], rfl⟩
      · omega
    | succ m ih =>
      intro i hi hall
      have r1 := ra i (by omega)
      have p1 := mul_in (a := (n : Int)) (by omega) (rb i (by omega))
      refine z_iload_n E dX0_isTimes_2 rfl ?_
      refine z_bipush E (by decide) dX0_isTimes_3 ?_
      refine z_icmp_ge (tgt := 37) E (by omega) (by omega) dX0_isTimes_5 (by decide) (fun h5 => ?_) (fun h5 => ?_)
      · omega
      · refine z_aload_n E dX0_isTimes_8 rfl ?_
        refine z_get E dX0_isTimes_9 (cel_ser hs _) flX0_61 (by rfl) ?_
        refine z_iload_n E dX0_isTimes_12 rfl ?_
        refine a_iald (j := i) E dX0_isTimes_13 (cel_row hs) (by omega) (by omega) (by omega) ?_
        refine z_iload_n E dX0_isTimes_14 rfl ?_
        refine z_aload_n E dX0_isTimes_15 rfl ?_
        refine z_get E dX0_isTimes_16 (cel_ser ht _) flX0_61 (by rfl) ?_
        refine z_iload_n E dX0_isTimes_19 rfl ?_
        refine a_iald (j := i) E dX0_isTimes_20 (cel_row ht) (by omega) (by omega) (by omega) ?_
        refine z_imul E dX0_isTimes_21 ?_
        refine z_sipush E (by decide) dX0_isTimes_22 ?_
        refine z_irem E (by omega) (by omega) (by omega) (Int.tmod_eq_emod_of_nonneg (by omega)) dX0_isTimes_25 ?_
        refine z_icmp_eq (tgt := 31) E (by omega) (by omega) dX0_isTimes_26 (by decide) (fun h26 => ?_) (fun h26 => ?_)
        · refine z_iinc (ls' := [_, _, _, _]) E dX0_isTimes_31 rfl rfl ?_
          refine z_goto (tgt := 2) E dX0_isTimes_34 (by decide) ?_
          rw [ei]
          refine ih (i + 1) (by omega) (fun j hj => ?_)
          by_cases e : j = i
          · subst e; exact h26
          · exact hall j (by omega)
        · refine z_iconst E dX0_isTimes_29 ?_
          exact z_zret E F (by first | exact Or.inl rfl | exact Or.inr rfl) dX0_isTimes_30 ⟨by rw [b01_f (fun h => h26 (h i (by omega)))], rfl⟩
  exact loop 10 0 (by omega) (fun j hj => by omega)
/-- differences of a row of values, k times over -/
def dfT (v : Nat → Int) : Nat → (Nat → Int)
  | 0 => v
  | k + 1 => fun j => if k + 1 ≤ j then (dfT v k j - dfT v k (j - 1)) % 10007 else dfT v k j
theorem dfT_hi {v : Nat → Int} {k j : Nat} (h : k + 1 ≤ j) : dfT v (k + 1) j = (dfT v k j - dfT v k (j - 1)) % 10007 := if_pos h
theorem dfT_lo {v : Nat → Int} {k j : Nat} (h : ¬ k + 1 ≤ j) : dfT v (k + 1) j = dfT v k j := if_neg h
theorem dfT_rok {v : Nat → Int} (h : rok v) : ∀ k, rok (dfT v k)
  | 0 => h
  | k + 1 => fun j hj => by
    have h1 := dfT_rok h k j hj
    unfold dfT
    split
    · omega
    · exact h1
set_option maxRecDepth 100000 in
theorem ok_valuesToDifferences (A : Nat → Nat → Int) (r : rok (A 29)) (N : Nat) : OkR mX0_valuesToDifferences [.ref 3] N (mA A) none (mA (va_up A 29 (dfT (A 29) 9))) := by
  have h29 : ∀ f, cel 29 f = (6, vals 10 f) := fun _ => rfl
  refine OkM.of [some (.ref 3), none, none] (by decide +kernel) rfl (Nat.le_of_ble_eq_true rfl) ?_
  intro X E F
  refine z_iconst E dX0_valuesToDifferences_0 ?_
  refine z_istore_n (ls' := [_, _, _]) E rfl dX0_valuesToDifferences_1 (Nat.le_of_ble_eq_true rfl) rfl ?_
  have loop : ∀ (q k : Nat), k + q = 9 → ∀ (l2 : Option Value) (A' : Nat → Nat → Int), A' = va_up A 29 (dfT (A 29) k) → Zc X 2 [some (.ref 3), some (.int (iI ((k : Int) + 1))), l2] [] N (mA A') 0 0 := by
    intro q
    induction q with
    | zero =>
      intro k hk l2 A' hA
      have hk2 : k = 9 := by omega
      subst hk2
      refine z_iload_n E dX0_valuesToDifferences_2 rfl ?_
      refine z_bipush E (by decide) dX0_valuesToDifferences_3 ?_
      refine z_icmp_ge (tgt := 52) E (by omega) (by omega) dX0_valuesToDifferences_5 (by decide) (fun h5 => ?_) (fun h5 => ?_)
      · exact z_vret E F dX0_valuesToDifferences_52 ⟨rfl, by rw [hA]⟩
      · omega
    | succ q ih =>
      intro k hk l2 A' hA
      refine z_iload_n E dX0_valuesToDifferences_2 rfl ?_
      refine z_bipush E (by decide) dX0_valuesToDifferences_3 ?_
      refine z_icmp_ge (tgt := 52) E (by omega) (by omega) dX0_valuesToDifferences_5 (by decide) (fun h5 => ?_) (fun h5 => ?_)
      · omega
      · refine z_bipush E (by decide) dX0_valuesToDifferences_8 ?_
        refine z_istore_n (ls' := [_, _, _]) E rfl dX0_valuesToDifferences_10 (Nat.le_of_ble_eq_true rfl) rfl ?_
        have inner2 : ∀ (d i : Nat), i = k + d → i ≤ 9 → ∀ A2 : Nat → Nat → Int, A2 = va_up A 29 (fun j => if j ≤ i then dfT (A 29) k j else dfT (A 29) (k + 1) j) → Zc X 11 [some (.ref 3), some (.int (iI ((k : Int) + 1))), some (.int (iI (i : Int)))] [] N (mA A2) 0 0 := by
          intro d
          induction d with
          | zero =>
            intro i hi h9 A2 hA2
            refine z_iload_n E dX0_valuesToDifferences_11 rfl ?_
            refine z_iload_n E dX0_valuesToDifferences_12 rfl ?_
            refine z_icmp_lt (tgt := 46) E (by omega) (by omega) dX0_valuesToDifferences_13 (by decide) (fun h13 => ?_) (fun h13 => ?_)
            · refine z_iinc (ls' := [_, _, _]) E dX0_valuesToDifferences_46 rfl rfl ?_
              refine z_goto (tgt := 2) E dX0_valuesToDifferences_49 (by decide) ?_
              rw [ei]
              refine ih (k + 1) (by omega) _ _ ?_
              rw [hA2]
              refine congrArg (va_up A 29) (funext fun j => ?_)
              by_cases e : j ≤ i
              · rw [if_pos e, dfT_lo (by omega)]
              · rw [if_neg e]
            · omega
          | succ d ihd =>
            intro i hi h9 A2 hA2
            have e1 : ∀ j, j ≤ i → A2 29 j = dfT (A 29) k j := fun j hj => by rw [hA2, va_up_self, if_pos hj]
            have r1 := dfT_rok r k i (by omega)
            have r2 := dfT_rok r k (i - 1) (by omega)
            refine z_iload_n E dX0_valuesToDifferences_11 rfl ?_
            refine z_iload_n E dX0_valuesToDifferences_12 rfl ?_
            refine z_icmp_lt (tgt := 46) E (by omega) (by omega) dX0_valuesToDifferences_13 (by decide) (fun h13 => ?_) (fun h13 => ?_)
            · omega
            · refine z_aload_n E dX0_valuesToDifferences_16 rfl ?_
              refine z_get E dX0_valuesToDifferences_17 (by rfl) flX0_29 (by rfl) ?_
              refine z_iload_n E dX0_valuesToDifferences_20 rfl ?_
              refine z_aload_n E dX0_valuesToDifferences_21 rfl ?_
              refine z_get E dX0_valuesToDifferences_22 (by rfl) flX0_29 (by rfl) ?_
              refine z_iload_n E dX0_valuesToDifferences_25 rfl ?_
              refine a_iald (j := i) E dX0_valuesToDifferences_26 (fun _ => rfl) (by omega) (by omega) (by omega) ?_
              refine z_aload_n E dX0_valuesToDifferences_27 rfl ?_
              refine z_get E dX0_valuesToDifferences_28 (by rfl) flX0_29 (by rfl) ?_
              refine z_iload_n E dX0_valuesToDifferences_31 rfl ?_
              refine z_iconst E dX0_valuesToDifferences_32 ?_
              refine z_isub E dX0_valuesToDifferences_33 ?_
              refine a_iald (j := i - 1) E dX0_valuesToDifferences_34 (fun _ => rfl) (by omega) (by omega) (by omega) ?_
              refine z_isub E dX0_valuesToDifferences_35 ?_
              rw [e1 i (by omega), e1 (i - 1) (by omega)]
              refine c_S E dX0_valuesToDifferences_36 lkX0_78 (ok_of _ ⟨by omega, by omega⟩ N (mA A2)) rfl rfl rfl (Nat.le_of_ble_eq_true rfl) ⟨(Nat.le_of_ble_eq_true rfl), (Nat.le_of_ble_eq_true rfl)⟩ ⟨rfl, rfl⟩ ⟨Nat.zero_le _, Nat.zero_le _⟩ ?_
              refine a_iast (j := i) E dX0_valuesToDifferences_39 (fun _ => rfl) (by omega) (by omega) (by omega) ?_
              refine z_iinc (ls' := [_, _, _]) E dX0_valuesToDifferences_40 rfl rfl ?_
              refine z_goto (tgt := 11) E dX0_valuesToDifferences_43 (by decide) ?_
              rw [show (i : Int) + -1 = ((i - 1 : Nat) : Int) by omega]
              refine ihd (i - 1) (by omega) (by omega) _ ?_
              rw [hA2, va_uu, va_up_self]
              refine congrArg (va_up A 29) (funext fun j => ?_)
              by_cases e2 : j = i
              · subst e2; rw [up_eq, if_neg (by omega), dfT_hi (by omega)]
              · rw [up_ne _ _ e2]
                by_cases e3 : j ≤ i - 1
                · rw [if_pos e3, if_pos (by omega)]
                · rw [if_neg e3, if_neg (by omega)]
        refine z_mem ?_ (inner2 (9 - k) 9 (by omega) (by omega) _ rfl)
        rw [hA]
        exact row_eq h29 (fun j hj => (if_pos (by omega)).symm)
  refine z_mem ?_ (loop 9 0 (by omega) none _ rfl)
  exact (row_id h29 (fun j hj => rfl)).symm
/-- a polynomial's ten values from a on, and their differences -/
def vlS (c : Nat → Int) (a : Int) (i : Nat) : Int := hv c ((a % 10007 + (i : Int)) % 10007) 10
def fdS (c : Nat → Int) (a : Int) : Nat → Int := dfT (vlS c a) 9
theorem vlS_rok (c : Nat → Int) (a : Int) : rok (vlS c a) := fun j _ => hv_in _ _ _
set_option maxRecDepth 100000 in
theorem ok_fillDifferencesAt {s : Nat} (hs : SerK s) (A : Nat → Nat → Int) (ra : rok (A (s + 1))) (a : Int) (ha : inR a) (N : Nat) : OkR mX0_fillDifferencesAt [.ref 3, .ref s, .int (iI a)] N (mA A) none (mA (va_up A 29 (fdS (A (s + 1)) a))) := by
  have h29 : ∀ f, cel 29 f = (6, vals 10 f) := fun _ => rfl
  refine OkM.of [some (.ref 3), some (.ref s), some (.int (iI a)), none, none] (by decide +kernel) rfl (Nat.le_of_ble_eq_true rfl) ?_
  intro X E F
  refine z_iload_n E dX0_fillDifferencesAt_0 rfl ?_
  refine c_S E dX0_fillDifferencesAt_1 lkX0_78 (ok_of a ha N (mA A)) rfl rfl rfl (Nat.le_of_ble_eq_true rfl) ⟨(Nat.le_of_ble_eq_true rfl), (Nat.le_of_ble_eq_true rfl)⟩ ⟨rfl, rfl⟩ ⟨Nat.zero_le _, Nat.zero_le _⟩ ?_
  refine z_istore_n (ls' := [_, _, _, _, _]) E rfl dX0_fillDifferencesAt_4 (Nat.le_of_ble_eq_true rfl) rfl ?_
  refine z_iconst E dX0_fillDifferencesAt_5 ?_
  refine z_istore (ls' := [_, _, _, _, _]) E dX0_fillDifferencesAt_6 (Nat.le_of_ble_eq_true rfl) rfl ?_
  have loop : ∀ (m i : Nat), i + m = 10 → ∀ A' : Nat → Nat → Int, A' = va_up A 29 (fun j => if j < i then vlS (A (s + 1)) a j else A 29 j) → Zc X 8 [some (.ref 3), some (.ref s), some (.int (iI a)), some (.int (iI (a % 10007))), some (.int (iI (i : Int)))] [] N (mA A') 0 0 := by
    intro m
    induction m with
    | zero =>
      intro i hi A' hA
      have hi2 : i = 10 := by omega
      subst hi2
      refine z_iload E dX0_fillDifferencesAt_8 rfl ?_
      refine z_bipush E (by decide) dX0_fillDifferencesAt_10 ?_
      refine z_icmp_ge (tgt := 36) E (by omega) (by omega) dX0_fillDifferencesAt_12 (by decide) (fun h12 => ?_) (fun h12 => ?_)
      · refine z_aload_n E dX0_fillDifferencesAt_36 rfl ?_
        refine z_mem (g' := mA (va_up A 29 (vlS (A (s + 1)) a))) (by rw [hA]; exact row_eq h29 (fun j hj => if_pos hj)) ?_
        refine c_V0 E dX0_fillDifferencesAt_37 lkX0_135 (ok_valuesToDifferences (va_up A 29 (vlS (A (s + 1)) a)) (by rw [va_up_self]; exact vlS_rok _ _) N) (by rfl) rfl rfl rfl (Nat.le_of_ble_eq_true rfl) ⟨(Nat.le_of_ble_eq_true rfl), (Nat.le_of_ble_eq_true rfl)⟩ ⟨rfl, rfl⟩ ⟨Nat.zero_le _, Nat.zero_le _⟩ ?_
        rw [va_uu, va_up_self]
        exact z_vret E F dX0_fillDifferencesAt_40 ⟨rfl, rfl⟩
      · omega
    | succ m ih =>
      intro i hi A' hA
      have es : A' (s + 1) = A (s + 1) := by rw [hA, va_up_ne _ _ (by have := hs.1; have := hs.2; omega)]
      refine z_iload E dX0_fillDifferencesAt_8 rfl ?_
      refine z_bipush E (by decide) dX0_fillDifferencesAt_10 ?_
      refine z_icmp_ge (tgt := 36) E (by omega) (by omega) dX0_fillDifferencesAt_12 (by decide) (fun h12 => ?_) (fun h12 => ?_)
      · omega
      · refine z_aload_n E dX0_fillDifferencesAt_15 rfl ?_
        refine z_get E dX0_fillDifferencesAt_16 (by rfl) flX0_29 (by rfl) ?_
        refine z_iload E dX0_fillDifferencesAt_19 rfl ?_
        refine z_aload_n E dX0_fillDifferencesAt_21 rfl ?_
        refine z_iload_n E dX0_fillDifferencesAt_22 rfl ?_
        refine z_iload E dX0_fillDifferencesAt_23 rfl ?_
        refine z_iadd E dX0_fillDifferencesAt_25 ?_
        refine c_V E dX0_fillDifferencesAt_26 lkX0_124 (ok_valueAt hs A' (by rw [es]; exact ra) _ ⟨by omega, by omega⟩ N) (cel_ser hs _) rfl rfl rfl (Nat.le_of_ble_eq_true rfl) ⟨(Nat.le_of_ble_eq_true rfl), (Nat.le_of_ble_eq_true rfl)⟩ ⟨rfl, rfl⟩ ⟨Nat.zero_le _, Nat.zero_le _⟩ ?_
        rw [es]
        refine a_iast (j := i) E dX0_fillDifferencesAt_29 (fun _ => rfl) (by omega) (by omega) (by omega) ?_
        refine z_iinc (ls' := [_, _, _, _, _]) E dX0_fillDifferencesAt_30 rfl rfl ?_
        refine z_goto (tgt := 8) E dX0_fillDifferencesAt_33 (by decide) ?_
        rw [ei]
        refine ih (i + 1) (by omega) _ ?_
        rw [hA, va_uu, va_up_self]
        refine congrArg (va_up A 29) (funext fun j => ?_)
        by_cases e2 : j = i
        · subst e2; rw [up_eq, if_pos (by omega)]; rfl
        · rw [up_ne _ _ e2]
          by_cases e3 : j < i
          · rw [if_pos e3, if_pos (by omega)]
          · rw [if_neg e3, if_neg (by omega)]
  refine z_mem ?_ (loop 10 0 (by omega) _ rfl)
  exact (row_id h29 (fun j hj => if_neg (by omega))).symm
theorem ok_differenceAt {s : Nat} (hs : SerK s) (A : Nat → Nat → Int) (ra : rok (A (s + 1))) (k : Nat) (hk : k < 10) (a : Int) (ha : inR a) (N : Nat) : OkR mX0_differenceAt [.ref 3, .ref s, .int (iI (k : Int)), .int (iI a)] N (mA A) (some (.int (iI (fdS (A (s + 1)) a k)))) (mA (va_up A 29 (fdS (A (s + 1)) a))) := by
  refine OkM.of [some (.ref 3), some (.ref s), some (.int (iI (k : Int))), some (.int (iI a))] (by decide +kernel) rfl (Nat.le_of_ble_eq_true rfl) ?_
  intro X E F
  refine z_aload_n E dX0_differenceAt_0 rfl ?_
  refine z_aload_n E dX0_differenceAt_1 rfl ?_
  refine z_iload_n E dX0_differenceAt_2 rfl ?_
  refine c_V0 E dX0_differenceAt_3 lkX0_131 (ok_fillDifferencesAt hs A ra a ha N) (by rfl) rfl rfl rfl (Nat.le_of_ble_eq_true rfl) ⟨(Nat.le_of_ble_eq_true rfl), (Nat.le_of_ble_eq_true rfl)⟩ ⟨rfl, rfl⟩ ⟨Nat.zero_le _, Nat.zero_le _⟩ ?_
  refine z_aload_n E dX0_differenceAt_6 rfl ?_
  refine z_get E dX0_differenceAt_7 (by rfl) flX0_29 (by rfl) ?_
  refine z_iload_n E dX0_differenceAt_10 rfl ?_
  refine a_iald (j := k) E dX0_differenceAt_11 (fun _ => rfl) (by omega) (by omega) (by omega) ?_
  rw [va_up_self]
  exact z_iret E F dX0_differenceAt_12 ⟨rfl, rfl⟩
/-- (top over k), and the sum -/
def suC (top : Int) : Nat → Int
  | 0 => 1
  | k + 1 => suC top k * ((top - (k : Int)) % 10007) % 10007 * pw ((k + 1 : Nat) : Int) 10005 % 10007
def suT (d : Nat → Int) (top : Int) : Nat → Int
  | 0 => 0
  | k + 1 => (suT d top k + d k * suC top (k + 1)) % 10007
theorem suC_in (top : Int) : ∀ k, 0 ≤ suC top k ∧ suC top k < 10007
  | 0 => by simp [suC]
  | k + 1 => by simp only [suC]; omega
theorem suT_in (d : Nat → Int) (top : Int) : ∀ k, 0 ≤ suT d top k ∧ suT d top k < 10007
  | 0 => by simp [suT]
  | k + 1 => by simp only [suT]; omega
set_option maxRecDepth 100000 in
theorem ok_summed {s : Nat} (hs : SerK s) (A : Nat → Nat → Int) (hK : KA A) (ra : rok (A (s + 1))) (a : Int) (ha : inR a) (many : Int) (hm : inR many) (N : Nat) : OkR mX0_summed [.ref 3, .ref s, .int (iI a), .int (iI many)] N (mA A) (some (.int (iI (suT (fdS (A (s + 1)) a) (many % 10007) 10)))) (mA (va_up A 29 (fdS (A (s + 1)) a))) := by
  refine OkM.of [some (.ref 3), some (.ref s), some (.int (iI a)), some (.int (iI many)), none, none, none, none] (by decide +kernel) rfl (Nat.le_of_ble_eq_true rfl) ?_
  intro X E F
  refine z_aload_n E dX0_summed_0 rfl ?_
  refine z_aload_n E dX0_summed_1 rfl ?_
  refine z_iload_n E dX0_summed_2 rfl ?_
  refine c_V0 E dX0_summed_3 lkX0_131 (ok_fillDifferencesAt hs A ra a ha N) (by rfl) rfl rfl rfl (Nat.le_of_ble_eq_true rfl) ⟨(Nat.le_of_ble_eq_true rfl), (Nat.le_of_ble_eq_true rfl)⟩ ⟨rfl, rfl⟩ ⟨Nat.zero_le _, Nat.zero_le _⟩ ?_
  refine z_iload_n E dX0_summed_6 rfl ?_
  refine c_S E dX0_summed_7 lkX0_78 (ok_of many hm N _) rfl rfl rfl (Nat.le_of_ble_eq_true rfl) ⟨(Nat.le_of_ble_eq_true rfl), (Nat.le_of_ble_eq_true rfl)⟩ ⟨rfl, rfl⟩ ⟨Nat.zero_le _, Nat.zero_le _⟩ ?_
  have rd : rok (fdS (A (s + 1)) a) := dfT_rok (vlS_rok _ _) 9
  have hK' : KA (va_up A 29 (fdS (A (s + 1)) a)) := hK.up (by omega)
  have e29 : va_up A 29 (fdS (A (s + 1)) a) 29 = fdS (A (s + 1)) a := va_up_self _ _ _
  generalize fdS (A (s + 1)) a = d at *
  generalize va_up A 29 d = A2 at *
  refine z_istore (ls' := [_, _, _, _, _, _, _, _]) E dX0_summed_10 (Nat.le_of_ble_eq_true rfl) rfl ?_
  refine z_iconst E dX0_summed_12 ?_
  refine z_istore (ls' := [_, _, _, _, _, _, _, _]) E dX0_summed_13 (Nat.le_of_ble_eq_true rfl) rfl ?_
  refine z_iconst E dX0_summed_15 ?_
  refine z_istore (ls' := [_, _, _, _, _, _, _, _]) E dX0_summed_16 (Nat.le_of_ble_eq_true rfl) rfl ?_
  refine z_iconst E dX0_summed_18 ?_
  refine z_istore (ls' := [_, _, _, _, _, _, _, _]) E dX0_summed_19 (Nat.le_of_ble_eq_true rfl) rfl ?_
  have ht : 0 ≤ many % 10007 ∧ many % 10007 < 10007 := by omega
  generalize many % 10007 = top at *
  have loop : ∀ (m k : Nat), k + m = 10 → Zc X 21 [some (.ref 3), some (.ref s), some (.int (iI a)), some (.int (iI many)), some (.int (iI top)), some (.int (iI (suC top k))), some (.int (iI (suT d top k))), some (.int (iI (k : Int)))] [] N (mA A2) 0 0 := by
    intro m
    induction m with
    | zero =>
      intro k hk
      have hk2 : k = 10 := by omega
      subst hk2
      refine z_iload E dX0_summed_21 rfl ?_
      refine z_bipush E (by decide) dX0_summed_23 ?_
      refine z_icmp_ge (tgt := 84) E (by omega) (by omega) dX0_summed_25 (by decide) (fun h25 => ?_) (fun h25 => ?_)
      · refine z_iload E dX0_summed_84 rfl ?_
        exact z_iret E F dX0_summed_86 ⟨rfl, rfl⟩
      · omega
    | succ m ih =>
      intro k hk
      have e4 := hK'.1 (k + 1) (by omega) (by omega)
      have p1 := mul_in (suC_in top k) (b := (top - (k : Int)) % 10007) (by omega)
      have p2 := mul_in (a := suC top k * ((top - (k : Int)) % 10007) % 10007) (by omega) (pw_in ((k + 1 : Nat) : Int) 10005)
      have p3 := mul_in (rd k (by omega)) (suC_in top (k + 1))
      have p4 := suT_in d top k
      refine z_iload E dX0_summed_21 rfl ?_
      refine z_bipush E (by decide) dX0_summed_23 ?_
      refine z_icmp_ge (tgt := 84) E (by omega) (by omega) dX0_summed_25 (by decide) (fun h25 => ?_) (fun h25 => ?_)
      · omega
      · refine z_iload E dX0_summed_28 rfl ?_
        refine z_iload E dX0_summed_30 rfl ?_
        refine z_iload E dX0_summed_32 rfl ?_
        refine z_isub E dX0_summed_34 ?_
        refine c_S E dX0_summed_35 lkX0_78 (ok_of (top - (k : Int)) ⟨by omega, by omega⟩ N (mA A2)) rfl rfl rfl (Nat.le_of_ble_eq_true rfl) ⟨(Nat.le_of_ble_eq_true rfl), (Nat.le_of_ble_eq_true rfl)⟩ ⟨rfl, rfl⟩ ⟨Nat.zero_le _, Nat.zero_le _⟩ ?_
        refine z_imul E dX0_summed_38 ?_
        refine z_sipush E (by decide) dX0_summed_39 ?_
        refine z_irem E (by omega) (by omega) (by omega) (Int.tmod_eq_emod_of_nonneg (by omega)) dX0_summed_42 ?_
        refine z_aload_n E dX0_summed_43 rfl ?_
        refine z_get E dX0_summed_44 (by rfl) flX0_9 (by rfl) ?_
        refine z_iload E dX0_summed_47 rfl ?_
        refine z_iconst E dX0_summed_49 ?_
        refine z_iadd E dX0_summed_50 ?_
        refine a_iald (j := k + 1) E dX0_summed_51 (fun _ => rfl) (by omega) (by omega) (by omega) ?_
        rw [e4]
        refine z_imul E dX0_summed_52 ?_
        refine z_sipush E (by decide) dX0_summed_53 ?_
        refine z_irem E (by omega) (by omega) (by omega) (Int.tmod_eq_emod_of_nonneg (by omega)) dX0_summed_56 ?_
        refine z_istore (ls' := [_, _, _, _, _, _, _, _]) E dX0_summed_57 (Nat.le_of_ble_eq_true rfl) rfl ?_
        refine z_iload E dX0_summed_59 rfl ?_
        refine z_aload_n E dX0_summed_61 rfl ?_
        refine z_get E dX0_summed_62 (by rfl) flX0_29 (by rfl) ?_
        refine z_iload E dX0_summed_65 rfl ?_
        refine a_iald (j := k) E dX0_summed_67 (fun _ => rfl) (by omega) (by omega) (by omega) ?_
        rw [e29]
        change Zc X _ [_, _, _, _, _, some (.int (iI (suC top (k + 1)))), _, _] _ _ _ _ _
        refine z_iload E dX0_summed_68 rfl ?_
        refine z_imul E dX0_summed_70 ?_
        refine z_iadd E dX0_summed_71 ?_
        refine z_sipush E (by decide) dX0_summed_72 ?_
        refine z_irem E (by omega) (by omega) (by omega) (Int.tmod_eq_emod_of_nonneg (by omega)) dX0_summed_75 ?_
        refine z_istore (ls' := [_, _, _, _, _, _, _, _]) E dX0_summed_76 (Nat.le_of_ble_eq_true rfl) rfl ?_
        refine z_iinc (ls' := [_, _, _, _, _, _, _, _]) E dX0_summed_78 rfl rfl ?_
        refine z_goto (tgt := 21) E dX0_summed_81 (by decide) ?_
        rw [ei]
        exact ih (k + 1) (by omega)
  exact loop 10 0 (by omega)
/-- Newton's form, from the highest difference down -/
def thS (d : Nat → Int) (many : Nat) : Nat → (Nat → Int)
  | 0 => conS 0
  | c + 1 => up (tfS ((many - 1 - c : Nat) : Int) (thS d many c)) 0 ((tfS ((many - 1 - c : Nat) : Int) (thS d many c) 0 + d (many - 1 - c) * ifc (many - 1 - c) % 10007) % 10007)
theorem thS_rok (d : Nat → Int) (many : Nat) : ∀ c, rok (thS d many c)
  | 0 => conS_rok (by omega)
  | c + 1 => up_rok (tfS_rok _ _) (by omega)
set_option maxRecDepth 100000 in
theorem ok_throughValues {s o : Nat} (hs : SerK s) (ho : SerK o) (h31 : o ≠ 30) (A : Nat → Nat → Int) (hK : KA A) (ra : rok (A (s + 1))) (many : Nat) (hm : 1 ≤ many ∧ many ≤ 10) (N : Nat) : OkR mX0_throughValues [.ref 3, .ref s, .int (iI (many : Int)), .ref o] N (mA A) none (mA (va_up (va_up A 29 (dfT (A (s + 1)) 9)) (o + 1) (thS (dfT (A (s + 1)) 9) many many))) := by
  have h29 : ∀ f, cel 29 f = (6, vals 10 f) := fun _ => rfl
  have ho1 := ho.1
  have ho2 := ho.2
  refine OkM.of [some (.ref 3), some (.ref s), some (.int (iI (many : Int))), some (.ref o), none, none] (by decide +kernel) rfl (Nat.le_of_ble_eq_true rfl) ?_
  intro X E F
  refine z_aload_n E dX0_throughValues_0 rfl ?_
  refine z_get E dX0_throughValues_1 (cel_ser hs _) flX0_61 (by rfl) ?_
  refine z_iconst E dX0_throughValues_4 ?_
  refine z_aload_n E dX0_throughValues_5 rfl ?_
  refine z_get E dX0_throughValues_6 (by rfl) flX0_29 (by rfl) ?_
  refine z_iconst E dX0_throughValues_9 ?_
  refine z_bipush E (by decide) dX0_throughValues_10 ?_
  refine z_copy (sp := 0) (dp := 0) (n := 10) E dX0_throughValues_12 lkX0_138 (cel_row hs _) (h29 _) rfl rfl rfl (by omega) (by omega) (by omega) rfl (Nat.le_of_ble_eq_true rfl) (Nat.le_of_ble_eq_true rfl) ?_
  rw [← h29, mA_up]
  refine z_mem (row_eq (h := A (s + 1)) h29 (fun j hj => ?_)) ?_
  · unfold cpy; rw [if_pos ⟨by omega, by omega⟩]; simp
  refine z_aload_n E dX0_throughValues_15 rfl ?_
  refine c_V0 E dX0_throughValues_16 lkX0_135 (ok_valuesToDifferences (va_up A 29 (A (s + 1))) (by rw [va_up_self]; exact ra) N) (by rfl) rfl rfl rfl (Nat.le_of_ble_eq_true rfl) ⟨(Nat.le_of_ble_eq_true rfl), (Nat.le_of_ble_eq_true rfl)⟩ ⟨rfl, rfl⟩ ⟨Nat.zero_le _, Nat.zero_le _⟩ ?_
  rw [va_uu, va_up_self]
  have rd : rok (dfT (A (s + 1)) 9) := dfT_rok ra 9
  have hK' : KA (va_up A 29 (dfT (A (s + 1)) 9)) := hK.up (by omega)
  have e29 : va_up A 29 (dfT (A (s + 1)) 9) 29 = dfT (A (s + 1)) 9 := va_up_self _ _ _
  generalize dfT (A (s + 1)) 9 = d at *
  generalize va_up A 29 d = A2 at *
  refine z_aload_n E dX0_throughValues_19 rfl ?_
  refine z_iconst E dX0_throughValues_20 ?_
  refine c_V0 E dX0_throughValues_21 lkX0_51 (ok_becomeConstant ho A2 0 N) (cel_ser ho _) rfl rfl rfl (Nat.le_of_ble_eq_true rfl) ⟨(Nat.le_of_ble_eq_true rfl), (Nat.le_of_ble_eq_true rfl)⟩ ⟨rfl, rfl⟩ ⟨Nat.zero_le _, Nat.zero_le _⟩ ?_
  refine z_iload_n E dX0_throughValues_24 rfl ?_
  refine z_iconst E dX0_throughValues_25 ?_
  refine z_isub E dX0_throughValues_26 ?_
  refine z_istore (ls' := [_, _, _, _, _, _]) E dX0_throughValues_27 (Nat.le_of_ble_eq_true rfl) rfl ?_
  have loop : ∀ (q c : Nat), c + q = many → ∀ (l5 : Option Value) (A' : Nat → Nat → Int), A' = va_up A2 (o + 1) (thS d many c) → Zc X 29 [some (.ref 3), some (.ref s), some (.int (iI (many : Int))), some (.ref o), some (.int (iI ((many : Int) - 1 - (c : Int)))), l5] [] N (mA A') 0 0 := by
    intro q
    induction q with
    | zero =>
      intro c hc l5 A' hA
      have hc2 : c = many := by omega
      subst hc2
      refine z_iload E dX0_throughValues_29 rfl ?_
      refine z_if_lt (tgt := 86) E (by omega) dX0_throughValues_31 (by decide) (fun h31 => ?_) (fun h31 => ?_)
      · exact z_vret E F dX0_throughValues_86 ⟨rfl, by rw [hA]⟩
      · omega
    | succ q ih =>
      intro c hc l5 A' hA
      have eo : A' (o + 1) = thS d many c := by rw [hA, va_up_self]
      have e9 : ∀ f, va_up A' (o + 1) f 29 = d := fun f => by rw [va_up_ne _ _ (by omega), hA, va_up_ne _ _ (by omega)]; exact e29
      have e6 : ∀ f, va_up A' (o + 1) f 6 (many - 1 - c) = ifc (many - 1 - c) := fun f => by rw [va_up_ne _ _ (by omega), hA, va_up_ne _ _ (by omega)]; exact hK'.2.2.1 _ (by omega)
      have p1 := mul_in (rd (many - 1 - c) (by omega)) (ifc_in (many - 1 - c))
      have p2 := tfS_rok ((many - 1 - c : Nat) : Int) (thS d many c) 0 (by omega)
      have ex : (many : Int) - 1 - (c : Int) = ((many - 1 - c : Nat) : Int) := by omega
      rw [ex]
      refine z_iload E dX0_throughValues_29 rfl ?_
      refine z_if_lt (tgt := 86) E (by omega) dX0_throughValues_31 (by decide) (fun h31 => ?_) (fun h31 => ?_)
      · omega
      · refine z_aload_n E dX0_throughValues_34 rfl ?_
        refine z_iload E dX0_throughValues_35 rfl ?_
        refine c_V0 E dX0_throughValues_37 lkX0_144 (ok_becomeTimesFactor ho A' (by rw [eo]; exact thS_rok d many c) ((many - 1 - c : Nat) : Int) (by omega) N) (cel_ser ho _) rfl rfl rfl (Nat.le_of_ble_eq_true rfl) ⟨(Nat.le_of_ble_eq_true rfl), (Nat.le_of_ble_eq_true rfl)⟩ ⟨rfl, rfl⟩ ⟨Nat.zero_le _, Nat.zero_le _⟩ ?_
        rw [eo]
        refine z_aload_n E dX0_throughValues_40 rfl ?_
        refine z_get E dX0_throughValues_41 (by rfl) flX0_29 (by rfl) ?_
        refine z_iload E dX0_throughValues_44 rfl ?_
        refine a_iald (j := many - 1 - c) E dX0_throughValues_46 (fun _ => rfl) (by omega) (by omega) (by omega) ?_
        refine z_aload_n E dX0_throughValues_47 rfl ?_
        refine z_get E dX0_throughValues_48 (by rfl) flX0_18 (by rfl) ?_
        refine z_iload E dX0_throughValues_51 rfl ?_
        refine a_iald (j := many - 1 - c) E dX0_throughValues_53 (fun _ => rfl) (by omega) (by omega) (by omega) ?_
        rw [e9, e6]
        refine z_imul E dX0_throughValues_54 ?_
        refine z_sipush E (by decide) dX0_throughValues_55 ?_
        refine z_irem E (by omega) (by omega) (by omega) (Int.tmod_eq_emod_of_nonneg (by omega)) dX0_throughValues_58 ?_
        refine z_istore (ls' := [_, _, _, _, _, _]) E dX0_throughValues_59 (Nat.le_of_ble_eq_true rfl) rfl ?_
        refine z_aload_n E dX0_throughValues_61 rfl ?_
        refine z_get E dX0_throughValues_62 (cel_ser ho _) flX0_61 (by rfl) ?_
        refine z_iconst E dX0_throughValues_65 ?_
        refine z_aload_n E dX0_throughValues_66 rfl ?_
        refine z_get E dX0_throughValues_67 (cel_ser ho _) flX0_61 (by rfl) ?_
        refine z_iconst E dX0_throughValues_70 ?_
        refine a_iald (j := 0) E dX0_throughValues_71 (cel_row ho) (by omega) (by omega) (by omega) ?_
        rw [va_up_self]
        refine z_iload E dX0_throughValues_72 rfl ?_
        refine z_iadd E dX0_throughValues_74 ?_
        refine z_sipush E (by decide) dX0_throughValues_75 ?_
        refine z_irem E (by omega) (by omega) (by omega) (Int.tmod_eq_emod_of_nonneg (by omega)) dX0_throughValues_78 ?_
        refine a_iast (j := 0) E dX0_throughValues_79 (cel_row ho) (by omega) (by omega) (by omega) ?_
        refine z_iinc (ls' := [_, _, _, _, _, _]) E dX0_throughValues_80 rfl rfl ?_
        refine z_goto (tgt := 29) E dX0_throughValues_83 (by decide) ?_
        rw [va_uu, va_up_self]
        rw [show ((many - 1 - c : Nat) : Int) + -1 = (many : Int) - 1 - ((c + 1 : Nat) : Int) by omega]
        refine ih (c + 1) (by omega) _ _ ?_
        rw [hA, va_uu]
        rfl
  refine Eq.mp ?_ (loop many 0 (by omega) none _ rfl)
  rw [show (many : Int) - 1 - ((0 : Nat) : Int) = (many : Int) - 1 by omega]
  rfl
end
section
/-! LADDERS: built, lowered, told in one another, BINOMIAL -/
def buB (G F : Nat → Int) : Nat → (Nat → Int)
  | 0 => obS G (tuS F)
  | k + 1 => mulS (buB G F k) (tuS F)
theorem buB_rok (G F : Nat → Int) : ∀ k, rok (buB G F k)
  | 0 => qS_rok _ _
  | k + 1 => mulS_rok _ _
def blS (G F : Nat → Int) (n k : Nat) : Int := buB G F k n * fcl n % 10007 * ifc k % 10007
def OffB (A A' : Nat → Nat → Int) (l : Nat) : Prop := ∀ q, q ≠ 33 → q ≠ 35 → q ≠ 37 → q ≠ 39 → ¬ (68 + 22 * l ≤ q ∧ q < 90 + 22 * l) → A' q = A q
theorem KA.offB {A A' : Nat → Nat → Int} {l : Nat} (h : KA A) (ho : OffB A A' l) : KA A' := by
  have e : ∀ k, (k < 18 ∨ k = 31) → A' k = A k := fun k hk => ho k (by omega) (by omega) (by omega) (by omega) (by omega)
  refine ⟨fun n h1 h2 => by rw [e 4 (by omega)]; exact h.1 n h1 h2, fun n hn => by rw [e 5 (by omega)]; exact h.2.1 n hn, fun n hn => by rw [e 6 (by omega)]; exact h.2.2.1 n hn, by rw [e 31 (by omega)]; exact h.2.2.2.1, fun n k hk hn => by rw [e (8 + n) (by omega)]; exact h.2.2.2.2 n k hk hn⟩
set_option maxRecDepth 100000 in
theorem ok_build {l p f : Nat} (hl : l < 4) (hp : SerK p) (hf : SerK f) (hp2 : 40 ≤ p ∧ p < 52) (hf2 : 40 ≤ f ∧ f < 52) (A : Nat → Nat → Int) (hK : KA A) (ra : rok (A (p + 1))) (rb : rok (A (f + 1))) (N : Nat) :
    OkQ mX0_build [.ref 3, .ref (68 + 22 * l), .ref p, .ref f] N (mA A) (fun g' => ∃ A', g' = mA A' ∧ (∀ n k, n < 10 → k < 10 → A' (70 + 22 * l + 2 * n + 1) k = blS (A (p + 1)) (A (f + 1)) n k) ∧ A' (68 + 22 * l) 1 = 1 ∧ OffB A A' l) := by
  have hss := fun n (hn : n < 10) => ser_step hl hn
  generalize hG : A (p + 1) = G at ra ⊢
  generalize hF : A (f + 1) = F' at rb ⊢
  refine OkM.of [some (.ref 3), some (.ref (68 + 22 * l)), some (.ref p), some (.ref f), none, none, none] (by decide +kernel) rfl (Nat.le_of_ble_eq_true rfl) ?_
  intro X E F
  refine z_aload_n E dX0_build_0 rfl ?_
  refine z_aload_n E dX0_build_1 rfl ?_
  refine z_aload_n E dX0_build_2 rfl ?_
  refine z_get E dX0_build_3 (by rfl) flX0_48 (by rfl) ?_
  refine c_V0Q E dX0_build_6 lkX0_97 (ok_turned hf s38 (by omega) (by omega) (by omega) (by omega) A hK (by rw [hF]; exact rb) N) (by rfl) rfl rfl rfl (Nat.le_of_ble_eq_true rfl) ⟨(Nat.le_of_ble_eq_true rfl), (Nat.le_of_ble_eq_true rfl)⟩ ⟨rfl, rfl⟩ ⟨Nat.zero_le _, Nat.zero_le _⟩ (fun g1 hg1 => ?_)
  obtain ⟨A1, rfl, e39, hoff⟩ := hg1
  rw [hF] at e39
  have hK1 : KA A1 := hK.off hoff (by simp)
  have eG : A1 (p + 1) = G := by rw [hoff (p + 1) (by simp; have := hp.1; omega)]; exact hG
  refine z_aload_n E dX0_build_9 rfl ?_
  refine z_aload_n E dX0_build_10 rfl ?_
  refine z_aload_n E dX0_build_11 rfl ?_
  refine z_get E dX0_build_12 (by rfl) flX0_48 (by rfl) ?_
  refine z_aload_n E dX0_build_15 rfl ?_
  refine z_get E dX0_build_16 (by rfl) flX0_42 (by rfl) ?_
  refine c_V0 E dX0_build_19 lkX0_100 (ok_oneByInto hp s38 s34 (by omega) (by omega) (by omega) (by omega) A1 hK1 (by rw [eG]; exact ra) (by rw [e39]; exact tuS_rok _) N) (by rfl) rfl rfl rfl (Nat.le_of_ble_eq_true rfl) ⟨(Nat.le_of_ble_eq_true rfl), (Nat.le_of_ble_eq_true rfl)⟩ ⟨rfl, rfl⟩ ⟨Nat.zero_le _, Nat.zero_le _⟩ ?_
  rw [eG, e39]
  refine z_iconst E dX0_build_22 ?_
  refine z_istore (ls' := [_, _, _, _, _, _, _]) E dX0_build_23 (Nat.le_of_ble_eq_true rfl) rfl ?_
  have loop : ∀ (q k : Nat), k + q = 10 → ∀ (l5 l6 : Option Value) (A' : Nat → Nat → Int), A' 35 = buB G F' k → A' 39 = tuS F' → (∀ n j, n < 10 → j < k → A' (70 + 22 * l + 2 * n + 1) j = blS G F' n j) → OffB A A' l → Zc X 25 [some (.ref 3), some (.ref (68 + 22 * l)), some (.ref p), some (.ref f), some (.int (iI (k : Int))), l5, l6] [] N (mA A') 0 0 := by
    intro q
    induction q with
    | zero =>
      intro k hk l5 l6 A' e35 e39 est hof
      refine z_iload E dX0_build_25 rfl ?_
      refine z_bipush E (by decide) dX0_build_27 ?_
      refine z_icmp_ge (tgt := 120) E (by omega) (by omega) dX0_build_29 (by decide) (fun h29 => ?_) (fun h29 => ?_)
      · refine z_aload_n E dX0_build_120 rfl ?_
        refine z_iconst E dX0_build_121 ?_
        refine a_putZ E dX0_build_122 fpX0_110 (by omega) (cel_lad hl _) (by rw [cel_lad hl]; rfl) ?_
        refine z_vret E F dX0_build_125 ⟨rfl, _, rfl, ?_, ?_, ?_⟩
        · intro n j hn hj
          rw [va_up_ne _ _ (by omega)]
          exact est n j hn (by omega)
        · rw [va_up_self, up_eq]
        · intro q h1 h2 h3 h4 h5
          rw [va_up_ne _ _ (by omega)]
          exact hof q h1 h2 h3 h4 h5
      · omega
    | succ q ih =>
      intro k hk l5 l6 A' e35 e39 est hof
      refine z_iload E dX0_build_25 rfl ?_
      refine z_bipush E (by decide) dX0_build_27 ?_
      refine z_icmp_ge (tgt := 120) E (by omega) (by omega) dX0_build_29 (by decide) (fun h29 => ?_) (fun h29 => ?_)
      · omega
      · refine z_iconst E dX0_build_32 ?_
        refine z_istore (ls' := [_, _, _, _, _, _, _]) E dX0_build_33 (Nat.le_of_ble_eq_true rfl) rfl ?_
        have inner : ∀ (q2 n : Nat), n + q2 = 10 → ∀ (l6 : Option Value) (A' : Nat → Nat → Int), A' 35 = buB G F' k → A' 39 = tuS F' → (∀ m j, m < 10 → j < k → A' (70 + 22 * l + 2 * m + 1) j = blS G F' m j) → (∀ m, m < n → A' (70 + 22 * l + 2 * m + 1) k = blS G F' m k) → OffB A A' l → Zc X 35 [some (.ref 3), some (.ref (68 + 22 * l)), some (.ref p), some (.ref f), some (.int (iI (k : Int))), some (.int (iI (n : Int))), l6] [] N (mA A') 0 0 := by
          intro q2
          induction q2 with
          | zero =>
            intro n hn l6 A' e35 e39 est en hof
            refine z_iload E dX0_build_35 rfl ?_
            refine z_bipush E (by decide) dX0_build_37 ?_
            refine z_icmp_ge (tgt := 99) E (by omega) (by omega) dX0_build_39 (by decide) (fun h39 => ?_) (fun h39 => ?_)
            · refine z_aload_n E dX0_build_99 rfl ?_
              refine z_get E dX0_build_100 (by rfl) flX0_42 (by rfl) ?_
              refine z_aload_n E dX0_build_103 rfl ?_
              refine z_get E dX0_build_104 (by rfl) flX0_42 (by rfl) ?_
              refine z_aload_n E dX0_build_107 rfl ?_
              refine z_get E dX0_build_108 (by rfl) flX0_48 (by rfl) ?_
              refine c_V0 E dX0_build_111 lkX0_85 (ok_becomeTimes s34 s34 s38 A' (by show rok (A' 35); rw [e35]; exact buB_rok _ _ _) (by show rok (A' 39); rw [e39]; exact tuS_rok _) N) (by rfl) rfl rfl rfl (Nat.le_of_ble_eq_true rfl) ⟨(Nat.le_of_ble_eq_true rfl), (Nat.le_of_ble_eq_true rfl)⟩ ⟨rfl, rfl⟩ ⟨Nat.zero_le _, Nat.zero_le _⟩ ?_
              have e9 : mulS (A' (34 + 1)) (A' (38 + 1)) = buB G F' (k + 1) := by show mulS (A' 35) (A' 39) = _; rw [e35, e39]; rfl
              rw [e9]
              refine z_iinc (ls' := [_, _, _, _, _, _, _]) E dX0_build_114 rfl rfl ?_
              refine z_goto (tgt := 25) E dX0_build_117 (by decide) ?_
              rw [ei]
              refine ih (k + 1) (by omega) _ _ _ ?_ ?_ ?_ ?_
              · exact va_up_self _ _ _
              · rw [va_up_ne _ _ (by omega)]; exact e39
              · intro m j hm hj
                rw [va_up_ne _ _ (by omega)]
                by_cases e : j = k
                · subst e; exact en m (by omega)
                · exact est m j hm (by omega)
              · intro q h1 h2 h3 h4 h5
                rw [va_up_ne _ _ (by omega)]
                exact hof q h1 h2 h3 h4 h5
            · omega
          | succ q2 ihn =>
            intro n hn l6 A' e35 e39 est en hof
            have hK' : KA A' := hK.offB hof
            have r1 := buB_rok G F' k n (by omega)
            have e5 := hK'.2.1 n (by omega)
            have e6 := hK'.2.2.1 k (by omega)
            have p1 := mul_in r1 (fcl_in n)
            have p2 := mul_in (a := buB G F' k n * fcl n % 10007) (by omega) (ifc_in k)
            have hsn := hss n (by omega)
            refine z_iload E dX0_build_35 rfl ?_
            refine z_bipush E (by decide) dX0_build_37 ?_
            refine z_icmp_ge (tgt := 99) E (by omega) (by omega) dX0_build_39 (by decide) (fun h39 => ?_) (fun h39 => ?_)
            · omega
            · refine z_aload_n E dX0_build_42 rfl ?_
              refine z_get E dX0_build_43 (by rfl) flX0_42 (by rfl) ?_
              refine z_get E dX0_build_46 (cel_ser s34 _) flX0_61 (by rfl) ?_
              refine z_iload E dX0_build_49 rfl ?_
              refine a_iald (j := n) E dX0_build_51 (fun _ => rfl) (by omega) (by omega) (by omega) ?_
              refine z_aload_n E dX0_build_52 rfl ?_
              refine z_get E dX0_build_53 (by rfl) flX0_15 (by rfl) ?_
              refine z_iload E dX0_build_56 rfl ?_
              refine a_iald (j := n) E dX0_build_58 (fun _ => rfl) (by omega) (by omega) (by omega) ?_
              rw [e35, e5]
              refine z_imul E dX0_build_59 ?_
              refine z_sipush E (by decide) dX0_build_60 ?_
              refine z_irem E (by omega) (by omega) (by omega) (Int.tmod_eq_emod_of_nonneg (by omega)) dX0_build_63 ?_
              refine z_istore (ls' := [_, _, _, _, _, _, _]) E dX0_build_64 (Nat.le_of_ble_eq_true rfl) rfl ?_
              refine z_aload_n E dX0_build_66 rfl ?_
              refine z_get E dX0_build_67 (cel_lad hl _) flX0_104 (by rfl) ?_
              refine z_iload E dX0_build_70 rfl ?_
              refine a_aald (j := n) E dX0_build_72 (cel_steps hl _) (by omega) (by omega) (by omega) (by omega) ?_
              refine z_get E dX0_build_73 (cel_ser hsn _) flX0_61 (by rfl) ?_
              refine z_iload E dX0_build_76 rfl ?_
              refine z_iload E dX0_build_78 rfl ?_
              refine z_aload_n E dX0_build_80 rfl ?_
              refine z_get E dX0_build_81 (by rfl) flX0_18 (by rfl) ?_
              refine z_iload E dX0_build_84 rfl ?_
              refine a_iald (j := k) E dX0_build_86 (fun _ => rfl) (by omega) (by omega) (by omega) ?_
              rw [e6]
              refine z_imul E dX0_build_87 ?_
              refine z_sipush E (by decide) dX0_build_88 ?_
              refine z_irem E (by omega) (by omega) (by omega) (Int.tmod_eq_emod_of_nonneg (by omega)) dX0_build_91 ?_
              refine a_iast (j := k) E dX0_build_92 (cel_row hsn) (by omega) (by omega) (by omega) ?_
              refine z_iinc (ls' := [_, _, _, _, _, _, _]) E dX0_build_93 rfl rfl ?_
              refine z_goto (tgt := 35) E dX0_build_96 (by decide) ?_
              rw [ei]
              refine ihn (n + 1) (by omega) _ _ ?_ ?_ ?_ ?_ ?_
              · rw [va_up_ne _ _ (by omega)]; exact e35
              · rw [va_up_ne _ _ (by omega)]; exact e39
              · intro m j hm hj
                by_cases e : m = n
                · subst e; rw [va_up_self, up_ne _ _ (by omega)]; exact est m j hm hj
                · rw [va_up_ne _ _ (by omega)]; exact est m j hm hj
              · intro m hm
                by_cases e : m = n
                · subst e; rw [va_up_self, up_eq]; rfl
                · rw [va_up_ne _ _ (by omega)]; exact en m (by omega)
              · intro q h1 h2 h3 h4 h5
                rw [va_up_ne _ _ (by omega)]
                exact hof q h1 h2 h3 h4 h5
        exact inner 10 0 (by omega) _ _ e35 e39 est (fun m hm => by omega) hof
  refine loop 10 0 (by omega) _ _ _ ?_ ?_ (fun n j _ hj => by omega) ?_
  · exact va_up_self _ _ _
  · rw [va_up_ne _ _ (by omega), va_up_ne _ _ (by omega)]; exact e39
  · intro q h1 h2 h3 h4 h5
    rw [va_up_ne _ _ (by omega), va_up_ne _ _ (by omega)]
    exact hoff q (by simp; omega)
/-- the first n of so many from n on that p does not hold of; -1 if there is none -/
noncomputable def fnF (p : Nat → Prop) : Nat → Nat → Int
  | 0, _ => -1
  | q + 1, n => @ite Int (p n) (Classical.propDecidable _) (fnF p q (n + 1)) (n : Int)
theorem fnF_t {p : Nat → Prop} {q n : Nat} (h : p n) : fnF p (q + 1) n = fnF p q (n + 1) := @if_pos _ (Classical.propDecidable _) h _ _ _
theorem fnF_f {p : Nat → Prop} {q n : Nat} (h : ¬ p n) : fnF p (q + 1) n = (n : Int) := @if_neg _ (Classical.propDecidable _) h _ _ _
def lwS (a : Nat → Int) (S : Nat → Nat → Int) (n : Nat) : Prop := ∀ i, i < 10 → opS a (S n) i = (n : Int) * S (n - 1) i % 10007
set_option maxRecDepth 100000 in
theorem ok_firstNotLowered {l s : Nat} (hl : l < 4) (hs : SerK s) (hs2 : 40 ≤ s ∧ s < 52) (A : Nat → Nat → Int) (hK : KA A) (ra : rok (A (s + 1))) (rl : ∀ n, n < 10 → rok (A (70 + 22 * l + 2 * n + 1))) (N : Nat) :
    OkI mX0_firstNotLowered [.ref 3, .ref (68 + 22 * l), .ref s] N (mA A) (.int (iI (fnF (lwS (A (s + 1)) (fun n => A (70 + 22 * l + 2 * n + 1))) 9 1))) (fun g' => ∃ R, g' = mA (va_up A 37 R)) := by
  have hss := fun n (hn : n < 10) => ser_step hl hn
  refine OkM.of [some (.ref 3), some (.ref (68 + 22 * l)), some (.ref s), none] (by decide +kernel) rfl (Nat.le_of_ble_eq_true rfl) ?_
  intro X E F
  refine z_iconst E dX0_firstNotLowered_0 ?_
  refine z_istore_n (ls' := [_, _, _, _]) E rfl dX0_firstNotLowered_1 (Nat.le_of_ble_eq_true rfl) rfl ?_
  have loop : ∀ (q n : Nat), n + q = 10 → 1 ≤ n → ∀ A' : Nat → Nat → Int, (∃ R, A' = va_up A 37 R) → fnF (lwS (A (s + 1)) (fun n => A (70 + 22 * l + 2 * n + 1))) q n = fnF (lwS (A (s + 1)) (fun n => A (70 + 22 * l + 2 * n + 1))) 9 1 → Zc X 2 [some (.ref 3), some (.ref (68 + 22 * l)), some (.ref s), some (.int (iI (n : Int)))] [] N (mA A') 0 0 := by
    intro q
    induction q with
    | zero =>
      intro n hn h1 A' hA hv
      refine z_iload_n E dX0_firstNotLowered_2 rfl ?_
      refine z_bipush E (by decide) dX0_firstNotLowered_3 ?_
      refine z_icmp_ge (tgt := 50) E (by omega) (by omega) dX0_firstNotLowered_5 (by decide) (fun h5 => ?_) (fun h5 => ?_)
      · refine z_iconst E dX0_firstNotLowered_50 ?_
        refine z_iret E F dX0_firstNotLowered_51 ⟨by rw [← hv]; rfl, ?_⟩
        obtain ⟨R, hR⟩ := hA
        exact ⟨R, by rw [hR]⟩
      · omega
    | succ q ih =>
      intro n hn h1 A' hA hv
      obtain ⟨R, hR⟩ := hA
      have es : A' (s + 1) = A (s + 1) := by rw [hR, va_up_ne _ _ (by have := hs.1; omega)]
      have el : ∀ m, m < 10 → A' (70 + 22 * l + 2 * m + 1) = A (70 + 22 * l + 2 * m + 1) := fun m hm => by rw [hR, va_up_ne _ _ (by omega)]
      have hK' : KA A' := by rw [hR]; exact hK.up (by omega)
      refine z_iload_n E dX0_firstNotLowered_2 rfl ?_
      refine z_bipush E (by decide) dX0_firstNotLowered_3 ?_
      refine z_icmp_ge (tgt := 50) E (by omega) (by omega) dX0_firstNotLowered_5 (by decide) (fun h5 => ?_) (fun h5 => ?_)
      · omega
      · refine z_aload_n E dX0_firstNotLowered_8 rfl ?_
        refine z_aload_n E dX0_firstNotLowered_9 rfl ?_
        refine z_aload_n E dX0_firstNotLowered_10 rfl ?_
        refine z_get E dX0_firstNotLowered_11 (cel_lad hl _) flX0_104 (by rfl) ?_
        refine z_iload_n E dX0_firstNotLowered_14 rfl ?_
        refine a_aald (j := n) E dX0_firstNotLowered_15 (cel_steps hl _) (by omega) (by omega) (by omega) (by omega) ?_
        refine z_aload_n E dX0_firstNotLowered_16 rfl ?_
        refine z_get E dX0_firstNotLowered_17 (by rfl) flX0_45 (by rfl) ?_
        refine c_V0 E dX0_firstNotLowered_20 lkX0_114 (ok_operated hs (hss n (by omega)) s36 (by omega) (by omega) A' hK' (by omega) (by rw [es]; exact ra) (by rw [el n (by omega)]; exact rl n (by omega)) N) (by rfl) rfl rfl rfl (Nat.le_of_ble_eq_true rfl) ⟨(Nat.le_of_ble_eq_true rfl), (Nat.le_of_ble_eq_true rfl)⟩ ⟨rfl, rfl⟩ ⟨Nat.zero_le _, Nat.zero_le _⟩ ?_
        rw [es, el n (by omega)]
        refine z_aload_n E dX0_firstNotLowered_23 rfl ?_
        refine z_get E dX0_firstNotLowered_24 (by rfl) flX0_45 (by rfl) ?_
        refine z_iload_n E dX0_firstNotLowered_27 rfl ?_
        refine z_aload_n E dX0_firstNotLowered_28 rfl ?_
        refine z_get E dX0_firstNotLowered_29 (cel_lad hl _) flX0_104 (by rfl) ?_
        refine z_iload_n E dX0_firstNotLowered_32 rfl ?_
        refine z_iconst E dX0_firstNotLowered_33 ?_
        refine z_isub E dX0_firstNotLowered_34 ?_
        refine a_aald (j := n - 1) E dX0_firstNotLowered_35 (cel_steps hl _) (by omega) (by omega) (by omega) (by omega) ?_
        refine c_S E dX0_firstNotLowered_36 lkX0_117 (ok_isTimes s36 (hss (n - 1) (by omega)) _ (by rw [va_up_self]; exact fun j _ => opS_in _ _ _) (by rw [va_up_ne _ _ (by omega), el (n - 1) (by omega)]; exact rl (n - 1) (by omega)) n (by omega) N) rfl rfl rfl (Nat.le_of_ble_eq_true rfl) ⟨(Nat.le_of_ble_eq_true rfl), (Nat.le_of_ble_eq_true rfl)⟩ ⟨rfl, rfl⟩ ⟨Nat.zero_le _, Nat.zero_le _⟩ ?_
        rw [va_up_self, va_up_ne (j := 70 + 22 * l + 2 * (n - 1) + 1) _ _ (by omega), el (n - 1) (by omega)]
        have hdf : lwS (A (s + 1)) (fun n => A (70 + 22 * l + 2 * n + 1)) n = (∀ i, i < 10 → opS (A (s + 1)) (A (70 + 22 * l + 2 * n + 1)) i = (n : Int) * A (70 + 22 * l + 2 * (n - 1) + 1) i % 10007) := rfl
        rw [← hdf]
        by_cases hc : lwS (A (s + 1)) (fun n => A (70 + 22 * l + 2 * n + 1)) n
        · rw [b01_t hc]
          refine z_if_ne (tgt := 44) E (by omega) dX0_firstNotLowered_39 (by decide) (fun h39 => ?_) (fun h39 => ?_)
          · refine z_iinc (ls' := [_, _, _, _]) E dX0_firstNotLowered_44 rfl rfl ?_
            refine z_goto (tgt := 2) E dX0_firstNotLowered_47 (by decide) ?_
            rw [ei]
            refine ih (n + 1) (by omega) (by omega) _ ⟨opS (A (s + 1)) (A (70 + 22 * l + 2 * n + 1)), ?_⟩ (by rw [← hv, fnF_t hc])
            rw [hR, va_uu]
          · omega
        · rw [b01_f hc]
          refine z_if_ne (tgt := 44) E (by omega) dX0_firstNotLowered_39 (by decide) (fun h39 => ?_) (fun h39 => ?_)
          · omega
          · refine z_iload_n E dX0_firstNotLowered_42 rfl ?_
            refine z_iret E F dX0_firstNotLowered_43 ⟨by rw [← hv, fnF_f hc], opS (A (s + 1)) (A (70 + 22 * l + 2 * n + 1)), ?_⟩
            rw [hR, va_uu]
  exact loop 9 1 (by omega) (by omega) A ⟨A 37, (up_same A 37).symm⟩ rfl
/-- a polynomial told in a LADDER's steps: the rest behind c steps from the highest on -/
def tiR (R : Nat → Int) (S : Nat → Nat → Int) : Nat → (Nat → Int)
  | 0 => R
  | c + 1 => fun i => if i ≤ 9 - c then (tiR R S c i - tiR R S c (9 - c) * pw (S (9 - c) (9 - c)) 10005 % 10007 * S (9 - c) i) % 10007 else tiR R S c i
def tiH (R : Nat → Int) (S : Nat → Nat → Int) (c : Nat) : Int := tiR R S c (9 - c) * pw (S (9 - c) (9 - c)) 10005 % 10007
theorem tiR_lo {R : Nat → Int} {S : Nat → Nat → Int} {c i : Nat} (h : i ≤ 9 - c) : tiR R S (c + 1) i = (tiR R S c i - tiH R S c * S (9 - c) i) % 10007 := if_pos h
theorem tiR_hi {R : Nat → Int} {S : Nat → Nat → Int} {c i : Nat} (h : ¬ i ≤ 9 - c) : tiR R S (c + 1) i = tiR R S c i := if_neg h
theorem tiR_rok {R : Nat → Int} (S : Nat → Nat → Int) (h : rok R) : ∀ c, rok (tiR R S c)
  | 0 => h
  | c + 1 => fun j hj => by
    by_cases e : j ≤ 9 - c
    · rw [tiR_lo e]; omega
    · rw [tiR_hi e]; exact tiR_rok S h c j hj
theorem tiH_in (R : Nat → Int) (S : Nat → Nat → Int) (c : Nat) : 0 ≤ tiH R S c ∧ tiH R S c < 10007 := by unfold tiH; omega
set_option maxRecDepth 100000 in
theorem ok_toldIn {l s : Nat} (hl : l < 4) (hs : SerK s) (A : Nat → Nat → Int) (ra : rok (A (s + 1))) (rl : ∀ n, n < 10 → rok (A (70 + 22 * l + 2 * n + 1))) (j : Nat) (hj : j < 10) (N : Nat) :
    OkI mX0_toldIn [.ref 3, .ref s, .ref (68 + 22 * l), .int (iI (j : Int))] N (mA A) (.int (iI (tiH (A (s + 1)) (fun n => A (70 + 22 * l + 2 * n + 1)) (9 - j)))) (fun g' => ∃ R, g' = mA (va_up A 37 R)) := by
  have hss := fun n (hn : n < 10) => ser_step hl hn
  have h37 : ∀ f, cel 37 f = (6, vals 10 f) := fun _ => rfl
  generalize hR : A (s + 1) = R at ra ⊢
  refine OkM.of [some (.ref 3), some (.ref s), some (.ref (68 + 22 * l)), some (.int (iI (j : Int))), none, none, none, none] (by decide +kernel) rfl (Nat.le_of_ble_eq_true rfl) ?_
  intro X E F
  refine z_aload_n E dX0_toldIn_0 rfl ?_
  refine z_get E dX0_toldIn_1 (by rfl) flX0_45 (by rfl) ?_
  refine z_aload_n E dX0_toldIn_4 rfl ?_
  refine c_V0 E dX0_toldIn_5 lkX0_121 (ok_becomeCopyOf s36 hs A N) (by rfl) rfl rfl rfl (Nat.le_of_ble_eq_true rfl) ⟨(Nat.le_of_ble_eq_true rfl), (Nat.le_of_ble_eq_true rfl)⟩ ⟨rfl, rfl⟩ ⟨Nat.zero_le _, Nat.zero_le _⟩ ?_
  rw [hR]
  refine z_iconst E dX0_toldIn_8 ?_
  refine z_istore (ls' := [_, _, _, _, _, _, _, _]) E dX0_toldIn_9 (Nat.le_of_ble_eq_true rfl) rfl ?_
  refine z_bipush E (by decide) dX0_toldIn_11 ?_
  refine z_istore (ls' := [_, _, _, _, _, _, _, _]) E dX0_toldIn_13 (Nat.le_of_ble_eq_true rfl) rfl ?_
  generalize hS : (fun n => A (70 + 22 * l + 2 * n + 1)) = S at *
  have eS : ∀ n, A (70 + 22 * l + 2 * n + 1) = S n := fun n => by rw [← hS]
  have loop : ∀ (q c : Nat), c + q = 10 - j → ∀ (l4 : Int) (l6 l7 : Option Value) (A' : Nat → Nat → Int), A' = va_up A 37 (tiR R S c) → (1 ≤ c → l4 = tiH R S (c - 1)) → Zc X 15 [some (.ref 3), some (.ref s), some (.ref (68 + 22 * l)), some (.int (iI (j : Int))), some (.int (iI l4)), some (.int (iI (9 - (c : Int)))), l6, l7] [] N (mA A') 0 0 := by
    intro q
    induction q with
    | zero =>
      intro c hc l4 l6 l7 A' hA h4
      refine z_iload E dX0_toldIn_15 rfl ?_
      refine z_iload_n E dX0_toldIn_17 rfl ?_
      refine z_icmp_lt (tgt := 115) E (by omega) (by omega) dX0_toldIn_18 (by decide) (fun h18 => ?_) (fun h18 => ?_)
      · refine z_iload E dX0_toldIn_115 rfl ?_
        refine z_iret E F dX0_toldIn_117 ⟨by rw [h4 (by omega), show c - 1 = 9 - j by omega], tiR R S c, by rw [hA]⟩
      · omega
    | succ q ih =>
      intro c hc l4 l6 l7 A' hA h4
      have e37 : A' 37 = tiR R S c := by rw [hA, va_up_self]
      have eS' : ∀ n, n < 10 → A' (70 + 22 * l + 2 * n + 1) = S n := fun n hn => by rw [hA, va_up_ne _ _ (by omega)]; exact eS n
      have hsn := hss (9 - c) (by omega)
      have rS : rok (S (9 - c)) := by rw [← eS]; exact rl (9 - c) (by omega)
      have r1 := rS (9 - c) (by omega)
      have r2 := tiR_rok S ra c (9 - c) (by omega)
      have p1 := mul_in r2 (pw_in (S (9 - c) (9 - c)) 10005)
      have t1 := tiH_in R S c
      refine z_iload E dX0_toldIn_15 rfl ?_
      refine z_iload_n E dX0_toldIn_17 rfl ?_
      refine z_icmp_lt (tgt := 115) E (by omega) (by omega) dX0_toldIn_18 (by decide) (fun h18 => ?_) (fun h18 => ?_)
      · omega
      · refine z_aload_n E dX0_toldIn_21 rfl ?_
        refine z_get E dX0_toldIn_22 (cel_lad hl _) flX0_104 (by rfl) ?_
        refine z_iload E dX0_toldIn_25 rfl ?_
        refine a_aald (j := 9 - c) E dX0_toldIn_27 (cel_steps hl _) (by omega) (by omega) (by omega) (by omega) ?_
        refine z_astore (ls' := [_, _, _, _, _, _, _, _]) E dX0_toldIn_28 (Nat.le_of_ble_eq_true rfl) rfl ?_
        refine z_aload_n E dX0_toldIn_30 rfl ?_
        refine z_get E dX0_toldIn_31 (by rfl) flX0_45 (by rfl) ?_
        refine z_get E dX0_toldIn_34 (cel_ser s36 _) flX0_61 (by rfl) ?_
        refine z_iload E dX0_toldIn_37 rfl ?_
        refine a_iald (j := 9 - c) E dX0_toldIn_39 (fun _ => rfl) (by omega) (by omega) (by omega) ?_
        rw [e37]
        refine z_aload E dX0_toldIn_40 rfl ?_
        refine z_get E dX0_toldIn_42 (cel_ser hsn _) flX0_61 (by rfl) ?_
        refine z_iload E dX0_toldIn_45 rfl ?_
        refine a_iald (j := 9 - c) E dX0_toldIn_47 (cel_row hsn) (by omega) (by omega) (by omega) ?_
        rw [eS' (9 - c) (by omega)]
        refine c_S E dX0_toldIn_48 lkX0_55 (ok_inverse _ r1 N (mA A')) rfl rfl rfl (Nat.le_of_ble_eq_true rfl) ⟨(Nat.le_of_ble_eq_true rfl), (Nat.le_of_ble_eq_true rfl)⟩ ⟨rfl, rfl⟩ ⟨Nat.zero_le _, Nat.zero_le _⟩ ?_
        refine z_imul E dX0_toldIn_51 ?_
        refine z_sipush E (by decide) dX0_toldIn_52 ?_
        refine z_irem E (by omega) (by omega) (by omega) (Int.tmod_eq_emod_of_nonneg (by omega)) dX0_toldIn_55 ?_
        change Zc X _ _ [.int (iI (tiH R S c))] _ _ _ _
        refine z_istore (ls' := [_, _, _, _, _, _, _, _]) E dX0_toldIn_56 (Nat.le_of_ble_eq_true rfl) rfl ?_
        refine z_iconst E dX0_toldIn_58 ?_
        refine z_istore (ls' := [_, _, _, _, _, _, _, _]) E dX0_toldIn_59 (Nat.le_of_ble_eq_true rfl) rfl ?_
        have inner : ∀ (q2 i : Nat), i + q2 = 10 - c → ∀ A2 : Nat → Nat → Int, A2 = va_up A 37 (fun m => if m < i then tiR R S (c + 1) m else tiR R S c m) → Zc X 61 [some (.ref 3), some (.ref s), some (.ref (68 + 22 * l)), some (.int (iI (j : Int))), some (.int (iI (tiH R S c))), some (.int (iI (9 - (c : Int)))), some (.ref (70 + 22 * l + 2 * (9 - c))), some (.int (iI (i : Int)))] [] N (mA A2) 0 0 := by
          intro q2
          induction q2 with
          | zero =>
            intro i hi A2 hA2
            refine z_iload E dX0_toldIn_61 rfl ?_
            refine z_iload E dX0_toldIn_63 rfl ?_
            refine z_icmp_gt (tgt := 109) E (by omega) (by omega) dX0_toldIn_65 (by decide) (fun h65 => ?_) (fun h65 => ?_)
            · refine z_iinc (ls' := [_, _, _, _, _, _, _, _]) E dX0_toldIn_109 rfl rfl ?_
              refine z_goto (tgt := 15) E dX0_toldIn_112 (by decide) ?_
              rw [show 9 - (c : Int) + -1 = 9 - ((c + 1 : Nat) : Int) by omega]
              refine ih (c + 1) (by omega) _ _ _ _ ?_ (fun _ => by rw [Nat.add_sub_cancel])
              rw [hA2]
              refine congrArg (va_up A 37) (funext fun m => ?_)
              by_cases e : m < i
              · rw [if_pos e]
              · rw [if_neg e, tiR_hi (by omega)]
            · omega
          | succ q2 ihi =>
            intro i hi A2 hA2
            have e3 : A2 37 i = tiR R S c i := by rw [hA2, va_up_self, if_neg (by omega)]
            have e4 : A2 (70 + 22 * l + 2 * (9 - c) + 1) = S (9 - c) := by rw [hA2, va_up_ne _ _ (by omega)]; exact eS _
            have r3 := tiR_rok S ra c i (by omega)
            have p3 := mul_in t1 (rS i (by omega))
            refine z_iload E dX0_toldIn_61 rfl ?_
            refine z_iload E dX0_toldIn_63 rfl ?_
            refine z_icmp_gt (tgt := 109) E (by omega) (by omega) dX0_toldIn_65 (by decide) (fun h65 => ?_) (fun h65 => ?_)
            · omega
            · refine z_aload_n E dX0_toldIn_68 rfl ?_
              refine z_get E dX0_toldIn_69 (by rfl) flX0_45 (by rfl) ?_
              refine z_get E dX0_toldIn_72 (cel_ser s36 _) flX0_61 (by rfl) ?_
              refine z_iload E dX0_toldIn_75 rfl ?_
              refine z_aload_n E dX0_toldIn_77 rfl ?_
              refine z_get E dX0_toldIn_78 (by rfl) flX0_45 (by rfl) ?_
              refine z_get E dX0_toldIn_81 (cel_ser s36 _) flX0_61 (by rfl) ?_
              refine z_iload E dX0_toldIn_84 rfl ?_
              refine a_iald (j := i) E dX0_toldIn_86 (fun _ => rfl) (by omega) (by omega) (by omega) ?_
              rw [e3]
              refine z_iload E dX0_toldIn_87 rfl ?_
              refine z_aload E dX0_toldIn_89 rfl ?_
              refine z_get E dX0_toldIn_91 (cel_ser hsn _) flX0_61 (by rfl) ?_
              refine z_iload E dX0_toldIn_94 rfl ?_
              refine a_iald (j := i) E dX0_toldIn_96 (cel_row hsn) (by omega) (by omega) (by omega) ?_
              rw [e4]
              refine z_imul E dX0_toldIn_97 ?_
              refine z_isub E dX0_toldIn_98 ?_
              refine c_S E dX0_toldIn_99 lkX0_78 (ok_of _ ⟨by omega, by omega⟩ N (mA A2)) rfl rfl rfl (Nat.le_of_ble_eq_true rfl) ⟨(Nat.le_of_ble_eq_true rfl), (Nat.le_of_ble_eq_true rfl)⟩ ⟨rfl, rfl⟩ ⟨Nat.zero_le _, Nat.zero_le _⟩ ?_
              refine a_iast (j := i) E dX0_toldIn_102 (fun _ => rfl) (by omega) (by omega) (by omega) ?_
              refine z_iinc (ls' := [_, _, _, _, _, _, _, _]) E dX0_toldIn_103 rfl rfl ?_
              refine z_goto (tgt := 61) E dX0_toldIn_106 (by decide) ?_
              rw [ei]
              refine ihi (i + 1) (by omega) _ ?_
              rw [hA2, va_uu, va_up_self]
              refine congrArg (va_up A 37) (funext fun m => ?_)
              by_cases e1 : m = i
              · subst e1; rw [up_eq, if_pos (by omega), tiR_lo (by omega)]
              · rw [up_ne _ _ e1]
                by_cases e2 : m < i
                · rw [if_pos e2, if_pos (by omega)]
                · rw [if_neg e2, if_neg (by omega)]
        refine inner (10 - c) 0 (by omega) _ ?_
        rw [hA]
        exact congrArg (va_up A 37) (funext fun m => (if_neg (by omega)).symm)
  refine Eq.mp ?_ (loop (10 - j) 0 (by omega) 0 none none _ rfl (fun h => by omega))
  rw [show (9 : Int) - ((0 : Nat) : Int) = 9 by omega]
  rfl
theorem cel_val {n : Nat} (h : n < 10) (f : Nat → Int) : cel (19 + n) f = (6, vals 19 f) := by
  unfold cel
  rw [if_pos (by omega), if_neg (by omega), if_neg (by omega), if_neg (by omega), if_neg (by omega), if_neg (by omega), if_neg (by omega), if_neg (by omega), if_neg (by omega), if_neg (by omega), if_pos (by omega)]
theorem cel_cho {n : Nat} (h : n < 10) (f : Nat → Int) : cel (8 + n) f = (6, vals 10 f) := by
  unfold cel
  rw [if_pos (by omega), if_neg (by omega), if_neg (by omega), if_neg (by omega), if_neg (by omega), if_neg (by omega), if_neg (by omega), if_neg (by omega), if_pos (by omega)]
def bnP (V : Nat → Nat → Int) (m : Nat) : Prop := ∀ x, x ≤ m → ∀ y, y ≤ m → sm (fun k => chs m k * V k x % 10007 * V (m - k) y) (m + 1) % 10007 = V m (x + y)
theorem chs_in : ∀ m, m < 10 → ∀ k, k < 10 → 0 ≤ chs m k ∧ chs m k ≤ 126 := by decide
set_option maxRecDepth 100000 in
theorem ok_isBinomialAt (A : Nat → Nat → Int) (hK : KA A) (V : Nat → Nat → Int) (hV : ∀ n x, n < 10 → x < 19 → A (19 + n) x = V n x) (rV : ∀ n x, n < 10 → x < 19 → 0 ≤ V n x ∧ V n x < 10007) (m : Nat) (hm : m < 10) (N : Nat) : OkR mX0_isBinomialAt [.ref 3, .int (iI (m : Int))] N (mA A) (some (.int (iI (b01 (bnP V m))))) (mA A) := by
  have p1 : ∀ k x, k ≤ m → x < 19 → 0 ≤ chs m k * V k x ∧ chs m k * V k x ≤ 100120036 := fun k x hk hx => mul_in (by have := chs_in m hm k (by omega); omega) (rV k x (by omega) hx)
  have p2 : ∀ x y k, x ≤ m → y ≤ m → k < m + 1 → 0 ≤ chs m k * V k x % 10007 * V (m - k) y ∧ chs m k * V k x % 10007 * V (m - k) y ≤ 100120036 := fun x y k hx hy hk => mul_in (by omega) (rV (m - k) y (by omega) (by omega))
  refine OkM.of [some (.ref 3), some (.int (iI (m : Int))), none, none, none, none] (by decide +kernel) rfl (Nat.le_of_ble_eq_true rfl) ?_
  intro X E F
  refine z_iconst E dX0_isBinomialAt_0 ?_
  refine z_istore_n (ls' := [_, _, _, _, _, _]) E rfl dX0_isBinomialAt_1 (Nat.le_of_ble_eq_true rfl) rfl ?_
  have loop : ∀ (q x : Nat), x + q = m + 1 → (∀ x2, x2 < x → ∀ y, y ≤ m → sm (fun k => chs m k * V k x2 % 10007 * V (m - k) y) (m + 1) % 10007 = V m (x2 + y)) → ∀ (l3 l4 l5 : Option Value), Zc X 2 [some (.ref 3), some (.int (iI (m : Int))), some (.int (iI (x : Int))), l3, l4, l5] [] N (mA A) 0 0 := by
    intro q
    induction q with
    | zero =>
      intro x hx hall l3 l4 l5
      refine z_iload_n E dX0_isBinomialAt_2 rfl ?_
      refine z_iload_n E dX0_isBinomialAt_3 rfl ?_
      refine z_icmp_gt (tgt := 105) E (by omega) (by omega) dX0_isBinomialAt_4 (by decide) (fun h4 => ?_) (fun h4 => ?_)
      · refine z_iconst E dX0_isBinomialAt_105 ?_
        exact z_zret E F (by first | exact Or.inl rfl | exact Or.inr rfl) dX0_isBinomialAt_106 ⟨by rw [b01_t (show bnP V m from fun x2 hx2 => hall x2 (by omega))], rfl⟩
      · omega
    | succ q ih =>
      intro x hx hall l3 l4 l5
      refine z_iload_n E dX0_isBinomialAt_2 rfl ?_
      refine z_iload_n E dX0_isBinomialAt_3 rfl ?_
      refine z_icmp_gt (tgt := 105) E (by omega) (by omega) dX0_isBinomialAt_4 (by decide) (fun h4 => ?_) (fun h4 => ?_)
      · omega
      · refine z_iconst E dX0_isBinomialAt_7 ?_
        refine z_istore_n (ls' := [_, _, _, _, _, _]) E rfl dX0_isBinomialAt_8 (Nat.le_of_ble_eq_true rfl) rfl ?_
        have loop2 : ∀ (q2 y : Nat), y + q2 = m + 1 → (∀ y2, y2 < y → sm (fun k => chs m k * V k x % 10007 * V (m - k) y2) (m + 1) % 10007 = V m (x + y2)) → ∀ (l4 l5 : Option Value), Zc X 9 [some (.ref 3), some (.int (iI (m : Int))), some (.int (iI (x : Int))), some (.int (iI (y : Int))), l4, l5] [] N (mA A) 0 0 := by
          intro q2
          induction q2 with
          | zero =>
            intro y hy hall2 l4 l5
            refine z_iload_n E dX0_isBinomialAt_9 rfl ?_
            refine z_iload_n E dX0_isBinomialAt_10 rfl ?_
            refine z_icmp_gt (tgt := 99) E (by omega) (by omega) dX0_isBinomialAt_11 (by decide) (fun h11 => ?_) (fun h11 => ?_)
            · refine z_iinc (ls' := [_, _, _, _, _, _]) E dX0_isBinomialAt_99 rfl rfl ?_
              refine z_goto (tgt := 2) E dX0_isBinomialAt_102 (by decide) ?_
              rw [ei]
              refine ih (x + 1) (by omega) (fun x2 hx2 y2 hy2 => ?_) _ _ _
              by_cases e : x2 = x
              · subst e; exact hall2 y2 (by omega)
              · exact hall x2 (by omega) y2 hy2
            · omega
          | succ q2 ih2 =>
            intro y hy hall2 l4 l5
            refine z_iload_n E dX0_isBinomialAt_9 rfl ?_
            refine z_iload_n E dX0_isBinomialAt_10 rfl ?_
            refine z_icmp_gt (tgt := 99) E (by omega) (by omega) dX0_isBinomialAt_11 (by decide) (fun h11 => ?_) (fun h11 => ?_)
            · omega
            · refine z_iconst E dX0_isBinomialAt_14 ?_
              refine z_istore (ls' := [_, _, _, _, _, _]) E dX0_isBinomialAt_15 (Nat.le_of_ble_eq_true rfl) rfl ?_
              refine z_iconst E dX0_isBinomialAt_17 ?_
              refine z_istore (ls' := [_, _, _, _, _, _]) E dX0_isBinomialAt_18 (Nat.le_of_ble_eq_true rfl) rfl ?_
              have inner : ∀ (q3 k : Nat), k + q3 = m + 1 → Zc X 20 [some (.ref 3), some (.int (iI (m : Int))), some (.int (iI (x : Int))), some (.int (iI (y : Int))), some (.int (iI (sm (fun k => chs m k * V k x % 10007 * V (m - k) y) k))), some (.int (iI (k : Int)))] [] N (mA A) 0 0 := by
                intro q3
                induction q3 with
                | zero =>
                  intro k hk
                  have hk2 : k = m + 1 := by omega
                  subst hk2
                  have hsm := sm_in (n := m + 1) (p2 x y · (by omega) (by omega))
                  have rr := rV m (x + y) (by omega) (by omega)
                  have ev := hV m (x + y) (by omega) (by omega)
                  refine z_iload E dX0_isBinomialAt_20 rfl ?_
                  refine z_iload_n E dX0_isBinomialAt_22 rfl ?_
                  refine z_icmp_gt (tgt := 72) E (by omega) (by omega) dX0_isBinomialAt_23 (by decide) (fun h23 => ?_) (fun h23 => ?_)
                  · refine z_iload E dX0_isBinomialAt_72 rfl ?_
                    refine z_sipush E (by decide) dX0_isBinomialAt_74 ?_
                    refine z_irem E (by omega) (by omega) (by omega) (Int.tmod_eq_emod_of_nonneg (by omega)) dX0_isBinomialAt_77 ?_
                    refine z_aload_n E dX0_isBinomialAt_78 rfl ?_
                    refine z_get E dX0_isBinomialAt_79 (by rfl) flX0_26 (by rfl) ?_
                    refine z_iload_n E dX0_isBinomialAt_82 rfl ?_
                    refine a_aald (j := m) E dX0_isBinomialAt_83 rfl (by omega) (by omega) (by omega) (by omega) ?_
                    refine z_iload_n E dX0_isBinomialAt_84 rfl ?_
                    refine z_iload_n E dX0_isBinomialAt_85 rfl ?_
                    refine z_iadd E dX0_isBinomialAt_86 ?_
                    refine a_iald (j := x + y) E dX0_isBinomialAt_87 (cel_val hm) (by omega) (by omega) (by omega) ?_
                    rw [ev]
                    refine z_icmp_eq (tgt := 93) E (by omega) (by omega) dX0_isBinomialAt_88 (by decide) (fun h88 => ?_) (fun h88 => ?_)
                    · refine z_iinc (ls' := [_, _, _, _, _, _]) E dX0_isBinomialAt_93 rfl rfl ?_
                      refine z_goto (tgt := 9) E dX0_isBinomialAt_96 (by decide) ?_
                      rw [ei]
                      refine ih2 (y + 1) (by omega) (fun y2 hy2 => ?_) _ _
                      by_cases e : y2 = y
                      · subst e; exact h88
                      · exact hall2 y2 (by omega)
                    · refine z_iconst E dX0_isBinomialAt_91 ?_
                      exact z_zret E F (by first | exact Or.inl rfl | exact Or.inr rfl) dX0_isBinomialAt_92 ⟨by rw [b01_f (show ¬ bnP V m from fun h => h88 (h x (by omega) y (by omega)))], rfl⟩
                  · omega
                | succ q3 ih3 =>
                  intro k hk
                  have ec2 := hK.2.2.2.2 m k (by omega) hm
                  have ev1 := hV k x (by omega) (by omega)
                  have ev2 := hV (m - k) y (by omega) (by omega)
                  have pp := p1 k x (by omega) (by omega)
                  refine z_iload E dX0_isBinomialAt_20 rfl ?_
                  refine z_iload_n E dX0_isBinomialAt_22 rfl ?_
                  refine z_icmp_gt (tgt := 72) E (by omega) (by omega) dX0_isBinomialAt_23 (by decide) (fun h23 => ?_) (fun h23 => ?_)
                  · omega
                  · refine z_iload E dX0_isBinomialAt_26 rfl ?_
                    refine z_aload_n E dX0_isBinomialAt_28 rfl ?_
                    refine z_get E dX0_isBinomialAt_29 (by rfl) flX0_23 (by rfl) ?_
                    refine z_iload_n E dX0_isBinomialAt_32 rfl ?_
                    refine a_aald (j := m) E dX0_isBinomialAt_33 rfl (by omega) (by omega) (by omega) (by omega) ?_
                    refine z_iload E dX0_isBinomialAt_34 rfl ?_
                    refine a_iald (j := k) E dX0_isBinomialAt_36 (cel_cho hm) (by omega) (by omega) (by omega) ?_
                    refine z_aload_n E dX0_isBinomialAt_37 rfl ?_
                    refine z_get E dX0_isBinomialAt_38 (by rfl) flX0_26 (by rfl) ?_
                    refine z_iload E dX0_isBinomialAt_41 rfl ?_
                    refine a_aald (j := k) E dX0_isBinomialAt_43 rfl (by omega) (by omega) (by omega) (by omega) ?_
                    refine z_iload_n E dX0_isBinomialAt_44 rfl ?_
                    refine a_iald (j := x) E dX0_isBinomialAt_45 (cel_val (by omega)) (by omega) (by omega) (by omega) ?_
                    rw [ec2, ev1]
                    refine z_imul E dX0_isBinomialAt_46 ?_
                    refine z_sipush E (by decide) dX0_isBinomialAt_47 ?_
                    refine z_irem E (by omega) (by omega) (by omega) (Int.tmod_eq_emod_of_nonneg (by omega)) dX0_isBinomialAt_50 ?_
                    refine z_aload_n E dX0_isBinomialAt_51 rfl ?_
                    refine z_get E dX0_isBinomialAt_52 (by rfl) flX0_26 (by rfl) ?_
                    refine z_iload_n E dX0_isBinomialAt_55 rfl ?_
                    refine z_iload E dX0_isBinomialAt_56 rfl ?_
                    refine z_isub E dX0_isBinomialAt_58 ?_
                    refine a_aald (j := m - k) E dX0_isBinomialAt_59 rfl (by omega) (by omega) (by omega) (by omega) ?_
                    refine z_iload_n E dX0_isBinomialAt_60 rfl ?_
                    refine a_iald (j := y) E dX0_isBinomialAt_61 (cel_val (by omega)) (by omega) (by omega) (by omega) ?_
                    rw [ev2]
                    refine z_imul E dX0_isBinomialAt_62 ?_
                    refine z_iadd E dX0_isBinomialAt_63 ?_
                    refine z_istore (ls' := [_, _, _, _, _, _]) E dX0_isBinomialAt_64 (Nat.le_of_ble_eq_true rfl) rfl ?_
                    refine z_iinc (ls' := [_, _, _, _, _, _]) E dX0_isBinomialAt_66 rfl rfl ?_
                    refine z_goto (tgt := 20) E dX0_isBinomialAt_69 (by decide) ?_
                    rw [ei]
                    exact ih3 (k + 1) (by omega)
              exact inner (m + 1) 0 (by omega)
        exact loop2 (m + 1) 0 (by omega) (fun y2 h => by omega) _ _
  exact loop (m + 1) 0 (by omega) (fun x2 h => by omega) _ _ _
/-- the last n of a run from n on that p holds of -/
noncomputable def lsF (p : Nat → Prop) : Nat → Nat → Int
  | 0, n => (n : Int) - 1
  | q + 1, n => @ite Int (p n) (Classical.propDecidable _) (lsF p q (n + 1)) ((n : Int) - 1)
theorem lsF_t {p : Nat → Prop} {q n : Nat} (h : p n) : lsF p (q + 1) n = lsF p q (n + 1) := @if_pos _ (Classical.propDecidable _) h _ _ _
theorem lsF_f {p : Nat → Prop} {q n : Nat} (h : ¬ p n) : lsF p (q + 1) n = (n : Int) - 1 := @if_neg _ (Classical.propDecidable _) h _ _ _
def OffV (A A' : Nat → Nat → Int) : Prop := ∀ q, ¬ (19 ≤ q ∧ q < 29) → A' q = A q
set_option maxRecDepth 100000 in
theorem ok_binomialUpTo {l : Nat} (hl : l < 4) (A : Nat → Nat → Int) (hK : KA A) (rl : ∀ n, n < 10 → rok (A (70 + 22 * l + 2 * n + 1))) (N : Nat) :
    OkI mX0_binomialUpTo [.ref 3, .ref (68 + 22 * l)] N (mA A) (.int (iI (lsF (bnP (fun n x => hv (A (70 + 22 * l + 2 * n + 1)) ((x : Int) % 10007) 10)) 10 0))) (fun g' => ∃ A', g' = mA A' ∧ OffV A A') := by
  have hss := fun n (hn : n < 10) => ser_step hl hn
  refine OkM.of [some (.ref 3), some (.ref (68 + 22 * l)), none, none] (by decide +kernel) rfl (Nat.le_of_ble_eq_true rfl) ?_
  intro X E F
  refine z_iconst E dX0_binomialUpTo_0 ?_
  refine z_istore_n (ls' := [_, _, _, _]) E rfl dX0_binomialUpTo_1 (Nat.le_of_ble_eq_true rfl) rfl ?_
  generalize hVe : (fun (n x : Nat) => hv (A (70 + 22 * l + 2 * n + 1)) ((x : Int) % 10007) 10) = V at F
  have eV : ∀ n x : Nat, hv (A (70 + 22 * l + 2 * n + 1)) ((x : Int) % 10007) 10 = V n x := fun n x => by rw [← hVe]
  have rV : ∀ n x, n < 10 → x < 19 → 0 ≤ V n x ∧ V n x < 10007 := fun n x _ _ => by rw [← eV]; exact hv_in _ _ _
  have second : ∀ A' : Nat → Nat → Int, OffV A A' → (∀ n x, n < 10 → x < 19 → A' (19 + n) x = V n x) → ∀ (q m : Nat), m + q = 10 → lsF (bnP V) q m = lsF (bnP V) 10 0 → Zc X 50 [some (.ref 3), some (.ref (68 + 22 * l)), some (.int (iI ((m : Int) - 1))), some (.int (iI (m : Int)))] [] N (mA A') 0 0 := by
    intro A' hof hAV q
    have hK' : KA A' := by
      have e : ∀ k, (k < 18 ∨ k = 31) → A' k = A k := fun k hk => hof k (by omega)
      exact ⟨fun n h1 h2 => by rw [e 4 (by omega)]; exact hK.1 n h1 h2, fun n hn => by rw [e 5 (by omega)]; exact hK.2.1 n hn, fun n hn => by rw [e 6 (by omega)]; exact hK.2.2.1 n hn, by rw [e 31 (by omega)]; exact hK.2.2.2.1, fun n k hk hn => by rw [e (8 + n) (by omega)]; exact hK.2.2.2.2 n k hk hn⟩
    induction q with
    | zero =>
      intro m hm hv
      refine z_iload_n E dX0_binomialUpTo_50 rfl ?_
      refine z_bipush E (by decide) dX0_binomialUpTo_51 ?_
      refine z_icmp_ge (tgt := 72) E (by omega) (by omega) dX0_binomialUpTo_53 (by decide) (fun h53 => ?_) (fun h53 => ?_)
      · refine z_iload_n E dX0_binomialUpTo_72 rfl ?_
        exact z_iret E F dX0_binomialUpTo_73 ⟨by rw [← hv]; rfl, _, rfl, hof⟩
      · omega
    | succ q ih =>
      intro m hm hv
      refine z_iload_n E dX0_binomialUpTo_50 rfl ?_
      refine z_bipush E (by decide) dX0_binomialUpTo_51 ?_
      refine z_icmp_ge (tgt := 72) E (by omega) (by omega) dX0_binomialUpTo_53 (by decide) (fun h53 => ?_) (fun h53 => ?_)
      · omega
      · refine z_aload_n E dX0_binomialUpTo_56 rfl ?_
        refine z_iload_n E dX0_binomialUpTo_57 rfl ?_
        refine c_V E dX0_binomialUpTo_58 lkX0_127 (ok_isBinomialAt A' hK' V hAV rV m (by omega) N) (by rfl) rfl rfl rfl (Nat.le_of_ble_eq_true rfl) ⟨(Nat.le_of_ble_eq_true rfl), (Nat.le_of_ble_eq_true rfl)⟩ ⟨rfl, rfl⟩ ⟨Nat.zero_le _, Nat.zero_le _⟩ ?_
        by_cases hc : bnP V m
        · rw [b01_t hc]
          refine z_if_eq (tgt := 72) E (by omega) dX0_binomialUpTo_61 (by decide) (fun h61 => ?_) (fun h61 => ?_)
          · omega
          · refine z_iload_n E dX0_binomialUpTo_64 rfl ?_
            refine z_istore_n (ls' := [_, _, _, _]) E rfl dX0_binomialUpTo_65 (Nat.le_of_ble_eq_true rfl) rfl ?_
            refine z_iinc (ls' := [_, _, _, _]) E dX0_binomialUpTo_66 rfl rfl ?_
            refine z_goto (tgt := 50) E dX0_binomialUpTo_69 (by decide) ?_
            rw [ei]
            have := ih (m + 1) (by omega) (by rw [← hv, lsF_t hc])
            rw [ec] at this
            exact this
        · rw [b01_f hc]
          refine z_if_eq (tgt := 72) E (by omega) dX0_binomialUpTo_61 (by decide) (fun h61 => ?_) (fun h61 => ?_)
          · refine z_iload_n E dX0_binomialUpTo_72 rfl ?_
            exact z_iret E F dX0_binomialUpTo_73 ⟨by rw [← hv, lsF_f hc], _, rfl, hof⟩
          · omega
  have loop : ∀ (q n : Nat), n + q = 10 → ∀ (l3 : Option Value) (A' : Nat → Nat → Int), OffV A A' → (∀ m x, m < n → x < 19 → A' (19 + m) x = V m x) → Zc X 2 [some (.ref 3), some (.ref (68 + 22 * l)), some (.int (iI (n : Int))), l3] [] N (mA A') 0 0 := by
    intro q
    induction q with
    | zero =>
      intro n hn l3 A' hof hAV
      refine z_iload_n E dX0_binomialUpTo_2 rfl ?_
      refine z_bipush E (by decide) dX0_binomialUpTo_3 ?_
      refine z_icmp_ge (tgt := 46) E (by omega) (by omega) dX0_binomialUpTo_5 (by decide) (fun h5 => ?_) (fun h5 => ?_)
      · refine z_iconst E dX0_binomialUpTo_46 ?_
        refine z_istore_n (ls' := [_, _, _, _]) E rfl dX0_binomialUpTo_47 (Nat.le_of_ble_eq_true rfl) rfl ?_
        refine z_iconst E dX0_binomialUpTo_48 ?_
        refine z_istore_n (ls' := [_, _, _, _]) E rfl dX0_binomialUpTo_49 (Nat.le_of_ble_eq_true rfl) rfl ?_
        exact second A' hof (fun m x hm hx => hAV m x (by omega) hx) 10 0 (by omega) rfl
      · omega
    | succ q ih =>
      intro n hn l3 A' hof hAV
      refine z_iload_n E dX0_binomialUpTo_2 rfl ?_
      refine z_bipush E (by decide) dX0_binomialUpTo_3 ?_
      refine z_icmp_ge (tgt := 46) E (by omega) (by omega) dX0_binomialUpTo_5 (by decide) (fun h5 => ?_) (fun h5 => ?_)
      · omega
      · refine z_iconst E dX0_binomialUpTo_8 ?_
        refine z_istore_n (ls' := [_, _, _, _]) E rfl dX0_binomialUpTo_9 (Nat.le_of_ble_eq_true rfl) rfl ?_
        have inner : ∀ (q2 x : Nat), x + q2 = 19 → ∀ A' : Nat → Nat → Int, OffV A A' → (∀ m x, m < n → x < 19 → A' (19 + m) x = V m x) → (∀ x2, x2 < x → A' (19 + n) x2 = V n x2) → Zc X 10 [some (.ref 3), some (.ref (68 + 22 * l)), some (.int (iI (n : Int))), some (.int (iI (x : Int)))] [] N (mA A') 0 0 := by
          intro q2
          induction q2 with
          | zero =>
            intro x hx A' hof hAV hx2
            refine z_iload_n E dX0_binomialUpTo_10 rfl ?_
            refine z_bipush E (by decide) dX0_binomialUpTo_11 ?_
            refine z_icmp_ge (tgt := 40) E (by omega) (by omega) dX0_binomialUpTo_13 (by decide) (fun h13 => ?_) (fun h13 => ?_)
            · refine z_iinc (ls' := [_, _, _, _]) E dX0_binomialUpTo_40 rfl rfl ?_
              refine z_goto (tgt := 2) E dX0_binomialUpTo_43 (by decide) ?_
              rw [ei]
              refine ih (n + 1) (by omega) _ _ hof (fun m x2 hm hx3 => ?_)
              by_cases e : m = n
              · subst e; exact hx2 x2 (by omega)
              · exact hAV m x2 (by omega) hx3
            · omega
          | succ q2 ih2 =>
            intro x hx A' hof hAV hx2
            have es : A' (70 + 22 * l + 2 * n + 1) = A (70 + 22 * l + 2 * n + 1) := hof _ (by omega)
            refine z_iload_n E dX0_binomialUpTo_10 rfl ?_
            refine z_bipush E (by decide) dX0_binomialUpTo_11 ?_
            refine z_icmp_ge (tgt := 40) E (by omega) (by omega) dX0_binomialUpTo_13 (by decide) (fun h13 => ?_) (fun h13 => ?_)
            · omega
            · refine z_aload_n E dX0_binomialUpTo_16 rfl ?_
              refine z_get E dX0_binomialUpTo_17 (by rfl) flX0_26 (by rfl) ?_
              refine z_iload_n E dX0_binomialUpTo_20 rfl ?_
              refine a_aald (j := n) E dX0_binomialUpTo_21 rfl (by omega) (by omega) (by omega) (by omega) ?_
              refine z_iload_n E dX0_binomialUpTo_22 rfl ?_
              refine z_aload_n E dX0_binomialUpTo_23 rfl ?_
              refine z_get E dX0_binomialUpTo_24 (cel_lad hl _) flX0_104 (by rfl) ?_
              refine z_iload_n E dX0_binomialUpTo_27 rfl ?_
              refine a_aald (j := n) E dX0_binomialUpTo_28 (cel_steps hl _) (by omega) (by omega) (by omega) (by omega) ?_
              refine z_iload_n E dX0_binomialUpTo_29 rfl ?_
              refine c_V E dX0_binomialUpTo_30 lkX0_124 (ok_valueAt (hss n (by omega)) A' (by rw [es]; exact rl n (by omega)) (x : Int) (by omega) N) (cel_ser (hss n (by omega)) _) rfl rfl rfl (Nat.le_of_ble_eq_true rfl) ⟨(Nat.le_of_ble_eq_true rfl), (Nat.le_of_ble_eq_true rfl)⟩ ⟨rfl, rfl⟩ ⟨Nat.zero_le _, Nat.zero_le _⟩ ?_
              rw [es, eV]
              refine a_iast (j := x) E dX0_binomialUpTo_33 (cel_val (by omega)) (by omega) (by omega) (by omega) ?_
              refine z_iinc (ls' := [_, _, _, _]) E dX0_binomialUpTo_34 rfl rfl ?_
              refine z_goto (tgt := 10) E dX0_binomialUpTo_37 (by decide) ?_
              rw [ei]
              refine ih2 (x + 1) (by omega) _ ?_ ?_ ?_
              · intro q hq
                rw [va_up_ne _ _ (by omega)]
                exact hof q hq
              · intro m x2 hm hx3
                rw [va_up_ne _ _ (by omega)]
                exact hAV m x2 hm hx3
              · intro x2 hx3
                rw [va_up_self]
                by_cases e : x2 = x
                · subst e; rw [up_eq]
                · rw [up_ne _ _ e]; exact hx2 x2 (by omega)
        exact inner 19 0 (by omega) A' hof hAV (fun x2 h => by omega)
  exact loop 10 0 (by omega) _ A (fun q _ => rfl) (fun m x h => by omega)
end
