section
-- ===== PART A: goes FIRST, ahead of the names: the tables' words, and 'selects' of the private methods out of them =====
/-- a private method of a class that the tables say can be made, by its rows of tables_1 -/
def lw_okq (q : MethodName × Nat) : Prop := (q.1.cls ≠ "java/lang/invoke/MethodHandle" ∧ q.1.cls ≠ "java/lang/invoke/VarHandle") ∧ Cond.instantiable q.1.cls q.2 ∈ tables_1 ∧ Cond.privateMethod q.1 ∈ tables_1 ∧ Cond.instanceMethod q.1 ∈ tables_1
theorem lw_p0 : lw_okq (⟨"ScoreFormulas", "placesAreRight", "(III)Z"⟩, 7) := ⟨⟨by decide +kernel, by decide +kernel⟩, List.mem_of_getElem? (i := 12) (by decide +kernel), List.mem_of_getElem? (i := 302) (by decide +kernel), List.mem_of_getElem? (i := 303) (by decide +kernel)⟩
theorem lw_p1 : lw_okq (⟨"ScoreFormulas", "isFormula", "(I)Z"⟩, 7) := ⟨⟨by decide +kernel, by decide +kernel⟩, List.mem_of_getElem? (i := 12) (by decide +kernel), List.mem_of_getElem? (i := 309) (by decide +kernel), List.mem_of_getElem? (i := 310) (by decide +kernel)⟩
theorem lw_p2 : lw_okq (⟨"ScoreFormulas$Formula", "prove", "()V"⟩, 15) := ⟨⟨by decide +kernel, by decide +kernel⟩, List.mem_of_getElem? (i := 107) (by decide +kernel), List.mem_of_getElem? (i := 340) (by decide +kernel), List.mem_of_getElem? (i := 341) (by decide +kernel)⟩
theorem lw_p3 : lw_okq (⟨"ScoreFormulas$Formula", "isSafe", "()Z"⟩, 15) := ⟨⟨by decide +kernel, by decide +kernel⟩, List.mem_of_getElem? (i := 107) (by decide +kernel), List.mem_of_getElem? (i := 344) (by decide +kernel), List.mem_of_getElem? (i := 345) (by decide +kernel)⟩
theorem lw_p4 : lw_okq (⟨"ScoreFormulas$Formula", "risesByKind", "()I"⟩, 15) := ⟨⟨by decide +kernel, by decide +kernel⟩, List.mem_of_getElem? (i := 107) (by decide +kernel), List.mem_of_getElem? (i := 348) (by decide +kernel), List.mem_of_getElem? (i := 349) (by decide +kernel)⟩
theorem lw_p5 : lw_okq (⟨"ScoreFormulas$Scorer", "ask", "(LScoreFormulas$Formula;I)D"⟩, 9) := ⟨⟨by decide +kernel, by decide +kernel⟩, List.mem_of_getElem? (i := 57) (by decide +kernel), List.mem_of_getElem? (i := 371) (by decide +kernel), List.mem_of_getElem? (i := 372) (by decide +kernel)⟩
theorem lw_p6 : lw_okq (⟨"ScoreFormulas$Scorer", "fail", "(LScoreFormulas$Formula;I)D"⟩, 9) := ⟨⟨by decide +kernel, by decide +kernel⟩, List.mem_of_getElem? (i := 57) (by decide +kernel), List.mem_of_getElem? (i := 375) (by decide +kernel), List.mem_of_getElem? (i := 376) (by decide +kernel)⟩
theorem lw_p7 : lw_okq (⟨"ScoreFormulas$Scorer", "askElse", "(LScoreFormulas$Formula;I)D"⟩, 9) := ⟨⟨by decide +kernel, by decide +kernel⟩, List.mem_of_getElem? (i := 57) (by decide +kernel), List.mem_of_getElem? (i := 379) (by decide +kernel), List.mem_of_getElem? (i := 380) (by decide +kernel)⟩
theorem lw_p8 : lw_okq (⟨"ScoreFormulas$Scorer", "workAlone", "(LScoreFormulas$Formula;)D"⟩, 9) := ⟨⟨by decide +kernel, by decide +kernel⟩, List.mem_of_getElem? (i := 57) (by decide +kernel), List.mem_of_getElem? (i := 387) (by decide +kernel), List.mem_of_getElem? (i := 388) (by decide +kernel)⟩
theorem lw_p9 : lw_okq (⟨"ScoreFormulas$Scorer", "saturated", "(DD)D"⟩, 9) := ⟨⟨by decide +kernel, by decide +kernel⟩, List.mem_of_getElem? (i := 57) (by decide +kernel), List.mem_of_getElem? (i := 403) (by decide +kernel), List.mem_of_getElem? (i := 404) (by decide +kernel)⟩
theorem lw_p10 : lw_okq (⟨"ScoreFormulas$Scorer", "normed", "(LScoreFormulas$Formula;)D"⟩, 9) := ⟨⟨by decide +kernel, by decide +kernel⟩, List.mem_of_getElem? (i := 57) (by decide +kernel), List.mem_of_getElem? (i := 417) (by decide +kernel), List.mem_of_getElem? (i := 418) (by decide +kernel)⟩
theorem lw_p11 : lw_okq (⟨"ScoreFormulas$Scorer", "filled", "(I)D"⟩, 9) := ⟨⟨by decide +kernel, by decide +kernel⟩, List.mem_of_getElem? (i := 57) (by decide +kernel), List.mem_of_getElem? (i := 435) (by decide +kernel), List.mem_of_getElem? (i := 436) (by decide +kernel)⟩
theorem lw_p12 : lw_okq (⟨"ScoreFormulas$Scorer", "workParts", "(LScoreFormulas$Formula;I)D"⟩, 9) := ⟨⟨by decide +kernel, by decide +kernel⟩, List.mem_of_getElem? (i := 57) (by decide +kernel), List.mem_of_getElem? (i := 447) (by decide +kernel), List.mem_of_getElem? (i := 448) (by decide +kernel)⟩
theorem lw_p13 : lw_okq (⟨"ScoreFormulas$Scorer", "sum", "(II)D"⟩, 9) := ⟨⟨by decide +kernel, by decide +kernel⟩, List.mem_of_getElem? (i := 57) (by decide +kernel), List.mem_of_getElem? (i := 451) (by decide +kernel), List.mem_of_getElem? (i := 452) (by decide +kernel)⟩
theorem lw_p14 : lw_okq (⟨"ScoreFormulas$Scorer", "product", "(II)D"⟩, 9) := ⟨⟨by decide +kernel, by decide +kernel⟩, List.mem_of_getElem? (i := 57) (by decide +kernel), List.mem_of_getElem? (i := 455) (by decide +kernel), List.mem_of_getElem? (i := 456) (by decide +kernel)⟩
theorem lw_p15 : lw_okq (⟨"ScoreFormulas$Scorer", "best", "(IID)D"⟩, 9) := ⟨⟨by decide +kernel, by decide +kernel⟩, List.mem_of_getElem? (i := 57) (by decide +kernel), List.mem_of_getElem? (i := 459) (by decide +kernel), List.mem_of_getElem? (i := 460) (by decide +kernel)⟩
def lw_privs_1 : List (MethodName × Nat) := [(⟨"ScoreFormulas", "placesAreRight", "(III)Z"⟩, 7), (⟨"ScoreFormulas", "isFormula", "(I)Z"⟩, 7), (⟨"ScoreFormulas$Formula", "prove", "()V"⟩, 15), (⟨"ScoreFormulas$Formula", "isSafe", "()Z"⟩, 15), (⟨"ScoreFormulas$Formula", "risesByKind", "()I"⟩, 15), (⟨"ScoreFormulas$Scorer", "ask", "(LScoreFormulas$Formula;I)D"⟩, 9), (⟨"ScoreFormulas$Scorer", "fail", "(LScoreFormulas$Formula;I)D"⟩, 9), (⟨"ScoreFormulas$Scorer", "askElse", "(LScoreFormulas$Formula;I)D"⟩, 9), (⟨"ScoreFormulas$Scorer", "workAlone", "(LScoreFormulas$Formula;)D"⟩, 9), (⟨"ScoreFormulas$Scorer", "saturated", "(DD)D"⟩, 9), (⟨"ScoreFormulas$Scorer", "normed", "(LScoreFormulas$Formula;)D"⟩, 9), (⟨"ScoreFormulas$Scorer", "filled", "(I)D"⟩, 9), (⟨"ScoreFormulas$Scorer", "workParts", "(LScoreFormulas$Formula;I)D"⟩, 9), (⟨"ScoreFormulas$Scorer", "sum", "(II)D"⟩, 9), (⟨"ScoreFormulas$Scorer", "product", "(II)D"⟩, 9), (⟨"ScoreFormulas$Scorer", "best", "(IID)D"⟩, 9)]
theorem lw_r1 : ∀ q ∈ lw_privs_1, lw_okq q := List.forall_mem_cons.mpr ⟨lw_p0, List.forall_mem_cons.mpr ⟨lw_p1, List.forall_mem_cons.mpr ⟨lw_p2, List.forall_mem_cons.mpr ⟨lw_p3, List.forall_mem_cons.mpr ⟨lw_p4, List.forall_mem_cons.mpr ⟨lw_p5, List.forall_mem_cons.mpr ⟨lw_p6, List.forall_mem_cons.mpr ⟨lw_p7, List.forall_mem_cons.mpr ⟨lw_p8, List.forall_mem_cons.mpr ⟨lw_p9, List.forall_mem_cons.mpr ⟨lw_p10, List.forall_mem_cons.mpr ⟨lw_p11, List.forall_mem_cons.mpr ⟨lw_p12, List.forall_mem_cons.mpr ⟨lw_p13, List.forall_mem_cons.mpr ⟨lw_p14, List.forall_mem_cons.mpr ⟨lw_p15, fun _ h => absurd h List.not_mem_nil⟩⟩⟩⟩⟩⟩⟩⟩⟩⟩⟩⟩⟩⟩⟩⟩
theorem lw_p16 : lw_okq (⟨"ScoreFormulas$Scorer", "decay", "(DDD)D"⟩, 9) := ⟨⟨by decide +kernel, by decide +kernel⟩, List.mem_of_getElem? (i := 57) (by decide +kernel), List.mem_of_getElem? (i := 466) (by decide +kernel), List.mem_of_getElem? (i := 467) (by decide +kernel)⟩
theorem lw_p17 : lw_okq (⟨"ScoreFormulas$Scorer", "near", "(DDD)D"⟩, 9) := ⟨⟨by decide +kernel, by decide +kernel⟩, List.mem_of_getElem? (i := 57) (by decide +kernel), List.mem_of_getElem? (i := 471) (by decide +kernel), List.mem_of_getElem? (i := 472) (by decide +kernel)⟩
theorem lw_p18 : lw_okq (⟨"ScoreFormulas$Scorer", "judge", "(LScoreFormulas$Formula;D)D"⟩, 9) := ⟨⟨by decide +kernel, by decide +kernel⟩, List.mem_of_getElem? (i := 57) (by decide +kernel), List.mem_of_getElem? (i := 479) (by decide +kernel), List.mem_of_getElem? (i := 480) (by decide +kernel)⟩
theorem lw_p19 : lw_okq (⟨"ScoreFormulas", "howManyAheadOf", "(I)I"⟩, 7) := ⟨⟨by decide +kernel, by decide +kernel⟩, List.mem_of_getElem? (i := 12) (by decide +kernel), List.mem_of_getElem? (i := 506) (by decide +kernel), List.mem_of_getElem? (i := 507) (by decide +kernel)⟩
theorem lw_p20 : lw_okq (⟨"ScoreFormulas", "goesAhead", "(II)Z"⟩, 7) := ⟨⟨by decide +kernel, by decide +kernel⟩, List.mem_of_getElem? (i := 12) (by decide +kernel), List.mem_of_getElem? (i := 510) (by decide +kernel), List.mem_of_getElem? (i := 511) (by decide +kernel)⟩
theorem lw_p21 : lw_okq (⟨"ScoreFormulasModel", "averageOf", "(I)D"⟩, 32) := ⟨⟨by decide +kernel, by decide +kernel⟩, List.mem_of_getElem? (i := 530) (by decide +kernel), List.mem_of_getElem? (i := 680) (by decide +kernel), List.mem_of_getElem? (i := 681) (by decide +kernel)⟩
theorem lw_p22 : lw_okq (⟨"ScoreFormulasModel", "isFormula", "(I)Z"⟩, 32) := ⟨⟨by decide +kernel, by decide +kernel⟩, List.mem_of_getElem? (i := 530) (by decide +kernel), List.mem_of_getElem? (i := 709) (by decide +kernel), List.mem_of_getElem? (i := 710) (by decide +kernel)⟩
theorem lw_p23 : lw_okq (⟨"ScoreFormulasModel", "judge", "(I)V"⟩, 32) := ⟨⟨by decide +kernel, by decide +kernel⟩, List.mem_of_getElem? (i := 530) (by decide +kernel), List.mem_of_getElem? (i := 713) (by decide +kernel), List.mem_of_getElem? (i := 714) (by decide +kernel)⟩
theorem lw_p24 : lw_okq (⟨"ScoreFormulasModel", "work", "(II)V"⟩, 32) := ⟨⟨by decide +kernel, by decide +kernel⟩, List.mem_of_getElem? (i := 530) (by decide +kernel), List.mem_of_getElem? (i := 725) (by decide +kernel), List.mem_of_getElem? (i := 726) (by decide +kernel)⟩
theorem lw_p25 : lw_okq (⟨"ScoreFormulasModel", "begin", "(I)V"⟩, 32) := ⟨⟨by decide +kernel, by decide +kernel⟩, List.mem_of_getElem? (i := 530) (by decide +kernel), List.mem_of_getElem? (i := 729) (by decide +kernel), List.mem_of_getElem? (i := 730) (by decide +kernel)⟩
theorem lw_p26 : lw_okq (⟨"ScoreFormulasModel", "worked", "(IIDD)D"⟩, 32) := ⟨⟨by decide +kernel, by decide +kernel⟩, List.mem_of_getElem? (i := 530) (by decide +kernel), List.mem_of_getElem? (i := 733) (by decide +kernel), List.mem_of_getElem? (i := 734) (by decide +kernel)⟩
theorem lw_p27 : lw_okq (⟨"ScoreFormulasModel", "fail", "(I)V"⟩, 32) := ⟨⟨by decide +kernel, by decide +kernel⟩, List.mem_of_getElem? (i := 530) (by decide +kernel), List.mem_of_getElem? (i := 761) (by decide +kernel), List.mem_of_getElem? (i := 762) (by decide +kernel)⟩
theorem lw_p28 : lw_okq (⟨"ScoreFormulasModel", "give", "(D)V"⟩, 32) := ⟨⟨by decide +kernel, by decide +kernel⟩, List.mem_of_getElem? (i := 530) (by decide +kernel), List.mem_of_getElem? (i := 765) (by decide +kernel), List.mem_of_getElem? (i := 766) (by decide +kernel)⟩
def lw_privs_2 : List (MethodName × Nat) := [(⟨"ScoreFormulas$Scorer", "decay", "(DDD)D"⟩, 9), (⟨"ScoreFormulas$Scorer", "near", "(DDD)D"⟩, 9), (⟨"ScoreFormulas$Scorer", "judge", "(LScoreFormulas$Formula;D)D"⟩, 9), (⟨"ScoreFormulas", "howManyAheadOf", "(I)I"⟩, 7), (⟨"ScoreFormulas", "goesAhead", "(II)Z"⟩, 7), (⟨"ScoreFormulasModel", "averageOf", "(I)D"⟩, 32), (⟨"ScoreFormulasModel", "isFormula", "(I)Z"⟩, 32), (⟨"ScoreFormulasModel", "judge", "(I)V"⟩, 32), (⟨"ScoreFormulasModel", "work", "(II)V"⟩, 32), (⟨"ScoreFormulasModel", "begin", "(I)V"⟩, 32), (⟨"ScoreFormulasModel", "worked", "(IIDD)D"⟩, 32), (⟨"ScoreFormulasModel", "fail", "(I)V"⟩, 32), (⟨"ScoreFormulasModel", "give", "(D)V"⟩, 32)]
theorem lw_r2 : ∀ q ∈ lw_privs_2, lw_okq q := List.forall_mem_cons.mpr ⟨lw_p16, List.forall_mem_cons.mpr ⟨lw_p17, List.forall_mem_cons.mpr ⟨lw_p18, List.forall_mem_cons.mpr ⟨lw_p19, List.forall_mem_cons.mpr ⟨lw_p20, List.forall_mem_cons.mpr ⟨lw_p21, List.forall_mem_cons.mpr ⟨lw_p22, List.forall_mem_cons.mpr ⟨lw_p23, List.forall_mem_cons.mpr ⟨lw_p24, List.forall_mem_cons.mpr ⟨lw_p25, List.forall_mem_cons.mpr ⟨lw_p26, List.forall_mem_cons.mpr ⟨lw_p27, List.forall_mem_cons.mpr ⟨lw_p28, fun _ h => absurd h List.not_mem_nil⟩⟩⟩⟩⟩⟩⟩⟩⟩⟩⟩⟩⟩
def lw_privs : List (MethodName × Nat) := lw_privs_1 ++ (lw_privs_2)
def lw_tbl : List Cond := k2_sels lw_privs ++ tables_1
theorem lw_privs_ok : ∀ q ∈ lw_privs, lw_okq q := by
  show ∀ q ∈ lw_privs_1 ++ (lw_privs_2), lw_okq q
  exact List.forall_mem_append.mpr ⟨lw_r1, lw_r2⟩
/-- the streams that the claim lets the run draw from -/
abbrev lw_cs : List Choice := [Jvm.Choice.named "NaN.bits", Jvm.Choice.named "NaN.copy"]
theorem lw_bits : nanBits ∈ lw_cs := by first | decide | exact List.mem_cons_self | simp [lw_cs, nanBits]
def RX0 : String := "ScoreFormulas$Doubles"
def TX0 : u_T := fun k => match k with
  | _ => ("", "", "", false)
def tyX0 : Nat → FieldType := fun k => match k with
  | _ => .int
theorem nmX0 : ∀ a, a < 0 → ∀ b, b < 0 → a ≠ b → (TX0 a).2.1 ≠ (TX0 b).2.1 := by decide +kernel
theorem tyX0_ok : ∀ k, k < 0 → parseFieldDescriptor (TX0 k).2.2.1 = some (tyX0 k) := by decide +kernel
abbrev cX0_isNumber : ByteArray := prog_2_method_2_code
def yX0_isNumber : MethodName := ⟨RX0, "isNumber", "(J)Z"⟩
abbrev cX0_fromBits : ByteArray := prog_2_method_3_code
def yX0_fromBits : MethodName := ⟨RX0, "fromBits", "(J)D"⟩
abbrev cX0_toBits : ByteArray := prog_2_method_4_code
def yX0_toBits : MethodName := ⟨RX0, "toBits", "(D)J"⟩
abbrev cX0_bitsOfSize : ByteArray := prog_2_method_5_code
def yX0_bitsOfSize : MethodName := ⟨RX0, "bitsOfSize", "(D)J"⟩
abbrev cX0_powerOfTwo : ByteArray := prog_2_method_6_code
def yX0_powerOfTwo : MethodName := ⟨RX0, "powerOfTwo", "(I)D"⟩
abbrev cX0_isEndless : ByteArray := prog_2_method_7_code
def yX0_isEndless : MethodName := ⟨RX0, "isEndless", "(D)Z"⟩
abbrev cX0_isNegativeZero : ByteArray := prog_2_method_8_code
def yX0_isNegativeZero : MethodName := ⟨RX0, "isNegativeZero", "(D)Z"⟩
abbrev cX0_sizeOf : ByteArray := prog_2_method_9_code
def yX0_sizeOf : MethodName := ⟨RX0, "sizeOf", "(D)D"⟩
abbrev cX0_greaterOf : ByteArray := prog_2_method_10_code
def yX0_greaterOf : MethodName := ⟨RX0, "greaterOf", "(DD)D"⟩
abbrev cX0_floorOf : ByteArray := prog_2_method_11_code
def yX0_floorOf : MethodName := ⟨RX0, "floorOf", "(D)D"⟩
abbrev cX0_rootOf : ByteArray := prog_2_method_12_code
def yX0_rootOf : MethodName := ⟨RX0, "rootOf", "(I)D"⟩
def RX1 : String := "ScoreFormulas$Formula"
def TX1 : u_T := fun k => match k with
  | 0 => ("ScoreFormulas$Formula", "number", "I", true)
  | 1 => ("ScoreFormulas$Formula", "kind", "I", false)
  | 2 => ("ScoreFormulas$Formula", "place", "I", false)
  | 3 => ("ScoreFormulas$Formula", "pIsNumber", "Z", false)
  | 4 => ("ScoreFormulas$Formula", "p", "D", false)
  | 5 => ("ScoreFormulas$Formula", "q", "D", false)
  | 6 => ("ScoreFormulas$Formula", "parts", "[LScoreFormulas$Formula;", true)
  | 7 => ("ScoreFormulas$Formula", "partCount", "I", false)
  | 8 => ("ScoreFormulas$Formula", "isPart", "Z", false)
  | 9 => ("ScoreFormulas$Formula", "size", "I", false)
  | 10 => ("ScoreFormulas$Formula", "safe", "Z", false)
  | 11 => ("ScoreFormulas$Formula", "leans", "I", false)
  | 12 => ("ScoreFormulas$Formula", "rises", "I", false)
  | 13 => ("ScoreFormulas$Formula", "partsSafe", "Z", false)
  | _ => ("ScoreFormulas$Formula", "partsRise", "I", false)
def tyX1 : Nat → FieldType := fun k => match k with
  | 0 => .int
  | 1 => .int
  | 2 => .int
  | 3 => .boolean
  | 4 => .double
  | 5 => .double
  | 6 => .array (.object "ScoreFormulas$Formula")
  | 7 => .int
  | 8 => .boolean
  | 9 => .int
  | 10 => .boolean
  | 11 => .int
  | 12 => .int
  | 13 => .boolean
  | _ => .int
theorem nmX1 : ∀ a, a < 15 → ∀ b, b < 15 → a ≠ b → (TX1 a).2.1 ≠ (TX1 b).2.1 := by decide +kernel
theorem tyX1_ok : ∀ k, k < 15 → parseFieldDescriptor (TX1 k).2.2.1 = some (tyX1 k) := by decide +kernel
abbrev cX1_init : ByteArray := prog_3_method_1_code
def yX1_init : MethodName := ⟨RX1, "<init>", "(I)V"⟩
abbrev cX1_begin : ByteArray := prog_3_method_2_code
def yX1_begin : MethodName := ⟨RX1, "begin", "(IIJJ)V"⟩
abbrev cX1_addPart : ByteArray := prog_3_method_3_code
def yX1_addPart : MethodName := ⟨RX1, "addPart", "(LScoreFormulas$Formula;)V"⟩
abbrev cX1_prove : ByteArray := prog_3_method_4_code
def yX1_prove : MethodName := ⟨RX1, "prove", "()V"⟩
abbrev cX1_isSafe : ByteArray := prog_3_method_5_code
def yX1_isSafe : MethodName := ⟨RX1, "isSafe", "()Z"⟩
abbrev cX1_risesByKind : ByteArray := prog_3_method_6_code
def yX1_risesByKind : MethodName := ⟨RX1, "risesByKind", "()I"⟩
def RX2 : String := "ScoreFormulas$Kinds"
def TX2 : u_T := fun k => match k with
  | _ => ("", "", "", false)
def tyX2 : Nat → FieldType := fun k => match k with
  | _ => .int
theorem nmX2 : ∀ a, a < 0 → ∀ b, b < 0 → a ≠ b → (TX2 a).2.1 ≠ (TX2 b).2.1 := by decide +kernel
theorem tyX2_ok : ∀ k, k < 0 → parseFieldDescriptor (TX2 k).2.2.1 = some (tyX2 k) := by decide +kernel
abbrev cX2_hasField : ByteArray := prog_4_method_2_code
def yX2_hasField : MethodName := ⟨RX2, "hasField", "(I)Z"⟩
abbrev cX2_gathers : ByteArray := prog_4_method_3_code
def yX2_gathers : MethodName := ⟨RX2, "gathers", "(I)Z"⟩
abbrev cX2_hasX : ByteArray := prog_4_method_4_code
def yX2_hasX : MethodName := ⟨RX2, "hasX", "(I)Z"⟩
abbrev cX2_failsBelow : ByteArray := prog_4_method_5_code
def yX2_failsBelow : MethodName := ⟨RX2, "failsBelow", "(I)Z"⟩
abbrev cX2_takes : ByteArray := prog_4_method_6_code
def yX2_takes : MethodName := ⟨RX2, "takes", "(IJJ)Z"⟩
abbrev cX2_isNotBelow : ByteArray := prog_4_method_7_code
def yX2_isNotBelow : MethodName := ⟨RX2, "isNotBelow", "(J)Z"⟩
abbrev cX2_isShare : ByteArray := prog_4_method_8_code
def yX2_isShare : MethodName := ⟨RX2, "isShare", "(J)Z"⟩
abbrev cX2_isAbove : ByteArray := prog_4_method_9_code
def yX2_isAbove : MethodName := ⟨RX2, "isAbove", "(J)Z"⟩
def RX3 : String := "ScoreFormulas$Packing"
def TX3 : u_T := fun k => match k with
  | _ => ("", "", "", false)
def tyX3 : Nat → FieldType := fun k => match k with
  | _ => .int
theorem nmX3 : ∀ a, a < 0 → ∀ b, b < 0 → a ≠ b → (TX3 a).2.1 ≠ (TX3 b).2.1 := by decide +kernel
theorem tyX3_ok : ∀ k, k < 0 → parseFieldDescriptor (TX3 k).2.2.1 = some (tyX3 k) := by decide +kernel
abbrev cX3_valueOf : ByteArray := prog_5_method_2_code
def yX3_valueOf : MethodName := ⟨RX3, "valueOf", "(I)I"⟩
abbrev cX3_codeOf : ByteArray := prog_5_method_3_code
def yX3_codeOf : MethodName := ⟨RX3, "codeOf", "(I)I"⟩
def RX4 : String := "ScoreFormulas$Reckoner"
def TX4 : u_T := fun k => match k with
  | _ => ("ScoreFormulas$Reckoner", "lost", "Z", false)
def tyX4 : Nat → FieldType := fun k => match k with
  | _ => .boolean
theorem nmX4 : ∀ a, a < 1 → ∀ b, b < 1 → a ≠ b → (TX4 a).2.1 ≠ (TX4 b).2.1 := by decide +kernel
theorem tyX4_ok : ∀ k, k < 1 → parseFieldDescriptor (TX4 k).2.2.1 = some (tyX4 k) := by decide +kernel
abbrev cX4_init : ByteArray := prog_6_method_1_code
def yX4_init : MethodName := ⟨RX4, "<init>", "()V"⟩
abbrev cX4_begin : ByteArray := prog_6_method_2_code
def yX4_begin : MethodName := ⟨RX4, "begin", "()V"⟩
abbrev cX4_isLost : ByteArray := prog_6_method_3_code
def yX4_isLost : MethodName := ⟨RX4, "isLost", "()Z"⟩
abbrev cX4_lose : ByteArray := prog_6_method_4_code
def yX4_lose : MethodName := ⟨RX4, "lose", "()D"⟩
abbrev cX4_plus : ByteArray := prog_6_method_5_code
def yX4_plus : MethodName := ⟨RX4, "plus", "(DD)D"⟩
abbrev cX4_minus : ByteArray := prog_6_method_6_code
def yX4_minus : MethodName := ⟨RX4, "minus", "(DD)D"⟩
abbrev cX4_times : ByteArray := prog_6_method_7_code
def yX4_times : MethodName := ⟨RX4, "times", "(DD)D"⟩
abbrev cX4_over : ByteArray := prog_6_method_8_code
def yX4_over : MethodName := ⟨RX4, "over", "(DD)D"⟩
def RX5 : String := "ScoreFormulas$Scorer"
def TX5 : u_T := fun k => match k with
  | 0 => ("ScoreFormulas$Scorer", "failure", "I", false)
  | 1 => ("ScoreFormulas$Scorer", "culprit", "I", false)
  | 2 => ("ScoreFormulas$Scorer", "asked", "I", false)
  | 3 => ("ScoreFormulas$Scorer", "caught", "I", false)
  | 4 => ("ScoreFormulas$Scorer", "deepest", "I", false)
  | 5 => ("ScoreFormulas$Scorer", "object", "I", false)
  | 6 => ("ScoreFormulas$Scorer", "shelf", "LScoreFormulas$Shelf;", true)
  | 7 => ("ScoreFormulas$Scorer", "reckoner", "LScoreFormulas$Reckoner;", true)
  | _ => ("ScoreFormulas$Scorer", "partValues", "[D", true)
def tyX5 : Nat → FieldType := fun k => match k with
  | 0 => .int
  | 1 => .int
  | 2 => .int
  | 3 => .int
  | 4 => .int
  | 5 => .int
  | 6 => .object "ScoreFormulas$Shelf"
  | 7 => .object "ScoreFormulas$Reckoner"
  | _ => .array .double
theorem nmX5 : ∀ a, a < 9 → ∀ b, b < 9 → a ≠ b → (TX5 a).2.1 ≠ (TX5 b).2.1 := by decide +kernel
theorem tyX5_ok : ∀ k, k < 9 → parseFieldDescriptor (TX5 k).2.2.1 = some (tyX5 k) := by decide +kernel
abbrev cX5_init : ByteArray := prog_7_method_1_code
def yX5_init : MethodName := ⟨RX5, "<init>", "(LScoreFormulas$Shelf;)V"⟩
abbrev cX5_valueOf : ByteArray := prog_7_method_2_code
def yX5_valueOf : MethodName := ⟨RX5, "valueOf", "(LScoreFormulas$Formula;I)D"⟩
abbrev cX5_ask : ByteArray := prog_7_method_3_code
def yX5_ask : MethodName := ⟨RX5, "ask", "(LScoreFormulas$Formula;I)D"⟩
abbrev cX5_askElse : ByteArray := prog_7_method_4_code
def yX5_askElse : MethodName := ⟨RX5, "askElse", "(LScoreFormulas$Formula;I)D"⟩
abbrev cX5_fail : ByteArray := prog_7_method_5_code
def yX5_fail : MethodName := ⟨RX5, "fail", "(LScoreFormulas$Formula;I)D"⟩
abbrev cX5_judge : ByteArray := prog_7_method_6_code
def yX5_judge : MethodName := ⟨RX5, "judge", "(LScoreFormulas$Formula;D)D"⟩
abbrev cX5_workAlone : ByteArray := prog_7_method_7_code
def yX5_workAlone : MethodName := ⟨RX5, "workAlone", "(LScoreFormulas$Formula;)D"⟩
abbrev cX5_workParts : ByteArray := prog_7_method_8_code
def yX5_workParts : MethodName := ⟨RX5, "workParts", "(LScoreFormulas$Formula;I)D"⟩
abbrev cX5_filled : ByteArray := prog_7_method_9_code
def yX5_filled : MethodName := ⟨RX5, "filled", "(I)D"⟩
abbrev cX5_saturated : ByteArray := prog_7_method_10_code
def yX5_saturated : MethodName := ⟨RX5, "saturated", "(DD)D"⟩
abbrev cX5_normed : ByteArray := prog_7_method_11_code
def yX5_normed : MethodName := ⟨RX5, "normed", "(LScoreFormulas$Formula;)D"⟩
abbrev cX5_sum : ByteArray := prog_7_method_12_code
def yX5_sum : MethodName := ⟨RX5, "sum", "(II)D"⟩
abbrev cX5_product : ByteArray := prog_7_method_13_code
def yX5_product : MethodName := ⟨RX5, "product", "(II)D"⟩
abbrev cX5_best : ByteArray := prog_7_method_14_code
def yX5_best : MethodName := ⟨RX5, "best", "(IID)D"⟩
abbrev cX5_decay : ByteArray := prog_7_method_15_code
def yX5_decay : MethodName := ⟨RX5, "decay", "(DDD)D"⟩
abbrev cX5_near : ByteArray := prog_7_method_16_code
def yX5_near : MethodName := ⟨RX5, "near", "(DDD)D"⟩
def RX6 : String := "ScoreFormulas$Shelf"
def TX6 : u_T := fun k => match k with
  | 0 => ("ScoreFormulas$Shelf", "counts", "[I", true)
  | 1 => ("ScoreFormulas$Shelf", "roots", "[D", true)
  | 2 => ("ScoreFormulas$Shelf", "lengths", "[I", true)
  | 3 => ("ScoreFormulas$Shelf", "lengthSums", "[I", true)
  | 4 => ("ScoreFormulas$Shelf", "lengthsNotZero", "[I", true)
  | 5 => ("ScoreFormulas$Shelf", "columnFilled", "[Z", true)
  | 6 => ("ScoreFormulas$Shelf", "columns", "[D", true)
  | 7 => ("ScoreFormulas$Shelf", "averageGiven", "[Z", true)
  | _ => ("ScoreFormulas$Shelf", "averages", "[D", true)
def tyX6 : Nat → FieldType := fun k => match k with
  | 0 => .array .int
  | 1 => .array .double
  | 2 => .array .int
  | 3 => .array .int
  | 4 => .array .int
  | 5 => .array .boolean
  | 6 => .array .double
  | 7 => .array .boolean
  | _ => .array .double
theorem nmX6 : ∀ a, a < 9 → ∀ b, b < 9 → a ≠ b → (TX6 a).2.1 ≠ (TX6 b).2.1 := by decide +kernel
theorem tyX6_ok : ∀ k, k < 9 → parseFieldDescriptor (TX6 k).2.2.1 = some (tyX6 k) := by decide +kernel
abbrev cX6_init : ByteArray := prog_8_method_1_code
def yX6_init : MethodName := ⟨RX6, "<init>", "()V"⟩
abbrev cX6_put : ByteArray := prog_8_method_2_code
def yX6_put : MethodName := ⟨RX6, "put", "(IIII)V"⟩
abbrev cX6_countOf : ByteArray := prog_8_method_3_code
def yX6_countOf : MethodName := ⟨RX6, "countOf", "(II)D"⟩
abbrev cX6_rootOfCount : ByteArray := prog_8_method_4_code
def yX6_rootOfCount : MethodName := ⟨RX6, "rootOfCount", "(II)D"⟩
abbrev cX6_lengthOf : ByteArray := prog_8_method_5_code
def yX6_lengthOf : MethodName := ⟨RX6, "lengthOf", "(II)D"⟩
abbrev cX6_fillColumn : ByteArray := prog_8_method_6_code
def yX6_fillColumn : MethodName := ⟨RX6, "fillColumn", "(IIJ)V"⟩
abbrev cX6_hasColumn : ByteArray := prog_8_method_7_code
def yX6_hasColumn : MethodName := ⟨RX6, "hasColumn", "(II)Z"⟩
abbrev cX6_columnOf : ByteArray := prog_8_method_8_code
def yX6_columnOf : MethodName := ⟨RX6, "columnOf", "(II)D"⟩
abbrev cX6_giveAverage : ByteArray := prog_8_method_9_code
def yX6_giveAverage : MethodName := ⟨RX6, "giveAverage", "(ID)V"⟩
abbrev cX6_giveNoAverage : ByteArray := prog_8_method_10_code
def yX6_giveNoAverage : MethodName := ⟨RX6, "giveNoAverage", "(I)V"⟩
abbrev cX6_hasAverage : ByteArray := prog_8_method_11_code
def yX6_hasAverage : MethodName := ⟨RX6, "hasAverage", "(I)Z"⟩
abbrev cX6_averageOf : ByteArray := prog_8_method_12_code
def yX6_averageOf : MethodName := ⟨RX6, "averageOf", "(I)D"⟩
abbrev cX6_reset : ByteArray := prog_8_method_13_code
def yX6_reset : MethodName := ⟨RX6, "reset", "()V"⟩
def RX7 : String := "ScoreFormulas"
def TX7 : u_T := fun k => match k with
  | 0 => ("ScoreFormulas", "shelf", "LScoreFormulas$Shelf;", true)
  | 1 => ("ScoreFormulas", "scorer", "LScoreFormulas$Scorer;", true)
  | 2 => ("ScoreFormulas", "formulas", "[LScoreFormulas$Formula;", true)
  | 3 => ("ScoreFormulas", "formulaCount", "I", false)
  | 4 => ("ScoreFormulas", "lastScore", "[I", true)
  | 5 => ("ScoreFormulas", "ranked", "[D", true)
  | _ => ("ScoreFormulas", "rankFails", "[Z", true)
def tyX7 : Nat → FieldType := fun k => match k with
  | 0 => .object "ScoreFormulas$Shelf"
  | 1 => .object "ScoreFormulas$Scorer"
  | 2 => .array (.object "ScoreFormulas$Formula")
  | 3 => .int
  | 4 => .array .int
  | 5 => .array .double
  | _ => .array .boolean
theorem nmX7 : ∀ a, a < 7 → ∀ b, b < 7 → a ≠ b → (TX7 a).2.1 ≠ (TX7 b).2.1 := by decide +kernel
theorem tyX7_ok : ∀ k, k < 7 → parseFieldDescriptor (TX7 k).2.2.1 = some (tyX7 k) := by decide +kernel
abbrev cX7_init : ByteArray := prog_1_method_1_code
def yX7_init : MethodName := ⟨RX7, "<init>", "()V"⟩
abbrev cX7_tell : ByteArray := prog_1_method_2_code
def yX7_tell : MethodName := ⟨RX7, "tell", "(IIII)I"⟩
abbrev cX7_column : ByteArray := prog_1_method_3_code
def yX7_column : MethodName := ⟨RX7, "column", "(IIJ)I"⟩
abbrev cX7_given : ByteArray := prog_1_method_4_code
def yX7_given : MethodName := ⟨RX7, "given", "(IJ)I"⟩
abbrev cX7_average : ByteArray := prog_1_method_5_code
def yX7_average : MethodName := ⟨RX7, "average", "(I)J"⟩
abbrev cX7_packed : ByteArray := prog_1_method_6_code
def yX7_packed : MethodName := ⟨RX7, "packed", "(II)I"⟩
abbrev cX7_formula : ByteArray := prog_1_method_7_code
def yX7_formula : MethodName := ⟨RX7, "formula", "(IIIJJ)I"⟩
abbrev cX7_part : ByteArray := prog_1_method_8_code
def yX7_part : MethodName := ⟨RX7, "part", "(II)I"⟩
abbrev cX7_score : ByteArray := prog_1_method_9_code
def yX7_score : MethodName := ⟨RX7, "score", "(II)J"⟩
abbrev cX7_told : ByteArray := prog_1_method_10_code
def yX7_told : MethodName := ⟨RX7, "told", "(I)I"⟩
abbrev cX7_about : ByteArray := prog_1_method_11_code
def yX7_about : MethodName := ⟨RX7, "about", "(II)I"⟩
abbrev cX7_partOf : ByteArray := prog_1_method_12_code
def yX7_partOf : MethodName := ⟨RX7, "partOf", "(II)I"⟩
abbrev cX7_top : ByteArray := prog_1_method_13_code
def yX7_top : MethodName := ⟨RX7, "top", "(II)I"⟩
abbrev cX7_clear : ByteArray := prog_1_method_14_code
def yX7_clear : MethodName := ⟨RX7, "clear", "()I"⟩
abbrev cX7_forget : ByteArray := prog_1_method_15_code
def yX7_forget : MethodName := ⟨RX7, "forget", "()I"⟩
abbrev cX7_isIn : ByteArray := prog_1_method_16_code
def yX7_isIn : MethodName := ⟨RX7, "isIn", "(II)Z"⟩
abbrev cX7_isFormula : ByteArray := prog_1_method_17_code
def yX7_isFormula : MethodName := ⟨RX7, "isFormula", "(I)Z"⟩
abbrev cX7_placesAreRight : ByteArray := prog_1_method_18_code
def yX7_placesAreRight : MethodName := ⟨RX7, "placesAreRight", "(III)Z"⟩
abbrev cX7_sizeOf : ByteArray := prog_1_method_19_code
def yX7_sizeOf : MethodName := ⟨RX7, "sizeOf", "(LScoreFormulas$Formula;)I"⟩
abbrev cX7_howManyAheadOf : ByteArray := prog_1_method_20_code
def yX7_howManyAheadOf : MethodName := ⟨RX7, "howManyAheadOf", "(I)I"⟩
abbrev cX7_goesAhead : ByteArray := prog_1_method_21_code
def yX7_goesAhead : MethodName := ⟨RX7, "goesAhead", "(II)Z"⟩
def RX8 : String := "ScoreFormulasModel"
def TX8 : u_T := fun k => match k with
  | 0 => ("ScoreFormulasModel", "counts", "[I", true)
  | 1 => ("ScoreFormulasModel", "lengths", "[I", true)
  | 2 => ("ScoreFormulasModel", "cols", "[D", true)
  | 3 => ("ScoreFormulasModel", "averages", "[D", true)
  | 4 => ("ScoreFormulasModel", "isGiven", "[Z", true)
  | 5 => ("ScoreFormulasModel", "formulas", "I", false)
  | 6 => ("ScoreFormulasModel", "kinds", "[I", true)
  | 7 => ("ScoreFormulasModel", "fields", "[I", true)
  | 8 => ("ScoreFormulasModel", "ps", "[D", true)
  | 9 => ("ScoreFormulasModel", "qs", "[D", true)
  | 10 => ("ScoreFormulasModel", "many", "[I", true)
  | 11 => ("ScoreFormulasModel", "parts", "[I", true)
  | 12 => ("ScoreFormulasModel", "isPart", "[Z", true)
  | 13 => ("ScoreFormulasModel", "sizes", "[I", true)
  | 14 => ("ScoreFormulasModel", "leans", "[I", true)
  | 15 => ("ScoreFormulasModel", "rises", "[I", true)
  | 16 => ("ScoreFormulasModel", "safe", "[Z", true)
  | 17 => ("ScoreFormulasModel", "begun", "[I", true)
  | 18 => ("ScoreFormulasModel", "done", "[I", true)
  | 19 => ("ScoreFormulasModel", "all", "[D", true)
  | 20 => ("ScoreFormulasModel", "best", "[D", true)
  | 21 => ("ScoreFormulasModel", "deep", "I", false)
  | 22 => ("ScoreFormulasModel", "failure", "I", false)
  | 23 => ("ScoreFormulasModel", "failed", "I", false)
  | 24 => ("ScoreFormulasModel", "asked", "I", false)
  | 25 => ("ScoreFormulasModel", "caught", "I", false)
  | 26 => ("ScoreFormulasModel", "deepest", "I", false)
  | 27 => ("ScoreFormulasModel", "was", "Z", false)
  | 28 => ("ScoreFormulasModel", "result", "D", false)
  | 29 => ("ScoreFormulasModel", "kept", "[I", true)
  | 30 => ("ScoreFormulasModel", "fails", "[Z", true)
  | _ => ("ScoreFormulasModel", "values", "[D", true)
def tyX8 : Nat → FieldType := fun k => match k with
  | 0 => .array .int
  | 1 => .array .int
  | 2 => .array .double
  | 3 => .array .double
  | 4 => .array .boolean
  | 5 => .int
  | 6 => .array .int
  | 7 => .array .int
  | 8 => .array .double
  | 9 => .array .double
  | 10 => .array .int
  | 11 => .array .int
  | 12 => .array .boolean
  | 13 => .array .int
  | 14 => .array .int
  | 15 => .array .int
  | 16 => .array .boolean
  | 17 => .array .int
  | 18 => .array .int
  | 19 => .array .double
  | 20 => .array .double
  | 21 => .int
  | 22 => .int
  | 23 => .int
  | 24 => .int
  | 25 => .int
  | 26 => .int
  | 27 => .boolean
  | 28 => .double
  | 29 => .array .int
  | 30 => .array .boolean
  | _ => .array .double
theorem nmX8 : ∀ a, a < 32 → ∀ b, b < 32 → a ≠ b → (TX8 a).2.1 ≠ (TX8 b).2.1 := by decide +kernel
theorem tyX8_ok : ∀ k, k < 32 → parseFieldDescriptor (TX8 k).2.2.1 = some (tyX8 k) := by decide +kernel
abbrev cX8_init : ByteArray := prog_10_method_1_code
def yX8_init : MethodName := ⟨RX8, "<init>", "()V"⟩
abbrev cX8_clear : ByteArray := prog_10_method_2_code
def yX8_clear : MethodName := ⟨RX8, "clear", "()I"⟩
abbrev cX8_in : ByteArray := prog_10_method_3_code
def yX8_in : MethodName := ⟨RX8, "in", "(III)Z"⟩
abbrev cX8_tell : ByteArray := prog_10_method_4_code
def yX8_tell : MethodName := ⟨RX8, "tell", "(IIII)I"⟩
abbrev cX8_column : ByteArray := prog_10_method_5_code
def yX8_column : MethodName := ⟨RX8, "column", "(IIJ)I"⟩
abbrev cX8_given : ByteArray := prog_10_method_6_code
def yX8_given : MethodName := ⟨RX8, "given", "(IJ)I"⟩
abbrev cX8_valueOf : ByteArray := prog_10_method_7_code
def yX8_valueOf : MethodName := ⟨RX8, "valueOf", "(I)I"⟩
abbrev cX8_byteOf : ByteArray := prog_10_method_8_code
def yX8_byteOf : MethodName := ⟨RX8, "byteOf", "(I)I"⟩
abbrev cX8_packed : ByteArray := prog_10_method_9_code
def yX8_packed : MethodName := ⟨RX8, "packed", "(II)I"⟩
abbrev cX8_averageOf : ByteArray := prog_10_method_10_code
def yX8_averageOf : MethodName := ⟨RX8, "averageOf", "(I)D"⟩
abbrev cX8_average : ByteArray := prog_10_method_11_code
def yX8_average : MethodName := ⟨RX8, "average", "(I)J"⟩
abbrev cX8_isFormula : ByteArray := prog_10_method_12_code
def yX8_isFormula : MethodName := ⟨RX8, "isFormula", "(I)Z"⟩
abbrev cX8_isRight : ByteArray := prog_10_method_13_code
def yX8_isRight : MethodName := ⟨RX8, "isRight", "(IDD)Z"⟩
abbrev cX8_formula : ByteArray := prog_10_method_14_code
def yX8_formula : MethodName := ⟨RX8, "formula", "(IIIJJ)I"⟩
abbrev cX8_judge : ByteArray := prog_10_method_15_code
def yX8_judge : MethodName := ⟨RX8, "judge", "(I)V"⟩
abbrev cX8_part : ByteArray := prog_10_method_16_code
def yX8_part : MethodName := ⟨RX8, "part", "(II)I"⟩
abbrev cX8_noReal : ByteArray := prog_10_method_17_code
def yX8_noReal : MethodName := ⟨RX8, "noReal", "()D"⟩
abbrev cX8_realOfBits : ByteArray := prog_10_method_18_code
def yX8_realOfBits : MethodName := ⟨RX8, "realOfBits", "(J)D"⟩
abbrev cX8_isEndlessReal : ByteArray := prog_10_method_19_code
def yX8_isEndlessReal : MethodName := ⟨RX8, "isEndlessReal", "(D)Z"⟩
abbrev cX8_realPlus : ByteArray := prog_10_method_20_code
def yX8_realPlus : MethodName := ⟨RX8, "realPlus", "(DD)D"⟩
abbrev cX8_realLess : ByteArray := prog_10_method_21_code
def yX8_realLess : MethodName := ⟨RX8, "realLess", "(DD)D"⟩
abbrev cX8_realTimes : ByteArray := prog_10_method_22_code
def yX8_realTimes : MethodName := ⟨RX8, "realTimes", "(DD)D"⟩
abbrev cX8_realOver : ByteArray := prog_10_method_23_code
def yX8_realOver : MethodName := ⟨RX8, "realOver", "(DD)D"⟩
abbrev cX8_greater : ByteArray := prog_10_method_24_code
def yX8_greater : MethodName := ⟨RX8, "greater", "(DD)D"⟩
abbrev cX8_down : ByteArray := prog_10_method_25_code
def yX8_down : MethodName := ⟨RX8, "down", "(D)D"⟩
abbrev cX8_root : ByteArray := prog_10_method_26_code
def yX8_root : MethodName := ⟨RX8, "root", "(D)D"⟩
abbrev cX8_begin : ByteArray := prog_10_method_27_code
def yX8_begin : MethodName := ⟨RX8, "begin", "(I)V"⟩
abbrev cX8_worked : ByteArray := prog_10_method_28_code
def yX8_worked : MethodName := ⟨RX8, "worked", "(IIDD)D"⟩
abbrev cX8_give : ByteArray := prog_10_method_29_code
def yX8_give : MethodName := ⟨RX8, "give", "(D)V"⟩
abbrev cX8_fail : ByteArray := prog_10_method_30_code
def yX8_fail : MethodName := ⟨RX8, "fail", "(I)V"⟩
abbrev cX8_work : ByteArray := prog_10_method_31_code
def yX8_work : MethodName := ⟨RX8, "work", "(II)V"⟩
abbrev cX8_score : ByteArray := prog_10_method_32_code
def yX8_score : MethodName := ⟨RX8, "score", "(II)J"⟩
abbrev cX8_told : ByteArray := prog_10_method_33_code
def yX8_told : MethodName := ⟨RX8, "told", "(I)I"⟩
abbrev cX8_about : ByteArray := prog_10_method_34_code
def yX8_about : MethodName := ⟨RX8, "about", "(II)I"⟩
abbrev cX8_partOf : ByteArray := prog_10_method_35_code
def yX8_partOf : MethodName := ⟨RX8, "partOf", "(II)I"⟩
abbrev cX8_top : ByteArray := prog_10_method_36_code
def yX8_top : MethodName := ⟨RX8, "top", "(II)I"⟩
abbrev cX8_forget : ByteArray := prog_10_method_37_code
def yX8_forget : MethodName := ⟨RX8, "forget", "()I"⟩
def RJxe99ae : String := "java/lang/Double"
abbrev cJxe99ae_isNaN_b9ae7 : ByteArray := prog_11_method_6_code
def yJxe99ae_isNaN_b9ae7 : MethodName := ⟨RJxe99ae, "isNaN", "(D)Z"⟩
abbrev cJxe99ae_doubleToLongBits_ccdee : ByteArray := prog_11_method_23_code
def yJxe99ae_doubleToLongBits_ccdee : MethodName := ⟨RJxe99ae, "doubleToLongBits", "(D)J"⟩
def RL : String := "ScoreFormulasLaw"
abbrev cL_law : ByteArray := code
def yL_law : MethodName := ⟨RL, "law", "([I)Z"⟩
abbrev vwCl : List vw_C := [(RX1, TX1, 15), (RX4, TX4, 1), (RX5, TX5, 9), (RX6, TX6, 9), (RX7, TX7, 7), (RX8, TX8, 32)]
end
section
theorem dX0_isNumber_0 : decode cX0_isNumber 0 = .ok (.lload_n 0, 1) := by decide +kernel
theorem dX0_isNumber_1 : decode cX0_isNumber 1 = .ok (.ldc2_w 9, 3) := by decide +kernel
theorem dX0_isNumber_4 : decode cX0_isNumber 4 = .ok (.land, 1) := by decide +kernel
theorem dX0_isNumber_5 : decode cX0_isNumber 5 = .ok (.ldc2_w 11, 3) := by decide +kernel
theorem dX0_isNumber_8 : decode cX0_isNumber 8 = .ok (.lcmp, 1) := by decide +kernel
theorem dX0_isNumber_9 : decode cX0_isNumber 9 = .ok (.ifCond .gt 7, 3) := by decide +kernel
theorem dX0_isNumber_12 : decode cX0_isNumber 12 = .ok (.iconst 1, 1) := by decide +kernel
theorem dX0_isNumber_13 : decode cX0_isNumber 13 = .ok (.goto 4, 3) := by decide +kernel
theorem dX0_isNumber_16 : decode cX0_isNumber 16 = .ok (.iconst 0, 1) := by decide +kernel
theorem dX0_isNumber_17 : decode cX0_isNumber 17 = .ok (.ireturn, 1) := by decide +kernel
theorem dX0_fromBits_0 : decode cX0_fromBits 0 = .ok (.lload_n 0, 1) := by decide +kernel
theorem dX0_fromBits_1 : decode cX0_fromBits 1 = .ok (.bipush 52, 2) := by decide +kernel
theorem dX0_fromBits_3 : decode cX0_fromBits 3 = .ok (.lushr, 1) := by decide +kernel
theorem dX0_fromBits_4 : decode cX0_fromBits 4 = .ok (.l2i, 1) := by decide +kernel
theorem dX0_fromBits_5 : decode cX0_fromBits 5 = .ok (.sipush 2047, 3) := by decide +kernel
theorem dX0_fromBits_8 : decode cX0_fromBits 8 = .ok (.iand, 1) := by decide +kernel
theorem dX0_fromBits_9 : decode cX0_fromBits 9 = .ok (.istore_n 2, 1) := by decide +kernel
theorem dX0_fromBits_10 : decode cX0_fromBits 10 = .ok (.lload_n 0, 1) := by decide +kernel
theorem dX0_fromBits_11 : decode cX0_fromBits 11 = .ok (.ldc2_w 13, 3) := by decide +kernel
theorem dX0_fromBits_14 : decode cX0_fromBits 14 = .ok (.land, 1) := by decide +kernel
theorem dX0_fromBits_15 : decode cX0_fromBits 15 = .ok (.lstore_n 3, 1) := by decide +kernel
theorem dX0_fromBits_16 : decode cX0_fromBits 16 = .ok (.iload_n 2, 1) := by decide +kernel
theorem dX0_fromBits_17 : decode cX0_fromBits 17 = .ok (.ifCond .ne 17, 3) := by decide +kernel
theorem dX0_fromBits_20 : decode cX0_fromBits 20 = .ok (.lload_n 3, 1) := by decide +kernel
theorem dX0_fromBits_21 : decode cX0_fromBits 21 = .ok (.l2d, 1) := by decide +kernel
theorem dX0_fromBits_22 : decode cX0_fromBits 22 = .ok (.sipush (-1074), 3) := by decide +kernel
theorem dX0_fromBits_25 : decode cX0_fromBits 25 = .ok (.invokestatic 15, 3) := by decide +kernel
theorem dX0_fromBits_28 : decode cX0_fromBits 28 = .ok (.dmul, 1) := by decide +kernel
theorem dX0_fromBits_29 : decode cX0_fromBits 29 = .ok (.dstore 5, 2) := by decide +kernel
theorem dX0_fromBits_31 : decode cX0_fromBits 31 = .ok (.goto 20, 3) := by decide +kernel
theorem dX0_fromBits_34 : decode cX0_fromBits 34 = .ok (.lload_n 3, 1) := by decide +kernel
theorem dX0_fromBits_35 : decode cX0_fromBits 35 = .ok (.ldc2_w 19, 3) := by decide +kernel
theorem dX0_fromBits_38 : decode cX0_fromBits 38 = .ok (.ladd, 1) := by decide +kernel
theorem dX0_fromBits_39 : decode cX0_fromBits 39 = .ok (.l2d, 1) := by decide +kernel
theorem dX0_fromBits_40 : decode cX0_fromBits 40 = .ok (.iload_n 2, 1) := by decide +kernel
theorem dX0_fromBits_41 : decode cX0_fromBits 41 = .ok (.sipush 1075, 3) := by decide +kernel
theorem dX0_fromBits_44 : decode cX0_fromBits 44 = .ok (.isub, 1) := by decide +kernel
theorem dX0_fromBits_45 : decode cX0_fromBits 45 = .ok (.invokestatic 15, 3) := by decide +kernel
theorem dX0_fromBits_48 : decode cX0_fromBits 48 = .ok (.dmul, 1) := by decide +kernel
theorem dX0_fromBits_49 : decode cX0_fromBits 49 = .ok (.dstore 5, 2) := by decide +kernel
theorem dX0_fromBits_51 : decode cX0_fromBits 51 = .ok (.lload_n 0, 1) := by decide +kernel
theorem dX0_fromBits_52 : decode cX0_fromBits 52 = .ok (.lconst 0, 1) := by decide +kernel
theorem dX0_fromBits_53 : decode cX0_fromBits 53 = .ok (.lcmp, 1) := by decide +kernel
theorem dX0_fromBits_54 : decode cX0_fromBits 54 = .ok (.ifCond .ge 9, 3) := by decide +kernel
theorem dX0_fromBits_57 : decode cX0_fromBits 57 = .ok (.dload 5, 2) := by decide +kernel
theorem dX0_fromBits_59 : decode cX0_fromBits 59 = .ok (.dneg, 1) := by decide +kernel
theorem dX0_fromBits_60 : decode cX0_fromBits 60 = .ok (.goto 5, 3) := by decide +kernel
theorem dX0_fromBits_63 : decode cX0_fromBits 63 = .ok (.dload 5, 2) := by decide +kernel
theorem dX0_fromBits_65 : decode cX0_fromBits 65 = .ok (.dreturn, 1) := by decide +kernel
theorem dX0_toBits_0 : decode cX0_toBits 0 = .ok (.dload_n 0, 1) := by decide +kernel
theorem dX0_toBits_1 : decode cX0_toBits 1 = .ok (.dconst 0, 1) := by decide +kernel
theorem dX0_toBits_2 : decode cX0_toBits 2 = .ok (.dcmp .g, 1) := by decide +kernel
theorem dX0_toBits_3 : decode cX0_toBits 3 = .ok (.ifCond .lt 10, 3) := by decide +kernel
theorem dX0_toBits_6 : decode cX0_toBits 6 = .ok (.dload_n 0, 1) := by decide +kernel
theorem dX0_toBits_7 : decode cX0_toBits 7 = .ok (.invokestatic 21, 3) := by decide +kernel
theorem dX0_toBits_10 : decode cX0_toBits 10 = .ok (.ifCond .eq 9, 3) := by decide +kernel
theorem dX0_toBits_13 : decode cX0_toBits 13 = .ok (.ldc2_w 25, 3) := by decide +kernel
theorem dX0_toBits_16 : decode cX0_toBits 16 = .ok (.goto 4, 3) := by decide +kernel
theorem dX0_toBits_19 : decode cX0_toBits 19 = .ok (.lconst 0, 1) := by decide +kernel
theorem dX0_toBits_20 : decode cX0_toBits 20 = .ok (.lstore_n 2, 1) := by decide +kernel
theorem dX0_toBits_21 : decode cX0_toBits 21 = .ok (.dload_n 0, 1) := by decide +kernel
theorem dX0_toBits_22 : decode cX0_toBits 22 = .ok (.invokestatic 27, 3) := by decide +kernel
theorem dX0_toBits_25 : decode cX0_toBits 25 = .ok (.ifCond .eq 11, 3) := by decide +kernel
theorem dX0_toBits_28 : decode cX0_toBits 28 = .ok (.lload_n 2, 1) := by decide +kernel
theorem dX0_toBits_29 : decode cX0_toBits 29 = .ok (.ldc2_w 11, 3) := by decide +kernel
theorem dX0_toBits_32 : decode cX0_toBits 32 = .ok (.lor, 1) := by decide +kernel
theorem dX0_toBits_33 : decode cX0_toBits 33 = .ok (.goto 12, 3) := by decide +kernel
theorem dX0_toBits_36 : decode cX0_toBits 36 = .ok (.lload_n 2, 1) := by decide +kernel
theorem dX0_toBits_37 : decode cX0_toBits 37 = .ok (.dload_n 0, 1) := by decide +kernel
theorem dX0_toBits_38 : decode cX0_toBits 38 = .ok (.invokestatic 30, 3) := by decide +kernel
theorem dX0_toBits_41 : decode cX0_toBits 41 = .ok (.invokestatic 34, 3) := by decide +kernel
theorem dX0_toBits_44 : decode cX0_toBits 44 = .ok (.lor, 1) := by decide +kernel
theorem dX0_toBits_45 : decode cX0_toBits 45 = .ok (.lreturn, 1) := by decide +kernel
theorem dX0_bitsOfSize_0 : decode cX0_bitsOfSize 0 = .ok (.dload_n 0, 1) := by decide +kernel
theorem dX0_bitsOfSize_1 : decode cX0_bitsOfSize 1 = .ok (.dstore_n 2, 1) := by decide +kernel
theorem dX0_bitsOfSize_2 : decode cX0_bitsOfSize 2 = .ok (.sipush 1075, 3) := by decide +kernel
theorem dX0_bitsOfSize_5 : decode cX0_bitsOfSize 5 = .ok (.istore 4, 2) := by decide +kernel
theorem dX0_bitsOfSize_7 : decode cX0_bitsOfSize 7 = .ok (.sipush 512, 3) := by decide +kernel
theorem dX0_bitsOfSize_10 : decode cX0_bitsOfSize 10 = .ok (.istore 5, 2) := by decide +kernel
theorem dX0_bitsOfSize_12 : decode cX0_bitsOfSize 12 = .ok (.iload 5, 2) := by decide +kernel
theorem dX0_bitsOfSize_14 : decode cX0_bitsOfSize 14 = .ok (.ifCond .le 41, 3) := by decide +kernel
theorem dX0_bitsOfSize_17 : decode cX0_bitsOfSize 17 = .ok (.dload_n 2, 1) := by decide +kernel
theorem dX0_bitsOfSize_18 : decode cX0_bitsOfSize 18 = .ok (.bipush 52, 2) := by decide +kernel
theorem dX0_bitsOfSize_20 : decode cX0_bitsOfSize 20 = .ok (.iload 5, 2) := by decide +kernel
theorem dX0_bitsOfSize_22 : decode cX0_bitsOfSize 22 = .ok (.iadd, 1) := by decide +kernel
theorem dX0_bitsOfSize_23 : decode cX0_bitsOfSize 23 = .ok (.invokestatic 15, 3) := by decide +kernel
theorem dX0_bitsOfSize_26 : decode cX0_bitsOfSize 26 = .ok (.dcmp .l, 1) := by decide +kernel
theorem dX0_bitsOfSize_27 : decode cX0_bitsOfSize 27 = .ok (.ifCond .lt 19, 3) := by decide +kernel
theorem dX0_bitsOfSize_30 : decode cX0_bitsOfSize 30 = .ok (.dload_n 2, 1) := by decide +kernel
theorem dX0_bitsOfSize_31 : decode cX0_bitsOfSize 31 = .ok (.iload 5, 2) := by decide +kernel
theorem dX0_bitsOfSize_33 : decode cX0_bitsOfSize 33 = .ok (.ineg, 1) := by decide +kernel
theorem dX0_bitsOfSize_34 : decode cX0_bitsOfSize 34 = .ok (.invokestatic 15, 3) := by decide +kernel
theorem dX0_bitsOfSize_37 : decode cX0_bitsOfSize 37 = .ok (.dmul, 1) := by decide +kernel
theorem dX0_bitsOfSize_38 : decode cX0_bitsOfSize 38 = .ok (.dstore_n 2, 1) := by decide +kernel
theorem dX0_bitsOfSize_39 : decode cX0_bitsOfSize 39 = .ok (.iload 4, 2) := by decide +kernel
theorem dX0_bitsOfSize_41 : decode cX0_bitsOfSize 41 = .ok (.iload 5, 2) := by decide +kernel
theorem dX0_bitsOfSize_43 : decode cX0_bitsOfSize 43 = .ok (.iadd, 1) := by decide +kernel
theorem dX0_bitsOfSize_44 : decode cX0_bitsOfSize 44 = .ok (.istore 4, 2) := by decide +kernel
theorem dX0_bitsOfSize_46 : decode cX0_bitsOfSize 46 = .ok (.iload 5, 2) := by decide +kernel
theorem dX0_bitsOfSize_48 : decode cX0_bitsOfSize 48 = .ok (.iconst 2, 1) := by decide +kernel
theorem dX0_bitsOfSize_49 : decode cX0_bitsOfSize 49 = .ok (.idiv, 1) := by decide +kernel
theorem dX0_bitsOfSize_50 : decode cX0_bitsOfSize 50 = .ok (.istore 5, 2) := by decide +kernel
theorem dX0_bitsOfSize_52 : decode cX0_bitsOfSize 52 = .ok (.goto (-40), 3) := by decide +kernel
theorem dX0_bitsOfSize_55 : decode cX0_bitsOfSize 55 = .ok (.sipush 1024, 3) := by decide +kernel
theorem dX0_bitsOfSize_58 : decode cX0_bitsOfSize 58 = .ok (.istore 5, 2) := by decide +kernel
theorem dX0_bitsOfSize_60 : decode cX0_bitsOfSize 60 = .ok (.iload 5, 2) := by decide +kernel
theorem dX0_bitsOfSize_62 : decode cX0_bitsOfSize 62 = .ok (.ifCond .le 65, 3) := by decide +kernel
theorem dX0_bitsOfSize_65 : decode cX0_bitsOfSize 65 = .ok (.iload 5, 2) := by decide +kernel
theorem dX0_bitsOfSize_67 : decode cX0_bitsOfSize 67 = .ok (.sipush 512, 3) := by decide +kernel
theorem dX0_bitsOfSize_70 : decode cX0_bitsOfSize 70 = .ok (.if_icmp .le 9, 3) := by decide +kernel
theorem dX0_bitsOfSize_73 : decode cX0_bitsOfSize 73 = .ok (.sipush 512, 3) := by decide +kernel
theorem dX0_bitsOfSize_76 : decode cX0_bitsOfSize 76 = .ok (.goto 5, 3) := by decide +kernel
theorem dX0_bitsOfSize_79 : decode cX0_bitsOfSize 79 = .ok (.iload 5, 2) := by decide +kernel
theorem dX0_bitsOfSize_81 : decode cX0_bitsOfSize 81 = .ok (.istore 6, 2) := by decide +kernel
theorem dX0_bitsOfSize_83 : decode cX0_bitsOfSize 83 = .ok (.dload_n 2, 1) := by decide +kernel
theorem dX0_bitsOfSize_84 : decode cX0_bitsOfSize 84 = .ok (.bipush 53, 2) := by decide +kernel
theorem dX0_bitsOfSize_86 : decode cX0_bitsOfSize 86 = .ok (.iload 6, 2) := by decide +kernel
theorem dX0_bitsOfSize_88 : decode cX0_bitsOfSize 88 = .ok (.isub, 1) := by decide +kernel
theorem dX0_bitsOfSize_89 : decode cX0_bitsOfSize 89 = .ok (.invokestatic 15, 3) := by decide +kernel
theorem dX0_bitsOfSize_92 : decode cX0_bitsOfSize 92 = .ok (.dcmp .g, 1) := by decide +kernel
theorem dX0_bitsOfSize_93 : decode cX0_bitsOfSize 93 = .ok (.ifCond .ge 25, 3) := by decide +kernel
theorem dX0_bitsOfSize_96 : decode cX0_bitsOfSize 96 = .ok (.iload 4, 2) := by decide +kernel
theorem dX0_bitsOfSize_98 : decode cX0_bitsOfSize 98 = .ok (.iload 6, 2) := by decide +kernel
theorem dX0_bitsOfSize_100 : decode cX0_bitsOfSize 100 = .ok (.if_icmp .le 18, 3) := by decide +kernel
theorem dX0_bitsOfSize_103 : decode cX0_bitsOfSize 103 = .ok (.dload_n 2, 1) := by decide +kernel
theorem dX0_bitsOfSize_104 : decode cX0_bitsOfSize 104 = .ok (.iload 6, 2) := by decide +kernel
theorem dX0_bitsOfSize_106 : decode cX0_bitsOfSize 106 = .ok (.invokestatic 15, 3) := by decide +kernel
theorem dX0_bitsOfSize_109 : decode cX0_bitsOfSize 109 = .ok (.dmul, 1) := by decide +kernel
theorem dX0_bitsOfSize_110 : decode cX0_bitsOfSize 110 = .ok (.dstore_n 2, 1) := by decide +kernel
theorem dX0_bitsOfSize_111 : decode cX0_bitsOfSize 111 = .ok (.iload 4, 2) := by decide +kernel
theorem dX0_bitsOfSize_113 : decode cX0_bitsOfSize 113 = .ok (.iload 6, 2) := by decide +kernel
theorem dX0_bitsOfSize_115 : decode cX0_bitsOfSize 115 = .ok (.isub, 1) := by decide +kernel
theorem dX0_bitsOfSize_116 : decode cX0_bitsOfSize 116 = .ok (.istore 4, 2) := by decide +kernel
theorem dX0_bitsOfSize_118 : decode cX0_bitsOfSize 118 = .ok (.iload 5, 2) := by decide +kernel
theorem dX0_bitsOfSize_120 : decode cX0_bitsOfSize 120 = .ok (.iconst 2, 1) := by decide +kernel
theorem dX0_bitsOfSize_121 : decode cX0_bitsOfSize 121 = .ok (.idiv, 1) := by decide +kernel
theorem dX0_bitsOfSize_122 : decode cX0_bitsOfSize 122 = .ok (.istore 5, 2) := by decide +kernel
theorem dX0_bitsOfSize_124 : decode cX0_bitsOfSize 124 = .ok (.goto (-64), 3) := by decide +kernel
theorem dX0_bitsOfSize_127 : decode cX0_bitsOfSize 127 = .ok (.iload 4, 2) := by decide +kernel
theorem dX0_bitsOfSize_129 : decode cX0_bitsOfSize 129 = .ok (.iconst 1, 1) := by decide +kernel
theorem dX0_bitsOfSize_130 : decode cX0_bitsOfSize 130 = .ok (.isub, 1) := by decide +kernel
theorem dX0_bitsOfSize_131 : decode cX0_bitsOfSize 131 = .ok (.i2l, 1) := by decide +kernel
theorem dX0_bitsOfSize_132 : decode cX0_bitsOfSize 132 = .ok (.bipush 52, 2) := by decide +kernel
theorem dX0_bitsOfSize_134 : decode cX0_bitsOfSize 134 = .ok (.lshl, 1) := by decide +kernel
theorem dX0_bitsOfSize_135 : decode cX0_bitsOfSize 135 = .ok (.dload_n 2, 1) := by decide +kernel
theorem dX0_bitsOfSize_136 : decode cX0_bitsOfSize 136 = .ok (.d2l, 1) := by decide +kernel
theorem dX0_bitsOfSize_137 : decode cX0_bitsOfSize 137 = .ok (.ladd, 1) := by decide +kernel
theorem dX0_bitsOfSize_138 : decode cX0_bitsOfSize 138 = .ok (.lreturn, 1) := by decide +kernel
theorem dX0_powerOfTwo_0 : decode cX0_powerOfTwo 0 = .ok (.dconst 1, 1) := by decide +kernel
theorem dX0_powerOfTwo_1 : decode cX0_powerOfTwo 1 = .ok (.dstore_n 1, 1) := by decide +kernel
theorem dX0_powerOfTwo_2 : decode cX0_powerOfTwo 2 = .ok (.iload_n 0, 1) := by decide +kernel
theorem dX0_powerOfTwo_3 : decode cX0_powerOfTwo 3 = .ok (.ifCond .ge 9, 3) := by decide +kernel
theorem dX0_powerOfTwo_6 : decode cX0_powerOfTwo 6 = .ok (.ldc2_w 38, 3) := by decide +kernel
theorem dX0_powerOfTwo_9 : decode cX0_powerOfTwo 9 = .ok (.goto 6, 3) := by decide +kernel
theorem dX0_powerOfTwo_12 : decode cX0_powerOfTwo 12 = .ok (.ldc2_w 40, 3) := by decide +kernel
theorem dX0_powerOfTwo_15 : decode cX0_powerOfTwo 15 = .ok (.dstore_n 3, 1) := by decide +kernel
theorem dX0_powerOfTwo_16 : decode cX0_powerOfTwo 16 = .ok (.iload_n 0, 1) := by decide +kernel
theorem dX0_powerOfTwo_17 : decode cX0_powerOfTwo 17 = .ok (.ifCond .ge 8, 3) := by decide +kernel
theorem dX0_powerOfTwo_20 : decode cX0_powerOfTwo 20 = .ok (.iload_n 0, 1) := by decide +kernel
theorem dX0_powerOfTwo_21 : decode cX0_powerOfTwo 21 = .ok (.ineg, 1) := by decide +kernel
theorem dX0_powerOfTwo_22 : decode cX0_powerOfTwo 22 = .ok (.goto 4, 3) := by decide +kernel
theorem dX0_powerOfTwo_25 : decode cX0_powerOfTwo 25 = .ok (.iload_n 0, 1) := by decide +kernel
theorem dX0_powerOfTwo_26 : decode cX0_powerOfTwo 26 = .ok (.istore 5, 2) := by decide +kernel
theorem dX0_powerOfTwo_28 : decode cX0_powerOfTwo 28 = .ok (.iload 5, 2) := by decide +kernel
theorem dX0_powerOfTwo_30 : decode cX0_powerOfTwo 30 = .ok (.ifCond .le 28, 3) := by decide +kernel
theorem dX0_powerOfTwo_33 : decode cX0_powerOfTwo 33 = .ok (.iload 5, 2) := by decide +kernel
theorem dX0_powerOfTwo_35 : decode cX0_powerOfTwo 35 = .ok (.iconst 2, 1) := by decide +kernel
theorem dX0_powerOfTwo_36 : decode cX0_powerOfTwo 36 = .ok (.irem, 1) := by decide +kernel
theorem dX0_powerOfTwo_37 : decode cX0_powerOfTwo 37 = .ok (.iconst 1, 1) := by decide +kernel
theorem dX0_powerOfTwo_38 : decode cX0_powerOfTwo 38 = .ok (.if_icmp .ne 7, 3) := by decide +kernel
theorem dX0_powerOfTwo_41 : decode cX0_powerOfTwo 41 = .ok (.dload_n 1, 1) := by decide +kernel
theorem dX0_powerOfTwo_42 : decode cX0_powerOfTwo 42 = .ok (.dload_n 3, 1) := by decide +kernel
theorem dX0_powerOfTwo_43 : decode cX0_powerOfTwo 43 = .ok (.dmul, 1) := by decide +kernel
theorem dX0_powerOfTwo_44 : decode cX0_powerOfTwo 44 = .ok (.dstore_n 1, 1) := by decide +kernel
theorem dX0_powerOfTwo_45 : decode cX0_powerOfTwo 45 = .ok (.dload_n 3, 1) := by decide +kernel
theorem dX0_powerOfTwo_46 : decode cX0_powerOfTwo 46 = .ok (.dload_n 3, 1) := by decide +kernel
theorem dX0_powerOfTwo_47 : decode cX0_powerOfTwo 47 = .ok (.dmul, 1) := by decide +kernel
theorem dX0_powerOfTwo_48 : decode cX0_powerOfTwo 48 = .ok (.dstore_n 3, 1) := by decide +kernel
theorem dX0_powerOfTwo_49 : decode cX0_powerOfTwo 49 = .ok (.iload 5, 2) := by decide +kernel
theorem dX0_powerOfTwo_51 : decode cX0_powerOfTwo 51 = .ok (.iconst 2, 1) := by decide +kernel
theorem dX0_powerOfTwo_52 : decode cX0_powerOfTwo 52 = .ok (.idiv, 1) := by decide +kernel
theorem dX0_powerOfTwo_53 : decode cX0_powerOfTwo 53 = .ok (.istore 5, 2) := by decide +kernel
theorem dX0_powerOfTwo_55 : decode cX0_powerOfTwo 55 = .ok (.goto (-27), 3) := by decide +kernel
theorem dX0_powerOfTwo_58 : decode cX0_powerOfTwo 58 = .ok (.dload_n 1, 1) := by decide +kernel
theorem dX0_powerOfTwo_59 : decode cX0_powerOfTwo 59 = .ok (.dreturn, 1) := by decide +kernel
theorem dX0_isEndless_0 : decode cX0_isEndless 0 = .ok (.dload_n 0, 1) := by decide +kernel
theorem dX0_isEndless_1 : decode cX0_isEndless 1 = .ok (.ldc2_w 42, 3) := by decide +kernel
theorem dX0_isEndless_4 : decode cX0_isEndless 4 = .ok (.dcmp .l, 1) := by decide +kernel
theorem dX0_isEndless_5 : decode cX0_isEndless 5 = .ok (.ifCond .gt 11, 3) := by decide +kernel
theorem dX0_isEndless_8 : decode cX0_isEndless 8 = .ok (.dload_n 0, 1) := by decide +kernel
theorem dX0_isEndless_9 : decode cX0_isEndless 9 = .ok (.ldc2_w 44, 3) := by decide +kernel
theorem dX0_isEndless_12 : decode cX0_isEndless 12 = .ok (.dcmp .g, 1) := by decide +kernel
theorem dX0_isEndless_13 : decode cX0_isEndless 13 = .ok (.ifCond .ge 7, 3) := by decide +kernel
theorem dX0_isEndless_16 : decode cX0_isEndless 16 = .ok (.iconst 1, 1) := by decide +kernel
theorem dX0_isEndless_17 : decode cX0_isEndless 17 = .ok (.goto 4, 3) := by decide +kernel
theorem dX0_isEndless_20 : decode cX0_isEndless 20 = .ok (.iconst 0, 1) := by decide +kernel
theorem dX0_isEndless_21 : decode cX0_isEndless 21 = .ok (.ireturn, 1) := by decide +kernel
theorem dX0_isNegativeZero_0 : decode cX0_isNegativeZero 0 = .ok (.dload_n 0, 1) := by decide +kernel
theorem dX0_isNegativeZero_1 : decode cX0_isNegativeZero 1 = .ok (.dconst 0, 1) := by decide +kernel
theorem dX0_isNegativeZero_2 : decode cX0_isNegativeZero 2 = .ok (.dcmp .l, 1) := by decide +kernel
theorem dX0_isNegativeZero_3 : decode cX0_isNegativeZero 3 = .ok (.ifCond .ne 15, 3) := by decide +kernel
theorem dX0_isNegativeZero_6 : decode cX0_isNegativeZero 6 = .ok (.dconst 1, 1) := by decide +kernel
theorem dX0_isNegativeZero_7 : decode cX0_isNegativeZero 7 = .ok (.dload_n 0, 1) := by decide +kernel
theorem dX0_isNegativeZero_8 : decode cX0_isNegativeZero 8 = .ok (.ddiv, 1) := by decide +kernel
theorem dX0_isNegativeZero_9 : decode cX0_isNegativeZero 9 = .ok (.dconst 0, 1) := by decide +kernel
theorem dX0_isNegativeZero_10 : decode cX0_isNegativeZero 10 = .ok (.dcmp .g, 1) := by decide +kernel
theorem dX0_isNegativeZero_11 : decode cX0_isNegativeZero 11 = .ok (.ifCond .ge 7, 3) := by decide +kernel
theorem dX0_isNegativeZero_14 : decode cX0_isNegativeZero 14 = .ok (.iconst 1, 1) := by decide +kernel
theorem dX0_isNegativeZero_15 : decode cX0_isNegativeZero 15 = .ok (.goto 4, 3) := by decide +kernel
theorem dX0_isNegativeZero_18 : decode cX0_isNegativeZero 18 = .ok (.iconst 0, 1) := by decide +kernel
theorem dX0_isNegativeZero_19 : decode cX0_isNegativeZero 19 = .ok (.ireturn, 1) := by decide +kernel
theorem dX0_sizeOf_0 : decode cX0_sizeOf 0 = .ok (.dload_n 0, 1) := by decide +kernel
theorem dX0_sizeOf_1 : decode cX0_sizeOf 1 = .ok (.dconst 0, 1) := by decide +kernel
theorem dX0_sizeOf_2 : decode cX0_sizeOf 2 = .ok (.dcmp .g, 1) := by decide +kernel
theorem dX0_sizeOf_3 : decode cX0_sizeOf 3 = .ok (.ifCond .ge 8, 3) := by decide +kernel
theorem dX0_sizeOf_6 : decode cX0_sizeOf 6 = .ok (.dload_n 0, 1) := by decide +kernel
theorem dX0_sizeOf_7 : decode cX0_sizeOf 7 = .ok (.dneg, 1) := by decide +kernel
theorem dX0_sizeOf_8 : decode cX0_sizeOf 8 = .ok (.goto 4, 3) := by decide +kernel
theorem dX0_sizeOf_11 : decode cX0_sizeOf 11 = .ok (.dload_n 0, 1) := by decide +kernel
theorem dX0_sizeOf_12 : decode cX0_sizeOf 12 = .ok (.dreturn, 1) := by decide +kernel
theorem dX0_greaterOf_0 : decode cX0_greaterOf 0 = .ok (.dload_n 0, 1) := by decide +kernel
theorem dX0_greaterOf_1 : decode cX0_greaterOf 1 = .ok (.dload_n 2, 1) := by decide +kernel
theorem dX0_greaterOf_2 : decode cX0_greaterOf 2 = .ok (.dcmp .l, 1) := by decide +kernel
theorem dX0_greaterOf_3 : decode cX0_greaterOf 3 = .ok (.ifCond .ne 16, 3) := by decide +kernel
theorem dX0_greaterOf_6 : decode cX0_greaterOf 6 = .ok (.dload_n 0, 1) := by decide +kernel
theorem dX0_greaterOf_7 : decode cX0_greaterOf 7 = .ok (.invokestatic 21, 3) := by decide +kernel
theorem dX0_greaterOf_10 : decode cX0_greaterOf 10 = .ok (.ifCond .eq 7, 3) := by decide +kernel
theorem dX0_greaterOf_13 : decode cX0_greaterOf 13 = .ok (.dload_n 2, 1) := by decide +kernel
theorem dX0_greaterOf_14 : decode cX0_greaterOf 14 = .ok (.goto 4, 3) := by decide +kernel
theorem dX0_greaterOf_17 : decode cX0_greaterOf 17 = .ok (.dload_n 0, 1) := by decide +kernel
theorem dX0_greaterOf_18 : decode cX0_greaterOf 18 = .ok (.dreturn, 1) := by decide +kernel
theorem dX0_greaterOf_19 : decode cX0_greaterOf 19 = .ok (.dload_n 0, 1) := by decide +kernel
theorem dX0_greaterOf_20 : decode cX0_greaterOf 20 = .ok (.dload_n 2, 1) := by decide +kernel
theorem dX0_greaterOf_21 : decode cX0_greaterOf 21 = .ok (.dcmp .l, 1) := by decide +kernel
theorem dX0_greaterOf_22 : decode cX0_greaterOf 22 = .ok (.ifCond .le 7, 3) := by decide +kernel
theorem dX0_greaterOf_25 : decode cX0_greaterOf 25 = .ok (.dload_n 0, 1) := by decide +kernel
theorem dX0_greaterOf_26 : decode cX0_greaterOf 26 = .ok (.goto 4, 3) := by decide +kernel
theorem dX0_greaterOf_29 : decode cX0_greaterOf 29 = .ok (.dload_n 2, 1) := by decide +kernel
theorem dX0_greaterOf_30 : decode cX0_greaterOf 30 = .ok (.dreturn, 1) := by decide +kernel
theorem dX0_floorOf_0 : decode cX0_floorOf 0 = .ok (.dload_n 0, 1) := by decide +kernel
theorem dX0_floorOf_1 : decode cX0_floorOf 1 = .ok (.dconst 0, 1) := by decide +kernel
theorem dX0_floorOf_2 : decode cX0_floorOf 2 = .ok (.dcmp .l, 1) := by decide +kernel
theorem dX0_floorOf_3 : decode cX0_floorOf 3 = .ok (.ifCond .eq 14, 3) := by decide +kernel
theorem dX0_floorOf_6 : decode cX0_floorOf 6 = .ok (.dload_n 0, 1) := by decide +kernel
theorem dX0_floorOf_7 : decode cX0_floorOf 7 = .ok (.invokestatic 30, 3) := by decide +kernel
theorem dX0_floorOf_10 : decode cX0_floorOf 10 = .ok (.ldc2_w 46, 3) := by decide +kernel
theorem dX0_floorOf_13 : decode cX0_floorOf 13 = .ok (.dcmp .l, 1) := by decide +kernel
theorem dX0_floorOf_14 : decode cX0_floorOf 14 = .ok (.ifCond .lt 5, 3) := by decide +kernel
theorem dX0_floorOf_17 : decode cX0_floorOf 17 = .ok (.dload_n 0, 1) := by decide +kernel
theorem dX0_floorOf_18 : decode cX0_floorOf 18 = .ok (.dreturn, 1) := by decide +kernel
theorem dX0_floorOf_19 : decode cX0_floorOf 19 = .ok (.dload_n 0, 1) := by decide +kernel
theorem dX0_floorOf_20 : decode cX0_floorOf 20 = .ok (.d2l, 1) := by decide +kernel
theorem dX0_floorOf_21 : decode cX0_floorOf 21 = .ok (.l2d, 1) := by decide +kernel
theorem dX0_floorOf_22 : decode cX0_floorOf 22 = .ok (.dstore_n 2, 1) := by decide +kernel
theorem dX0_floorOf_23 : decode cX0_floorOf 23 = .ok (.dload_n 2, 1) := by decide +kernel
theorem dX0_floorOf_24 : decode cX0_floorOf 24 = .ok (.dload_n 0, 1) := by decide +kernel
theorem dX0_floorOf_25 : decode cX0_floorOf 25 = .ok (.dcmp .l, 1) := by decide +kernel
theorem dX0_floorOf_26 : decode cX0_floorOf 26 = .ok (.ifCond .le 9, 3) := by decide +kernel
theorem dX0_floorOf_29 : decode cX0_floorOf 29 = .ok (.dload_n 2, 1) := by decide +kernel
theorem dX0_floorOf_30 : decode cX0_floorOf 30 = .ok (.dconst 1, 1) := by decide +kernel
theorem dX0_floorOf_31 : decode cX0_floorOf 31 = .ok (.dsub, 1) := by decide +kernel
theorem dX0_floorOf_32 : decode cX0_floorOf 32 = .ok (.goto 4, 3) := by decide +kernel
theorem dX0_floorOf_35 : decode cX0_floorOf 35 = .ok (.dload_n 2, 1) := by decide +kernel
theorem dX0_floorOf_36 : decode cX0_floorOf 36 = .ok (.dreturn, 1) := by decide +kernel
theorem dX0_rootOf_0 : decode cX0_rootOf 0 = .ok (.iload_n 0, 1) := by decide +kernel
theorem dX0_rootOf_1 : decode cX0_rootOf 1 = .ok (.ifCond .gt 5, 3) := by decide +kernel
theorem dX0_rootOf_4 : decode cX0_rootOf 4 = .ok (.dconst 0, 1) := by decide +kernel
theorem dX0_rootOf_5 : decode cX0_rootOf 5 = .ok (.dreturn, 1) := by decide +kernel
theorem dX0_rootOf_6 : decode cX0_rootOf 6 = .ok (.lconst 0, 1) := by decide +kernel
theorem dX0_rootOf_7 : decode cX0_rootOf 7 = .ok (.lstore_n 1, 1) := by decide +kernel
theorem dX0_rootOf_8 : decode cX0_rootOf 8 = .ok (.lconst 0, 1) := by decide +kernel
theorem dX0_rootOf_9 : decode cX0_rootOf 9 = .ok (.lstore_n 3, 1) := by decide +kernel
theorem dX0_rootOf_10 : decode cX0_rootOf 10 = .ok (.iconst 0, 1) := by decide +kernel
theorem dX0_rootOf_11 : decode cX0_rootOf 11 = .ok (.istore 5, 2) := by decide +kernel
theorem dX0_rootOf_13 : decode cX0_rootOf 13 = .ok (.iconst 0, 1) := by decide +kernel
theorem dX0_rootOf_14 : decode cX0_rootOf 14 = .ok (.istore 6, 2) := by decide +kernel
theorem dX0_rootOf_16 : decode cX0_rootOf 16 = .ok (.iload 6, 2) := by decide +kernel
theorem dX0_rootOf_18 : decode cX0_rootOf 18 = .ok (.bipush 60, 2) := by decide +kernel
theorem dX0_rootOf_20 : decode cX0_rootOf 20 = .ok (.if_icmp .ge 96, 3) := by decide +kernel
theorem dX0_rootOf_23 : decode cX0_rootOf 23 = .ok (.lload_n 1, 1) := by decide +kernel
theorem dX0_rootOf_24 : decode cX0_rootOf 24 = .ok (.ldc2_w 48, 3) := by decide +kernel
theorem dX0_rootOf_27 : decode cX0_rootOf 27 = .ok (.lcmp, 1) := by decide +kernel
theorem dX0_rootOf_28 : decode cX0_rootOf 28 = .ok (.ifCond .ge 88, 3) := by decide +kernel
theorem dX0_rootOf_31 : decode cX0_rootOf 31 = .ok (.iload 6, 2) := by decide +kernel
theorem dX0_rootOf_33 : decode cX0_rootOf 33 = .ok (.iconst 5, 1) := by decide +kernel
theorem dX0_rootOf_34 : decode cX0_rootOf 34 = .ok (.if_icmp .ge 7, 3) := by decide +kernel
theorem dX0_rootOf_37 : decode cX0_rootOf 37 = .ok (.iconst 1, 1) := by decide +kernel
theorem dX0_rootOf_38 : decode cX0_rootOf 38 = .ok (.goto 4, 3) := by decide +kernel
theorem dX0_rootOf_41 : decode cX0_rootOf 41 = .ok (.iconst 0, 1) := by decide +kernel
theorem dX0_rootOf_42 : decode cX0_rootOf 42 = .ok (.istore 7, 2) := by decide +kernel
theorem dX0_rootOf_44 : decode cX0_rootOf 44 = .ok (.lload_n 3, 1) := by decide +kernel
theorem dX0_rootOf_45 : decode cX0_rootOf 45 = .ok (.ldc2_w 50, 3) := by decide +kernel
theorem dX0_rootOf_48 : decode cX0_rootOf 48 = .ok (.lmul, 1) := by decide +kernel
theorem dX0_rootOf_49 : decode cX0_rootOf 49 = .ok (.iload 7, 2) := by decide +kernel
theorem dX0_rootOf_51 : decode cX0_rootOf 51 = .ok (.ifCond .eq 16, 3) := by decide +kernel
theorem dX0_rootOf_54 : decode cX0_rootOf 54 = .ok (.iload_n 0, 1) := by decide +kernel
theorem dX0_rootOf_55 : decode cX0_rootOf 55 = .ok (.iconst 2, 1) := by decide +kernel
theorem dX0_rootOf_56 : decode cX0_rootOf 56 = .ok (.iconst 4, 1) := by decide +kernel
theorem dX0_rootOf_57 : decode cX0_rootOf 57 = .ok (.iload 6, 2) := by decide +kernel
theorem dX0_rootOf_59 : decode cX0_rootOf 59 = .ok (.isub, 1) := by decide +kernel
theorem dX0_rootOf_60 : decode cX0_rootOf 60 = .ok (.imul, 1) := by decide +kernel
theorem dX0_rootOf_61 : decode cX0_rootOf 61 = .ok (.ishr, 1) := by decide +kernel
theorem dX0_rootOf_62 : decode cX0_rootOf 62 = .ok (.iconst 3, 1) := by decide +kernel
theorem dX0_rootOf_63 : decode cX0_rootOf 63 = .ok (.iand, 1) := by decide +kernel
theorem dX0_rootOf_64 : decode cX0_rootOf 64 = .ok (.goto 4, 3) := by decide +kernel
theorem dX0_rootOf_67 : decode cX0_rootOf 67 = .ok (.iconst 0, 1) := by decide +kernel
theorem dX0_rootOf_68 : decode cX0_rootOf 68 = .ok (.i2l, 1) := by decide +kernel
theorem dX0_rootOf_69 : decode cX0_rootOf 69 = .ok (.ladd, 1) := by decide +kernel
theorem dX0_rootOf_70 : decode cX0_rootOf 70 = .ok (.lstore_n 3, 1) := by decide +kernel
theorem dX0_rootOf_71 : decode cX0_rootOf 71 = .ok (.lload_n 1, 1) := by decide +kernel
theorem dX0_rootOf_72 : decode cX0_rootOf 72 = .ok (.ldc2_w 50, 3) := by decide +kernel
theorem dX0_rootOf_75 : decode cX0_rootOf 75 = .ok (.lmul, 1) := by decide +kernel
theorem dX0_rootOf_76 : decode cX0_rootOf 76 = .ok (.lconst 1, 1) := by decide +kernel
theorem dX0_rootOf_77 : decode cX0_rootOf 77 = .ok (.ladd, 1) := by decide +kernel
theorem dX0_rootOf_78 : decode cX0_rootOf 78 = .ok (.lstore 8, 2) := by decide +kernel
theorem dX0_rootOf_80 : decode cX0_rootOf 80 = .ok (.lload_n 1, 1) := by decide +kernel
theorem dX0_rootOf_81 : decode cX0_rootOf 81 = .ok (.ldc2_w 52, 3) := by decide +kernel
theorem dX0_rootOf_84 : decode cX0_rootOf 84 = .ok (.lmul, 1) := by decide +kernel
theorem dX0_rootOf_85 : decode cX0_rootOf 85 = .ok (.lstore_n 1, 1) := by decide +kernel
theorem dX0_rootOf_86 : decode cX0_rootOf 86 = .ok (.lload_n 3, 1) := by decide +kernel
theorem dX0_rootOf_87 : decode cX0_rootOf 87 = .ok (.lload 8, 2) := by decide +kernel
theorem dX0_rootOf_89 : decode cX0_rootOf 89 = .ok (.lcmp, 1) := by decide +kernel
theorem dX0_rootOf_90 : decode cX0_rootOf 90 = .ok (.ifCond .lt 12, 3) := by decide +kernel
theorem dX0_rootOf_93 : decode cX0_rootOf 93 = .ok (.lload_n 3, 1) := by decide +kernel
theorem dX0_rootOf_94 : decode cX0_rootOf 94 = .ok (.lload 8, 2) := by decide +kernel
theorem dX0_rootOf_96 : decode cX0_rootOf 96 = .ok (.lsub, 1) := by decide +kernel
theorem dX0_rootOf_97 : decode cX0_rootOf 97 = .ok (.lstore_n 3, 1) := by decide +kernel
theorem dX0_rootOf_98 : decode cX0_rootOf 98 = .ok (.lload_n 1, 1) := by decide +kernel
theorem dX0_rootOf_99 : decode cX0_rootOf 99 = .ok (.lconst 1, 1) := by decide +kernel
theorem dX0_rootOf_100 : decode cX0_rootOf 100 = .ok (.ladd, 1) := by decide +kernel
theorem dX0_rootOf_101 : decode cX0_rootOf 101 = .ok (.lstore_n 1, 1) := by decide +kernel
theorem dX0_rootOf_102 : decode cX0_rootOf 102 = .ok (.iload 7, 2) := by decide +kernel
theorem dX0_rootOf_104 : decode cX0_rootOf 104 = .ok (.ifCond .ne 6, 3) := by decide +kernel
theorem dX0_rootOf_107 : decode cX0_rootOf 107 = .ok (.iinc 5 1, 3) := by decide +kernel
theorem dX0_rootOf_110 : decode cX0_rootOf 110 = .ok (.iinc 6 1, 3) := by decide +kernel
theorem dX0_rootOf_113 : decode cX0_rootOf 113 = .ok (.goto (-97), 3) := by decide +kernel
theorem dX0_rootOf_116 : decode cX0_rootOf 116 = .ok (.lload_n 1, 1) := by decide +kernel
theorem dX0_rootOf_117 : decode cX0_rootOf 117 = .ok (.lconst 1, 1) := by decide +kernel
theorem dX0_rootOf_118 : decode cX0_rootOf 118 = .ok (.ladd, 1) := by decide +kernel
theorem dX0_rootOf_119 : decode cX0_rootOf 119 = .ok (.ldc2_w 52, 3) := by decide +kernel
theorem dX0_rootOf_122 : decode cX0_rootOf 122 = .ok (.ldiv, 1) := by decide +kernel
theorem dX0_rootOf_123 : decode cX0_rootOf 123 = .ok (.l2d, 1) := by decide +kernel
theorem dX0_rootOf_124 : decode cX0_rootOf 124 = .ok (.iconst 1, 1) := by decide +kernel
theorem dX0_rootOf_125 : decode cX0_rootOf 125 = .ok (.iload 5, 2) := by decide +kernel
theorem dX0_rootOf_127 : decode cX0_rootOf 127 = .ok (.isub, 1) := by decide +kernel
theorem dX0_rootOf_128 : decode cX0_rootOf 128 = .ok (.invokestatic 15, 3) := by decide +kernel
theorem dX0_rootOf_131 : decode cX0_rootOf 131 = .ok (.dmul, 1) := by decide +kernel
theorem dX0_rootOf_132 : decode cX0_rootOf 132 = .ok (.dreturn, 1) := by decide +kernel
theorem dX1_init_0 : decode cX1_init 0 = .ok (.aload_n 0, 1) := by decide +kernel
theorem dX1_init_1 : decode cX1_init 1 = .ok (.invokespecial 3, 3) := by decide +kernel
theorem dX1_init_4 : decode cX1_init 4 = .ok (.aload_n 0, 1) := by decide +kernel
theorem dX1_init_5 : decode cX1_init 5 = .ok (.iload_n 1, 1) := by decide +kernel
theorem dX1_init_6 : decode cX1_init 6 = .ok (.putfield 9, 3) := by decide +kernel
theorem dX1_init_9 : decode cX1_init 9 = .ok (.aload_n 0, 1) := by decide +kernel
theorem dX1_init_10 : decode cX1_init 10 = .ok (.bipush 8, 2) := by decide +kernel
theorem dX1_init_12 : decode cX1_init 12 = .ok (.anewarray 10, 3) := by decide +kernel
theorem dX1_init_15 : decode cX1_init 15 = .ok (.putfield 15, 3) := by decide +kernel
theorem dX1_init_18 : decode cX1_init 18 = .ok (.return_, 1) := by decide +kernel
theorem dX1_begin_0 : decode cX1_begin 0 = .ok (.aload_n 0, 1) := by decide +kernel
theorem dX1_begin_1 : decode cX1_begin 1 = .ok (.iload_n 1, 1) := by decide +kernel
theorem dX1_begin_2 : decode cX1_begin 2 = .ok (.putfield 19, 3) := by decide +kernel
theorem dX1_begin_5 : decode cX1_begin 5 = .ok (.aload_n 0, 1) := by decide +kernel
theorem dX1_begin_6 : decode cX1_begin 6 = .ok (.iload_n 2, 1) := by decide +kernel
theorem dX1_begin_7 : decode cX1_begin 7 = .ok (.putfield 22, 3) := by decide +kernel
theorem dX1_begin_10 : decode cX1_begin 10 = .ok (.aload_n 0, 1) := by decide +kernel
theorem dX1_begin_11 : decode cX1_begin 11 = .ok (.lload_n 3, 1) := by decide +kernel
theorem dX1_begin_12 : decode cX1_begin 12 = .ok (.invokestatic 25, 3) := by decide +kernel
theorem dX1_begin_15 : decode cX1_begin 15 = .ok (.putfield 31, 3) := by decide +kernel
theorem dX1_begin_18 : decode cX1_begin 18 = .ok (.aload_n 0, 1) := by decide +kernel
theorem dX1_begin_19 : decode cX1_begin 19 = .ok (.aload_n 0, 1) := by decide +kernel
theorem dX1_begin_20 : decode cX1_begin 20 = .ok (.getfield 31, 3) := by decide +kernel
theorem dX1_begin_23 : decode cX1_begin 23 = .ok (.ifCond .eq 10, 3) := by decide +kernel
theorem dX1_begin_26 : decode cX1_begin 26 = .ok (.lload_n 3, 1) := by decide +kernel
theorem dX1_begin_27 : decode cX1_begin 27 = .ok (.invokestatic 35, 3) := by decide +kernel
theorem dX1_begin_30 : decode cX1_begin 30 = .ok (.goto 4, 3) := by decide +kernel
theorem dX1_begin_33 : decode cX1_begin 33 = .ok (.dconst 0, 1) := by decide +kernel
theorem dX1_begin_34 : decode cX1_begin 34 = .ok (.putfield 39, 3) := by decide +kernel
theorem dX1_begin_37 : decode cX1_begin 37 = .ok (.aload_n 0, 1) := by decide +kernel
theorem dX1_begin_38 : decode cX1_begin 38 = .ok (.lload 5, 2) := by decide +kernel
theorem dX1_begin_40 : decode cX1_begin 40 = .ok (.invokestatic 25, 3) := by decide +kernel
theorem dX1_begin_43 : decode cX1_begin 43 = .ok (.ifCond .eq 11, 3) := by decide +kernel
theorem dX1_begin_46 : decode cX1_begin 46 = .ok (.lload 5, 2) := by decide +kernel
theorem dX1_begin_48 : decode cX1_begin 48 = .ok (.invokestatic 35, 3) := by decide +kernel
theorem dX1_begin_51 : decode cX1_begin 51 = .ok (.goto 4, 3) := by decide +kernel
theorem dX1_begin_54 : decode cX1_begin 54 = .ok (.dconst 0, 1) := by decide +kernel
theorem dX1_begin_55 : decode cX1_begin 55 = .ok (.putfield 43, 3) := by decide +kernel
theorem dX1_begin_58 : decode cX1_begin 58 = .ok (.aload_n 0, 1) := by decide +kernel
theorem dX1_begin_59 : decode cX1_begin 59 = .ok (.iconst 0, 1) := by decide +kernel
theorem dX1_begin_60 : decode cX1_begin 60 = .ok (.putfield 46, 3) := by decide +kernel
theorem dX1_begin_63 : decode cX1_begin 63 = .ok (.aload_n 0, 1) := by decide +kernel
theorem dX1_begin_64 : decode cX1_begin 64 = .ok (.iconst 0, 1) := by decide +kernel
theorem dX1_begin_65 : decode cX1_begin 65 = .ok (.putfield 49, 3) := by decide +kernel
theorem dX1_begin_68 : decode cX1_begin 68 = .ok (.aload_n 0, 1) := by decide +kernel
theorem dX1_begin_69 : decode cX1_begin 69 = .ok (.iconst 1, 1) := by decide +kernel
theorem dX1_begin_70 : decode cX1_begin 70 = .ok (.putfield 52, 3) := by decide +kernel
theorem dX1_begin_73 : decode cX1_begin 73 = .ok (.aload_n 0, 1) := by decide +kernel
theorem dX1_begin_74 : decode cX1_begin 74 = .ok (.iload_n 1, 1) := by decide +kernel
theorem dX1_begin_75 : decode cX1_begin 75 = .ok (.invokestatic 55, 3) := by decide +kernel
theorem dX1_begin_78 : decode cX1_begin 78 = .ok (.ifCond .eq 9, 3) := by decide +kernel
theorem dX1_begin_81 : decode cX1_begin 81 = .ok (.iconst 1, 1) := by decide +kernel
theorem dX1_begin_82 : decode cX1_begin 82 = .ok (.iload_n 2, 1) := by decide +kernel
theorem dX1_begin_83 : decode cX1_begin 83 = .ok (.ishl, 1) := by decide +kernel
theorem dX1_begin_84 : decode cX1_begin 84 = .ok (.goto 4, 3) := by decide +kernel
theorem dX1_begin_87 : decode cX1_begin 87 = .ok (.iconst 0, 1) := by decide +kernel
theorem dX1_begin_88 : decode cX1_begin 88 = .ok (.putfield 61, 3) := by decide +kernel
theorem dX1_begin_91 : decode cX1_begin 91 = .ok (.aload_n 0, 1) := by decide +kernel
theorem dX1_begin_92 : decode cX1_begin 92 = .ok (.iconst 1, 1) := by decide +kernel
theorem dX1_begin_93 : decode cX1_begin 93 = .ok (.putfield 64, 3) := by decide +kernel
theorem dX1_begin_96 : decode cX1_begin 96 = .ok (.aload_n 0, 1) := by decide +kernel
theorem dX1_begin_97 : decode cX1_begin 97 = .ok (.bipush 15, 2) := by decide +kernel
theorem dX1_begin_99 : decode cX1_begin 99 = .ok (.putfield 67, 3) := by decide +kernel
theorem dX1_begin_102 : decode cX1_begin 102 = .ok (.aload_n 0, 1) := by decide +kernel
theorem dX1_begin_103 : decode cX1_begin 103 = .ok (.invokevirtual 70, 3) := by decide +kernel
theorem dX1_begin_106 : decode cX1_begin 106 = .ok (.return_, 1) := by decide +kernel
theorem dX1_addPart_0 : decode cX1_addPart 0 = .ok (.aload_n 0, 1) := by decide +kernel
theorem dX1_addPart_1 : decode cX1_addPart 1 = .ok (.getfield 15, 3) := by decide +kernel
theorem dX1_addPart_4 : decode cX1_addPart 4 = .ok (.aload_n 0, 1) := by decide +kernel
theorem dX1_addPart_5 : decode cX1_addPart 5 = .ok (.getfield 46, 3) := by decide +kernel
theorem dX1_addPart_8 : decode cX1_addPart 8 = .ok (.aload_n 1, 1) := by decide +kernel
theorem dX1_addPart_9 : decode cX1_addPart 9 = .ok (.aastore, 1) := by decide +kernel
theorem dX1_addPart_10 : decode cX1_addPart 10 = .ok (.aload_n 0, 1) := by decide +kernel
theorem dX1_addPart_11 : decode cX1_addPart 11 = .ok (.dup, 1) := by decide +kernel
theorem dX1_addPart_12 : decode cX1_addPart 12 = .ok (.getfield 46, 3) := by decide +kernel
theorem dX1_addPart_15 : decode cX1_addPart 15 = .ok (.iconst 1, 1) := by decide +kernel
theorem dX1_addPart_16 : decode cX1_addPart 16 = .ok (.iadd, 1) := by decide +kernel
theorem dX1_addPart_17 : decode cX1_addPart 17 = .ok (.putfield 46, 3) := by decide +kernel
theorem dX1_addPart_20 : decode cX1_addPart 20 = .ok (.aload_n 1, 1) := by decide +kernel
theorem dX1_addPart_21 : decode cX1_addPart 21 = .ok (.iconst 1, 1) := by decide +kernel
theorem dX1_addPart_22 : decode cX1_addPart 22 = .ok (.putfield 49, 3) := by decide +kernel
theorem dX1_addPart_25 : decode cX1_addPart 25 = .ok (.aload_n 0, 1) := by decide +kernel
theorem dX1_addPart_26 : decode cX1_addPart 26 = .ok (.dup, 1) := by decide +kernel
theorem dX1_addPart_27 : decode cX1_addPart 27 = .ok (.getfield 52, 3) := by decide +kernel
theorem dX1_addPart_30 : decode cX1_addPart 30 = .ok (.aload_n 1, 1) := by decide +kernel
theorem dX1_addPart_31 : decode cX1_addPart 31 = .ok (.getfield 52, 3) := by decide +kernel
theorem dX1_addPart_34 : decode cX1_addPart 34 = .ok (.iadd, 1) := by decide +kernel
theorem dX1_addPart_35 : decode cX1_addPart 35 = .ok (.putfield 52, 3) := by decide +kernel
theorem dX1_addPart_38 : decode cX1_addPart 38 = .ok (.aload_n 0, 1) := by decide +kernel
theorem dX1_addPart_39 : decode cX1_addPart 39 = .ok (.dup, 1) := by decide +kernel
theorem dX1_addPart_40 : decode cX1_addPart 40 = .ok (.getfield 61, 3) := by decide +kernel
theorem dX1_addPart_43 : decode cX1_addPart 43 = .ok (.aload_n 1, 1) := by decide +kernel
theorem dX1_addPart_44 : decode cX1_addPart 44 = .ok (.getfield 61, 3) := by decide +kernel
theorem dX1_addPart_47 : decode cX1_addPart 47 = .ok (.ior, 1) := by decide +kernel
theorem dX1_addPart_48 : decode cX1_addPart 48 = .ok (.putfield 61, 3) := by decide +kernel
theorem dX1_addPart_51 : decode cX1_addPart 51 = .ok (.aload_n 0, 1) := by decide +kernel
theorem dX1_addPart_52 : decode cX1_addPart 52 = .ok (.aload_n 0, 1) := by decide +kernel
theorem dX1_addPart_53 : decode cX1_addPart 53 = .ok (.getfield 64, 3) := by decide +kernel
theorem dX1_addPart_56 : decode cX1_addPart 56 = .ok (.ifCond .eq 14, 3) := by decide +kernel
theorem dX1_addPart_59 : decode cX1_addPart 59 = .ok (.aload_n 1, 1) := by decide +kernel
theorem dX1_addPart_60 : decode cX1_addPart 60 = .ok (.getfield 73, 3) := by decide +kernel
theorem dX1_addPart_63 : decode cX1_addPart 63 = .ok (.ifCond .eq 7, 3) := by decide +kernel
theorem dX1_addPart_66 : decode cX1_addPart 66 = .ok (.iconst 1, 1) := by decide +kernel
theorem dX1_addPart_67 : decode cX1_addPart 67 = .ok (.goto 4, 3) := by decide +kernel
theorem dX1_addPart_70 : decode cX1_addPart 70 = .ok (.iconst 0, 1) := by decide +kernel
theorem dX1_addPart_71 : decode cX1_addPart 71 = .ok (.putfield 64, 3) := by decide +kernel
theorem dX1_addPart_74 : decode cX1_addPart 74 = .ok (.aload_n 0, 1) := by decide +kernel
theorem dX1_addPart_75 : decode cX1_addPart 75 = .ok (.dup, 1) := by decide +kernel
theorem dX1_addPart_76 : decode cX1_addPart 76 = .ok (.getfield 67, 3) := by decide +kernel
theorem dX1_addPart_79 : decode cX1_addPart 79 = .ok (.aload_n 1, 1) := by decide +kernel
theorem dX1_addPart_80 : decode cX1_addPart 80 = .ok (.getfield 76, 3) := by decide +kernel
theorem dX1_addPart_83 : decode cX1_addPart 83 = .ok (.iand, 1) := by decide +kernel
theorem dX1_addPart_84 : decode cX1_addPart 84 = .ok (.putfield 67, 3) := by decide +kernel
theorem dX1_addPart_87 : decode cX1_addPart 87 = .ok (.aload_n 0, 1) := by decide +kernel
theorem dX1_addPart_88 : decode cX1_addPart 88 = .ok (.invokevirtual 70, 3) := by decide +kernel
theorem dX1_addPart_91 : decode cX1_addPart 91 = .ok (.return_, 1) := by decide +kernel
theorem dX1_prove_0 : decode cX1_prove 0 = .ok (.aload_n 0, 1) := by decide +kernel
theorem dX1_prove_1 : decode cX1_prove 1 = .ok (.aload_n 0, 1) := by decide +kernel
theorem dX1_prove_2 : decode cX1_prove 2 = .ok (.invokevirtual 79, 3) := by decide +kernel
theorem dX1_prove_5 : decode cX1_prove 5 = .ok (.putfield 73, 3) := by decide +kernel
theorem dX1_prove_8 : decode cX1_prove 8 = .ok (.aload_n 0, 1) := by decide +kernel
theorem dX1_prove_9 : decode cX1_prove 9 = .ok (.bipush 15, 2) := by decide +kernel
theorem dX1_prove_11 : decode cX1_prove 11 = .ok (.aload_n 0, 1) := by decide +kernel
theorem dX1_prove_12 : decode cX1_prove 12 = .ok (.getfield 61, 3) := by decide +kernel
theorem dX1_prove_15 : decode cX1_prove 15 = .ok (.iconst (-1), 1) := by decide +kernel
theorem dX1_prove_16 : decode cX1_prove 16 = .ok (.ixor, 1) := by decide +kernel
theorem dX1_prove_17 : decode cX1_prove 17 = .ok (.aload_n 0, 1) := by decide +kernel
theorem dX1_prove_18 : decode cX1_prove 18 = .ok (.invokevirtual 83, 3) := by decide +kernel
theorem dX1_prove_21 : decode cX1_prove 21 = .ok (.ior, 1) := by decide +kernel
theorem dX1_prove_22 : decode cX1_prove 22 = .ok (.iand, 1) := by decide +kernel
theorem dX1_prove_23 : decode cX1_prove 23 = .ok (.putfield 76, 3) := by decide +kernel
theorem dX1_prove_26 : decode cX1_prove 26 = .ok (.return_, 1) := by decide +kernel
theorem dX1_isSafe_0 : decode cX1_isSafe 0 = .ok (.aload_n 0, 1) := by decide +kernel
theorem dX1_isSafe_1 : decode cX1_isSafe 1 = .ok (.getfield 19, 3) := by decide +kernel
theorem dX1_isSafe_4 : decode cX1_isSafe 4 = .ok (.lookupswitch 73 #[(0, 44), (5, 66), (12, 68), (13, 68)], 44) := by decide +kernel
theorem dX1_isSafe_48 : decode cX1_isSafe 48 = .ok (.aload_n 0, 1) := by decide +kernel
theorem dX1_isSafe_49 : decode cX1_isSafe 49 = .ok (.getfield 31, 3) := by decide +kernel
theorem dX1_isSafe_52 : decode cX1_isSafe 52 = .ok (.ifCond .eq 12, 3) := by decide +kernel
theorem dX1_isSafe_55 : decode cX1_isSafe 55 = .ok (.aload_n 0, 1) := by decide +kernel
theorem dX1_isSafe_56 : decode cX1_isSafe 56 = .ok (.getfield 39, 3) := by decide +kernel
theorem dX1_isSafe_59 : decode cX1_isSafe 59 = .ok (.dconst 0, 1) := by decide +kernel
theorem dX1_isSafe_60 : decode cX1_isSafe 60 = .ok (.dcmp .g, 1) := by decide +kernel
theorem dX1_isSafe_61 : decode cX1_isSafe 61 = .ok (.ifCond .lt 7, 3) := by decide +kernel
theorem dX1_isSafe_64 : decode cX1_isSafe 64 = .ok (.iconst 1, 1) := by decide +kernel
theorem dX1_isSafe_65 : decode cX1_isSafe 65 = .ok (.goto 4, 3) := by decide +kernel
theorem dX1_isSafe_68 : decode cX1_isSafe 68 = .ok (.iconst 0, 1) := by decide +kernel
theorem dX1_isSafe_69 : decode cX1_isSafe 69 = .ok (.ireturn, 1) := by decide +kernel
theorem dX1_isSafe_70 : decode cX1_isSafe 70 = .ok (.iconst 0, 1) := by decide +kernel
theorem dX1_isSafe_71 : decode cX1_isSafe 71 = .ok (.ireturn, 1) := by decide +kernel
theorem dX1_isSafe_72 : decode cX1_isSafe 72 = .ok (.aload_n 0, 1) := by decide +kernel
theorem dX1_isSafe_73 : decode cX1_isSafe 73 = .ok (.getfield 64, 3) := by decide +kernel
theorem dX1_isSafe_76 : decode cX1_isSafe 76 = .ok (.ireturn, 1) := by decide +kernel
theorem dX1_isSafe_77 : decode cX1_isSafe 77 = .ok (.iconst 1, 1) := by decide +kernel
theorem dX1_isSafe_78 : decode cX1_isSafe 78 = .ok (.ireturn, 1) := by decide +kernel
theorem dX1_risesByKind_0 : decode cX1_risesByKind 0 = .ok (.aload_n 0, 1) := by decide +kernel
theorem dX1_risesByKind_1 : decode cX1_risesByKind 1 = .ok (.getfield 19, 3) := by decide +kernel
theorem dX1_risesByKind_4 : decode cX1_risesByKind 4 = .ok (.tableswitch 62 7 13 #[44, 62, 62, 60, 60, 62, 60], 44) := by decide +kernel
theorem dX1_risesByKind_48 : decode cX1_risesByKind 48 = .ok (.aload_n 0, 1) := by decide +kernel
theorem dX1_risesByKind_49 : decode cX1_risesByKind 49 = .ok (.getfield 64, 3) := by decide +kernel
theorem dX1_risesByKind_52 : decode cX1_risesByKind 52 = .ok (.ifCond .eq 10, 3) := by decide +kernel
theorem dX1_risesByKind_55 : decode cX1_risesByKind 55 = .ok (.aload_n 0, 1) := by decide +kernel
theorem dX1_risesByKind_56 : decode cX1_risesByKind 56 = .ok (.getfield 67, 3) := by decide +kernel
theorem dX1_risesByKind_59 : decode cX1_risesByKind 59 = .ok (.goto 4, 3) := by decide +kernel
theorem dX1_risesByKind_62 : decode cX1_risesByKind 62 = .ok (.iconst 0, 1) := by decide +kernel
theorem dX1_risesByKind_63 : decode cX1_risesByKind 63 = .ok (.ireturn, 1) := by decide +kernel
theorem dX1_risesByKind_64 : decode cX1_risesByKind 64 = .ok (.iconst 0, 1) := by decide +kernel
theorem dX1_risesByKind_65 : decode cX1_risesByKind 65 = .ok (.ireturn, 1) := by decide +kernel
theorem dX1_risesByKind_66 : decode cX1_risesByKind 66 = .ok (.aload_n 0, 1) := by decide +kernel
theorem dX1_risesByKind_67 : decode cX1_risesByKind 67 = .ok (.getfield 67, 3) := by decide +kernel
theorem dX1_risesByKind_70 : decode cX1_risesByKind 70 = .ok (.ireturn, 1) := by decide +kernel
theorem dX2_hasField_0 : decode cX2_hasField 0 = .ok (.iload_n 0, 1) := by decide +kernel
theorem dX2_hasField_1 : decode cX2_hasField 1 = .ok (.iconst 1, 1) := by decide +kernel
theorem dX2_hasField_2 : decode cX2_hasField 2 = .ok (.if_icmp .lt 12, 3) := by decide +kernel
theorem dX2_hasField_5 : decode cX2_hasField 5 = .ok (.iload_n 0, 1) := by decide +kernel
theorem dX2_hasField_6 : decode cX2_hasField 6 = .ok (.iconst 4, 1) := by decide +kernel
theorem dX2_hasField_7 : decode cX2_hasField 7 = .ok (.if_icmp .gt 7, 3) := by decide +kernel
theorem dX2_hasField_10 : decode cX2_hasField 10 = .ok (.iconst 1, 1) := by decide +kernel
theorem dX2_hasField_11 : decode cX2_hasField 11 = .ok (.goto 4, 3) := by decide +kernel
theorem dX2_hasField_14 : decode cX2_hasField 14 = .ok (.iconst 0, 1) := by decide +kernel
theorem dX2_hasField_15 : decode cX2_hasField 15 = .ok (.ireturn, 1) := by decide +kernel
theorem dX2_gathers_0 : decode cX2_gathers 0 = .ok (.iload_n 0, 1) := by decide +kernel
theorem dX2_gathers_1 : decode cX2_gathers 1 = .ok (.bipush 6, 2) := by decide +kernel
theorem dX2_gathers_3 : decode cX2_gathers 3 = .ok (.if_icmp .lt 13, 3) := by decide +kernel
theorem dX2_gathers_6 : decode cX2_gathers 6 = .ok (.iload_n 0, 1) := by decide +kernel
theorem dX2_gathers_7 : decode cX2_gathers 7 = .ok (.bipush 8, 2) := by decide +kernel
theorem dX2_gathers_9 : decode cX2_gathers 9 = .ok (.if_icmp .gt 7, 3) := by decide +kernel
theorem dX2_gathers_12 : decode cX2_gathers 12 = .ok (.iconst 1, 1) := by decide +kernel
theorem dX2_gathers_13 : decode cX2_gathers 13 = .ok (.goto 4, 3) := by decide +kernel
theorem dX2_gathers_16 : decode cX2_gathers 16 = .ok (.iconst 0, 1) := by decide +kernel
theorem dX2_gathers_17 : decode cX2_gathers 17 = .ok (.ireturn, 1) := by decide +kernel
theorem dX2_hasX_0 : decode cX2_hasX 0 = .ok (.iload_n 0, 1) := by decide +kernel
theorem dX2_hasX_1 : decode cX2_hasX 1 = .ok (.bipush 9, 2) := by decide +kernel
theorem dX2_hasX_3 : decode cX2_hasX 3 = .ok (.if_icmp .lt 13, 3) := by decide +kernel
theorem dX2_hasX_6 : decode cX2_hasX 6 = .ok (.iload_n 0, 1) := by decide +kernel
theorem dX2_hasX_7 : decode cX2_hasX 7 = .ok (.bipush 13, 2) := by decide +kernel
theorem dX2_hasX_9 : decode cX2_hasX 9 = .ok (.if_icmp .gt 7, 3) := by decide +kernel
theorem dX2_hasX_12 : decode cX2_hasX 12 = .ok (.iconst 1, 1) := by decide +kernel
theorem dX2_hasX_13 : decode cX2_hasX 13 = .ok (.goto 4, 3) := by decide +kernel
theorem dX2_hasX_16 : decode cX2_hasX 16 = .ok (.iconst 0, 1) := by decide +kernel
theorem dX2_hasX_17 : decode cX2_hasX 17 = .ok (.ireturn, 1) := by decide +kernel
theorem dX2_failsBelow_0 : decode cX2_failsBelow 0 = .ok (.iload_n 0, 1) := by decide +kernel
theorem dX2_failsBelow_1 : decode cX2_failsBelow 1 = .ok (.bipush 6, 2) := by decide +kernel
theorem dX2_failsBelow_3 : decode cX2_failsBelow 3 = .ok (.if_icmp .lt 13, 3) := by decide +kernel
theorem dX2_failsBelow_6 : decode cX2_failsBelow 6 = .ok (.iload_n 0, 1) := by decide +kernel
theorem dX2_failsBelow_7 : decode cX2_failsBelow 7 = .ok (.bipush 9, 2) := by decide +kernel
theorem dX2_failsBelow_9 : decode cX2_failsBelow 9 = .ok (.if_icmp .gt 7, 3) := by decide +kernel
theorem dX2_failsBelow_12 : decode cX2_failsBelow 12 = .ok (.iconst 1, 1) := by decide +kernel
theorem dX2_failsBelow_13 : decode cX2_failsBelow 13 = .ok (.goto 4, 3) := by decide +kernel
theorem dX2_failsBelow_16 : decode cX2_failsBelow 16 = .ok (.iconst 0, 1) := by decide +kernel
theorem dX2_failsBelow_17 : decode cX2_failsBelow 17 = .ok (.ireturn, 1) := by decide +kernel
theorem dX2_takes_0 : decode cX2_takes 0 = .ok (.iload_n 0, 1) := by decide +kernel
theorem dX2_takes_1 : decode cX2_takes 1 = .ok (.tableswitch 101 3 11 #[51, 56, 101, 101, 101, 76, 51, 81, 81], 51) := by decide +kernel
theorem dX2_takes_52 : decode cX2_takes 52 = .ok (.lload_n 1, 1) := by decide +kernel
theorem dX2_takes_53 : decode cX2_takes 53 = .ok (.invokestatic 9, 3) := by decide +kernel
theorem dX2_takes_56 : decode cX2_takes 56 = .ok (.ireturn, 1) := by decide +kernel
theorem dX2_takes_57 : decode cX2_takes 57 = .ok (.lload_n 1, 1) := by decide +kernel
theorem dX2_takes_58 : decode cX2_takes 58 = .ok (.invokestatic 9, 3) := by decide +kernel
theorem dX2_takes_61 : decode cX2_takes 61 = .ok (.ifCond .eq 14, 3) := by decide +kernel
theorem dX2_takes_64 : decode cX2_takes 64 = .ok (.lload_n 3, 1) := by decide +kernel
theorem dX2_takes_65 : decode cX2_takes 65 = .ok (.invokestatic 13, 3) := by decide +kernel
theorem dX2_takes_68 : decode cX2_takes 68 = .ok (.ifCond .eq 7, 3) := by decide +kernel
theorem dX2_takes_71 : decode cX2_takes 71 = .ok (.iconst 1, 1) := by decide +kernel
theorem dX2_takes_72 : decode cX2_takes 72 = .ok (.goto 4, 3) := by decide +kernel
theorem dX2_takes_75 : decode cX2_takes 75 = .ok (.iconst 0, 1) := by decide +kernel
theorem dX2_takes_76 : decode cX2_takes 76 = .ok (.ireturn, 1) := by decide +kernel
theorem dX2_takes_77 : decode cX2_takes 77 = .ok (.lload_n 1, 1) := by decide +kernel
theorem dX2_takes_78 : decode cX2_takes 78 = .ok (.invokestatic 13, 3) := by decide +kernel
theorem dX2_takes_81 : decode cX2_takes 81 = .ok (.ireturn, 1) := by decide +kernel
theorem dX2_takes_82 : decode cX2_takes 82 = .ok (.lload_n 1, 1) := by decide +kernel
theorem dX2_takes_83 : decode cX2_takes 83 = .ok (.invokestatic 16, 3) := by decide +kernel
theorem dX2_takes_86 : decode cX2_takes 86 = .ok (.ifCond .eq 14, 3) := by decide +kernel
theorem dX2_takes_89 : decode cX2_takes 89 = .ok (.lload_n 3, 1) := by decide +kernel
theorem dX2_takes_90 : decode cX2_takes 90 = .ok (.invokestatic 21, 3) := by decide +kernel
theorem dX2_takes_93 : decode cX2_takes 93 = .ok (.ifCond .eq 7, 3) := by decide +kernel
theorem dX2_takes_96 : decode cX2_takes 96 = .ok (.iconst 1, 1) := by decide +kernel
theorem dX2_takes_97 : decode cX2_takes 97 = .ok (.goto 4, 3) := by decide +kernel
theorem dX2_takes_100 : decode cX2_takes 100 = .ok (.iconst 0, 1) := by decide +kernel
theorem dX2_takes_101 : decode cX2_takes 101 = .ok (.ireturn, 1) := by decide +kernel
theorem dX2_takes_102 : decode cX2_takes 102 = .ok (.iconst 1, 1) := by decide +kernel
theorem dX2_takes_103 : decode cX2_takes 103 = .ok (.ireturn, 1) := by decide +kernel
theorem dX2_isNotBelow_0 : decode cX2_isNotBelow 0 = .ok (.lload_n 0, 1) := by decide +kernel
theorem dX2_isNotBelow_1 : decode cX2_isNotBelow 1 = .ok (.invokestatic 16, 3) := by decide +kernel
theorem dX2_isNotBelow_4 : decode cX2_isNotBelow 4 = .ok (.ifCond .eq 16, 3) := by decide +kernel
theorem dX2_isNotBelow_7 : decode cX2_isNotBelow 7 = .ok (.lload_n 0, 1) := by decide +kernel
theorem dX2_isNotBelow_8 : decode cX2_isNotBelow 8 = .ok (.invokestatic 24, 3) := by decide +kernel
theorem dX2_isNotBelow_11 : decode cX2_isNotBelow 11 = .ok (.dconst 0, 1) := by decide +kernel
theorem dX2_isNotBelow_12 : decode cX2_isNotBelow 12 = .ok (.dcmp .l, 1) := by decide +kernel
theorem dX2_isNotBelow_13 : decode cX2_isNotBelow 13 = .ok (.ifCond .lt 7, 3) := by decide +kernel
theorem dX2_isNotBelow_16 : decode cX2_isNotBelow 16 = .ok (.iconst 1, 1) := by decide +kernel
theorem dX2_isNotBelow_17 : decode cX2_isNotBelow 17 = .ok (.goto 4, 3) := by decide +kernel
theorem dX2_isNotBelow_20 : decode cX2_isNotBelow 20 = .ok (.iconst 0, 1) := by decide +kernel
theorem dX2_isNotBelow_21 : decode cX2_isNotBelow 21 = .ok (.ireturn, 1) := by decide +kernel
theorem dX2_isShare_0 : decode cX2_isShare 0 = .ok (.lload_n 0, 1) := by decide +kernel
theorem dX2_isShare_1 : decode cX2_isShare 1 = .ok (.invokestatic 9, 3) := by decide +kernel
theorem dX2_isShare_4 : decode cX2_isShare 4 = .ok (.ifCond .eq 16, 3) := by decide +kernel
theorem dX2_isShare_7 : decode cX2_isShare 7 = .ok (.lload_n 0, 1) := by decide +kernel
theorem dX2_isShare_8 : decode cX2_isShare 8 = .ok (.invokestatic 24, 3) := by decide +kernel
theorem dX2_isShare_11 : decode cX2_isShare 11 = .ok (.dconst 1, 1) := by decide +kernel
theorem dX2_isShare_12 : decode cX2_isShare 12 = .ok (.dcmp .g, 1) := by decide +kernel
theorem dX2_isShare_13 : decode cX2_isShare 13 = .ok (.ifCond .gt 7, 3) := by decide +kernel
theorem dX2_isShare_16 : decode cX2_isShare 16 = .ok (.iconst 1, 1) := by decide +kernel
theorem dX2_isShare_17 : decode cX2_isShare 17 = .ok (.goto 4, 3) := by decide +kernel
theorem dX2_isShare_20 : decode cX2_isShare 20 = .ok (.iconst 0, 1) := by decide +kernel
theorem dX2_isShare_21 : decode cX2_isShare 21 = .ok (.ireturn, 1) := by decide +kernel
theorem dX2_isAbove_0 : decode cX2_isAbove 0 = .ok (.lload_n 0, 1) := by decide +kernel
theorem dX2_isAbove_1 : decode cX2_isAbove 1 = .ok (.invokestatic 16, 3) := by decide +kernel
theorem dX2_isAbove_4 : decode cX2_isAbove 4 = .ok (.ifCond .eq 16, 3) := by decide +kernel
theorem dX2_isAbove_7 : decode cX2_isAbove 7 = .ok (.lload_n 0, 1) := by decide +kernel
theorem dX2_isAbove_8 : decode cX2_isAbove 8 = .ok (.invokestatic 24, 3) := by decide +kernel
theorem dX2_isAbove_11 : decode cX2_isAbove 11 = .ok (.dconst 0, 1) := by decide +kernel
theorem dX2_isAbove_12 : decode cX2_isAbove 12 = .ok (.dcmp .l, 1) := by decide +kernel
theorem dX2_isAbove_13 : decode cX2_isAbove 13 = .ok (.ifCond .le 7, 3) := by decide +kernel
theorem dX2_isAbove_16 : decode cX2_isAbove 16 = .ok (.iconst 1, 1) := by decide +kernel
theorem dX2_isAbove_17 : decode cX2_isAbove 17 = .ok (.goto 4, 3) := by decide +kernel
theorem dX2_isAbove_20 : decode cX2_isAbove 20 = .ok (.iconst 0, 1) := by decide +kernel
theorem dX2_isAbove_21 : decode cX2_isAbove 21 = .ok (.ireturn, 1) := by decide +kernel
theorem dX3_valueOf_0 : decode cX3_valueOf 0 = .ok (.iload_n 0, 1) := by decide +kernel
theorem dX3_valueOf_1 : decode cX3_valueOf 1 = .ok (.bipush 32, 2) := by decide +kernel
theorem dX3_valueOf_3 : decode cX3_valueOf 3 = .ok (.if_icmp .ge 7, 3) := by decide +kernel
theorem dX3_valueOf_6 : decode cX3_valueOf 6 = .ok (.iload_n 0, 1) := by decide +kernel
theorem dX3_valueOf_7 : decode cX3_valueOf 7 = .ok (.goto 17, 3) := by decide +kernel
theorem dX3_valueOf_10 : decode cX3_valueOf 10 = .ok (.bipush 32, 2) := by decide +kernel
theorem dX3_valueOf_12 : decode cX3_valueOf 12 = .ok (.iload_n 0, 1) := by decide +kernel
theorem dX3_valueOf_13 : decode cX3_valueOf 13 = .ok (.bipush 32, 2) := by decide +kernel
theorem dX3_valueOf_15 : decode cX3_valueOf 15 = .ok (.irem, 1) := by decide +kernel
theorem dX3_valueOf_16 : decode cX3_valueOf 16 = .ok (.iadd, 1) := by decide +kernel
theorem dX3_valueOf_17 : decode cX3_valueOf 17 = .ok (.iload_n 0, 1) := by decide +kernel
theorem dX3_valueOf_18 : decode cX3_valueOf 18 = .ok (.bipush 32, 2) := by decide +kernel
theorem dX3_valueOf_20 : decode cX3_valueOf 20 = .ok (.idiv, 1) := by decide +kernel
theorem dX3_valueOf_21 : decode cX3_valueOf 21 = .ok (.iconst 1, 1) := by decide +kernel
theorem dX3_valueOf_22 : decode cX3_valueOf 22 = .ok (.isub, 1) := by decide +kernel
theorem dX3_valueOf_23 : decode cX3_valueOf 23 = .ok (.ishl, 1) := by decide +kernel
theorem dX3_valueOf_24 : decode cX3_valueOf 24 = .ok (.ireturn, 1) := by decide +kernel
theorem dX3_codeOf_0 : decode cX3_codeOf 0 = .ok (.iconst 0, 1) := by decide +kernel
theorem dX3_codeOf_1 : decode cX3_codeOf 1 = .ok (.istore_n 1, 1) := by decide +kernel
theorem dX3_codeOf_2 : decode cX3_codeOf 2 = .ok (.sipush 128, 3) := by decide +kernel
theorem dX3_codeOf_5 : decode cX3_codeOf 5 = .ok (.istore_n 2, 1) := by decide +kernel
theorem dX3_codeOf_6 : decode cX3_codeOf 6 = .ok (.iload_n 2, 1) := by decide +kernel
theorem dX3_codeOf_7 : decode cX3_codeOf 7 = .ok (.ifCond .le 24, 3) := by decide +kernel
theorem dX3_codeOf_10 : decode cX3_codeOf 10 = .ok (.iload_n 1, 1) := by decide +kernel
theorem dX3_codeOf_11 : decode cX3_codeOf 11 = .ok (.iload_n 2, 1) := by decide +kernel
theorem dX3_codeOf_12 : decode cX3_codeOf 12 = .ok (.iadd, 1) := by decide +kernel
theorem dX3_codeOf_13 : decode cX3_codeOf 13 = .ok (.invokestatic 9, 3) := by decide +kernel
theorem dX3_codeOf_16 : decode cX3_codeOf 16 = .ok (.iload_n 0, 1) := by decide +kernel
theorem dX3_codeOf_17 : decode cX3_codeOf 17 = .ok (.if_icmp .gt 7, 3) := by decide +kernel
theorem dX3_codeOf_20 : decode cX3_codeOf 20 = .ok (.iload_n 1, 1) := by decide +kernel
theorem dX3_codeOf_21 : decode cX3_codeOf 21 = .ok (.iload_n 2, 1) := by decide +kernel
theorem dX3_codeOf_22 : decode cX3_codeOf 22 = .ok (.iadd, 1) := by decide +kernel
theorem dX3_codeOf_23 : decode cX3_codeOf 23 = .ok (.istore_n 1, 1) := by decide +kernel
theorem dX3_codeOf_24 : decode cX3_codeOf 24 = .ok (.iload_n 2, 1) := by decide +kernel
theorem dX3_codeOf_25 : decode cX3_codeOf 25 = .ok (.iconst 2, 1) := by decide +kernel
theorem dX3_codeOf_26 : decode cX3_codeOf 26 = .ok (.idiv, 1) := by decide +kernel
theorem dX3_codeOf_27 : decode cX3_codeOf 27 = .ok (.istore_n 2, 1) := by decide +kernel
theorem dX3_codeOf_28 : decode cX3_codeOf 28 = .ok (.goto (-22), 3) := by decide +kernel
theorem dX3_codeOf_31 : decode cX3_codeOf 31 = .ok (.iload_n 1, 1) := by decide +kernel
theorem dX3_codeOf_32 : decode cX3_codeOf 32 = .ok (.ireturn, 1) := by decide +kernel
theorem dX4_init_0 : decode cX4_init 0 = .ok (.aload_n 0, 1) := by decide +kernel
theorem dX4_init_1 : decode cX4_init 1 = .ok (.invokespecial 1, 3) := by decide +kernel
theorem dX4_init_4 : decode cX4_init 4 = .ok (.return_, 1) := by decide +kernel
theorem dX4_begin_0 : decode cX4_begin 0 = .ok (.aload_n 0, 1) := by decide +kernel
theorem dX4_begin_1 : decode cX4_begin 1 = .ok (.iconst 0, 1) := by decide +kernel
theorem dX4_begin_2 : decode cX4_begin 2 = .ok (.putfield 7, 3) := by decide +kernel
theorem dX4_begin_5 : decode cX4_begin 5 = .ok (.return_, 1) := by decide +kernel
theorem dX4_isLost_0 : decode cX4_isLost 0 = .ok (.aload_n 0, 1) := by decide +kernel
theorem dX4_isLost_1 : decode cX4_isLost 1 = .ok (.getfield 7, 3) := by decide +kernel
theorem dX4_isLost_4 : decode cX4_isLost 4 = .ok (.ireturn, 1) := by decide +kernel
theorem dX4_lose_0 : decode cX4_lose 0 = .ok (.aload_n 0, 1) := by decide +kernel
theorem dX4_lose_1 : decode cX4_lose 1 = .ok (.iconst 1, 1) := by decide +kernel
theorem dX4_lose_2 : decode cX4_lose 2 = .ok (.putfield 7, 3) := by decide +kernel
theorem dX4_lose_5 : decode cX4_lose 5 = .ok (.dconst 0, 1) := by decide +kernel
theorem dX4_lose_6 : decode cX4_lose 6 = .ok (.dreturn, 1) := by decide +kernel
theorem dX4_plus_0 : decode cX4_plus 0 = .ok (.dload_n 1, 1) := by decide +kernel
theorem dX4_plus_1 : decode cX4_plus 1 = .ok (.invokestatic 13, 3) := by decide +kernel
theorem dX4_plus_4 : decode cX4_plus 4 = .ok (.ifCond .eq 21, 3) := by decide +kernel
theorem dX4_plus_7 : decode cX4_plus 7 = .ok (.dload_n 3, 1) := by decide +kernel
theorem dX4_plus_8 : decode cX4_plus 8 = .ok (.invokestatic 13, 3) := by decide +kernel
theorem dX4_plus_11 : decode cX4_plus 11 = .ok (.ifCond .eq 14, 3) := by decide +kernel
theorem dX4_plus_14 : decode cX4_plus 14 = .ok (.dload_n 1, 1) := by decide +kernel
theorem dX4_plus_15 : decode cX4_plus 15 = .ok (.dload_n 3, 1) := by decide +kernel
theorem dX4_plus_16 : decode cX4_plus 16 = .ok (.dcmp .l, 1) := by decide +kernel
theorem dX4_plus_17 : decode cX4_plus 17 = .ok (.ifCond .eq 8, 3) := by decide +kernel
theorem dX4_plus_20 : decode cX4_plus 20 = .ok (.aload_n 0, 1) := by decide +kernel
theorem dX4_plus_21 : decode cX4_plus 21 = .ok (.invokevirtual 19, 3) := by decide +kernel
theorem dX4_plus_24 : decode cX4_plus 24 = .ok (.dreturn, 1) := by decide +kernel
theorem dX4_plus_25 : decode cX4_plus 25 = .ok (.dload_n 1, 1) := by decide +kernel
theorem dX4_plus_26 : decode cX4_plus 26 = .ok (.dload_n 3, 1) := by decide +kernel
theorem dX4_plus_27 : decode cX4_plus 27 = .ok (.dadd, 1) := by decide +kernel
theorem dX4_plus_28 : decode cX4_plus 28 = .ok (.dreturn, 1) := by decide +kernel
theorem dX4_minus_0 : decode cX4_minus 0 = .ok (.dload_n 1, 1) := by decide +kernel
theorem dX4_minus_1 : decode cX4_minus 1 = .ok (.invokestatic 13, 3) := by decide +kernel
theorem dX4_minus_4 : decode cX4_minus 4 = .ok (.ifCond .eq 14, 3) := by decide +kernel
theorem dX4_minus_7 : decode cX4_minus 7 = .ok (.dload_n 1, 1) := by decide +kernel
theorem dX4_minus_8 : decode cX4_minus 8 = .ok (.dload_n 3, 1) := by decide +kernel
theorem dX4_minus_9 : decode cX4_minus 9 = .ok (.dcmp .l, 1) := by decide +kernel
theorem dX4_minus_10 : decode cX4_minus 10 = .ok (.ifCond .ne 8, 3) := by decide +kernel
theorem dX4_minus_13 : decode cX4_minus 13 = .ok (.aload_n 0, 1) := by decide +kernel
theorem dX4_minus_14 : decode cX4_minus 14 = .ok (.invokevirtual 19, 3) := by decide +kernel
theorem dX4_minus_17 : decode cX4_minus 17 = .ok (.dreturn, 1) := by decide +kernel
theorem dX4_minus_18 : decode cX4_minus 18 = .ok (.dload_n 1, 1) := by decide +kernel
theorem dX4_minus_19 : decode cX4_minus 19 = .ok (.dload_n 3, 1) := by decide +kernel
theorem dX4_minus_20 : decode cX4_minus 20 = .ok (.dsub, 1) := by decide +kernel
theorem dX4_minus_21 : decode cX4_minus 21 = .ok (.dreturn, 1) := by decide +kernel
theorem dX4_times_0 : decode cX4_times 0 = .ok (.dload_n 1, 1) := by decide +kernel
theorem dX4_times_1 : decode cX4_times 1 = .ok (.dconst 0, 1) := by decide +kernel
theorem dX4_times_2 : decode cX4_times 2 = .ok (.dcmp .l, 1) := by decide +kernel
theorem dX4_times_3 : decode cX4_times 3 = .ok (.ifCond .ne 10, 3) := by decide +kernel
theorem dX4_times_6 : decode cX4_times 6 = .ok (.dload_n 3, 1) := by decide +kernel
theorem dX4_times_7 : decode cX4_times 7 = .ok (.invokestatic 13, 3) := by decide +kernel
theorem dX4_times_10 : decode cX4_times 10 = .ok (.ifCond .ne 16, 3) := by decide +kernel
theorem dX4_times_13 : decode cX4_times 13 = .ok (.dload_n 3, 1) := by decide +kernel
theorem dX4_times_14 : decode cX4_times 14 = .ok (.dconst 0, 1) := by decide +kernel
theorem dX4_times_15 : decode cX4_times 15 = .ok (.dcmp .l, 1) := by decide +kernel
theorem dX4_times_16 : decode cX4_times 16 = .ok (.ifCond .ne 15, 3) := by decide +kernel
theorem dX4_times_19 : decode cX4_times 19 = .ok (.dload_n 1, 1) := by decide +kernel
theorem dX4_times_20 : decode cX4_times 20 = .ok (.invokestatic 13, 3) := by decide +kernel
theorem dX4_times_23 : decode cX4_times 23 = .ok (.ifCond .eq 8, 3) := by decide +kernel
theorem dX4_times_26 : decode cX4_times 26 = .ok (.aload_n 0, 1) := by decide +kernel
theorem dX4_times_27 : decode cX4_times 27 = .ok (.invokevirtual 19, 3) := by decide +kernel
theorem dX4_times_30 : decode cX4_times 30 = .ok (.dreturn, 1) := by decide +kernel
theorem dX4_times_31 : decode cX4_times 31 = .ok (.dload_n 1, 1) := by decide +kernel
theorem dX4_times_32 : decode cX4_times 32 = .ok (.dload_n 3, 1) := by decide +kernel
theorem dX4_times_33 : decode cX4_times 33 = .ok (.dmul, 1) := by decide +kernel
theorem dX4_times_34 : decode cX4_times 34 = .ok (.dreturn, 1) := by decide +kernel
theorem dX4_over_0 : decode cX4_over 0 = .ok (.dload_n 1, 1) := by decide +kernel
theorem dX4_over_1 : decode cX4_over 1 = .ok (.dconst 0, 1) := by decide +kernel
theorem dX4_over_2 : decode cX4_over 2 = .ok (.dcmp .l, 1) := by decide +kernel
theorem dX4_over_3 : decode cX4_over 3 = .ok (.ifCond .ne 9, 3) := by decide +kernel
theorem dX4_over_6 : decode cX4_over 6 = .ok (.dload_n 3, 1) := by decide +kernel
theorem dX4_over_7 : decode cX4_over 7 = .ok (.dconst 0, 1) := by decide +kernel
theorem dX4_over_8 : decode cX4_over 8 = .ok (.dcmp .l, 1) := by decide +kernel
theorem dX4_over_9 : decode cX4_over 9 = .ok (.ifCond .eq 17, 3) := by decide +kernel
theorem dX4_over_12 : decode cX4_over 12 = .ok (.dload_n 1, 1) := by decide +kernel
theorem dX4_over_13 : decode cX4_over 13 = .ok (.invokestatic 13, 3) := by decide +kernel
theorem dX4_over_16 : decode cX4_over 16 = .ok (.ifCond .eq 15, 3) := by decide +kernel
theorem dX4_over_19 : decode cX4_over 19 = .ok (.dload_n 3, 1) := by decide +kernel
theorem dX4_over_20 : decode cX4_over 20 = .ok (.invokestatic 13, 3) := by decide +kernel
theorem dX4_over_23 : decode cX4_over 23 = .ok (.ifCond .eq 8, 3) := by decide +kernel
theorem dX4_over_26 : decode cX4_over 26 = .ok (.aload_n 0, 1) := by decide +kernel
theorem dX4_over_27 : decode cX4_over 27 = .ok (.invokevirtual 19, 3) := by decide +kernel
theorem dX4_over_30 : decode cX4_over 30 = .ok (.dreturn, 1) := by decide +kernel
theorem dX4_over_31 : decode cX4_over 31 = .ok (.dload_n 1, 1) := by decide +kernel
theorem dX4_over_32 : decode cX4_over 32 = .ok (.dload_n 3, 1) := by decide +kernel
theorem dX4_over_33 : decode cX4_over 33 = .ok (.ddiv, 1) := by decide +kernel
theorem dX4_over_34 : decode cX4_over 34 = .ok (.dreturn, 1) := by decide +kernel
theorem dX5_init_0 : decode cX5_init 0 = .ok (.aload_n 0, 1) := by decide +kernel
theorem dX5_init_1 : decode cX5_init 1 = .ok (.invokespecial 3, 3) := by decide +kernel
theorem dX5_init_4 : decode cX5_init 4 = .ok (.aload_n 0, 1) := by decide +kernel
theorem dX5_init_5 : decode cX5_init 5 = .ok (.aload_n 1, 1) := by decide +kernel
theorem dX5_init_6 : decode cX5_init 6 = .ok (.putfield 9, 3) := by decide +kernel
theorem dX5_init_9 : decode cX5_init 9 = .ok (.aload_n 0, 1) := by decide +kernel
theorem dX5_init_10 : decode cX5_init 10 = .ok (.new 15, 3) := by decide +kernel
theorem dX5_init_13 : decode cX5_init 13 = .ok (.dup, 1) := by decide +kernel
theorem dX5_init_14 : decode cX5_init 14 = .ok (.invokespecial 17, 3) := by decide +kernel
theorem dX5_init_17 : decode cX5_init 17 = .ok (.putfield 18, 3) := by decide +kernel
theorem dX5_init_20 : decode cX5_init 20 = .ok (.aload_n 0, 1) := by decide +kernel
theorem dX5_init_21 : decode cX5_init 21 = .ok (.sipush 480, 3) := by decide +kernel
theorem dX5_init_24 : decode cX5_init 24 = .ok (.newarray .double, 2) := by decide +kernel
theorem dX5_init_26 : decode cX5_init 26 = .ok (.putfield 22, 3) := by decide +kernel
theorem dX5_init_29 : decode cX5_init 29 = .ok (.return_, 1) := by decide +kernel
theorem dX5_valueOf_0 : decode cX5_valueOf 0 = .ok (.aload_n 0, 1) := by decide +kernel
theorem dX5_valueOf_1 : decode cX5_valueOf 1 = .ok (.iload_n 2, 1) := by decide +kernel
theorem dX5_valueOf_2 : decode cX5_valueOf 2 = .ok (.putfield 26, 3) := by decide +kernel
theorem dX5_valueOf_5 : decode cX5_valueOf 5 = .ok (.aload_n 0, 1) := by decide +kernel
theorem dX5_valueOf_6 : decode cX5_valueOf 6 = .ok (.iconst 0, 1) := by decide +kernel
theorem dX5_valueOf_7 : decode cX5_valueOf 7 = .ok (.putfield 30, 3) := by decide +kernel
theorem dX5_valueOf_10 : decode cX5_valueOf 10 = .ok (.aload_n 0, 1) := by decide +kernel
theorem dX5_valueOf_11 : decode cX5_valueOf 11 = .ok (.bipush (-9), 2) := by decide +kernel
theorem dX5_valueOf_13 : decode cX5_valueOf 13 = .ok (.putfield 33, 3) := by decide +kernel
theorem dX5_valueOf_16 : decode cX5_valueOf 16 = .ok (.aload_n 0, 1) := by decide +kernel
theorem dX5_valueOf_17 : decode cX5_valueOf 17 = .ok (.iconst 0, 1) := by decide +kernel
theorem dX5_valueOf_18 : decode cX5_valueOf 18 = .ok (.putfield 36, 3) := by decide +kernel
theorem dX5_valueOf_21 : decode cX5_valueOf 21 = .ok (.aload_n 0, 1) := by decide +kernel
theorem dX5_valueOf_22 : decode cX5_valueOf 22 = .ok (.iconst 0, 1) := by decide +kernel
theorem dX5_valueOf_23 : decode cX5_valueOf 23 = .ok (.putfield 39, 3) := by decide +kernel
theorem dX5_valueOf_26 : decode cX5_valueOf 26 = .ok (.aload_n 0, 1) := by decide +kernel
theorem dX5_valueOf_27 : decode cX5_valueOf 27 = .ok (.iconst 0, 1) := by decide +kernel
theorem dX5_valueOf_28 : decode cX5_valueOf 28 = .ok (.putfield 42, 3) := by decide +kernel
theorem dX5_valueOf_31 : decode cX5_valueOf 31 = .ok (.aload_n 0, 1) := by decide +kernel
theorem dX5_valueOf_32 : decode cX5_valueOf 32 = .ok (.aload_n 1, 1) := by decide +kernel
theorem dX5_valueOf_33 : decode cX5_valueOf 33 = .ok (.iconst 1, 1) := by decide +kernel
theorem dX5_valueOf_34 : decode cX5_valueOf 34 = .ok (.invokevirtual 45, 3) := by decide +kernel
theorem dX5_valueOf_37 : decode cX5_valueOf 37 = .ok (.dreturn, 1) := by decide +kernel
theorem dX5_ask_0 : decode cX5_ask 0 = .ok (.iload_n 2, 1) := by decide +kernel
theorem dX5_ask_1 : decode cX5_ask 1 = .ok (.bipush 60, 2) := by decide +kernel
theorem dX5_ask_3 : decode cX5_ask 3 = .ok (.if_icmp .le 10, 3) := by decide +kernel
theorem dX5_ask_6 : decode cX5_ask 6 = .ok (.aload_n 0, 1) := by decide +kernel
theorem dX5_ask_7 : decode cX5_ask 7 = .ok (.aload_n 1, 1) := by decide +kernel
theorem dX5_ask_8 : decode cX5_ask 8 = .ok (.iconst 2, 1) := by decide +kernel
theorem dX5_ask_9 : decode cX5_ask 9 = .ok (.invokevirtual 49, 3) := by decide +kernel
theorem dX5_ask_12 : decode cX5_ask 12 = .ok (.dreturn, 1) := by decide +kernel
theorem dX5_ask_13 : decode cX5_ask 13 = .ok (.aload_n 0, 1) := by decide +kernel
theorem dX5_ask_14 : decode cX5_ask 14 = .ok (.dup, 1) := by decide +kernel
theorem dX5_ask_15 : decode cX5_ask 15 = .ok (.getfield 36, 3) := by decide +kernel
theorem dX5_ask_18 : decode cX5_ask 18 = .ok (.iconst 1, 1) := by decide +kernel
theorem dX5_ask_19 : decode cX5_ask 19 = .ok (.iadd, 1) := by decide +kernel
theorem dX5_ask_20 : decode cX5_ask 20 = .ok (.putfield 36, 3) := by decide +kernel
theorem dX5_ask_23 : decode cX5_ask 23 = .ok (.iload_n 2, 1) := by decide +kernel
theorem dX5_ask_24 : decode cX5_ask 24 = .ok (.aload_n 0, 1) := by decide +kernel
theorem dX5_ask_25 : decode cX5_ask 25 = .ok (.getfield 42, 3) := by decide +kernel
theorem dX5_ask_28 : decode cX5_ask 28 = .ok (.if_icmp .le 8, 3) := by decide +kernel
theorem dX5_ask_31 : decode cX5_ask 31 = .ok (.aload_n 0, 1) := by decide +kernel
theorem dX5_ask_32 : decode cX5_ask 32 = .ok (.iload_n 2, 1) := by decide +kernel
theorem dX5_ask_33 : decode cX5_ask 33 = .ok (.putfield 42, 3) := by decide +kernel
theorem dX5_ask_36 : decode cX5_ask 36 = .ok (.aload_n 1, 1) := by decide +kernel
theorem dX5_ask_37 : decode cX5_ask 37 = .ok (.getfield 52, 3) := by decide +kernel
theorem dX5_ask_40 : decode cX5_ask 40 = .ok (.bipush 13, 2) := by decide +kernel
theorem dX5_ask_42 : decode cX5_ask 42 = .ok (.if_icmp .ne 10, 3) := by decide +kernel
theorem dX5_ask_45 : decode cX5_ask 45 = .ok (.aload_n 0, 1) := by decide +kernel
theorem dX5_ask_46 : decode cX5_ask 46 = .ok (.aload_n 1, 1) := by decide +kernel
theorem dX5_ask_47 : decode cX5_ask 47 = .ok (.iload_n 2, 1) := by decide +kernel
theorem dX5_ask_48 : decode cX5_ask 48 = .ok (.invokevirtual 59, 3) := by decide +kernel
theorem dX5_ask_51 : decode cX5_ask 51 = .ok (.dreturn, 1) := by decide +kernel
theorem dX5_ask_52 : decode cX5_ask 52 = .ok (.iload_n 2, 1) := by decide +kernel
theorem dX5_ask_53 : decode cX5_ask 53 = .ok (.iconst 1, 1) := by decide +kernel
theorem dX5_ask_54 : decode cX5_ask 54 = .ok (.isub, 1) := by decide +kernel
theorem dX5_ask_55 : decode cX5_ask 55 = .ok (.bipush 8, 2) := by decide +kernel
theorem dX5_ask_57 : decode cX5_ask 57 = .ok (.imul, 1) := by decide +kernel
theorem dX5_ask_58 : decode cX5_ask 58 = .ok (.istore_n 3, 1) := by decide +kernel
theorem dX5_ask_59 : decode cX5_ask 59 = .ok (.iconst 0, 1) := by decide +kernel
theorem dX5_ask_60 : decode cX5_ask 60 = .ok (.istore 4, 2) := by decide +kernel
theorem dX5_ask_62 : decode cX5_ask 62 = .ok (.iload 4, 2) := by decide +kernel
theorem dX5_ask_64 : decode cX5_ask 64 = .ok (.aload_n 1, 1) := by decide +kernel
theorem dX5_ask_65 : decode cX5_ask 65 = .ok (.getfield 62, 3) := by decide +kernel
theorem dX5_ask_68 : decode cX5_ask 68 = .ok (.if_icmp .ge 41, 3) := by decide +kernel
theorem dX5_ask_71 : decode cX5_ask 71 = .ok (.aload_n 0, 1) := by decide +kernel
theorem dX5_ask_72 : decode cX5_ask 72 = .ok (.getfield 22, 3) := by decide +kernel
theorem dX5_ask_75 : decode cX5_ask 75 = .ok (.iload_n 3, 1) := by decide +kernel
theorem dX5_ask_76 : decode cX5_ask 76 = .ok (.iload 4, 2) := by decide +kernel
theorem dX5_ask_78 : decode cX5_ask 78 = .ok (.iadd, 1) := by decide +kernel
theorem dX5_ask_79 : decode cX5_ask 79 = .ok (.aload_n 0, 1) := by decide +kernel
theorem dX5_ask_80 : decode cX5_ask 80 = .ok (.aload_n 1, 1) := by decide +kernel
theorem dX5_ask_81 : decode cX5_ask 81 = .ok (.getfield 65, 3) := by decide +kernel
theorem dX5_ask_84 : decode cX5_ask 84 = .ok (.iload 4, 2) := by decide +kernel
theorem dX5_ask_86 : decode cX5_ask 86 = .ok (.aaload, 1) := by decide +kernel
theorem dX5_ask_87 : decode cX5_ask 87 = .ok (.iload_n 2, 1) := by decide +kernel
theorem dX5_ask_88 : decode cX5_ask 88 = .ok (.iconst 1, 1) := by decide +kernel
theorem dX5_ask_89 : decode cX5_ask 89 = .ok (.iadd, 1) := by decide +kernel
theorem dX5_ask_90 : decode cX5_ask 90 = .ok (.invokevirtual 45, 3) := by decide +kernel
theorem dX5_ask_93 : decode cX5_ask 93 = .ok (.dastore, 1) := by decide +kernel
theorem dX5_ask_94 : decode cX5_ask 94 = .ok (.aload_n 0, 1) := by decide +kernel
theorem dX5_ask_95 : decode cX5_ask 95 = .ok (.getfield 30, 3) := by decide +kernel
theorem dX5_ask_98 : decode cX5_ask 98 = .ok (.ifCond .eq 5, 3) := by decide +kernel
theorem dX5_ask_101 : decode cX5_ask 101 = .ok (.dconst 0, 1) := by decide +kernel
theorem dX5_ask_102 : decode cX5_ask 102 = .ok (.dreturn, 1) := by decide +kernel
theorem dX5_ask_103 : decode cX5_ask 103 = .ok (.iinc 4 1, 3) := by decide +kernel
theorem dX5_ask_106 : decode cX5_ask 106 = .ok (.goto (-44), 3) := by decide +kernel
theorem dX5_ask_109 : decode cX5_ask 109 = .ok (.aload_n 0, 1) := by decide +kernel
theorem dX5_ask_110 : decode cX5_ask 110 = .ok (.getfield 18, 3) := by decide +kernel
theorem dX5_ask_113 : decode cX5_ask 113 = .ok (.invokevirtual 69, 3) := by decide +kernel
theorem dX5_ask_116 : decode cX5_ask 116 = .ok (.aload_n 0, 1) := by decide +kernel
theorem dX5_ask_117 : decode cX5_ask 117 = .ok (.aload_n 1, 1) := by decide +kernel
theorem dX5_ask_118 : decode cX5_ask 118 = .ok (.aload_n 1, 1) := by decide +kernel
theorem dX5_ask_119 : decode cX5_ask 119 = .ok (.getfield 62, 3) := by decide +kernel
theorem dX5_ask_122 : decode cX5_ask 122 = .ok (.ifCond .ne 11, 3) := by decide +kernel
theorem dX5_ask_125 : decode cX5_ask 125 = .ok (.aload_n 0, 1) := by decide +kernel
theorem dX5_ask_126 : decode cX5_ask 126 = .ok (.aload_n 1, 1) := by decide +kernel
theorem dX5_ask_127 : decode cX5_ask 127 = .ok (.invokevirtual 72, 3) := by decide +kernel
theorem dX5_ask_130 : decode cX5_ask 130 = .ok (.goto 9, 3) := by decide +kernel
theorem dX5_ask_133 : decode cX5_ask 133 = .ok (.aload_n 0, 1) := by decide +kernel
theorem dX5_ask_134 : decode cX5_ask 134 = .ok (.aload_n 1, 1) := by decide +kernel
theorem dX5_ask_135 : decode cX5_ask 135 = .ok (.iload_n 3, 1) := by decide +kernel
theorem dX5_ask_136 : decode cX5_ask 136 = .ok (.invokevirtual 76, 3) := by decide +kernel
theorem dX5_ask_139 : decode cX5_ask 139 = .ok (.invokevirtual 79, 3) := by decide +kernel
theorem dX5_ask_142 : decode cX5_ask 142 = .ok (.dreturn, 1) := by decide +kernel
theorem dX5_askElse_0 : decode cX5_askElse 0 = .ok (.aload_n 0, 1) := by decide +kernel
theorem dX5_askElse_1 : decode cX5_askElse 1 = .ok (.aload_n 1, 1) := by decide +kernel
theorem dX5_askElse_2 : decode cX5_askElse 2 = .ok (.getfield 65, 3) := by decide +kernel
theorem dX5_askElse_5 : decode cX5_askElse 5 = .ok (.iconst 0, 1) := by decide +kernel
theorem dX5_askElse_6 : decode cX5_askElse 6 = .ok (.aaload, 1) := by decide +kernel
theorem dX5_askElse_7 : decode cX5_askElse 7 = .ok (.iload_n 2, 1) := by decide +kernel
theorem dX5_askElse_8 : decode cX5_askElse 8 = .ok (.iconst 1, 1) := by decide +kernel
theorem dX5_askElse_9 : decode cX5_askElse 9 = .ok (.iadd, 1) := by decide +kernel
theorem dX5_askElse_10 : decode cX5_askElse 10 = .ok (.invokevirtual 45, 3) := by decide +kernel
theorem dX5_askElse_13 : decode cX5_askElse 13 = .ok (.dstore_n 3, 1) := by decide +kernel
theorem dX5_askElse_14 : decode cX5_askElse 14 = .ok (.aload_n 0, 1) := by decide +kernel
theorem dX5_askElse_15 : decode cX5_askElse 15 = .ok (.getfield 30, 3) := by decide +kernel
theorem dX5_askElse_18 : decode cX5_askElse 18 = .ok (.ifCond .ne 5, 3) := by decide +kernel
theorem dX5_askElse_21 : decode cX5_askElse 21 = .ok (.dload_n 3, 1) := by decide +kernel
theorem dX5_askElse_22 : decode cX5_askElse 22 = .ok (.dreturn, 1) := by decide +kernel
theorem dX5_askElse_23 : decode cX5_askElse 23 = .ok (.aload_n 0, 1) := by decide +kernel
theorem dX5_askElse_24 : decode cX5_askElse 24 = .ok (.dup, 1) := by decide +kernel
theorem dX5_askElse_25 : decode cX5_askElse 25 = .ok (.getfield 39, 3) := by decide +kernel
theorem dX5_askElse_28 : decode cX5_askElse 28 = .ok (.iconst 1, 1) := by decide +kernel
theorem dX5_askElse_29 : decode cX5_askElse 29 = .ok (.iadd, 1) := by decide +kernel
theorem dX5_askElse_30 : decode cX5_askElse 30 = .ok (.putfield 39, 3) := by decide +kernel
theorem dX5_askElse_33 : decode cX5_askElse 33 = .ok (.aload_n 0, 1) := by decide +kernel
theorem dX5_askElse_34 : decode cX5_askElse 34 = .ok (.iconst 0, 1) := by decide +kernel
theorem dX5_askElse_35 : decode cX5_askElse 35 = .ok (.putfield 30, 3) := by decide +kernel
theorem dX5_askElse_38 : decode cX5_askElse 38 = .ok (.aload_n 0, 1) := by decide +kernel
theorem dX5_askElse_39 : decode cX5_askElse 39 = .ok (.bipush (-9), 2) := by decide +kernel
theorem dX5_askElse_41 : decode cX5_askElse 41 = .ok (.putfield 33, 3) := by decide +kernel
theorem dX5_askElse_44 : decode cX5_askElse 44 = .ok (.aload_n 0, 1) := by decide +kernel
theorem dX5_askElse_45 : decode cX5_askElse 45 = .ok (.aload_n 1, 1) := by decide +kernel
theorem dX5_askElse_46 : decode cX5_askElse 46 = .ok (.getfield 65, 3) := by decide +kernel
theorem dX5_askElse_49 : decode cX5_askElse 49 = .ok (.iconst 1, 1) := by decide +kernel
theorem dX5_askElse_50 : decode cX5_askElse 50 = .ok (.aaload, 1) := by decide +kernel
theorem dX5_askElse_51 : decode cX5_askElse 51 = .ok (.iload_n 2, 1) := by decide +kernel
theorem dX5_askElse_52 : decode cX5_askElse 52 = .ok (.iconst 1, 1) := by decide +kernel
theorem dX5_askElse_53 : decode cX5_askElse 53 = .ok (.iadd, 1) := by decide +kernel
theorem dX5_askElse_54 : decode cX5_askElse 54 = .ok (.invokevirtual 45, 3) := by decide +kernel
theorem dX5_askElse_57 : decode cX5_askElse 57 = .ok (.dreturn, 1) := by decide +kernel
theorem dX5_fail_0 : decode cX5_fail 0 = .ok (.aload_n 0, 1) := by decide +kernel
theorem dX5_fail_1 : decode cX5_fail 1 = .ok (.iload_n 2, 1) := by decide +kernel
theorem dX5_fail_2 : decode cX5_fail 2 = .ok (.putfield 30, 3) := by decide +kernel
theorem dX5_fail_5 : decode cX5_fail 5 = .ok (.aload_n 0, 1) := by decide +kernel
theorem dX5_fail_6 : decode cX5_fail 6 = .ok (.aload_n 1, 1) := by decide +kernel
theorem dX5_fail_7 : decode cX5_fail 7 = .ok (.getfield 83, 3) := by decide +kernel
theorem dX5_fail_10 : decode cX5_fail 10 = .ok (.putfield 33, 3) := by decide +kernel
theorem dX5_fail_13 : decode cX5_fail 13 = .ok (.dconst 0, 1) := by decide +kernel
theorem dX5_fail_14 : decode cX5_fail 14 = .ok (.dreturn, 1) := by decide +kernel
theorem dX5_judge_0 : decode cX5_judge 0 = .ok (.aload_n 0, 1) := by decide +kernel
theorem dX5_judge_1 : decode cX5_judge 1 = .ok (.getfield 18, 3) := by decide +kernel
theorem dX5_judge_4 : decode cX5_judge 4 = .ok (.invokevirtual 86, 3) := by decide +kernel
theorem dX5_judge_7 : decode cX5_judge 7 = .ok (.ifCond .eq 22, 3) := by decide +kernel
theorem dX5_judge_10 : decode cX5_judge 10 = .ok (.aload_n 0, 1) := by decide +kernel
theorem dX5_judge_11 : decode cX5_judge 11 = .ok (.aload_n 1, 1) := by decide +kernel
theorem dX5_judge_12 : decode cX5_judge 12 = .ok (.aload_n 1, 1) := by decide +kernel
theorem dX5_judge_13 : decode cX5_judge 13 = .ok (.getfield 52, 3) := by decide +kernel
theorem dX5_judge_16 : decode cX5_judge 16 = .ok (.iconst 5, 1) := by decide +kernel
theorem dX5_judge_17 : decode cX5_judge 17 = .ok (.if_icmp .ne 7, 3) := by decide +kernel
theorem dX5_judge_20 : decode cX5_judge 20 = .ok (.iconst 1, 1) := by decide +kernel
theorem dX5_judge_21 : decode cX5_judge 21 = .ok (.goto 4, 3) := by decide +kernel
theorem dX5_judge_24 : decode cX5_judge 24 = .ok (.iconst 2, 1) := by decide +kernel
theorem dX5_judge_25 : decode cX5_judge 25 = .ok (.invokevirtual 49, 3) := by decide +kernel
theorem dX5_judge_28 : decode cX5_judge 28 = .ok (.dreturn, 1) := by decide +kernel
theorem dX5_judge_29 : decode cX5_judge 29 = .ok (.aload_n 1, 1) := by decide +kernel
theorem dX5_judge_30 : decode cX5_judge 30 = .ok (.getfield 52, 3) := by decide +kernel
theorem dX5_judge_33 : decode cX5_judge 33 = .ok (.invokestatic 90, 3) := by decide +kernel
theorem dX5_judge_36 : decode cX5_judge 36 = .ok (.ifCond .eq 16, 3) := by decide +kernel
theorem dX5_judge_39 : decode cX5_judge 39 = .ok (.dload_n 2, 1) := by decide +kernel
theorem dX5_judge_40 : decode cX5_judge 40 = .ok (.dconst 0, 1) := by decide +kernel
theorem dX5_judge_41 : decode cX5_judge 41 = .ok (.dcmp .g, 1) := by decide +kernel
theorem dX5_judge_42 : decode cX5_judge 42 = .ok (.ifCond .ge 10, 3) := by decide +kernel
theorem dX5_judge_45 : decode cX5_judge 45 = .ok (.aload_n 0, 1) := by decide +kernel
theorem dX5_judge_46 : decode cX5_judge 46 = .ok (.aload_n 1, 1) := by decide +kernel
theorem dX5_judge_47 : decode cX5_judge 47 = .ok (.iconst 3, 1) := by decide +kernel
theorem dX5_judge_48 : decode cX5_judge 48 = .ok (.invokevirtual 49, 3) := by decide +kernel
theorem dX5_judge_51 : decode cX5_judge 51 = .ok (.dreturn, 1) := by decide +kernel
theorem dX5_judge_52 : decode cX5_judge 52 = .ok (.dload_n 2, 1) := by decide +kernel
theorem dX5_judge_53 : decode cX5_judge 53 = .ok (.dreturn, 1) := by decide +kernel
theorem dX5_workAlone_0 : decode cX5_workAlone 0 = .ok (.aload_n 1, 1) := by decide +kernel
theorem dX5_workAlone_1 : decode cX5_workAlone 1 = .ok (.getfield 52, 3) := by decide +kernel
theorem dX5_workAlone_4 : decode cX5_workAlone 4 = .ok (.tableswitch 143 0 7 #[48, 70, 86, 102, 126, 132, 143, 141], 48) := by decide +kernel
theorem dX5_workAlone_52 : decode cX5_workAlone 52 = .ok (.aload_n 1, 1) := by decide +kernel
theorem dX5_workAlone_53 : decode cX5_workAlone 53 = .ok (.getfield 94, 3) := by decide +kernel
theorem dX5_workAlone_56 : decode cX5_workAlone 56 = .ok (.ifCond .eq 10, 3) := by decide +kernel
theorem dX5_workAlone_59 : decode cX5_workAlone 59 = .ok (.aload_n 1, 1) := by decide +kernel
theorem dX5_workAlone_60 : decode cX5_workAlone 60 = .ok (.getfield 98, 3) := by decide +kernel
theorem dX5_workAlone_63 : decode cX5_workAlone 63 = .ok (.goto 10, 3) := by decide +kernel
theorem dX5_workAlone_66 : decode cX5_workAlone 66 = .ok (.aload_n 0, 1) := by decide +kernel
theorem dX5_workAlone_67 : decode cX5_workAlone 67 = .ok (.getfield 18, 3) := by decide +kernel
theorem dX5_workAlone_70 : decode cX5_workAlone 70 = .ok (.invokevirtual 102, 3) := by decide +kernel
theorem dX5_workAlone_73 : decode cX5_workAlone 73 = .ok (.dreturn, 1) := by decide +kernel
theorem dX5_workAlone_74 : decode cX5_workAlone 74 = .ok (.aload_n 0, 1) := by decide +kernel
theorem dX5_workAlone_75 : decode cX5_workAlone 75 = .ok (.getfield 9, 3) := by decide +kernel
theorem dX5_workAlone_78 : decode cX5_workAlone 78 = .ok (.aload_n 0, 1) := by decide +kernel
theorem dX5_workAlone_79 : decode cX5_workAlone 79 = .ok (.getfield 26, 3) := by decide +kernel
theorem dX5_workAlone_82 : decode cX5_workAlone 82 = .ok (.aload_n 1, 1) := by decide +kernel
theorem dX5_workAlone_83 : decode cX5_workAlone 83 = .ok (.getfield 106, 3) := by decide +kernel
theorem dX5_workAlone_86 : decode cX5_workAlone 86 = .ok (.invokevirtual 109, 3) := by decide +kernel
theorem dX5_workAlone_89 : decode cX5_workAlone 89 = .ok (.dreturn, 1) := by decide +kernel
theorem dX5_workAlone_90 : decode cX5_workAlone 90 = .ok (.aload_n 0, 1) := by decide +kernel
theorem dX5_workAlone_91 : decode cX5_workAlone 91 = .ok (.getfield 9, 3) := by decide +kernel
theorem dX5_workAlone_94 : decode cX5_workAlone 94 = .ok (.aload_n 0, 1) := by decide +kernel
theorem dX5_workAlone_95 : decode cX5_workAlone 95 = .ok (.getfield 26, 3) := by decide +kernel
theorem dX5_workAlone_98 : decode cX5_workAlone 98 = .ok (.aload_n 1, 1) := by decide +kernel
theorem dX5_workAlone_99 : decode cX5_workAlone 99 = .ok (.getfield 106, 3) := by decide +kernel
theorem dX5_workAlone_102 : decode cX5_workAlone 102 = .ok (.invokevirtual 115, 3) := by decide +kernel
theorem dX5_workAlone_105 : decode cX5_workAlone 105 = .ok (.dreturn, 1) := by decide +kernel
theorem dX5_workAlone_106 : decode cX5_workAlone 106 = .ok (.aload_n 0, 1) := by decide +kernel
theorem dX5_workAlone_107 : decode cX5_workAlone 107 = .ok (.aload_n 0, 1) := by decide +kernel
theorem dX5_workAlone_108 : decode cX5_workAlone 108 = .ok (.getfield 9, 3) := by decide +kernel
theorem dX5_workAlone_111 : decode cX5_workAlone 111 = .ok (.aload_n 0, 1) := by decide +kernel
theorem dX5_workAlone_112 : decode cX5_workAlone 112 = .ok (.getfield 26, 3) := by decide +kernel
theorem dX5_workAlone_115 : decode cX5_workAlone 115 = .ok (.aload_n 1, 1) := by decide +kernel
theorem dX5_workAlone_116 : decode cX5_workAlone 116 = .ok (.getfield 106, 3) := by decide +kernel
theorem dX5_workAlone_119 : decode cX5_workAlone 119 = .ok (.invokevirtual 109, 3) := by decide +kernel
theorem dX5_workAlone_122 : decode cX5_workAlone 122 = .ok (.aload_n 1, 1) := by decide +kernel
theorem dX5_workAlone_123 : decode cX5_workAlone 123 = .ok (.getfield 98, 3) := by decide +kernel
theorem dX5_workAlone_126 : decode cX5_workAlone 126 = .ok (.invokevirtual 118, 3) := by decide +kernel
theorem dX5_workAlone_129 : decode cX5_workAlone 129 = .ok (.dreturn, 1) := by decide +kernel
theorem dX5_workAlone_130 : decode cX5_workAlone 130 = .ok (.aload_n 0, 1) := by decide +kernel
theorem dX5_workAlone_131 : decode cX5_workAlone 131 = .ok (.aload_n 1, 1) := by decide +kernel
theorem dX5_workAlone_132 : decode cX5_workAlone 132 = .ok (.invokevirtual 122, 3) := by decide +kernel
theorem dX5_workAlone_135 : decode cX5_workAlone 135 = .ok (.dreturn, 1) := by decide +kernel
theorem dX5_workAlone_136 : decode cX5_workAlone 136 = .ok (.aload_n 0, 1) := by decide +kernel
theorem dX5_workAlone_137 : decode cX5_workAlone 137 = .ok (.aload_n 1, 1) := by decide +kernel
theorem dX5_workAlone_138 : decode cX5_workAlone 138 = .ok (.getfield 106, 3) := by decide +kernel
theorem dX5_workAlone_141 : decode cX5_workAlone 141 = .ok (.invokevirtual 125, 3) := by decide +kernel
theorem dX5_workAlone_144 : decode cX5_workAlone 144 = .ok (.dreturn, 1) := by decide +kernel
theorem dX5_workAlone_145 : decode cX5_workAlone 145 = .ok (.dconst 1, 1) := by decide +kernel
theorem dX5_workAlone_146 : decode cX5_workAlone 146 = .ok (.dreturn, 1) := by decide +kernel
theorem dX5_workAlone_147 : decode cX5_workAlone 147 = .ok (.dconst 0, 1) := by decide +kernel
theorem dX5_workAlone_148 : decode cX5_workAlone 148 = .ok (.dreturn, 1) := by decide +kernel
theorem dX5_workParts_0 : decode cX5_workParts 0 = .ok (.aload_n 0, 1) := by decide +kernel
theorem dX5_workParts_1 : decode cX5_workParts 1 = .ok (.getfield 22, 3) := by decide +kernel
theorem dX5_workParts_4 : decode cX5_workParts 4 = .ok (.iload_n 2, 1) := by decide +kernel
theorem dX5_workParts_5 : decode cX5_workParts 5 = .ok (.daload, 1) := by decide +kernel
theorem dX5_workParts_6 : decode cX5_workParts 6 = .ok (.dstore_n 3, 1) := by decide +kernel
theorem dX5_workParts_7 : decode cX5_workParts 7 = .ok (.aload_n 1, 1) := by decide +kernel
theorem dX5_workParts_8 : decode cX5_workParts 8 = .ok (.getfield 52, 3) := by decide +kernel
theorem dX5_workParts_11 : decode cX5_workParts 11 = .ok (.tableswitch 112 6 11 #[37, 47, 57, 71, 84, 98], 37) := by decide +kernel
theorem dX5_workParts_48 : decode cX5_workParts 48 = .ok (.aload_n 0, 1) := by decide +kernel
theorem dX5_workParts_49 : decode cX5_workParts 49 = .ok (.iload_n 2, 1) := by decide +kernel
theorem dX5_workParts_50 : decode cX5_workParts 50 = .ok (.aload_n 1, 1) := by decide +kernel
theorem dX5_workParts_51 : decode cX5_workParts 51 = .ok (.getfield 62, 3) := by decide +kernel
theorem dX5_workParts_54 : decode cX5_workParts 54 = .ok (.invokevirtual 129, 3) := by decide +kernel
theorem dX5_workParts_57 : decode cX5_workParts 57 = .ok (.dreturn, 1) := by decide +kernel
theorem dX5_workParts_58 : decode cX5_workParts 58 = .ok (.aload_n 0, 1) := by decide +kernel
theorem dX5_workParts_59 : decode cX5_workParts 59 = .ok (.iload_n 2, 1) := by decide +kernel
theorem dX5_workParts_60 : decode cX5_workParts 60 = .ok (.aload_n 1, 1) := by decide +kernel
theorem dX5_workParts_61 : decode cX5_workParts 61 = .ok (.getfield 62, 3) := by decide +kernel
theorem dX5_workParts_64 : decode cX5_workParts 64 = .ok (.invokevirtual 132, 3) := by decide +kernel
theorem dX5_workParts_67 : decode cX5_workParts 67 = .ok (.dreturn, 1) := by decide +kernel
theorem dX5_workParts_68 : decode cX5_workParts 68 = .ok (.aload_n 0, 1) := by decide +kernel
theorem dX5_workParts_69 : decode cX5_workParts 69 = .ok (.iload_n 2, 1) := by decide +kernel
theorem dX5_workParts_70 : decode cX5_workParts 70 = .ok (.aload_n 1, 1) := by decide +kernel
theorem dX5_workParts_71 : decode cX5_workParts 71 = .ok (.getfield 62, 3) := by decide +kernel
theorem dX5_workParts_74 : decode cX5_workParts 74 = .ok (.aload_n 1, 1) := by decide +kernel
theorem dX5_workParts_75 : decode cX5_workParts 75 = .ok (.getfield 98, 3) := by decide +kernel
theorem dX5_workParts_78 : decode cX5_workParts 78 = .ok (.invokevirtual 135, 3) := by decide +kernel
theorem dX5_workParts_81 : decode cX5_workParts 81 = .ok (.dreturn, 1) := by decide +kernel
theorem dX5_workParts_82 : decode cX5_workParts 82 = .ok (.aload_n 0, 1) := by decide +kernel
theorem dX5_workParts_83 : decode cX5_workParts 83 = .ok (.getfield 18, 3) := by decide +kernel
theorem dX5_workParts_86 : decode cX5_workParts 86 = .ok (.aload_n 1, 1) := by decide +kernel
theorem dX5_workParts_87 : decode cX5_workParts 87 = .ok (.getfield 98, 3) := by decide +kernel
theorem dX5_workParts_90 : decode cX5_workParts 90 = .ok (.dload_n 3, 1) := by decide +kernel
theorem dX5_workParts_91 : decode cX5_workParts 91 = .ok (.invokevirtual 139, 3) := by decide +kernel
theorem dX5_workParts_94 : decode cX5_workParts 94 = .ok (.dreturn, 1) := by decide +kernel
theorem dX5_workParts_95 : decode cX5_workParts 95 = .ok (.aload_n 0, 1) := by decide +kernel
theorem dX5_workParts_96 : decode cX5_workParts 96 = .ok (.dload_n 3, 1) := by decide +kernel
theorem dX5_workParts_97 : decode cX5_workParts 97 = .ok (.aload_n 1, 1) := by decide +kernel
theorem dX5_workParts_98 : decode cX5_workParts 98 = .ok (.getfield 98, 3) := by decide +kernel
theorem dX5_workParts_101 : decode cX5_workParts 101 = .ok (.aload_n 1, 1) := by decide +kernel
theorem dX5_workParts_102 : decode cX5_workParts 102 = .ok (.getfield 142, 3) := by decide +kernel
theorem dX5_workParts_105 : decode cX5_workParts 105 = .ok (.invokevirtual 145, 3) := by decide +kernel
theorem dX5_workParts_108 : decode cX5_workParts 108 = .ok (.dreturn, 1) := by decide +kernel
theorem dX5_workParts_109 : decode cX5_workParts 109 = .ok (.aload_n 0, 1) := by decide +kernel
theorem dX5_workParts_110 : decode cX5_workParts 110 = .ok (.dload_n 3, 1) := by decide +kernel
theorem dX5_workParts_111 : decode cX5_workParts 111 = .ok (.aload_n 1, 1) := by decide +kernel
theorem dX5_workParts_112 : decode cX5_workParts 112 = .ok (.getfield 98, 3) := by decide +kernel
theorem dX5_workParts_115 : decode cX5_workParts 115 = .ok (.aload_n 1, 1) := by decide +kernel
theorem dX5_workParts_116 : decode cX5_workParts 116 = .ok (.getfield 142, 3) := by decide +kernel
theorem dX5_workParts_119 : decode cX5_workParts 119 = .ok (.invokevirtual 149, 3) := by decide +kernel
theorem dX5_workParts_122 : decode cX5_workParts 122 = .ok (.dreturn, 1) := by decide +kernel
theorem dX5_workParts_123 : decode cX5_workParts 123 = .ok (.dload_n 3, 1) := by decide +kernel
theorem dX5_workParts_124 : decode cX5_workParts 124 = .ok (.invokestatic 152, 3) := by decide +kernel
theorem dX5_workParts_127 : decode cX5_workParts 127 = .ok (.dreturn, 1) := by decide +kernel
theorem dX5_filled_0 : decode cX5_filled 0 = .ok (.aload_n 0, 1) := by decide +kernel
theorem dX5_filled_1 : decode cX5_filled 1 = .ok (.getfield 9, 3) := by decide +kernel
theorem dX5_filled_4 : decode cX5_filled 4 = .ok (.aload_n 0, 1) := by decide +kernel
theorem dX5_filled_5 : decode cX5_filled 5 = .ok (.getfield 26, 3) := by decide +kernel
theorem dX5_filled_8 : decode cX5_filled 8 = .ok (.iload_n 1, 1) := by decide +kernel
theorem dX5_filled_9 : decode cX5_filled 9 = .ok (.invokevirtual 158, 3) := by decide +kernel
theorem dX5_filled_12 : decode cX5_filled 12 = .ok (.ifCond .eq 18, 3) := by decide +kernel
theorem dX5_filled_15 : decode cX5_filled 15 = .ok (.aload_n 0, 1) := by decide +kernel
theorem dX5_filled_16 : decode cX5_filled 16 = .ok (.getfield 9, 3) := by decide +kernel
theorem dX5_filled_19 : decode cX5_filled 19 = .ok (.aload_n 0, 1) := by decide +kernel
theorem dX5_filled_20 : decode cX5_filled 20 = .ok (.getfield 26, 3) := by decide +kernel
theorem dX5_filled_23 : decode cX5_filled 23 = .ok (.iload_n 1, 1) := by decide +kernel
theorem dX5_filled_24 : decode cX5_filled 24 = .ok (.invokevirtual 162, 3) := by decide +kernel
theorem dX5_filled_27 : decode cX5_filled 27 = .ok (.goto 10, 3) := by decide +kernel
theorem dX5_filled_30 : decode cX5_filled 30 = .ok (.aload_n 0, 1) := by decide +kernel
theorem dX5_filled_31 : decode cX5_filled 31 = .ok (.getfield 18, 3) := by decide +kernel
theorem dX5_filled_34 : decode cX5_filled 34 = .ok (.invokevirtual 102, 3) := by decide +kernel
theorem dX5_filled_37 : decode cX5_filled 37 = .ok (.dreturn, 1) := by decide +kernel
theorem dX5_saturated_0 : decode cX5_saturated 0 = .ok (.aload_n 0, 1) := by decide +kernel
theorem dX5_saturated_1 : decode cX5_saturated 1 = .ok (.getfield 18, 3) := by decide +kernel
theorem dX5_saturated_4 : decode cX5_saturated 4 = .ok (.dload_n 1, 1) := by decide +kernel
theorem dX5_saturated_5 : decode cX5_saturated 5 = .ok (.aload_n 0, 1) := by decide +kernel
theorem dX5_saturated_6 : decode cX5_saturated 6 = .ok (.getfield 18, 3) := by decide +kernel
theorem dX5_saturated_9 : decode cX5_saturated 9 = .ok (.dload_n 1, 1) := by decide +kernel
theorem dX5_saturated_10 : decode cX5_saturated 10 = .ok (.dload_n 3, 1) := by decide +kernel
theorem dX5_saturated_11 : decode cX5_saturated 11 = .ok (.invokevirtual 165, 3) := by decide +kernel
theorem dX5_saturated_14 : decode cX5_saturated 14 = .ok (.invokevirtual 168, 3) := by decide +kernel
theorem dX5_saturated_17 : decode cX5_saturated 17 = .ok (.dreturn, 1) := by decide +kernel
theorem dX5_normed_0 : decode cX5_normed 0 = .ok (.aload_n 1, 1) := by decide +kernel
theorem dX5_normed_1 : decode cX5_normed 1 = .ok (.getfield 106, 3) := by decide +kernel
theorem dX5_normed_4 : decode cX5_normed 4 = .ok (.istore_n 2, 1) := by decide +kernel
theorem dX5_normed_5 : decode cX5_normed 5 = .ok (.aload_n 0, 1) := by decide +kernel
theorem dX5_normed_6 : decode cX5_normed 6 = .ok (.getfield 9, 3) := by decide +kernel
theorem dX5_normed_9 : decode cX5_normed 9 = .ok (.iload_n 2, 1) := by decide +kernel
theorem dX5_normed_10 : decode cX5_normed 10 = .ok (.invokevirtual 171, 3) := by decide +kernel
theorem dX5_normed_13 : decode cX5_normed 13 = .ok (.ifCond .ne 11, 3) := by decide +kernel
theorem dX5_normed_16 : decode cX5_normed 16 = .ok (.aload_n 0, 1) := by decide +kernel
theorem dX5_normed_17 : decode cX5_normed 17 = .ok (.getfield 18, 3) := by decide +kernel
theorem dX5_normed_20 : decode cX5_normed 20 = .ok (.invokevirtual 102, 3) := by decide +kernel
theorem dX5_normed_23 : decode cX5_normed 23 = .ok (.dreturn, 1) := by decide +kernel
theorem dX5_normed_24 : decode cX5_normed 24 = .ok (.aload_n 0, 1) := by decide +kernel
theorem dX5_normed_25 : decode cX5_normed 25 = .ok (.getfield 9, 3) := by decide +kernel
theorem dX5_normed_28 : decode cX5_normed 28 = .ok (.aload_n 0, 1) := by decide +kernel
theorem dX5_normed_29 : decode cX5_normed 29 = .ok (.getfield 26, 3) := by decide +kernel
theorem dX5_normed_32 : decode cX5_normed 32 = .ok (.iload_n 2, 1) := by decide +kernel
theorem dX5_normed_33 : decode cX5_normed 33 = .ok (.invokevirtual 109, 3) := by decide +kernel
theorem dX5_normed_36 : decode cX5_normed 36 = .ok (.dstore_n 3, 1) := by decide +kernel
theorem dX5_normed_37 : decode cX5_normed 37 = .ok (.aload_n 1, 1) := by decide +kernel
theorem dX5_normed_38 : decode cX5_normed 38 = .ok (.getfield 98, 3) := by decide +kernel
theorem dX5_normed_41 : decode cX5_normed 41 = .ok (.dstore 5, 2) := by decide +kernel
theorem dX5_normed_43 : decode cX5_normed 43 = .ok (.aload_n 1, 1) := by decide +kernel
theorem dX5_normed_44 : decode cX5_normed 44 = .ok (.getfield 142, 3) := by decide +kernel
theorem dX5_normed_47 : decode cX5_normed 47 = .ok (.dstore 7, 2) := by decide +kernel
theorem dX5_normed_49 : decode cX5_normed 49 = .ok (.aload_n 0, 1) := by decide +kernel
theorem dX5_normed_50 : decode cX5_normed 50 = .ok (.getfield 18, 3) := by decide +kernel
theorem dX5_normed_53 : decode cX5_normed 53 = .ok (.aload_n 0, 1) := by decide +kernel
theorem dX5_normed_54 : decode cX5_normed 54 = .ok (.getfield 9, 3) := by decide +kernel
theorem dX5_normed_57 : decode cX5_normed 57 = .ok (.aload_n 0, 1) := by decide +kernel
theorem dX5_normed_58 : decode cX5_normed 58 = .ok (.getfield 26, 3) := by decide +kernel
theorem dX5_normed_61 : decode cX5_normed 61 = .ok (.iload_n 2, 1) := by decide +kernel
theorem dX5_normed_62 : decode cX5_normed 62 = .ok (.invokevirtual 174, 3) := by decide +kernel
theorem dX5_normed_65 : decode cX5_normed 65 = .ok (.aload_n 0, 1) := by decide +kernel
theorem dX5_normed_66 : decode cX5_normed 66 = .ok (.getfield 9, 3) := by decide +kernel
theorem dX5_normed_69 : decode cX5_normed 69 = .ok (.iload_n 2, 1) := by decide +kernel
theorem dX5_normed_70 : decode cX5_normed 70 = .ok (.invokevirtual 177, 3) := by decide +kernel
theorem dX5_normed_73 : decode cX5_normed 73 = .ok (.invokevirtual 168, 3) := by decide +kernel
theorem dX5_normed_76 : decode cX5_normed 76 = .ok (.dstore 9, 2) := by decide +kernel
theorem dX5_normed_78 : decode cX5_normed 78 = .ok (.aload_n 0, 1) := by decide +kernel
theorem dX5_normed_79 : decode cX5_normed 79 = .ok (.getfield 18, 3) := by decide +kernel
theorem dX5_normed_82 : decode cX5_normed 82 = .ok (.aload_n 0, 1) := by decide +kernel
theorem dX5_normed_83 : decode cX5_normed 83 = .ok (.getfield 18, 3) := by decide +kernel
theorem dX5_normed_86 : decode cX5_normed 86 = .ok (.dconst 1, 1) := by decide +kernel
theorem dX5_normed_87 : decode cX5_normed 87 = .ok (.dload 7, 2) := by decide +kernel
theorem dX5_normed_89 : decode cX5_normed 89 = .ok (.invokevirtual 180, 3) := by decide +kernel
theorem dX5_normed_92 : decode cX5_normed 92 = .ok (.aload_n 0, 1) := by decide +kernel
theorem dX5_normed_93 : decode cX5_normed 93 = .ok (.getfield 18, 3) := by decide +kernel
theorem dX5_normed_96 : decode cX5_normed 96 = .ok (.dload 7, 2) := by decide +kernel
theorem dX5_normed_98 : decode cX5_normed 98 = .ok (.dload 9, 2) := by decide +kernel
theorem dX5_normed_100 : decode cX5_normed 100 = .ok (.invokevirtual 139, 3) := by decide +kernel
theorem dX5_normed_103 : decode cX5_normed 103 = .ok (.invokevirtual 165, 3) := by decide +kernel
theorem dX5_normed_106 : decode cX5_normed 106 = .ok (.dstore 11, 2) := by decide +kernel
theorem dX5_normed_108 : decode cX5_normed 108 = .ok (.aload_n 0, 1) := by decide +kernel
theorem dX5_normed_109 : decode cX5_normed 109 = .ok (.getfield 18, 3) := by decide +kernel
theorem dX5_normed_112 : decode cX5_normed 112 = .ok (.dload_n 3, 1) := by decide +kernel
theorem dX5_normed_113 : decode cX5_normed 113 = .ok (.aload_n 0, 1) := by decide +kernel
theorem dX5_normed_114 : decode cX5_normed 114 = .ok (.getfield 18, 3) := by decide +kernel
theorem dX5_normed_117 : decode cX5_normed 117 = .ok (.dload 5, 2) := by decide +kernel
theorem dX5_normed_119 : decode cX5_normed 119 = .ok (.dconst 1, 1) := by decide +kernel
theorem dX5_normed_120 : decode cX5_normed 120 = .ok (.invokevirtual 165, 3) := by decide +kernel
theorem dX5_normed_123 : decode cX5_normed 123 = .ok (.invokevirtual 139, 3) := by decide +kernel
theorem dX5_normed_126 : decode cX5_normed 126 = .ok (.dstore 13, 2) := by decide +kernel
theorem dX5_normed_128 : decode cX5_normed 128 = .ok (.aload_n 0, 1) := by decide +kernel
theorem dX5_normed_129 : decode cX5_normed 129 = .ok (.getfield 18, 3) := by decide +kernel
theorem dX5_normed_132 : decode cX5_normed 132 = .ok (.dload 13, 2) := by decide +kernel
theorem dX5_normed_134 : decode cX5_normed 134 = .ok (.aload_n 0, 1) := by decide +kernel
theorem dX5_normed_135 : decode cX5_normed 135 = .ok (.getfield 18, 3) := by decide +kernel
theorem dX5_normed_138 : decode cX5_normed 138 = .ok (.dload_n 3, 1) := by decide +kernel
theorem dX5_normed_139 : decode cX5_normed 139 = .ok (.aload_n 0, 1) := by decide +kernel
theorem dX5_normed_140 : decode cX5_normed 140 = .ok (.getfield 18, 3) := by decide +kernel
theorem dX5_normed_143 : decode cX5_normed 143 = .ok (.dload 5, 2) := by decide +kernel
theorem dX5_normed_145 : decode cX5_normed 145 = .ok (.dload 11, 2) := by decide +kernel
theorem dX5_normed_147 : decode cX5_normed 147 = .ok (.invokevirtual 139, 3) := by decide +kernel
theorem dX5_normed_150 : decode cX5_normed 150 = .ok (.invokevirtual 165, 3) := by decide +kernel
theorem dX5_normed_153 : decode cX5_normed 153 = .ok (.invokevirtual 168, 3) := by decide +kernel
theorem dX5_normed_156 : decode cX5_normed 156 = .ok (.dreturn, 1) := by decide +kernel
theorem dX5_sum_0 : decode cX5_sum 0 = .ok (.dconst 0, 1) := by decide +kernel
theorem dX5_sum_1 : decode cX5_sum 1 = .ok (.dstore_n 3, 1) := by decide +kernel
theorem dX5_sum_2 : decode cX5_sum 2 = .ok (.iconst 0, 1) := by decide +kernel
theorem dX5_sum_3 : decode cX5_sum 3 = .ok (.istore 5, 2) := by decide +kernel
theorem dX5_sum_5 : decode cX5_sum 5 = .ok (.iload 5, 2) := by decide +kernel
theorem dX5_sum_7 : decode cX5_sum 7 = .ok (.iload_n 2, 1) := by decide +kernel
theorem dX5_sum_8 : decode cX5_sum 8 = .ok (.if_icmp .ge 27, 3) := by decide +kernel
theorem dX5_sum_11 : decode cX5_sum 11 = .ok (.aload_n 0, 1) := by decide +kernel
theorem dX5_sum_12 : decode cX5_sum 12 = .ok (.getfield 18, 3) := by decide +kernel
theorem dX5_sum_15 : decode cX5_sum 15 = .ok (.dload_n 3, 1) := by decide +kernel
theorem dX5_sum_16 : decode cX5_sum 16 = .ok (.aload_n 0, 1) := by decide +kernel
theorem dX5_sum_17 : decode cX5_sum 17 = .ok (.getfield 22, 3) := by decide +kernel
theorem dX5_sum_20 : decode cX5_sum 20 = .ok (.iload_n 1, 1) := by decide +kernel
theorem dX5_sum_21 : decode cX5_sum 21 = .ok (.iload 5, 2) := by decide +kernel
theorem dX5_sum_23 : decode cX5_sum 23 = .ok (.iadd, 1) := by decide +kernel
theorem dX5_sum_24 : decode cX5_sum 24 = .ok (.daload, 1) := by decide +kernel
theorem dX5_sum_25 : decode cX5_sum 25 = .ok (.invokevirtual 165, 3) := by decide +kernel
theorem dX5_sum_28 : decode cX5_sum 28 = .ok (.dstore_n 3, 1) := by decide +kernel
theorem dX5_sum_29 : decode cX5_sum 29 = .ok (.iinc 5 1, 3) := by decide +kernel
theorem dX5_sum_32 : decode cX5_sum 32 = .ok (.goto (-27), 3) := by decide +kernel
theorem dX5_sum_35 : decode cX5_sum 35 = .ok (.dload_n 3, 1) := by decide +kernel
theorem dX5_sum_36 : decode cX5_sum 36 = .ok (.dreturn, 1) := by decide +kernel
theorem dX5_product_0 : decode cX5_product 0 = .ok (.dconst 1, 1) := by decide +kernel
theorem dX5_product_1 : decode cX5_product 1 = .ok (.dstore_n 3, 1) := by decide +kernel
theorem dX5_product_2 : decode cX5_product 2 = .ok (.iconst 0, 1) := by decide +kernel
theorem dX5_product_3 : decode cX5_product 3 = .ok (.istore 5, 2) := by decide +kernel
theorem dX5_product_5 : decode cX5_product 5 = .ok (.iload 5, 2) := by decide +kernel
theorem dX5_product_7 : decode cX5_product 7 = .ok (.iload_n 2, 1) := by decide +kernel
theorem dX5_product_8 : decode cX5_product 8 = .ok (.if_icmp .ge 27, 3) := by decide +kernel
theorem dX5_product_11 : decode cX5_product 11 = .ok (.aload_n 0, 1) := by decide +kernel
theorem dX5_product_12 : decode cX5_product 12 = .ok (.getfield 18, 3) := by decide +kernel
theorem dX5_product_15 : decode cX5_product 15 = .ok (.dload_n 3, 1) := by decide +kernel
theorem dX5_product_16 : decode cX5_product 16 = .ok (.aload_n 0, 1) := by decide +kernel
theorem dX5_product_17 : decode cX5_product 17 = .ok (.getfield 22, 3) := by decide +kernel
theorem dX5_product_20 : decode cX5_product 20 = .ok (.iload_n 1, 1) := by decide +kernel
theorem dX5_product_21 : decode cX5_product 21 = .ok (.iload 5, 2) := by decide +kernel
theorem dX5_product_23 : decode cX5_product 23 = .ok (.iadd, 1) := by decide +kernel
theorem dX5_product_24 : decode cX5_product 24 = .ok (.daload, 1) := by decide +kernel
theorem dX5_product_25 : decode cX5_product 25 = .ok (.invokevirtual 139, 3) := by decide +kernel
end
section
theorem dX5_product_28 : decode cX5_product 28 = .ok (.dstore_n 3, 1) := by decide +kernel
theorem dX5_product_29 : decode cX5_product 29 = .ok (.iinc 5 1, 3) := by decide +kernel
theorem dX5_product_32 : decode cX5_product 32 = .ok (.goto (-27), 3) := by decide +kernel
theorem dX5_product_35 : decode cX5_product 35 = .ok (.dload_n 3, 1) := by decide +kernel
theorem dX5_product_36 : decode cX5_product 36 = .ok (.dreturn, 1) := by decide +kernel
theorem dX5_best_0 : decode cX5_best 0 = .ok (.aload_n 0, 1) := by decide +kernel
theorem dX5_best_1 : decode cX5_best 1 = .ok (.getfield 22, 3) := by decide +kernel
theorem dX5_best_4 : decode cX5_best 4 = .ok (.iload_n 1, 1) := by decide +kernel
theorem dX5_best_5 : decode cX5_best 5 = .ok (.daload, 1) := by decide +kernel
theorem dX5_best_6 : decode cX5_best 6 = .ok (.dstore 5, 2) := by decide +kernel
theorem dX5_best_8 : decode cX5_best 8 = .ok (.dconst 0, 1) := by decide +kernel
theorem dX5_best_9 : decode cX5_best 9 = .ok (.dstore 7, 2) := by decide +kernel
theorem dX5_best_11 : decode cX5_best 11 = .ok (.iconst 0, 1) := by decide +kernel
theorem dX5_best_12 : decode cX5_best 12 = .ok (.istore 9, 2) := by decide +kernel
theorem dX5_best_14 : decode cX5_best 14 = .ok (.iload 9, 2) := by decide +kernel
theorem dX5_best_16 : decode cX5_best 16 = .ok (.iload_n 2, 1) := by decide +kernel
theorem dX5_best_17 : decode cX5_best 17 = .ok (.if_icmp .ge 45, 3) := by decide +kernel
theorem dX5_best_20 : decode cX5_best 20 = .ok (.dload 5, 2) := by decide +kernel
theorem dX5_best_22 : decode cX5_best 22 = .ok (.aload_n 0, 1) := by decide +kernel
theorem dX5_best_23 : decode cX5_best 23 = .ok (.getfield 22, 3) := by decide +kernel
theorem dX5_best_26 : decode cX5_best 26 = .ok (.iload_n 1, 1) := by decide +kernel
theorem dX5_best_27 : decode cX5_best 27 = .ok (.iload 9, 2) := by decide +kernel
theorem dX5_best_29 : decode cX5_best 29 = .ok (.iadd, 1) := by decide +kernel
theorem dX5_best_30 : decode cX5_best 30 = .ok (.daload, 1) := by decide +kernel
theorem dX5_best_31 : decode cX5_best 31 = .ok (.invokestatic 183, 3) := by decide +kernel
theorem dX5_best_34 : decode cX5_best 34 = .ok (.dstore 5, 2) := by decide +kernel
theorem dX5_best_36 : decode cX5_best 36 = .ok (.aload_n 0, 1) := by decide +kernel
theorem dX5_best_37 : decode cX5_best 37 = .ok (.getfield 18, 3) := by decide +kernel
theorem dX5_best_40 : decode cX5_best 40 = .ok (.dload 7, 2) := by decide +kernel
theorem dX5_best_42 : decode cX5_best 42 = .ok (.aload_n 0, 1) := by decide +kernel
theorem dX5_best_43 : decode cX5_best 43 = .ok (.getfield 22, 3) := by decide +kernel
theorem dX5_best_46 : decode cX5_best 46 = .ok (.iload_n 1, 1) := by decide +kernel
theorem dX5_best_47 : decode cX5_best 47 = .ok (.iload 9, 2) := by decide +kernel
theorem dX5_best_49 : decode cX5_best 49 = .ok (.iadd, 1) := by decide +kernel
theorem dX5_best_50 : decode cX5_best 50 = .ok (.daload, 1) := by decide +kernel
theorem dX5_best_51 : decode cX5_best 51 = .ok (.invokevirtual 165, 3) := by decide +kernel
theorem dX5_best_54 : decode cX5_best 54 = .ok (.dstore 7, 2) := by decide +kernel
theorem dX5_best_56 : decode cX5_best 56 = .ok (.iinc 9 1, 3) := by decide +kernel
theorem dX5_best_59 : decode cX5_best 59 = .ok (.goto (-45), 3) := by decide +kernel
theorem dX5_best_62 : decode cX5_best 62 = .ok (.aload_n 0, 1) := by decide +kernel
theorem dX5_best_63 : decode cX5_best 63 = .ok (.getfield 18, 3) := by decide +kernel
theorem dX5_best_66 : decode cX5_best 66 = .ok (.dload 5, 2) := by decide +kernel
theorem dX5_best_68 : decode cX5_best 68 = .ok (.aload_n 0, 1) := by decide +kernel
theorem dX5_best_69 : decode cX5_best 69 = .ok (.getfield 18, 3) := by decide +kernel
theorem dX5_best_72 : decode cX5_best 72 = .ok (.dload_n 3, 1) := by decide +kernel
theorem dX5_best_73 : decode cX5_best 73 = .ok (.aload_n 0, 1) := by decide +kernel
theorem dX5_best_74 : decode cX5_best 74 = .ok (.getfield 18, 3) := by decide +kernel
theorem dX5_best_77 : decode cX5_best 77 = .ok (.dload 7, 2) := by decide +kernel
theorem dX5_best_79 : decode cX5_best 79 = .ok (.dload 5, 2) := by decide +kernel
theorem dX5_best_81 : decode cX5_best 81 = .ok (.invokevirtual 180, 3) := by decide +kernel
theorem dX5_best_84 : decode cX5_best 84 = .ok (.invokevirtual 139, 3) := by decide +kernel
theorem dX5_best_87 : decode cX5_best 87 = .ok (.invokevirtual 165, 3) := by decide +kernel
theorem dX5_best_90 : decode cX5_best 90 = .ok (.dreturn, 1) := by decide +kernel
theorem dX5_decay_0 : decode cX5_decay 0 = .ok (.aload_n 0, 1) := by decide +kernel
theorem dX5_decay_1 : decode cX5_decay 1 = .ok (.getfield 18, 3) := by decide +kernel
theorem dX5_decay_4 : decode cX5_decay 4 = .ok (.dload_n 1, 1) := by decide +kernel
theorem dX5_decay_5 : decode cX5_decay 5 = .ok (.dload_n 3, 1) := by decide +kernel
theorem dX5_decay_6 : decode cX5_decay 6 = .ok (.invokevirtual 180, 3) := by decide +kernel
theorem dX5_decay_9 : decode cX5_decay 9 = .ok (.invokestatic 186, 3) := by decide +kernel
theorem dX5_decay_12 : decode cX5_decay 12 = .ok (.dstore 7, 2) := by decide +kernel
theorem dX5_decay_14 : decode cX5_decay 14 = .ok (.aload_n 0, 1) := by decide +kernel
theorem dX5_decay_15 : decode cX5_decay 15 = .ok (.getfield 18, 3) := by decide +kernel
theorem dX5_decay_18 : decode cX5_decay 18 = .ok (.aload_n 0, 1) := by decide +kernel
theorem dX5_decay_19 : decode cX5_decay 19 = .ok (.getfield 18, 3) := by decide +kernel
theorem dX5_decay_22 : decode cX5_decay 22 = .ok (.dload 5, 2) := by decide +kernel
theorem dX5_decay_24 : decode cX5_decay 24 = .ok (.dload 7, 2) := by decide +kernel
theorem dX5_decay_26 : decode cX5_decay 26 = .ok (.invokevirtual 180, 3) := by decide +kernel
theorem dX5_decay_29 : decode cX5_decay 29 = .ok (.dload 5, 2) := by decide +kernel
theorem dX5_decay_31 : decode cX5_decay 31 = .ok (.invokevirtual 168, 3) := by decide +kernel
theorem dX5_decay_34 : decode cX5_decay 34 = .ok (.dstore 9, 2) := by decide +kernel
theorem dX5_decay_36 : decode cX5_decay 36 = .ok (.dload 9, 2) := by decide +kernel
theorem dX5_decay_38 : decode cX5_decay 38 = .ok (.dconst 0, 1) := by decide +kernel
theorem dX5_decay_39 : decode cX5_decay 39 = .ok (.dcmp .l, 1) := by decide +kernel
theorem dX5_decay_40 : decode cX5_decay 40 = .ok (.ifCond .le 8, 3) := by decide +kernel
theorem dX5_decay_43 : decode cX5_decay 43 = .ok (.dload 9, 2) := by decide +kernel
theorem dX5_decay_45 : decode cX5_decay 45 = .ok (.goto 4, 3) := by decide +kernel
theorem dX5_decay_48 : decode cX5_decay 48 = .ok (.dconst 0, 1) := by decide +kernel
theorem dX5_decay_49 : decode cX5_decay 49 = .ok (.dreturn, 1) := by decide +kernel
theorem dX5_near_0 : decode cX5_near 0 = .ok (.aload_n 0, 1) := by decide +kernel
theorem dX5_near_1 : decode cX5_near 1 = .ok (.getfield 18, 3) := by decide +kernel
theorem dX5_near_4 : decode cX5_near 4 = .ok (.aload_n 0, 1) := by decide +kernel
theorem dX5_near_5 : decode cX5_near 5 = .ok (.getfield 18, 3) := by decide +kernel
theorem dX5_near_8 : decode cX5_near 8 = .ok (.dload_n 1, 1) := by decide +kernel
theorem dX5_near_9 : decode cX5_near 9 = .ok (.dload_n 3, 1) := by decide +kernel
theorem dX5_near_10 : decode cX5_near 10 = .ok (.invokevirtual 180, 3) := by decide +kernel
theorem dX5_near_13 : decode cX5_near 13 = .ok (.dload 5, 2) := by decide +kernel
theorem dX5_near_15 : decode cX5_near 15 = .ok (.invokevirtual 168, 3) := by decide +kernel
theorem dX5_near_18 : decode cX5_near 18 = .ok (.dstore 7, 2) := by decide +kernel
theorem dX5_near_20 : decode cX5_near 20 = .ok (.aload_n 0, 1) := by decide +kernel
theorem dX5_near_21 : decode cX5_near 21 = .ok (.getfield 18, 3) := by decide +kernel
theorem dX5_near_24 : decode cX5_near 24 = .ok (.dconst 1, 1) := by decide +kernel
theorem dX5_near_25 : decode cX5_near 25 = .ok (.aload_n 0, 1) := by decide +kernel
theorem dX5_near_26 : decode cX5_near 26 = .ok (.getfield 18, 3) := by decide +kernel
theorem dX5_near_29 : decode cX5_near 29 = .ok (.dconst 1, 1) := by decide +kernel
theorem dX5_near_30 : decode cX5_near 30 = .ok (.aload_n 0, 1) := by decide +kernel
theorem dX5_near_31 : decode cX5_near 31 = .ok (.getfield 18, 3) := by decide +kernel
theorem dX5_near_34 : decode cX5_near 34 = .ok (.dload 7, 2) := by decide +kernel
theorem dX5_near_36 : decode cX5_near 36 = .ok (.dload 7, 2) := by decide +kernel
theorem dX5_near_38 : decode cX5_near 38 = .ok (.invokevirtual 139, 3) := by decide +kernel
theorem dX5_near_41 : decode cX5_near 41 = .ok (.invokevirtual 165, 3) := by decide +kernel
theorem dX5_near_44 : decode cX5_near 44 = .ok (.invokevirtual 168, 3) := by decide +kernel
theorem dX5_near_47 : decode cX5_near 47 = .ok (.dreturn, 1) := by decide +kernel
theorem dX6_init_0 : decode cX6_init 0 = .ok (.aload_n 0, 1) := by decide +kernel
theorem dX6_init_1 : decode cX6_init 1 = .ok (.invokespecial 3, 3) := by decide +kernel
theorem dX6_init_4 : decode cX6_init 4 = .ok (.aload_n 0, 1) := by decide +kernel
theorem dX6_init_5 : decode cX6_init 5 = .ok (.sipush 160, 3) := by decide +kernel
theorem dX6_init_8 : decode cX6_init 8 = .ok (.newarray .int, 2) := by decide +kernel
theorem dX6_init_10 : decode cX6_init 10 = .ok (.putfield 9, 3) := by decide +kernel
theorem dX6_init_13 : decode cX6_init 13 = .ok (.aload_n 0, 1) := by decide +kernel
theorem dX6_init_14 : decode cX6_init 14 = .ok (.sipush 160, 3) := by decide +kernel
theorem dX6_init_17 : decode cX6_init 17 = .ok (.newarray .double, 2) := by decide +kernel
theorem dX6_init_19 : decode cX6_init 19 = .ok (.putfield 15, 3) := by decide +kernel
theorem dX6_init_22 : decode cX6_init 22 = .ok (.aload_n 0, 1) := by decide +kernel
theorem dX6_init_23 : decode cX6_init 23 = .ok (.sipush 160, 3) := by decide +kernel
theorem dX6_init_26 : decode cX6_init 26 = .ok (.newarray .int, 2) := by decide +kernel
theorem dX6_init_28 : decode cX6_init 28 = .ok (.putfield 19, 3) := by decide +kernel
theorem dX6_init_31 : decode cX6_init 31 = .ok (.aload_n 0, 1) := by decide +kernel
theorem dX6_init_32 : decode cX6_init 32 = .ok (.iconst 4, 1) := by decide +kernel
theorem dX6_init_33 : decode cX6_init 33 = .ok (.newarray .int, 2) := by decide +kernel
theorem dX6_init_35 : decode cX6_init 35 = .ok (.putfield 22, 3) := by decide +kernel
theorem dX6_init_38 : decode cX6_init 38 = .ok (.aload_n 0, 1) := by decide +kernel
theorem dX6_init_39 : decode cX6_init 39 = .ok (.iconst 4, 1) := by decide +kernel
theorem dX6_init_40 : decode cX6_init 40 = .ok (.newarray .int, 2) := by decide +kernel
theorem dX6_init_42 : decode cX6_init 42 = .ok (.putfield 25, 3) := by decide +kernel
theorem dX6_init_45 : decode cX6_init 45 = .ok (.aload_n 0, 1) := by decide +kernel
theorem dX6_init_46 : decode cX6_init 46 = .ok (.sipush 160, 3) := by decide +kernel
theorem dX6_init_49 : decode cX6_init 49 = .ok (.newarray .boolean, 2) := by decide +kernel
theorem dX6_init_51 : decode cX6_init 51 = .ok (.putfield 28, 3) := by decide +kernel
theorem dX6_init_54 : decode cX6_init 54 = .ok (.aload_n 0, 1) := by decide +kernel
theorem dX6_init_55 : decode cX6_init 55 = .ok (.sipush 160, 3) := by decide +kernel
theorem dX6_init_58 : decode cX6_init 58 = .ok (.newarray .double, 2) := by decide +kernel
theorem dX6_init_60 : decode cX6_init 60 = .ok (.putfield 32, 3) := by decide +kernel
theorem dX6_init_63 : decode cX6_init 63 = .ok (.aload_n 0, 1) := by decide +kernel
theorem dX6_init_64 : decode cX6_init 64 = .ok (.iconst 4, 1) := by decide +kernel
theorem dX6_init_65 : decode cX6_init 65 = .ok (.newarray .boolean, 2) := by decide +kernel
theorem dX6_init_67 : decode cX6_init 67 = .ok (.putfield 35, 3) := by decide +kernel
theorem dX6_init_70 : decode cX6_init 70 = .ok (.aload_n 0, 1) := by decide +kernel
theorem dX6_init_71 : decode cX6_init 71 = .ok (.iconst 4, 1) := by decide +kernel
theorem dX6_init_72 : decode cX6_init 72 = .ok (.newarray .double, 2) := by decide +kernel
theorem dX6_init_74 : decode cX6_init 74 = .ok (.putfield 38, 3) := by decide +kernel
theorem dX6_init_77 : decode cX6_init 77 = .ok (.return_, 1) := by decide +kernel
theorem dX6_put_0 : decode cX6_put 0 = .ok (.iload_n 1, 1) := by decide +kernel
theorem dX6_put_1 : decode cX6_put 1 = .ok (.iconst 4, 1) := by decide +kernel
theorem dX6_put_2 : decode cX6_put 2 = .ok (.imul, 1) := by decide +kernel
theorem dX6_put_3 : decode cX6_put 3 = .ok (.iload_n 2, 1) := by decide +kernel
theorem dX6_put_4 : decode cX6_put 4 = .ok (.iadd, 1) := by decide +kernel
theorem dX6_put_5 : decode cX6_put 5 = .ok (.istore 5, 2) := by decide +kernel
theorem dX6_put_7 : decode cX6_put 7 = .ok (.iload 4, 2) := by decide +kernel
theorem dX6_put_9 : decode cX6_put 9 = .ok (.invokestatic 41, 3) := by decide +kernel
theorem dX6_put_12 : decode cX6_put 12 = .ok (.invokestatic 47, 3) := by decide +kernel
theorem dX6_put_15 : decode cX6_put 15 = .ok (.istore 6, 2) := by decide +kernel
theorem dX6_put_17 : decode cX6_put 17 = .ok (.aload_n 0, 1) := by decide +kernel
theorem dX6_put_18 : decode cX6_put 18 = .ok (.getfield 22, 3) := by decide +kernel
theorem dX6_put_21 : decode cX6_put 21 = .ok (.iload_n 2, 1) := by decide +kernel
theorem dX6_put_22 : decode cX6_put 22 = .ok (.dup2, 1) := by decide +kernel
theorem dX6_put_23 : decode cX6_put 23 = .ok (.iaload, 1) := by decide +kernel
theorem dX6_put_24 : decode cX6_put 24 = .ok (.iload 6, 2) := by decide +kernel
theorem dX6_put_26 : decode cX6_put 26 = .ok (.aload_n 0, 1) := by decide +kernel
theorem dX6_put_27 : decode cX6_put 27 = .ok (.getfield 19, 3) := by decide +kernel
theorem dX6_put_30 : decode cX6_put 30 = .ok (.iload 5, 2) := by decide +kernel
theorem dX6_put_32 : decode cX6_put 32 = .ok (.iaload, 1) := by decide +kernel
theorem dX6_put_33 : decode cX6_put 33 = .ok (.isub, 1) := by decide +kernel
theorem dX6_put_34 : decode cX6_put 34 = .ok (.iadd, 1) := by decide +kernel
theorem dX6_put_35 : decode cX6_put 35 = .ok (.iastore, 1) := by decide +kernel
theorem dX6_put_36 : decode cX6_put 36 = .ok (.aload_n 0, 1) := by decide +kernel
theorem dX6_put_37 : decode cX6_put 37 = .ok (.getfield 25, 3) := by decide +kernel
theorem dX6_put_40 : decode cX6_put 40 = .ok (.iload_n 2, 1) := by decide +kernel
theorem dX6_put_41 : decode cX6_put 41 = .ok (.dup2, 1) := by decide +kernel
theorem dX6_put_42 : decode cX6_put 42 = .ok (.iaload, 1) := by decide +kernel
theorem dX6_put_43 : decode cX6_put 43 = .ok (.iload 6, 2) := by decide +kernel
theorem dX6_put_45 : decode cX6_put 45 = .ok (.ifCond .ne 7, 3) := by decide +kernel
theorem dX6_put_48 : decode cX6_put 48 = .ok (.iconst 0, 1) := by decide +kernel
theorem dX6_put_49 : decode cX6_put 49 = .ok (.goto 4, 3) := by decide +kernel
theorem dX6_put_52 : decode cX6_put 52 = .ok (.iconst 1, 1) := by decide +kernel
theorem dX6_put_53 : decode cX6_put 53 = .ok (.aload_n 0, 1) := by decide +kernel
theorem dX6_put_54 : decode cX6_put 54 = .ok (.getfield 19, 3) := by decide +kernel
theorem dX6_put_57 : decode cX6_put 57 = .ok (.iload 5, 2) := by decide +kernel
theorem dX6_put_59 : decode cX6_put 59 = .ok (.iaload, 1) := by decide +kernel
theorem dX6_put_60 : decode cX6_put 60 = .ok (.ifCond .ne 7, 3) := by decide +kernel
theorem dX6_put_63 : decode cX6_put 63 = .ok (.iconst 0, 1) := by decide +kernel
theorem dX6_put_64 : decode cX6_put 64 = .ok (.goto 4, 3) := by decide +kernel
theorem dX6_put_67 : decode cX6_put 67 = .ok (.iconst 1, 1) := by decide +kernel
theorem dX6_put_68 : decode cX6_put 68 = .ok (.isub, 1) := by decide +kernel
theorem dX6_put_69 : decode cX6_put 69 = .ok (.iadd, 1) := by decide +kernel
theorem dX6_put_70 : decode cX6_put 70 = .ok (.iastore, 1) := by decide +kernel
theorem dX6_put_71 : decode cX6_put 71 = .ok (.aload_n 0, 1) := by decide +kernel
theorem dX6_put_72 : decode cX6_put 72 = .ok (.getfield 19, 3) := by decide +kernel
theorem dX6_put_75 : decode cX6_put 75 = .ok (.iload 5, 2) := by decide +kernel
theorem dX6_put_77 : decode cX6_put 77 = .ok (.iload 6, 2) := by decide +kernel
theorem dX6_put_79 : decode cX6_put 79 = .ok (.iastore, 1) := by decide +kernel
theorem dX6_put_80 : decode cX6_put 80 = .ok (.aload_n 0, 1) := by decide +kernel
theorem dX6_put_81 : decode cX6_put 81 = .ok (.getfield 9, 3) := by decide +kernel
theorem dX6_put_84 : decode cX6_put 84 = .ok (.iload 5, 2) := by decide +kernel
theorem dX6_put_86 : decode cX6_put 86 = .ok (.iload_n 3, 1) := by decide +kernel
theorem dX6_put_87 : decode cX6_put 87 = .ok (.iastore, 1) := by decide +kernel
theorem dX6_put_88 : decode cX6_put 88 = .ok (.aload_n 0, 1) := by decide +kernel
theorem dX6_put_89 : decode cX6_put 89 = .ok (.getfield 15, 3) := by decide +kernel
theorem dX6_put_92 : decode cX6_put 92 = .ok (.iload 5, 2) := by decide +kernel
theorem dX6_put_94 : decode cX6_put 94 = .ok (.iload_n 3, 1) := by decide +kernel
theorem dX6_put_95 : decode cX6_put 95 = .ok (.invokestatic 50, 3) := by decide +kernel
theorem dX6_put_98 : decode cX6_put 98 = .ok (.dastore, 1) := by decide +kernel
theorem dX6_put_99 : decode cX6_put 99 = .ok (.return_, 1) := by decide +kernel
theorem dX6_countOf_0 : decode cX6_countOf 0 = .ok (.aload_n 0, 1) := by decide +kernel
theorem dX6_countOf_1 : decode cX6_countOf 1 = .ok (.getfield 9, 3) := by decide +kernel
theorem dX6_countOf_4 : decode cX6_countOf 4 = .ok (.iload_n 1, 1) := by decide +kernel
theorem dX6_countOf_5 : decode cX6_countOf 5 = .ok (.iconst 4, 1) := by decide +kernel
theorem dX6_countOf_6 : decode cX6_countOf 6 = .ok (.imul, 1) := by decide +kernel
theorem dX6_countOf_7 : decode cX6_countOf 7 = .ok (.iload_n 2, 1) := by decide +kernel
theorem dX6_countOf_8 : decode cX6_countOf 8 = .ok (.iadd, 1) := by decide +kernel
theorem dX6_countOf_9 : decode cX6_countOf 9 = .ok (.iaload, 1) := by decide +kernel
theorem dX6_countOf_10 : decode cX6_countOf 10 = .ok (.i2d, 1) := by decide +kernel
theorem dX6_countOf_11 : decode cX6_countOf 11 = .ok (.dreturn, 1) := by decide +kernel
theorem dX6_rootOfCount_0 : decode cX6_rootOfCount 0 = .ok (.aload_n 0, 1) := by decide +kernel
theorem dX6_rootOfCount_1 : decode cX6_rootOfCount 1 = .ok (.getfield 15, 3) := by decide +kernel
theorem dX6_rootOfCount_4 : decode cX6_rootOfCount 4 = .ok (.iload_n 1, 1) := by decide +kernel
theorem dX6_rootOfCount_5 : decode cX6_rootOfCount 5 = .ok (.iconst 4, 1) := by decide +kernel
theorem dX6_rootOfCount_6 : decode cX6_rootOfCount 6 = .ok (.imul, 1) := by decide +kernel
theorem dX6_rootOfCount_7 : decode cX6_rootOfCount 7 = .ok (.iload_n 2, 1) := by decide +kernel
theorem dX6_rootOfCount_8 : decode cX6_rootOfCount 8 = .ok (.iadd, 1) := by decide +kernel
theorem dX6_rootOfCount_9 : decode cX6_rootOfCount 9 = .ok (.daload, 1) := by decide +kernel
theorem dX6_rootOfCount_10 : decode cX6_rootOfCount 10 = .ok (.dreturn, 1) := by decide +kernel
theorem dX6_lengthOf_0 : decode cX6_lengthOf 0 = .ok (.aload_n 0, 1) := by decide +kernel
theorem dX6_lengthOf_1 : decode cX6_lengthOf 1 = .ok (.getfield 19, 3) := by decide +kernel
theorem dX6_lengthOf_4 : decode cX6_lengthOf 4 = .ok (.iload_n 1, 1) := by decide +kernel
theorem dX6_lengthOf_5 : decode cX6_lengthOf 5 = .ok (.iconst 4, 1) := by decide +kernel
theorem dX6_lengthOf_6 : decode cX6_lengthOf 6 = .ok (.imul, 1) := by decide +kernel
theorem dX6_lengthOf_7 : decode cX6_lengthOf 7 = .ok (.iload_n 2, 1) := by decide +kernel
theorem dX6_lengthOf_8 : decode cX6_lengthOf 8 = .ok (.iadd, 1) := by decide +kernel
theorem dX6_lengthOf_9 : decode cX6_lengthOf 9 = .ok (.iaload, 1) := by decide +kernel
theorem dX6_lengthOf_10 : decode cX6_lengthOf 10 = .ok (.i2d, 1) := by decide +kernel
theorem dX6_lengthOf_11 : decode cX6_lengthOf 11 = .ok (.dreturn, 1) := by decide +kernel
theorem dX6_fillColumn_0 : decode cX6_fillColumn 0 = .ok (.iload_n 1, 1) := by decide +kernel
theorem dX6_fillColumn_1 : decode cX6_fillColumn 1 = .ok (.iconst 4, 1) := by decide +kernel
theorem dX6_fillColumn_2 : decode cX6_fillColumn 2 = .ok (.imul, 1) := by decide +kernel
theorem dX6_fillColumn_3 : decode cX6_fillColumn 3 = .ok (.iload_n 2, 1) := by decide +kernel
theorem dX6_fillColumn_4 : decode cX6_fillColumn 4 = .ok (.iadd, 1) := by decide +kernel
theorem dX6_fillColumn_5 : decode cX6_fillColumn 5 = .ok (.istore 5, 2) := by decide +kernel
theorem dX6_fillColumn_7 : decode cX6_fillColumn 7 = .ok (.aload_n 0, 1) := by decide +kernel
theorem dX6_fillColumn_8 : decode cX6_fillColumn 8 = .ok (.getfield 28, 3) := by decide +kernel
theorem dX6_fillColumn_11 : decode cX6_fillColumn 11 = .ok (.iload 5, 2) := by decide +kernel
theorem dX6_fillColumn_13 : decode cX6_fillColumn 13 = .ok (.lload_n 3, 1) := by decide +kernel
theorem dX6_fillColumn_14 : decode cX6_fillColumn 14 = .ok (.invokestatic 56, 3) := by decide +kernel
theorem dX6_fillColumn_17 : decode cX6_fillColumn 17 = .ok (.bastore, 1) := by decide +kernel
theorem dX6_fillColumn_18 : decode cX6_fillColumn 18 = .ok (.aload_n 0, 1) := by decide +kernel
theorem dX6_fillColumn_19 : decode cX6_fillColumn 19 = .ok (.getfield 32, 3) := by decide +kernel
theorem dX6_fillColumn_22 : decode cX6_fillColumn 22 = .ok (.iload 5, 2) := by decide +kernel
theorem dX6_fillColumn_24 : decode cX6_fillColumn 24 = .ok (.aload_n 0, 1) := by decide +kernel
theorem dX6_fillColumn_25 : decode cX6_fillColumn 25 = .ok (.getfield 28, 3) := by decide +kernel
theorem dX6_fillColumn_28 : decode cX6_fillColumn 28 = .ok (.iload 5, 2) := by decide +kernel
theorem dX6_fillColumn_30 : decode cX6_fillColumn 30 = .ok (.baload, 1) := by decide +kernel
theorem dX6_fillColumn_31 : decode cX6_fillColumn 31 = .ok (.ifCond .eq 10, 3) := by decide +kernel
theorem dX6_fillColumn_34 : decode cX6_fillColumn 34 = .ok (.lload_n 3, 1) := by decide +kernel
theorem dX6_fillColumn_35 : decode cX6_fillColumn 35 = .ok (.invokestatic 60, 3) := by decide +kernel
theorem dX6_fillColumn_38 : decode cX6_fillColumn 38 = .ok (.goto 4, 3) := by decide +kernel
theorem dX6_fillColumn_41 : decode cX6_fillColumn 41 = .ok (.dconst 0, 1) := by decide +kernel
theorem dX6_fillColumn_42 : decode cX6_fillColumn 42 = .ok (.dastore, 1) := by decide +kernel
theorem dX6_fillColumn_43 : decode cX6_fillColumn 43 = .ok (.return_, 1) := by decide +kernel
theorem dX6_hasColumn_0 : decode cX6_hasColumn 0 = .ok (.aload_n 0, 1) := by decide +kernel
theorem dX6_hasColumn_1 : decode cX6_hasColumn 1 = .ok (.getfield 28, 3) := by decide +kernel
theorem dX6_hasColumn_4 : decode cX6_hasColumn 4 = .ok (.iload_n 1, 1) := by decide +kernel
theorem dX6_hasColumn_5 : decode cX6_hasColumn 5 = .ok (.iconst 4, 1) := by decide +kernel
theorem dX6_hasColumn_6 : decode cX6_hasColumn 6 = .ok (.imul, 1) := by decide +kernel
theorem dX6_hasColumn_7 : decode cX6_hasColumn 7 = .ok (.iload_n 2, 1) := by decide +kernel
theorem dX6_hasColumn_8 : decode cX6_hasColumn 8 = .ok (.iadd, 1) := by decide +kernel
theorem dX6_hasColumn_9 : decode cX6_hasColumn 9 = .ok (.baload, 1) := by decide +kernel
theorem dX6_hasColumn_10 : decode cX6_hasColumn 10 = .ok (.ireturn, 1) := by decide +kernel
theorem dX6_columnOf_0 : decode cX6_columnOf 0 = .ok (.aload_n 0, 1) := by decide +kernel
theorem dX6_columnOf_1 : decode cX6_columnOf 1 = .ok (.getfield 32, 3) := by decide +kernel
theorem dX6_columnOf_4 : decode cX6_columnOf 4 = .ok (.iload_n 1, 1) := by decide +kernel
theorem dX6_columnOf_5 : decode cX6_columnOf 5 = .ok (.iconst 4, 1) := by decide +kernel
theorem dX6_columnOf_6 : decode cX6_columnOf 6 = .ok (.imul, 1) := by decide +kernel
theorem dX6_columnOf_7 : decode cX6_columnOf 7 = .ok (.iload_n 2, 1) := by decide +kernel
theorem dX6_columnOf_8 : decode cX6_columnOf 8 = .ok (.iadd, 1) := by decide +kernel
theorem dX6_columnOf_9 : decode cX6_columnOf 9 = .ok (.daload, 1) := by decide +kernel
theorem dX6_columnOf_10 : decode cX6_columnOf 10 = .ok (.dreturn, 1) := by decide +kernel
theorem dX6_giveAverage_0 : decode cX6_giveAverage 0 = .ok (.aload_n 0, 1) := by decide +kernel
theorem dX6_giveAverage_1 : decode cX6_giveAverage 1 = .ok (.getfield 35, 3) := by decide +kernel
theorem dX6_giveAverage_4 : decode cX6_giveAverage 4 = .ok (.iload_n 1, 1) := by decide +kernel
theorem dX6_giveAverage_5 : decode cX6_giveAverage 5 = .ok (.iconst 1, 1) := by decide +kernel
theorem dX6_giveAverage_6 : decode cX6_giveAverage 6 = .ok (.bastore, 1) := by decide +kernel
theorem dX6_giveAverage_7 : decode cX6_giveAverage 7 = .ok (.aload_n 0, 1) := by decide +kernel
theorem dX6_giveAverage_8 : decode cX6_giveAverage 8 = .ok (.getfield 38, 3) := by decide +kernel
theorem dX6_giveAverage_11 : decode cX6_giveAverage 11 = .ok (.iload_n 1, 1) := by decide +kernel
theorem dX6_giveAverage_12 : decode cX6_giveAverage 12 = .ok (.dload_n 2, 1) := by decide +kernel
theorem dX6_giveAverage_13 : decode cX6_giveAverage 13 = .ok (.dastore, 1) := by decide +kernel
theorem dX6_giveAverage_14 : decode cX6_giveAverage 14 = .ok (.return_, 1) := by decide +kernel
theorem dX6_giveNoAverage_0 : decode cX6_giveNoAverage 0 = .ok (.aload_n 0, 1) := by decide +kernel
theorem dX6_giveNoAverage_1 : decode cX6_giveNoAverage 1 = .ok (.getfield 35, 3) := by decide +kernel
theorem dX6_giveNoAverage_4 : decode cX6_giveNoAverage 4 = .ok (.iload_n 1, 1) := by decide +kernel
theorem dX6_giveNoAverage_5 : decode cX6_giveNoAverage 5 = .ok (.iconst 0, 1) := by decide +kernel
theorem dX6_giveNoAverage_6 : decode cX6_giveNoAverage 6 = .ok (.bastore, 1) := by decide +kernel
theorem dX6_giveNoAverage_7 : decode cX6_giveNoAverage 7 = .ok (.return_, 1) := by decide +kernel
theorem dX6_hasAverage_0 : decode cX6_hasAverage 0 = .ok (.aload_n 0, 1) := by decide +kernel
theorem dX6_hasAverage_1 : decode cX6_hasAverage 1 = .ok (.getfield 35, 3) := by decide +kernel
theorem dX6_hasAverage_4 : decode cX6_hasAverage 4 = .ok (.iload_n 1, 1) := by decide +kernel
theorem dX6_hasAverage_5 : decode cX6_hasAverage 5 = .ok (.baload, 1) := by decide +kernel
theorem dX6_hasAverage_6 : decode cX6_hasAverage 6 = .ok (.ifCond .ne 12, 3) := by decide +kernel
theorem dX6_hasAverage_9 : decode cX6_hasAverage 9 = .ok (.aload_n 0, 1) := by decide +kernel
theorem dX6_hasAverage_10 : decode cX6_hasAverage 10 = .ok (.getfield 25, 3) := by decide +kernel
theorem dX6_hasAverage_13 : decode cX6_hasAverage 13 = .ok (.iload_n 1, 1) := by decide +kernel
theorem dX6_hasAverage_14 : decode cX6_hasAverage 14 = .ok (.iaload, 1) := by decide +kernel
theorem dX6_hasAverage_15 : decode cX6_hasAverage 15 = .ok (.ifCond .le 7, 3) := by decide +kernel
theorem dX6_hasAverage_18 : decode cX6_hasAverage 18 = .ok (.iconst 1, 1) := by decide +kernel
theorem dX6_hasAverage_19 : decode cX6_hasAverage 19 = .ok (.goto 4, 3) := by decide +kernel
theorem dX6_hasAverage_22 : decode cX6_hasAverage 22 = .ok (.iconst 0, 1) := by decide +kernel
theorem dX6_hasAverage_23 : decode cX6_hasAverage 23 = .ok (.ireturn, 1) := by decide +kernel
theorem dX6_averageOf_0 : decode cX6_averageOf 0 = .ok (.aload_n 0, 1) := by decide +kernel
theorem dX6_averageOf_1 : decode cX6_averageOf 1 = .ok (.getfield 35, 3) := by decide +kernel
theorem dX6_averageOf_4 : decode cX6_averageOf 4 = .ok (.iload_n 1, 1) := by decide +kernel
theorem dX6_averageOf_5 : decode cX6_averageOf 5 = .ok (.baload, 1) := by decide +kernel
theorem dX6_averageOf_6 : decode cX6_averageOf 6 = .ok (.ifCond .eq 10, 3) := by decide +kernel
theorem dX6_averageOf_9 : decode cX6_averageOf 9 = .ok (.aload_n 0, 1) := by decide +kernel
theorem dX6_averageOf_10 : decode cX6_averageOf 10 = .ok (.getfield 38, 3) := by decide +kernel
theorem dX6_averageOf_13 : decode cX6_averageOf 13 = .ok (.iload_n 1, 1) := by decide +kernel
theorem dX6_averageOf_14 : decode cX6_averageOf 14 = .ok (.daload, 1) := by decide +kernel
theorem dX6_averageOf_15 : decode cX6_averageOf 15 = .ok (.dreturn, 1) := by decide +kernel
theorem dX6_averageOf_16 : decode cX6_averageOf 16 = .ok (.aload_n 0, 1) := by decide +kernel
theorem dX6_averageOf_17 : decode cX6_averageOf 17 = .ok (.getfield 25, 3) := by decide +kernel
theorem dX6_averageOf_20 : decode cX6_averageOf 20 = .ok (.iload_n 1, 1) := by decide +kernel
theorem dX6_averageOf_21 : decode cX6_averageOf 21 = .ok (.iaload, 1) := by decide +kernel
theorem dX6_averageOf_22 : decode cX6_averageOf 22 = .ok (.istore_n 2, 1) := by decide +kernel
theorem dX6_averageOf_23 : decode cX6_averageOf 23 = .ok (.iload_n 2, 1) := by decide +kernel
theorem dX6_averageOf_24 : decode cX6_averageOf 24 = .ok (.ifCond .le 16, 3) := by decide +kernel
theorem dX6_averageOf_27 : decode cX6_averageOf 27 = .ok (.aload_n 0, 1) := by decide +kernel
theorem dX6_averageOf_28 : decode cX6_averageOf 28 = .ok (.getfield 22, 3) := by decide +kernel
theorem dX6_averageOf_31 : decode cX6_averageOf 31 = .ok (.iload_n 1, 1) := by decide +kernel
theorem dX6_averageOf_32 : decode cX6_averageOf 32 = .ok (.iaload, 1) := by decide +kernel
theorem dX6_averageOf_33 : decode cX6_averageOf 33 = .ok (.i2d, 1) := by decide +kernel
theorem dX6_averageOf_34 : decode cX6_averageOf 34 = .ok (.iload_n 2, 1) := by decide +kernel
theorem dX6_averageOf_35 : decode cX6_averageOf 35 = .ok (.i2d, 1) := by decide +kernel
theorem dX6_averageOf_36 : decode cX6_averageOf 36 = .ok (.ddiv, 1) := by decide +kernel
theorem dX6_averageOf_37 : decode cX6_averageOf 37 = .ok (.goto 4, 3) := by decide +kernel
theorem dX6_averageOf_40 : decode cX6_averageOf 40 = .ok (.dconst 0, 1) := by decide +kernel
theorem dX6_averageOf_41 : decode cX6_averageOf 41 = .ok (.dreturn, 1) := by decide +kernel
theorem dX6_reset_0 : decode cX6_reset 0 = .ok (.iconst 0, 1) := by decide +kernel
theorem dX6_reset_1 : decode cX6_reset 1 = .ok (.istore_n 1, 1) := by decide +kernel
theorem dX6_reset_2 : decode cX6_reset 2 = .ok (.iload_n 1, 1) := by decide +kernel
theorem dX6_reset_3 : decode cX6_reset 3 = .ok (.bipush 40, 2) := by decide +kernel
theorem dX6_reset_5 : decode cX6_reset 5 = .ok (.if_icmp .ge 52, 3) := by decide +kernel
theorem dX6_reset_8 : decode cX6_reset 8 = .ok (.iconst 0, 1) := by decide +kernel
theorem dX6_reset_9 : decode cX6_reset 9 = .ok (.istore_n 2, 1) := by decide +kernel
theorem dX6_reset_10 : decode cX6_reset 10 = .ok (.iload_n 2, 1) := by decide +kernel
theorem dX6_reset_11 : decode cX6_reset 11 = .ok (.iconst 4, 1) := by decide +kernel
theorem dX6_reset_12 : decode cX6_reset 12 = .ok (.if_icmp .ge 17, 3) := by decide +kernel
theorem dX6_reset_15 : decode cX6_reset 15 = .ok (.aload_n 0, 1) := by decide +kernel
theorem dX6_reset_16 : decode cX6_reset 16 = .ok (.iload_n 1, 1) := by decide +kernel
theorem dX6_reset_17 : decode cX6_reset 17 = .ok (.iload_n 2, 1) := by decide +kernel
theorem dX6_reset_18 : decode cX6_reset 18 = .ok (.iconst 0, 1) := by decide +kernel
theorem dX6_reset_19 : decode cX6_reset 19 = .ok (.iconst 0, 1) := by decide +kernel
theorem dX6_reset_20 : decode cX6_reset 20 = .ok (.invokevirtual 64, 3) := by decide +kernel
theorem dX6_reset_23 : decode cX6_reset 23 = .ok (.iinc 2 1, 3) := by decide +kernel
theorem dX6_reset_26 : decode cX6_reset 26 = .ok (.goto (-16), 3) := by decide +kernel
theorem dX6_reset_29 : decode cX6_reset 29 = .ok (.iconst 0, 1) := by decide +kernel
theorem dX6_reset_30 : decode cX6_reset 30 = .ok (.istore_n 2, 1) := by decide +kernel
theorem dX6_reset_31 : decode cX6_reset 31 = .ok (.iload_n 2, 1) := by decide +kernel
theorem dX6_reset_32 : decode cX6_reset 32 = .ok (.iconst 4, 1) := by decide +kernel
theorem dX6_reset_33 : decode cX6_reset 33 = .ok (.if_icmp .ge 18, 3) := by decide +kernel
theorem dX6_reset_36 : decode cX6_reset 36 = .ok (.aload_n 0, 1) := by decide +kernel
theorem dX6_reset_37 : decode cX6_reset 37 = .ok (.iload_n 1, 1) := by decide +kernel
theorem dX6_reset_38 : decode cX6_reset 38 = .ok (.iload_n 2, 1) := by decide +kernel
theorem dX6_reset_39 : decode cX6_reset 39 = .ok (.ldc2_w 68, 3) := by decide +kernel
theorem dX6_reset_42 : decode cX6_reset 42 = .ok (.invokevirtual 70, 3) := by decide +kernel
theorem dX6_reset_45 : decode cX6_reset 45 = .ok (.iinc 2 1, 3) := by decide +kernel
theorem dX6_reset_48 : decode cX6_reset 48 = .ok (.goto (-17), 3) := by decide +kernel
theorem dX6_reset_51 : decode cX6_reset 51 = .ok (.iinc 1 1, 3) := by decide +kernel
theorem dX6_reset_54 : decode cX6_reset 54 = .ok (.goto (-52), 3) := by decide +kernel
theorem dX6_reset_57 : decode cX6_reset 57 = .ok (.iconst 0, 1) := by decide +kernel
theorem dX6_reset_58 : decode cX6_reset 58 = .ok (.istore_n 1, 1) := by decide +kernel
theorem dX6_reset_59 : decode cX6_reset 59 = .ok (.iload_n 1, 1) := by decide +kernel
theorem dX6_reset_60 : decode cX6_reset 60 = .ok (.iconst 4, 1) := by decide +kernel
theorem dX6_reset_61 : decode cX6_reset 61 = .ok (.if_icmp .ge 14, 3) := by decide +kernel
theorem dX6_reset_64 : decode cX6_reset 64 = .ok (.aload_n 0, 1) := by decide +kernel
theorem dX6_reset_65 : decode cX6_reset 65 = .ok (.iload_n 1, 1) := by decide +kernel
theorem dX6_reset_66 : decode cX6_reset 66 = .ok (.invokevirtual 74, 3) := by decide +kernel
theorem dX6_reset_69 : decode cX6_reset 69 = .ok (.iinc 1 1, 3) := by decide +kernel
theorem dX6_reset_72 : decode cX6_reset 72 = .ok (.goto (-13), 3) := by decide +kernel
theorem dX6_reset_75 : decode cX6_reset 75 = .ok (.return_, 1) := by decide +kernel
theorem dX7_init_0 : decode cX7_init 0 = .ok (.aload_n 0, 1) := by decide +kernel
theorem dX7_init_1 : decode cX7_init 1 = .ok (.invokespecial 1, 3) := by decide +kernel
theorem dX7_init_4 : decode cX7_init 4 = .ok (.aload_n 0, 1) := by decide +kernel
theorem dX7_init_5 : decode cX7_init 5 = .ok (.new 7, 3) := by decide +kernel
theorem dX7_init_8 : decode cX7_init 8 = .ok (.dup, 1) := by decide +kernel
theorem dX7_init_9 : decode cX7_init 9 = .ok (.invokespecial 9, 3) := by decide +kernel
theorem dX7_init_12 : decode cX7_init 12 = .ok (.putfield 10, 3) := by decide +kernel
theorem dX7_init_15 : decode cX7_init 15 = .ok (.aload_n 0, 1) := by decide +kernel
theorem dX7_init_16 : decode cX7_init 16 = .ok (.new 16, 3) := by decide +kernel
theorem dX7_init_19 : decode cX7_init 19 = .ok (.dup, 1) := by decide +kernel
theorem dX7_init_20 : decode cX7_init 20 = .ok (.aload_n 0, 1) := by decide +kernel
theorem dX7_init_21 : decode cX7_init 21 = .ok (.getfield 10, 3) := by decide +kernel
theorem dX7_init_24 : decode cX7_init 24 = .ok (.invokespecial 18, 3) := by decide +kernel
theorem dX7_init_27 : decode cX7_init 27 = .ok (.putfield 21, 3) := by decide +kernel
theorem dX7_init_30 : decode cX7_init 30 = .ok (.aload_n 0, 1) := by decide +kernel
theorem dX7_init_31 : decode cX7_init 31 = .ok (.bipush 60, 2) := by decide +kernel
theorem dX7_init_33 : decode cX7_init 33 = .ok (.anewarray 25, 3) := by decide +kernel
theorem dX7_init_36 : decode cX7_init 36 = .ok (.putfield 27, 3) := by decide +kernel
theorem dX7_init_39 : decode cX7_init 39 = .ok (.iconst 0, 1) := by decide +kernel
theorem dX7_init_40 : decode cX7_init 40 = .ok (.istore_n 1, 1) := by decide +kernel
theorem dX7_init_41 : decode cX7_init 41 = .ok (.iload_n 1, 1) := by decide +kernel
theorem dX7_init_42 : decode cX7_init 42 = .ok (.bipush 60, 2) := by decide +kernel
theorem dX7_init_44 : decode cX7_init 44 = .ok (.if_icmp .ge 23, 3) := by decide +kernel
theorem dX7_init_47 : decode cX7_init 47 = .ok (.aload_n 0, 1) := by decide +kernel
theorem dX7_init_48 : decode cX7_init 48 = .ok (.getfield 27, 3) := by decide +kernel
theorem dX7_init_51 : decode cX7_init 51 = .ok (.iload_n 1, 1) := by decide +kernel
theorem dX7_init_52 : decode cX7_init 52 = .ok (.new 25, 3) := by decide +kernel
theorem dX7_init_55 : decode cX7_init 55 = .ok (.dup, 1) := by decide +kernel
theorem dX7_init_56 : decode cX7_init 56 = .ok (.iload_n 1, 1) := by decide +kernel
theorem dX7_init_57 : decode cX7_init 57 = .ok (.invokespecial 31, 3) := by decide +kernel
theorem dX7_init_60 : decode cX7_init 60 = .ok (.aastore, 1) := by decide +kernel
theorem dX7_init_61 : decode cX7_init 61 = .ok (.iinc 1 1, 3) := by decide +kernel
theorem dX7_init_64 : decode cX7_init 64 = .ok (.goto (-23), 3) := by decide +kernel
theorem dX7_init_67 : decode cX7_init 67 = .ok (.aload_n 0, 1) := by decide +kernel
theorem dX7_init_68 : decode cX7_init 68 = .ok (.iconst 5, 1) := by decide +kernel
theorem dX7_init_69 : decode cX7_init 69 = .ok (.newarray .int, 2) := by decide +kernel
theorem dX7_init_71 : decode cX7_init 71 = .ok (.putfield 34, 3) := by decide +kernel
theorem dX7_init_74 : decode cX7_init 74 = .ok (.aload_n 0, 1) := by decide +kernel
theorem dX7_init_75 : decode cX7_init 75 = .ok (.getfield 34, 3) := by decide +kernel
theorem dX7_init_78 : decode cX7_init 78 = .ok (.iconst 1, 1) := by decide +kernel
theorem dX7_init_79 : decode cX7_init 79 = .ok (.bipush (-9), 2) := by decide +kernel
theorem dX7_init_81 : decode cX7_init 81 = .ok (.iastore, 1) := by decide +kernel
theorem dX7_init_82 : decode cX7_init 82 = .ok (.aload_n 0, 1) := by decide +kernel
theorem dX7_init_83 : decode cX7_init 83 = .ok (.bipush 40, 2) := by decide +kernel
theorem dX7_init_85 : decode cX7_init 85 = .ok (.newarray .double, 2) := by decide +kernel
theorem dX7_init_87 : decode cX7_init 87 = .ok (.putfield 38, 3) := by decide +kernel
theorem dX7_init_90 : decode cX7_init 90 = .ok (.aload_n 0, 1) := by decide +kernel
theorem dX7_init_91 : decode cX7_init 91 = .ok (.bipush 40, 2) := by decide +kernel
theorem dX7_init_93 : decode cX7_init 93 = .ok (.newarray .boolean, 2) := by decide +kernel
theorem dX7_init_95 : decode cX7_init 95 = .ok (.putfield 42, 3) := by decide +kernel
theorem dX7_init_98 : decode cX7_init 98 = .ok (.return_, 1) := by decide +kernel
theorem dX7_tell_0 : decode cX7_tell 0 = .ok (.iload_n 1, 1) := by decide +kernel
theorem dX7_tell_1 : decode cX7_tell 1 = .ok (.bipush 40, 2) := by decide +kernel
theorem dX7_tell_3 : decode cX7_tell 3 = .ok (.invokestatic 46, 3) := by decide +kernel
theorem dX7_tell_6 : decode cX7_tell 6 = .ok (.ifCond .eq 11, 3) := by decide +kernel
theorem dX7_tell_9 : decode cX7_tell 9 = .ok (.iload_n 2, 1) := by decide +kernel
theorem dX7_tell_10 : decode cX7_tell 10 = .ok (.iconst 4, 1) := by decide +kernel
theorem dX7_tell_11 : decode cX7_tell 11 = .ok (.invokestatic 46, 3) := by decide +kernel
theorem dX7_tell_14 : decode cX7_tell 14 = .ok (.ifCond .ne 5, 3) := by decide +kernel
theorem dX7_tell_17 : decode cX7_tell 17 = .ok (.iconst (-1), 1) := by decide +kernel
theorem dX7_tell_18 : decode cX7_tell 18 = .ok (.ireturn, 1) := by decide +kernel
theorem dX7_tell_19 : decode cX7_tell 19 = .ok (.iload_n 3, 1) := by decide +kernel
theorem dX7_tell_20 : decode cX7_tell 20 = .ok (.sipush 1001, 3) := by decide +kernel
theorem dX7_tell_23 : decode cX7_tell 23 = .ok (.invokestatic 46, 3) := by decide +kernel
theorem dX7_tell_26 : decode cX7_tell 26 = .ok (.ifCond .eq 13, 3) := by decide +kernel
theorem dX7_tell_29 : decode cX7_tell 29 = .ok (.iload 4, 2) := by decide +kernel
theorem dX7_tell_31 : decode cX7_tell 31 = .ok (.ldc 50, 2) := by decide +kernel
theorem dX7_tell_33 : decode cX7_tell 33 = .ok (.invokestatic 46, 3) := by decide +kernel
theorem dX7_tell_36 : decode cX7_tell 36 = .ok (.ifCond .ne 5, 3) := by decide +kernel
theorem dX7_tell_39 : decode cX7_tell 39 = .ok (.iconst (-1), 1) := by decide +kernel
theorem dX7_tell_40 : decode cX7_tell 40 = .ok (.ireturn, 1) := by decide +kernel
theorem dX7_tell_41 : decode cX7_tell 41 = .ok (.aload_n 0, 1) := by decide +kernel
theorem dX7_tell_42 : decode cX7_tell 42 = .ok (.getfield 10, 3) := by decide +kernel
theorem dX7_tell_45 : decode cX7_tell 45 = .ok (.iload_n 1, 1) := by decide +kernel
theorem dX7_tell_46 : decode cX7_tell 46 = .ok (.iload_n 2, 1) := by decide +kernel
theorem dX7_tell_47 : decode cX7_tell 47 = .ok (.iload_n 3, 1) := by decide +kernel
theorem dX7_tell_48 : decode cX7_tell 48 = .ok (.iload 4, 2) := by decide +kernel
theorem dX7_tell_50 : decode cX7_tell 50 = .ok (.invokevirtual 51, 3) := by decide +kernel
theorem dX7_tell_53 : decode cX7_tell 53 = .ok (.iconst 0, 1) := by decide +kernel
theorem dX7_tell_54 : decode cX7_tell 54 = .ok (.ireturn, 1) := by decide +kernel
theorem dX7_column_0 : decode cX7_column 0 = .ok (.iload_n 1, 1) := by decide +kernel
theorem dX7_column_1 : decode cX7_column 1 = .ok (.bipush 40, 2) := by decide +kernel
theorem dX7_column_3 : decode cX7_column 3 = .ok (.invokestatic 46, 3) := by decide +kernel
theorem dX7_column_6 : decode cX7_column 6 = .ok (.ifCond .eq 11, 3) := by decide +kernel
theorem dX7_column_9 : decode cX7_column 9 = .ok (.iload_n 2, 1) := by decide +kernel
theorem dX7_column_10 : decode cX7_column 10 = .ok (.iconst 4, 1) := by decide +kernel
theorem dX7_column_11 : decode cX7_column 11 = .ok (.invokestatic 46, 3) := by decide +kernel
theorem dX7_column_14 : decode cX7_column 14 = .ok (.ifCond .ne 5, 3) := by decide +kernel
theorem dX7_column_17 : decode cX7_column 17 = .ok (.iconst (-1), 1) := by decide +kernel
theorem dX7_column_18 : decode cX7_column 18 = .ok (.ireturn, 1) := by decide +kernel
theorem dX7_column_19 : decode cX7_column 19 = .ok (.aload_n 0, 1) := by decide +kernel
theorem dX7_column_20 : decode cX7_column 20 = .ok (.getfield 10, 3) := by decide +kernel
theorem dX7_column_23 : decode cX7_column 23 = .ok (.iload_n 1, 1) := by decide +kernel
theorem dX7_column_24 : decode cX7_column 24 = .ok (.iload_n 2, 1) := by decide +kernel
theorem dX7_column_25 : decode cX7_column 25 = .ok (.lload_n 3, 1) := by decide +kernel
theorem dX7_column_26 : decode cX7_column 26 = .ok (.invokevirtual 55, 3) := by decide +kernel
theorem dX7_column_29 : decode cX7_column 29 = .ok (.iconst 0, 1) := by decide +kernel
theorem dX7_column_30 : decode cX7_column 30 = .ok (.ireturn, 1) := by decide +kernel
theorem dX7_given_0 : decode cX7_given 0 = .ok (.iload_n 1, 1) := by decide +kernel
theorem dX7_given_1 : decode cX7_given 1 = .ok (.iconst 4, 1) := by decide +kernel
theorem dX7_given_2 : decode cX7_given 2 = .ok (.invokestatic 46, 3) := by decide +kernel
theorem dX7_given_5 : decode cX7_given 5 = .ok (.ifCond .ne 5, 3) := by decide +kernel
theorem dX7_given_8 : decode cX7_given 8 = .ok (.iconst (-1), 1) := by decide +kernel
theorem dX7_given_9 : decode cX7_given 9 = .ok (.ireturn, 1) := by decide +kernel
theorem dX7_given_10 : decode cX7_given 10 = .ok (.lload_n 2, 1) := by decide +kernel
theorem dX7_given_11 : decode cX7_given 11 = .ok (.invokestatic 59, 3) := by decide +kernel
theorem dX7_given_14 : decode cX7_given 14 = .ok (.ifCond .ne 13, 3) := by decide +kernel
theorem dX7_given_17 : decode cX7_given 17 = .ok (.aload_n 0, 1) := by decide +kernel
theorem dX7_given_18 : decode cX7_given 18 = .ok (.getfield 10, 3) := by decide +kernel
theorem dX7_given_21 : decode cX7_given 21 = .ok (.iload_n 1, 1) := by decide +kernel
theorem dX7_given_22 : decode cX7_given 22 = .ok (.invokevirtual 65, 3) := by decide +kernel
theorem dX7_given_25 : decode cX7_given 25 = .ok (.iconst 0, 1) := by decide +kernel
theorem dX7_given_26 : decode cX7_given 26 = .ok (.ireturn, 1) := by decide +kernel
theorem dX7_given_27 : decode cX7_given 27 = .ok (.lload_n 2, 1) := by decide +kernel
theorem dX7_given_28 : decode cX7_given 28 = .ok (.invokestatic 68, 3) := by decide +kernel
theorem dX7_given_31 : decode cX7_given 31 = .ok (.dstore 4, 2) := by decide +kernel
theorem dX7_given_33 : decode cX7_given 33 = .ok (.dload 4, 2) := by decide +kernel
theorem dX7_given_35 : decode cX7_given 35 = .ok (.dconst 0, 1) := by decide +kernel
theorem dX7_given_36 : decode cX7_given 36 = .ok (.dcmp .l, 1) := by decide +kernel
theorem dX7_given_37 : decode cX7_given 37 = .ok (.ifCond .gt 5, 3) := by decide +kernel
theorem dX7_given_40 : decode cX7_given 40 = .ok (.iconst (-1), 1) := by decide +kernel
theorem dX7_given_41 : decode cX7_given 41 = .ok (.ireturn, 1) := by decide +kernel
theorem dX7_given_42 : decode cX7_given 42 = .ok (.aload_n 0, 1) := by decide +kernel
theorem dX7_given_43 : decode cX7_given 43 = .ok (.getfield 10, 3) := by decide +kernel
theorem dX7_given_46 : decode cX7_given 46 = .ok (.iload_n 1, 1) := by decide +kernel
theorem dX7_given_47 : decode cX7_given 47 = .ok (.dload 4, 2) := by decide +kernel
theorem dX7_given_49 : decode cX7_given 49 = .ok (.invokevirtual 72, 3) := by decide +kernel
theorem dX7_given_52 : decode cX7_given 52 = .ok (.iconst 0, 1) := by decide +kernel
theorem dX7_given_53 : decode cX7_given 53 = .ok (.ireturn, 1) := by decide +kernel
theorem dX7_average_0 : decode cX7_average 0 = .ok (.iload_n 1, 1) := by decide +kernel
theorem dX7_average_1 : decode cX7_average 1 = .ok (.iconst 4, 1) := by decide +kernel
theorem dX7_average_2 : decode cX7_average 2 = .ok (.invokestatic 46, 3) := by decide +kernel
theorem dX7_average_5 : decode cX7_average 5 = .ok (.ifCond .ne 5, 3) := by decide +kernel
theorem dX7_average_8 : decode cX7_average 8 = .ok (.lconst 0, 1) := by decide +kernel
theorem dX7_average_9 : decode cX7_average 9 = .ok (.lreturn, 1) := by decide +kernel
theorem dX7_average_10 : decode cX7_average 10 = .ok (.aload_n 0, 1) := by decide +kernel
theorem dX7_average_11 : decode cX7_average 11 = .ok (.getfield 10, 3) := by decide +kernel
theorem dX7_average_14 : decode cX7_average 14 = .ok (.iload_n 1, 1) := by decide +kernel
theorem dX7_average_15 : decode cX7_average 15 = .ok (.invokevirtual 76, 3) := by decide +kernel
theorem dX7_average_18 : decode cX7_average 18 = .ok (.ifCond .eq 17, 3) := by decide +kernel
theorem dX7_average_21 : decode cX7_average 21 = .ok (.aload_n 0, 1) := by decide +kernel
theorem dX7_average_22 : decode cX7_average 22 = .ok (.getfield 10, 3) := by decide +kernel
theorem dX7_average_25 : decode cX7_average 25 = .ok (.iload_n 1, 1) := by decide +kernel
theorem dX7_average_26 : decode cX7_average 26 = .ok (.invokevirtual 80, 3) := by decide +kernel
theorem dX7_average_29 : decode cX7_average 29 = .ok (.invokestatic 84, 3) := by decide +kernel
theorem dX7_average_32 : decode cX7_average 32 = .ok (.goto 6, 3) := by decide +kernel
theorem dX7_average_35 : decode cX7_average 35 = .ok (.ldc2_w 88, 3) := by decide +kernel
theorem dX7_average_38 : decode cX7_average 38 = .ok (.lreturn, 1) := by decide +kernel
theorem dX7_packed_0 : decode cX7_packed 0 = .ok (.iload_n 1, 1) := by decide +kernel
theorem dX7_packed_1 : decode cX7_packed 1 = .ok (.ldc 50, 2) := by decide +kernel
theorem dX7_packed_3 : decode cX7_packed 3 = .ok (.invokestatic 46, 3) := by decide +kernel
theorem dX7_packed_6 : decode cX7_packed 6 = .ok (.ifCond .eq 11, 3) := by decide +kernel
theorem dX7_packed_9 : decode cX7_packed 9 = .ok (.iload_n 2, 1) := by decide +kernel
theorem dX7_packed_10 : decode cX7_packed 10 = .ok (.iconst 2, 1) := by decide +kernel
theorem dX7_packed_11 : decode cX7_packed 11 = .ok (.invokestatic 46, 3) := by decide +kernel
theorem dX7_packed_14 : decode cX7_packed 14 = .ok (.ifCond .ne 5, 3) := by decide +kernel
theorem dX7_packed_17 : decode cX7_packed 17 = .ok (.iconst (-1), 1) := by decide +kernel
theorem dX7_packed_18 : decode cX7_packed 18 = .ok (.ireturn, 1) := by decide +kernel
theorem dX7_packed_19 : decode cX7_packed 19 = .ok (.iload_n 1, 1) := by decide +kernel
theorem dX7_packed_20 : decode cX7_packed 20 = .ok (.invokestatic 90, 3) := by decide +kernel
theorem dX7_packed_23 : decode cX7_packed 23 = .ok (.istore_n 3, 1) := by decide +kernel
theorem dX7_packed_24 : decode cX7_packed 24 = .ok (.iload_n 2, 1) := by decide +kernel
theorem dX7_packed_25 : decode cX7_packed 25 = .ok (.ifCond .ne 7, 3) := by decide +kernel
theorem dX7_packed_28 : decode cX7_packed 28 = .ok (.iload_n 3, 1) := by decide +kernel
theorem dX7_packed_29 : decode cX7_packed 29 = .ok (.goto 7, 3) := by decide +kernel
theorem dX7_packed_32 : decode cX7_packed 32 = .ok (.iload_n 3, 1) := by decide +kernel
theorem dX7_packed_33 : decode cX7_packed 33 = .ok (.invokestatic 96, 3) := by decide +kernel
theorem dX7_packed_36 : decode cX7_packed 36 = .ok (.ireturn, 1) := by decide +kernel
theorem dX7_formula_0 : decode cX7_formula 0 = .ok (.iload_n 1, 1) := by decide +kernel
theorem dX7_formula_1 : decode cX7_formula 1 = .ok (.bipush 14, 2) := by decide +kernel
theorem dX7_formula_3 : decode cX7_formula 3 = .ok (.invokestatic 46, 3) := by decide +kernel
theorem dX7_formula_6 : decode cX7_formula 6 = .ok (.ifCond .eq 24, 3) := by decide +kernel
theorem dX7_formula_9 : decode cX7_formula 9 = .ok (.aload_n 0, 1) := by decide +kernel
theorem dX7_formula_10 : decode cX7_formula 10 = .ok (.iload_n 1, 1) := by decide +kernel
theorem dX7_formula_11 : decode cX7_formula 11 = .ok (.iload_n 2, 1) := by decide +kernel
theorem dX7_formula_12 : decode cX7_formula 12 = .ok (.iload_n 3, 1) := by decide +kernel
theorem dX7_formula_13 : decode cX7_formula 13 = .ok (.invokevirtual 101, 3) := by decide +kernel
theorem dX7_formula_16 : decode cX7_formula 16 = .ok (.ifCond .eq 14, 3) := by decide +kernel
theorem dX7_formula_19 : decode cX7_formula 19 = .ok (.iload_n 1, 1) := by decide +kernel
theorem dX7_formula_20 : decode cX7_formula 20 = .ok (.lload 4, 2) := by decide +kernel
theorem dX7_formula_22 : decode cX7_formula 22 = .ok (.lload 6, 2) := by decide +kernel
theorem dX7_formula_24 : decode cX7_formula 24 = .ok (.invokestatic 105, 3) := by decide +kernel
theorem dX7_formula_27 : decode cX7_formula 27 = .ok (.ifCond .ne 5, 3) := by decide +kernel
theorem dX7_formula_30 : decode cX7_formula 30 = .ok (.iconst (-1), 1) := by decide +kernel
theorem dX7_formula_31 : decode cX7_formula 31 = .ok (.ireturn, 1) := by decide +kernel
theorem dX7_formula_32 : decode cX7_formula 32 = .ok (.aload_n 0, 1) := by decide +kernel
theorem dX7_formula_33 : decode cX7_formula 33 = .ok (.getfield 109, 3) := by decide +kernel
theorem dX7_formula_36 : decode cX7_formula 36 = .ok (.bipush 60, 2) := by decide +kernel
theorem dX7_formula_38 : decode cX7_formula 38 = .ok (.if_icmp .lt 6, 3) := by decide +kernel
theorem dX7_formula_41 : decode cX7_formula 41 = .ok (.bipush (-3), 2) := by decide +kernel
theorem dX7_formula_43 : decode cX7_formula 43 = .ok (.ireturn, 1) := by decide +kernel
theorem dX7_formula_44 : decode cX7_formula 44 = .ok (.iload_n 1, 1) := by decide +kernel
theorem dX7_formula_45 : decode cX7_formula 45 = .ok (.invokestatic 113, 3) := by decide +kernel
theorem dX7_formula_48 : decode cX7_formula 48 = .ok (.ifCond .eq 12, 3) := by decide +kernel
theorem dX7_formula_51 : decode cX7_formula 51 = .ok (.aload_n 0, 1) := by decide +kernel
theorem dX7_formula_52 : decode cX7_formula 52 = .ok (.getfield 27, 3) := by decide +kernel
theorem dX7_formula_55 : decode cX7_formula 55 = .ok (.iload_n 2, 1) := by decide +kernel
theorem dX7_formula_56 : decode cX7_formula 56 = .ok (.aaload, 1) := by decide +kernel
theorem dX7_formula_57 : decode cX7_formula 57 = .ok (.goto 4, 3) := by decide +kernel
theorem dX7_formula_60 : decode cX7_formula 60 = .ok (.aconst_null, 1) := by decide +kernel
theorem dX7_formula_61 : decode cX7_formula 61 = .ok (.astore 8, 2) := by decide +kernel
theorem dX7_formula_63 : decode cX7_formula 63 = .ok (.iload_n 1, 1) := by decide +kernel
theorem dX7_formula_64 : decode cX7_formula 64 = .ok (.bipush 13, 2) := by decide +kernel
theorem dX7_formula_66 : decode cX7_formula 66 = .ok (.if_icmp .ne 12, 3) := by decide +kernel
theorem dX7_formula_69 : decode cX7_formula 69 = .ok (.aload_n 0, 1) := by decide +kernel
theorem dX7_formula_70 : decode cX7_formula 70 = .ok (.getfield 27, 3) := by decide +kernel
theorem dX7_formula_73 : decode cX7_formula 73 = .ok (.iload_n 3, 1) := by decide +kernel
theorem dX7_formula_74 : decode cX7_formula 74 = .ok (.aaload, 1) := by decide +kernel
theorem dX7_formula_75 : decode cX7_formula 75 = .ok (.goto 4, 3) := by decide +kernel
theorem dX7_formula_78 : decode cX7_formula 78 = .ok (.aconst_null, 1) := by decide +kernel
theorem dX7_formula_79 : decode cX7_formula 79 = .ok (.astore 9, 2) := by decide +kernel
theorem dX7_formula_81 : decode cX7_formula 81 = .ok (.iconst 1, 1) := by decide +kernel
theorem dX7_formula_82 : decode cX7_formula 82 = .ok (.aload 8, 2) := by decide +kernel
theorem dX7_formula_84 : decode cX7_formula 84 = .ok (.invokestatic 116, 3) := by decide +kernel
theorem dX7_formula_87 : decode cX7_formula 87 = .ok (.iadd, 1) := by decide +kernel
theorem dX7_formula_88 : decode cX7_formula 88 = .ok (.aload 9, 2) := by decide +kernel
theorem dX7_formula_90 : decode cX7_formula 90 = .ok (.invokestatic 116, 3) := by decide +kernel
theorem dX7_formula_93 : decode cX7_formula 93 = .ok (.iadd, 1) := by decide +kernel
theorem dX7_formula_94 : decode cX7_formula 94 = .ok (.sipush 200, 3) := by decide +kernel
theorem dX7_formula_97 : decode cX7_formula 97 = .ok (.if_icmp .le 6, 3) := by decide +kernel
theorem dX7_formula_100 : decode cX7_formula 100 = .ok (.bipush (-3), 2) := by decide +kernel
theorem dX7_formula_102 : decode cX7_formula 102 = .ok (.ireturn, 1) := by decide +kernel
theorem dX7_formula_103 : decode cX7_formula 103 = .ok (.aload_n 0, 1) := by decide +kernel
theorem dX7_formula_104 : decode cX7_formula 104 = .ok (.getfield 27, 3) := by decide +kernel
theorem dX7_formula_107 : decode cX7_formula 107 = .ok (.aload_n 0, 1) := by decide +kernel
theorem dX7_formula_108 : decode cX7_formula 108 = .ok (.getfield 109, 3) := by decide +kernel
theorem dX7_formula_111 : decode cX7_formula 111 = .ok (.aaload, 1) := by decide +kernel
theorem dX7_formula_112 : decode cX7_formula 112 = .ok (.astore 10, 2) := by decide +kernel
theorem dX7_formula_114 : decode cX7_formula 114 = .ok (.aload 10, 2) := by decide +kernel
theorem dX7_formula_116 : decode cX7_formula 116 = .ok (.iload_n 1, 1) := by decide +kernel
theorem dX7_formula_117 : decode cX7_formula 117 = .ok (.iload_n 2, 1) := by decide +kernel
theorem dX7_formula_118 : decode cX7_formula 118 = .ok (.lload 4, 2) := by decide +kernel
theorem dX7_formula_120 : decode cX7_formula 120 = .ok (.lload 6, 2) := by decide +kernel
theorem dX7_formula_122 : decode cX7_formula 122 = .ok (.invokevirtual 120, 3) := by decide +kernel
theorem dX7_formula_125 : decode cX7_formula 125 = .ok (.aload 8, 2) := by decide +kernel
theorem dX7_formula_127 : decode cX7_formula 127 = .ok (.ifnull 10, 3) := by decide +kernel
theorem dX7_formula_130 : decode cX7_formula 130 = .ok (.aload 10, 2) := by decide +kernel
theorem dX7_formula_132 : decode cX7_formula 132 = .ok (.aload 8, 2) := by decide +kernel
theorem dX7_formula_134 : decode cX7_formula 134 = .ok (.invokevirtual 124, 3) := by decide +kernel
theorem dX7_formula_137 : decode cX7_formula 137 = .ok (.aload 9, 2) := by decide +kernel
theorem dX7_formula_139 : decode cX7_formula 139 = .ok (.ifnull 10, 3) := by decide +kernel
theorem dX7_formula_142 : decode cX7_formula 142 = .ok (.aload 10, 2) := by decide +kernel
theorem dX7_formula_144 : decode cX7_formula 144 = .ok (.aload 9, 2) := by decide +kernel
theorem dX7_formula_146 : decode cX7_formula 146 = .ok (.invokevirtual 124, 3) := by decide +kernel
theorem dX7_formula_149 : decode cX7_formula 149 = .ok (.aload_n 0, 1) := by decide +kernel
theorem dX7_formula_150 : decode cX7_formula 150 = .ok (.dup, 1) := by decide +kernel
theorem dX7_formula_151 : decode cX7_formula 151 = .ok (.getfield 109, 3) := by decide +kernel
theorem dX7_formula_154 : decode cX7_formula 154 = .ok (.iconst 1, 1) := by decide +kernel
theorem dX7_formula_155 : decode cX7_formula 155 = .ok (.iadd, 1) := by decide +kernel
theorem dX7_formula_156 : decode cX7_formula 156 = .ok (.putfield 109, 3) := by decide +kernel
theorem dX7_formula_159 : decode cX7_formula 159 = .ok (.aload 10, 2) := by decide +kernel
theorem dX7_formula_161 : decode cX7_formula 161 = .ok (.getfield 128, 3) := by decide +kernel
theorem dX7_formula_164 : decode cX7_formula 164 = .ok (.ireturn, 1) := by decide +kernel
theorem dX7_part_0 : decode cX7_part 0 = .ok (.aload_n 0, 1) := by decide +kernel
theorem dX7_part_1 : decode cX7_part 1 = .ok (.iload_n 1, 1) := by decide +kernel
theorem dX7_part_2 : decode cX7_part 2 = .ok (.invokevirtual 131, 3) := by decide +kernel
theorem dX7_part_5 : decode cX7_part 5 = .ok (.ifCond .eq 16, 3) := by decide +kernel
theorem dX7_part_8 : decode cX7_part 8 = .ok (.aload_n 0, 1) := by decide +kernel
theorem dX7_part_9 : decode cX7_part 9 = .ok (.iload_n 2, 1) := by decide +kernel
theorem dX7_part_10 : decode cX7_part 10 = .ok (.invokevirtual 131, 3) := by decide +kernel
theorem dX7_part_13 : decode cX7_part 13 = .ok (.ifCond .eq 8, 3) := by decide +kernel
theorem dX7_part_16 : decode cX7_part 16 = .ok (.iload_n 2, 1) := by decide +kernel
theorem dX7_part_17 : decode cX7_part 17 = .ok (.iload_n 1, 1) := by decide +kernel
theorem dX7_part_18 : decode cX7_part 18 = .ok (.if_icmp .lt 5, 3) := by decide +kernel
theorem dX7_part_21 : decode cX7_part 21 = .ok (.iconst (-1), 1) := by decide +kernel
theorem dX7_part_22 : decode cX7_part 22 = .ok (.ireturn, 1) := by decide +kernel
theorem dX7_part_23 : decode cX7_part 23 = .ok (.aload_n 0, 1) := by decide +kernel
theorem dX7_part_24 : decode cX7_part 24 = .ok (.getfield 27, 3) := by decide +kernel
theorem dX7_part_27 : decode cX7_part 27 = .ok (.iload_n 1, 1) := by decide +kernel
theorem dX7_part_28 : decode cX7_part 28 = .ok (.aaload, 1) := by decide +kernel
theorem dX7_part_29 : decode cX7_part 29 = .ok (.astore_n 3, 1) := by decide +kernel
theorem dX7_part_30 : decode cX7_part 30 = .ok (.aload_n 0, 1) := by decide +kernel
theorem dX7_part_31 : decode cX7_part 31 = .ok (.getfield 27, 3) := by decide +kernel
theorem dX7_part_34 : decode cX7_part 34 = .ok (.iload_n 2, 1) := by decide +kernel
theorem dX7_part_35 : decode cX7_part 35 = .ok (.aaload, 1) := by decide +kernel
theorem dX7_part_36 : decode cX7_part 36 = .ok (.astore 4, 2) := by decide +kernel
theorem dX7_part_38 : decode cX7_part 38 = .ok (.aload_n 3, 1) := by decide +kernel
theorem dX7_part_39 : decode cX7_part 39 = .ok (.getfield 134, 3) := by decide +kernel
theorem dX7_part_42 : decode cX7_part 42 = .ok (.invokestatic 137, 3) := by decide +kernel
theorem dX7_part_45 : decode cX7_part 45 = .ok (.ifCond .ne 5, 3) := by decide +kernel
theorem dX7_part_48 : decode cX7_part 48 = .ok (.iconst (-1), 1) := by decide +kernel
theorem dX7_part_49 : decode cX7_part 49 = .ok (.ireturn, 1) := by decide +kernel
theorem dX7_part_50 : decode cX7_part 50 = .ok (.aload_n 3, 1) := by decide +kernel
theorem dX7_part_51 : decode cX7_part 51 = .ok (.getfield 140, 3) := by decide +kernel
theorem dX7_part_54 : decode cX7_part 54 = .ok (.ifCond .eq 6, 3) := by decide +kernel
theorem dX7_part_57 : decode cX7_part 57 = .ok (.bipush (-2), 2) := by decide +kernel
theorem dX7_part_59 : decode cX7_part 59 = .ok (.ireturn, 1) := by decide +kernel
theorem dX7_part_60 : decode cX7_part 60 = .ok (.aload_n 3, 1) := by decide +kernel
theorem dX7_part_61 : decode cX7_part 61 = .ok (.getfield 144, 3) := by decide +kernel
theorem dX7_part_64 : decode cX7_part 64 = .ok (.bipush 8, 2) := by decide +kernel
theorem dX7_part_66 : decode cX7_part 66 = .ok (.if_icmp .ge 19, 3) := by decide +kernel
theorem dX7_part_69 : decode cX7_part 69 = .ok (.aload_n 3, 1) := by decide +kernel
theorem dX7_part_70 : decode cX7_part 70 = .ok (.getfield 147, 3) := by decide +kernel
theorem dX7_part_73 : decode cX7_part 73 = .ok (.aload 4, 2) := by decide +kernel
theorem dX7_part_75 : decode cX7_part 75 = .ok (.getfield 147, 3) := by decide +kernel
theorem dX7_part_78 : decode cX7_part 78 = .ok (.iadd, 1) := by decide +kernel
theorem dX7_part_79 : decode cX7_part 79 = .ok (.sipush 200, 3) := by decide +kernel
theorem dX7_part_82 : decode cX7_part 82 = .ok (.if_icmp .le 6, 3) := by decide +kernel
theorem dX7_part_85 : decode cX7_part 85 = .ok (.bipush (-3), 2) := by decide +kernel
theorem dX7_part_87 : decode cX7_part 87 = .ok (.ireturn, 1) := by decide +kernel
theorem dX7_part_88 : decode cX7_part 88 = .ok (.aload_n 3, 1) := by decide +kernel
theorem dX7_part_89 : decode cX7_part 89 = .ok (.aload 4, 2) := by decide +kernel
theorem dX7_part_91 : decode cX7_part 91 = .ok (.invokevirtual 124, 3) := by decide +kernel
theorem dX7_part_94 : decode cX7_part 94 = .ok (.aload_n 3, 1) := by decide +kernel
theorem dX7_part_95 : decode cX7_part 95 = .ok (.getfield 144, 3) := by decide +kernel
theorem dX7_part_98 : decode cX7_part 98 = .ok (.ireturn, 1) := by decide +kernel
theorem dX7_score_0 : decode cX7_score 0 = .ok (.aload_n 0, 1) := by decide +kernel
theorem dX7_score_1 : decode cX7_score 1 = .ok (.iload_n 1, 1) := by decide +kernel
theorem dX7_score_2 : decode cX7_score 2 = .ok (.invokevirtual 131, 3) := by decide +kernel
theorem dX7_score_5 : decode cX7_score 5 = .ok (.ifCond .eq 12, 3) := by decide +kernel
theorem dX7_score_8 : decode cX7_score 8 = .ok (.iload_n 2, 1) := by decide +kernel
theorem dX7_score_9 : decode cX7_score 9 = .ok (.bipush 40, 2) := by decide +kernel
theorem dX7_score_11 : decode cX7_score 11 = .ok (.invokestatic 46, 3) := by decide +kernel
theorem dX7_score_14 : decode cX7_score 14 = .ok (.ifCond .ne 5, 3) := by decide +kernel
theorem dX7_score_17 : decode cX7_score 17 = .ok (.lconst 0, 1) := by decide +kernel
theorem dX7_score_18 : decode cX7_score 18 = .ok (.lreturn, 1) := by decide +kernel
theorem dX7_score_19 : decode cX7_score 19 = .ok (.aload_n 0, 1) := by decide +kernel
theorem dX7_score_20 : decode cX7_score 20 = .ok (.getfield 21, 3) := by decide +kernel
theorem dX7_score_23 : decode cX7_score 23 = .ok (.aload_n 0, 1) := by decide +kernel
theorem dX7_score_24 : decode cX7_score 24 = .ok (.getfield 27, 3) := by decide +kernel
theorem dX7_score_27 : decode cX7_score 27 = .ok (.iload_n 1, 1) := by decide +kernel
theorem dX7_score_28 : decode cX7_score 28 = .ok (.aaload, 1) := by decide +kernel
theorem dX7_score_29 : decode cX7_score 29 = .ok (.iload_n 2, 1) := by decide +kernel
theorem dX7_score_30 : decode cX7_score 30 = .ok (.invokevirtual 150, 3) := by decide +kernel
theorem dX7_score_33 : decode cX7_score 33 = .ok (.dstore_n 3, 1) := by decide +kernel
theorem dX7_score_34 : decode cX7_score 34 = .ok (.aload_n 0, 1) := by decide +kernel
theorem dX7_score_35 : decode cX7_score 35 = .ok (.getfield 34, 3) := by decide +kernel
theorem dX7_score_38 : decode cX7_score 38 = .ok (.iconst 0, 1) := by decide +kernel
theorem dX7_score_39 : decode cX7_score 39 = .ok (.aload_n 0, 1) := by decide +kernel
theorem dX7_score_40 : decode cX7_score 40 = .ok (.getfield 21, 3) := by decide +kernel
theorem dX7_score_43 : decode cX7_score 43 = .ok (.getfield 153, 3) := by decide +kernel
theorem dX7_score_46 : decode cX7_score 46 = .ok (.iastore, 1) := by decide +kernel
theorem dX7_score_47 : decode cX7_score 47 = .ok (.aload_n 0, 1) := by decide +kernel
theorem dX7_score_48 : decode cX7_score 48 = .ok (.getfield 34, 3) := by decide +kernel
theorem dX7_score_51 : decode cX7_score 51 = .ok (.iconst 1, 1) := by decide +kernel
theorem dX7_score_52 : decode cX7_score 52 = .ok (.aload_n 0, 1) := by decide +kernel
theorem dX7_score_53 : decode cX7_score 53 = .ok (.getfield 21, 3) := by decide +kernel
theorem dX7_score_56 : decode cX7_score 56 = .ok (.getfield 156, 3) := by decide +kernel
theorem dX7_score_59 : decode cX7_score 59 = .ok (.iastore, 1) := by decide +kernel
theorem dX7_score_60 : decode cX7_score 60 = .ok (.aload_n 0, 1) := by decide +kernel
theorem dX7_score_61 : decode cX7_score 61 = .ok (.getfield 34, 3) := by decide +kernel
theorem dX7_score_64 : decode cX7_score 64 = .ok (.iconst 2, 1) := by decide +kernel
theorem dX7_score_65 : decode cX7_score 65 = .ok (.aload_n 0, 1) := by decide +kernel
theorem dX7_score_66 : decode cX7_score 66 = .ok (.getfield 21, 3) := by decide +kernel
theorem dX7_score_69 : decode cX7_score 69 = .ok (.getfield 159, 3) := by decide +kernel
theorem dX7_score_72 : decode cX7_score 72 = .ok (.iastore, 1) := by decide +kernel
theorem dX7_score_73 : decode cX7_score 73 = .ok (.aload_n 0, 1) := by decide +kernel
theorem dX7_score_74 : decode cX7_score 74 = .ok (.getfield 34, 3) := by decide +kernel
theorem dX7_score_77 : decode cX7_score 77 = .ok (.iconst 3, 1) := by decide +kernel
theorem dX7_score_78 : decode cX7_score 78 = .ok (.aload_n 0, 1) := by decide +kernel
theorem dX7_score_79 : decode cX7_score 79 = .ok (.getfield 21, 3) := by decide +kernel
theorem dX7_score_82 : decode cX7_score 82 = .ok (.getfield 162, 3) := by decide +kernel
theorem dX7_score_85 : decode cX7_score 85 = .ok (.iastore, 1) := by decide +kernel
theorem dX7_score_86 : decode cX7_score 86 = .ok (.aload_n 0, 1) := by decide +kernel
theorem dX7_score_87 : decode cX7_score 87 = .ok (.getfield 34, 3) := by decide +kernel
theorem dX7_score_90 : decode cX7_score 90 = .ok (.iconst 4, 1) := by decide +kernel
theorem dX7_score_91 : decode cX7_score 91 = .ok (.aload_n 0, 1) := by decide +kernel
theorem dX7_score_92 : decode cX7_score 92 = .ok (.getfield 21, 3) := by decide +kernel
theorem dX7_score_95 : decode cX7_score 95 = .ok (.getfield 165, 3) := by decide +kernel
theorem dX7_score_98 : decode cX7_score 98 = .ok (.iastore, 1) := by decide +kernel
theorem dX7_score_99 : decode cX7_score 99 = .ok (.aload_n 0, 1) := by decide +kernel
theorem dX7_score_100 : decode cX7_score 100 = .ok (.getfield 21, 3) := by decide +kernel
theorem dX7_score_103 : decode cX7_score 103 = .ok (.getfield 153, 3) := by decide +kernel
theorem dX7_score_106 : decode cX7_score 106 = .ok (.ifCond .ne 10, 3) := by decide +kernel
theorem dX7_score_109 : decode cX7_score 109 = .ok (.dload_n 3, 1) := by decide +kernel
theorem dX7_score_110 : decode cX7_score 110 = .ok (.invokestatic 84, 3) := by decide +kernel
theorem dX7_score_113 : decode cX7_score 113 = .ok (.goto 4, 3) := by decide +kernel
theorem dX7_score_116 : decode cX7_score 116 = .ok (.lconst 0, 1) := by decide +kernel
theorem dX7_score_117 : decode cX7_score 117 = .ok (.lreturn, 1) := by decide +kernel
theorem dX7_told_0 : decode cX7_told 0 = .ok (.iload_n 1, 1) := by decide +kernel
theorem dX7_told_1 : decode cX7_told 1 = .ok (.iconst 5, 1) := by decide +kernel
theorem dX7_told_2 : decode cX7_told 2 = .ok (.invokestatic 46, 3) := by decide +kernel
theorem dX7_told_5 : decode cX7_told 5 = .ok (.ifCond .eq 12, 3) := by decide +kernel
theorem dX7_told_8 : decode cX7_told 8 = .ok (.aload_n 0, 1) := by decide +kernel
theorem dX7_told_9 : decode cX7_told 9 = .ok (.getfield 34, 3) := by decide +kernel
theorem dX7_told_12 : decode cX7_told 12 = .ok (.iload_n 1, 1) := by decide +kernel
theorem dX7_told_13 : decode cX7_told 13 = .ok (.iaload, 1) := by decide +kernel
theorem dX7_told_14 : decode cX7_told 14 = .ok (.goto 4, 3) := by decide +kernel
theorem dX7_told_17 : decode cX7_told 17 = .ok (.iconst (-1), 1) := by decide +kernel
theorem dX7_told_18 : decode cX7_told 18 = .ok (.ireturn, 1) := by decide +kernel
theorem dX7_about_0 : decode cX7_about 0 = .ok (.aload_n 0, 1) := by decide +kernel
theorem dX7_about_1 : decode cX7_about 1 = .ok (.iload_n 1, 1) := by decide +kernel
theorem dX7_about_2 : decode cX7_about 2 = .ok (.invokevirtual 131, 3) := by decide +kernel
theorem dX7_about_5 : decode cX7_about 5 = .ok (.ifCond .eq 12, 3) := by decide +kernel
theorem dX7_about_8 : decode cX7_about 8 = .ok (.iload_n 2, 1) := by decide +kernel
theorem dX7_about_9 : decode cX7_about 9 = .ok (.bipush 12, 2) := by decide +kernel
theorem dX7_about_11 : decode cX7_about 11 = .ok (.invokestatic 46, 3) := by decide +kernel
theorem dX7_about_14 : decode cX7_about 14 = .ok (.ifCond .ne 5, 3) := by decide +kernel
theorem dX7_about_17 : decode cX7_about 17 = .ok (.iconst (-1), 1) := by decide +kernel
theorem dX7_about_18 : decode cX7_about 18 = .ok (.ireturn, 1) := by decide +kernel
theorem dX7_about_19 : decode cX7_about 19 = .ok (.aload_n 0, 1) := by decide +kernel
theorem dX7_about_20 : decode cX7_about 20 = .ok (.getfield 27, 3) := by decide +kernel
theorem dX7_about_23 : decode cX7_about 23 = .ok (.iload_n 1, 1) := by decide +kernel
theorem dX7_about_24 : decode cX7_about 24 = .ok (.aaload, 1) := by decide +kernel
theorem dX7_about_25 : decode cX7_about 25 = .ok (.astore_n 3, 1) := by decide +kernel
theorem dX7_about_26 : decode cX7_about 26 = .ok (.iload_n 2, 1) := by decide +kernel
theorem dX7_about_27 : decode cX7_about 27 = .ok (.ifCond .ne 8, 3) := by decide +kernel
theorem dX7_about_30 : decode cX7_about 30 = .ok (.aload_n 3, 1) := by decide +kernel
theorem dX7_about_31 : decode cX7_about 31 = .ok (.getfield 134, 3) := by decide +kernel
theorem dX7_about_34 : decode cX7_about 34 = .ok (.ireturn, 1) := by decide +kernel
theorem dX7_about_35 : decode cX7_about 35 = .ok (.iload_n 2, 1) := by decide +kernel
theorem dX7_about_36 : decode cX7_about 36 = .ok (.iconst 1, 1) := by decide +kernel
theorem dX7_about_37 : decode cX7_about 37 = .ok (.if_icmp .ne 8, 3) := by decide +kernel
theorem dX7_about_40 : decode cX7_about 40 = .ok (.aload_n 3, 1) := by decide +kernel
theorem dX7_about_41 : decode cX7_about 41 = .ok (.getfield 144, 3) := by decide +kernel
theorem dX7_about_44 : decode cX7_about 44 = .ok (.ireturn, 1) := by decide +kernel
theorem dX7_about_45 : decode cX7_about 45 = .ok (.iload_n 2, 1) := by decide +kernel
theorem dX7_about_46 : decode cX7_about 46 = .ok (.iconst 2, 1) := by decide +kernel
theorem dX7_about_47 : decode cX7_about 47 = .ok (.if_icmp .ne 8, 3) := by decide +kernel
theorem dX7_about_50 : decode cX7_about 50 = .ok (.aload_n 3, 1) := by decide +kernel
theorem dX7_about_51 : decode cX7_about 51 = .ok (.getfield 147, 3) := by decide +kernel
theorem dX7_about_54 : decode cX7_about 54 = .ok (.ireturn, 1) := by decide +kernel
theorem dX7_about_55 : decode cX7_about 55 = .ok (.iload_n 2, 1) := by decide +kernel
theorem dX7_about_56 : decode cX7_about 56 = .ok (.iconst 3, 1) := by decide +kernel
theorem dX7_about_57 : decode cX7_about 57 = .ok (.if_icmp .ne 16, 3) := by decide +kernel
theorem dX7_about_60 : decode cX7_about 60 = .ok (.aload_n 3, 1) := by decide +kernel
theorem dX7_about_61 : decode cX7_about 61 = .ok (.getfield 168, 3) := by decide +kernel
theorem dX7_about_64 : decode cX7_about 64 = .ok (.ifCond .eq 7, 3) := by decide +kernel
theorem dX7_about_67 : decode cX7_about 67 = .ok (.iconst 1, 1) := by decide +kernel
theorem dX7_about_68 : decode cX7_about 68 = .ok (.goto 4, 3) := by decide +kernel
theorem dX7_about_71 : decode cX7_about 71 = .ok (.iconst 0, 1) := by decide +kernel
theorem dX7_about_72 : decode cX7_about 72 = .ok (.ireturn, 1) := by decide +kernel
theorem dX7_about_73 : decode cX7_about 73 = .ok (.iload_n 2, 1) := by decide +kernel
theorem dX7_about_74 : decode cX7_about 74 = .ok (.bipush 8, 2) := by decide +kernel
theorem dX7_about_76 : decode cX7_about 76 = .ok (.if_icmp .ge 14, 3) := by decide +kernel
theorem dX7_about_79 : decode cX7_about 79 = .ok (.aload_n 3, 1) := by decide +kernel
theorem dX7_about_80 : decode cX7_about 80 = .ok (.getfield 171, 3) := by decide +kernel
theorem dX7_about_83 : decode cX7_about 83 = .ok (.iload_n 2, 1) := by decide +kernel
theorem dX7_about_84 : decode cX7_about 84 = .ok (.iconst 4, 1) := by decide +kernel
theorem dX7_about_85 : decode cX7_about 85 = .ok (.isub, 1) := by decide +kernel
theorem dX7_about_86 : decode cX7_about 86 = .ok (.ishr, 1) := by decide +kernel
theorem dX7_about_87 : decode cX7_about 87 = .ok (.iconst 1, 1) := by decide +kernel
theorem dX7_about_88 : decode cX7_about 88 = .ok (.iand, 1) := by decide +kernel
theorem dX7_about_89 : decode cX7_about 89 = .ok (.ireturn, 1) := by decide +kernel
theorem dX7_about_90 : decode cX7_about 90 = .ok (.aload_n 3, 1) := by decide +kernel
theorem dX7_about_91 : decode cX7_about 91 = .ok (.getfield 174, 3) := by decide +kernel
theorem dX7_about_94 : decode cX7_about 94 = .ok (.iload_n 2, 1) := by decide +kernel
theorem dX7_about_95 : decode cX7_about 95 = .ok (.iconst 4, 1) := by decide +kernel
theorem dX7_about_96 : decode cX7_about 96 = .ok (.isub, 1) := by decide +kernel
theorem dX7_about_97 : decode cX7_about 97 = .ok (.iconst 4, 1) := by decide +kernel
theorem dX7_about_98 : decode cX7_about 98 = .ok (.isub, 1) := by decide +kernel
theorem dX7_about_99 : decode cX7_about 99 = .ok (.ishr, 1) := by decide +kernel
theorem dX7_about_100 : decode cX7_about 100 = .ok (.iconst 1, 1) := by decide +kernel
theorem dX7_about_101 : decode cX7_about 101 = .ok (.iand, 1) := by decide +kernel
theorem dX7_about_102 : decode cX7_about 102 = .ok (.ireturn, 1) := by decide +kernel
theorem dX7_partOf_0 : decode cX7_partOf 0 = .ok (.aload_n 0, 1) := by decide +kernel
theorem dX7_partOf_1 : decode cX7_partOf 1 = .ok (.iload_n 1, 1) := by decide +kernel
theorem dX7_partOf_2 : decode cX7_partOf 2 = .ok (.invokevirtual 131, 3) := by decide +kernel
theorem dX7_partOf_5 : decode cX7_partOf 5 = .ok (.ifCond .eq 19, 3) := by decide +kernel
theorem dX7_partOf_8 : decode cX7_partOf 8 = .ok (.iload_n 2, 1) := by decide +kernel
theorem dX7_partOf_9 : decode cX7_partOf 9 = .ok (.aload_n 0, 1) := by decide +kernel
theorem dX7_partOf_10 : decode cX7_partOf 10 = .ok (.getfield 27, 3) := by decide +kernel
theorem dX7_partOf_13 : decode cX7_partOf 13 = .ok (.iload_n 1, 1) := by decide +kernel
theorem dX7_partOf_14 : decode cX7_partOf 14 = .ok (.aaload, 1) := by decide +kernel
theorem dX7_partOf_15 : decode cX7_partOf 15 = .ok (.getfield 144, 3) := by decide +kernel
theorem dX7_partOf_18 : decode cX7_partOf 18 = .ok (.invokestatic 46, 3) := by decide +kernel
theorem dX7_partOf_21 : decode cX7_partOf 21 = .ok (.ifCond .ne 5, 3) := by decide +kernel
theorem dX7_partOf_24 : decode cX7_partOf 24 = .ok (.iconst (-1), 1) := by decide +kernel
theorem dX7_partOf_25 : decode cX7_partOf 25 = .ok (.ireturn, 1) := by decide +kernel
theorem dX7_partOf_26 : decode cX7_partOf 26 = .ok (.aload_n 0, 1) := by decide +kernel
theorem dX7_partOf_27 : decode cX7_partOf 27 = .ok (.getfield 27, 3) := by decide +kernel
theorem dX7_partOf_30 : decode cX7_partOf 30 = .ok (.iload_n 1, 1) := by decide +kernel
theorem dX7_partOf_31 : decode cX7_partOf 31 = .ok (.aaload, 1) := by decide +kernel
theorem dX7_partOf_32 : decode cX7_partOf 32 = .ok (.getfield 177, 3) := by decide +kernel
theorem dX7_partOf_35 : decode cX7_partOf 35 = .ok (.iload_n 2, 1) := by decide +kernel
theorem dX7_partOf_36 : decode cX7_partOf 36 = .ok (.aaload, 1) := by decide +kernel
theorem dX7_partOf_37 : decode cX7_partOf 37 = .ok (.getfield 128, 3) := by decide +kernel
theorem dX7_partOf_40 : decode cX7_partOf 40 = .ok (.ireturn, 1) := by decide +kernel
theorem dX7_top_0 : decode cX7_top 0 = .ok (.aload_n 0, 1) := by decide +kernel
theorem dX7_top_1 : decode cX7_top 1 = .ok (.iload_n 1, 1) := by decide +kernel
theorem dX7_top_2 : decode cX7_top 2 = .ok (.invokevirtual 131, 3) := by decide +kernel
theorem dX7_top_5 : decode cX7_top 5 = .ok (.ifCond .eq 12, 3) := by decide +kernel
theorem dX7_top_8 : decode cX7_top 8 = .ok (.iload_n 2, 1) := by decide +kernel
theorem dX7_top_9 : decode cX7_top 9 = .ok (.bipush 40, 2) := by decide +kernel
theorem dX7_top_11 : decode cX7_top 11 = .ok (.invokestatic 46, 3) := by decide +kernel
theorem dX7_top_14 : decode cX7_top 14 = .ok (.ifCond .ne 5, 3) := by decide +kernel
theorem dX7_top_17 : decode cX7_top 17 = .ok (.iconst (-1), 1) := by decide +kernel
theorem dX7_top_18 : decode cX7_top 18 = .ok (.ireturn, 1) := by decide +kernel
theorem dX7_top_19 : decode cX7_top 19 = .ok (.iconst 0, 1) := by decide +kernel
theorem dX7_top_20 : decode cX7_top 20 = .ok (.istore_n 3, 1) := by decide +kernel
theorem dX7_top_21 : decode cX7_top 21 = .ok (.iload_n 3, 1) := by decide +kernel
theorem dX7_top_22 : decode cX7_top 22 = .ok (.bipush 40, 2) := by decide +kernel
theorem dX7_top_24 : decode cX7_top 24 = .ok (.if_icmp .ge 50, 3) := by decide +kernel
theorem dX7_top_27 : decode cX7_top 27 = .ok (.aload_n 0, 1) := by decide +kernel
theorem dX7_top_28 : decode cX7_top 28 = .ok (.getfield 38, 3) := by decide +kernel
theorem dX7_top_31 : decode cX7_top 31 = .ok (.iload_n 3, 1) := by decide +kernel
theorem dX7_top_32 : decode cX7_top 32 = .ok (.aload_n 0, 1) := by decide +kernel
theorem dX7_top_33 : decode cX7_top 33 = .ok (.getfield 21, 3) := by decide +kernel
theorem dX7_top_36 : decode cX7_top 36 = .ok (.aload_n 0, 1) := by decide +kernel
theorem dX7_top_37 : decode cX7_top 37 = .ok (.getfield 27, 3) := by decide +kernel
theorem dX7_top_40 : decode cX7_top 40 = .ok (.iload_n 1, 1) := by decide +kernel
theorem dX7_top_41 : decode cX7_top 41 = .ok (.aaload, 1) := by decide +kernel
theorem dX7_top_42 : decode cX7_top 42 = .ok (.iload_n 3, 1) := by decide +kernel
theorem dX7_top_43 : decode cX7_top 43 = .ok (.invokevirtual 150, 3) := by decide +kernel
theorem dX7_top_46 : decode cX7_top 46 = .ok (.dastore, 1) := by decide +kernel
theorem dX7_top_47 : decode cX7_top 47 = .ok (.aload_n 0, 1) := by decide +kernel
theorem dX7_top_48 : decode cX7_top 48 = .ok (.getfield 42, 3) := by decide +kernel
theorem dX7_top_51 : decode cX7_top 51 = .ok (.iload_n 3, 1) := by decide +kernel
theorem dX7_top_52 : decode cX7_top 52 = .ok (.aload_n 0, 1) := by decide +kernel
theorem dX7_top_53 : decode cX7_top 53 = .ok (.getfield 21, 3) := by decide +kernel
theorem dX7_top_56 : decode cX7_top 56 = .ok (.getfield 153, 3) := by decide +kernel
theorem dX7_top_59 : decode cX7_top 59 = .ok (.ifCond .eq 7, 3) := by decide +kernel
theorem dX7_top_62 : decode cX7_top 62 = .ok (.iconst 1, 1) := by decide +kernel
theorem dX7_top_63 : decode cX7_top 63 = .ok (.goto 4, 3) := by decide +kernel
theorem dX7_top_66 : decode cX7_top 66 = .ok (.iconst 0, 1) := by decide +kernel
theorem dX7_top_67 : decode cX7_top 67 = .ok (.bastore, 1) := by decide +kernel
theorem dX7_top_68 : decode cX7_top 68 = .ok (.iinc 3 1, 3) := by decide +kernel
theorem dX7_top_71 : decode cX7_top 71 = .ok (.goto (-50), 3) := by decide +kernel
theorem dX7_top_74 : decode cX7_top 74 = .ok (.iconst 0, 1) := by decide +kernel
theorem dX7_top_75 : decode cX7_top 75 = .ok (.istore_n 3, 1) := by decide +kernel
theorem dX7_top_76 : decode cX7_top 76 = .ok (.iload_n 3, 1) := by decide +kernel
theorem dX7_top_77 : decode cX7_top 77 = .ok (.bipush 40, 2) := by decide +kernel
theorem dX7_top_79 : decode cX7_top 79 = .ok (.if_icmp .ge 20, 3) := by decide +kernel
theorem dX7_top_82 : decode cX7_top 82 = .ok (.aload_n 0, 1) := by decide +kernel
theorem dX7_top_83 : decode cX7_top 83 = .ok (.iload_n 3, 1) := by decide +kernel
theorem dX7_top_84 : decode cX7_top 84 = .ok (.invokevirtual 180, 3) := by decide +kernel
theorem dX7_top_87 : decode cX7_top 87 = .ok (.iload_n 2, 1) := by decide +kernel
theorem dX7_top_88 : decode cX7_top 88 = .ok (.if_icmp .ne 5, 3) := by decide +kernel
theorem dX7_top_91 : decode cX7_top 91 = .ok (.iload_n 3, 1) := by decide +kernel
theorem dX7_top_92 : decode cX7_top 92 = .ok (.ireturn, 1) := by decide +kernel
theorem dX7_top_93 : decode cX7_top 93 = .ok (.iinc 3 1, 3) := by decide +kernel
theorem dX7_top_96 : decode cX7_top 96 = .ok (.goto (-20), 3) := by decide +kernel
theorem dX7_top_99 : decode cX7_top 99 = .ok (.iconst (-1), 1) := by decide +kernel
theorem dX7_top_100 : decode cX7_top 100 = .ok (.ireturn, 1) := by decide +kernel
theorem dX7_clear_0 : decode cX7_clear 0 = .ok (.aload_n 0, 1) := by decide +kernel
theorem dX7_clear_1 : decode cX7_clear 1 = .ok (.getfield 10, 3) := by decide +kernel
theorem dX7_clear_4 : decode cX7_clear 4 = .ok (.invokevirtual 183, 3) := by decide +kernel
theorem dX7_clear_7 : decode cX7_clear 7 = .ok (.iconst 0, 1) := by decide +kernel
theorem dX7_clear_8 : decode cX7_clear 8 = .ok (.ireturn, 1) := by decide +kernel
theorem dX7_forget_0 : decode cX7_forget 0 = .ok (.aload_n 0, 1) := by decide +kernel
theorem dX7_forget_1 : decode cX7_forget 1 = .ok (.getfield 109, 3) := by decide +kernel
theorem dX7_forget_4 : decode cX7_forget 4 = .ok (.istore_n 1, 1) := by decide +kernel
theorem dX7_forget_5 : decode cX7_forget 5 = .ok (.aload_n 0, 1) := by decide +kernel
theorem dX7_forget_6 : decode cX7_forget 6 = .ok (.iconst 0, 1) := by decide +kernel
theorem dX7_forget_7 : decode cX7_forget 7 = .ok (.putfield 109, 3) := by decide +kernel
theorem dX7_forget_10 : decode cX7_forget 10 = .ok (.iload_n 1, 1) := by decide +kernel
theorem dX7_forget_11 : decode cX7_forget 11 = .ok (.ireturn, 1) := by decide +kernel
theorem dX7_isIn_0 : decode cX7_isIn 0 = .ok (.iload_n 0, 1) := by decide +kernel
theorem dX7_isIn_1 : decode cX7_isIn 1 = .ok (.ifCond .lt 12, 3) := by decide +kernel
theorem dX7_isIn_4 : decode cX7_isIn 4 = .ok (.iload_n 0, 1) := by decide +kernel
theorem dX7_isIn_5 : decode cX7_isIn 5 = .ok (.iload_n 1, 1) := by decide +kernel
theorem dX7_isIn_6 : decode cX7_isIn 6 = .ok (.if_icmp .ge 7, 3) := by decide +kernel
theorem dX7_isIn_9 : decode cX7_isIn 9 = .ok (.iconst 1, 1) := by decide +kernel
theorem dX7_isIn_10 : decode cX7_isIn 10 = .ok (.goto 4, 3) := by decide +kernel
theorem dX7_isIn_13 : decode cX7_isIn 13 = .ok (.iconst 0, 1) := by decide +kernel
theorem dX7_isIn_14 : decode cX7_isIn 14 = .ok (.ireturn, 1) := by decide +kernel
theorem dX7_isFormula_0 : decode cX7_isFormula 0 = .ok (.iload_n 1, 1) := by decide +kernel
theorem dX7_isFormula_1 : decode cX7_isFormula 1 = .ok (.aload_n 0, 1) := by decide +kernel
theorem dX7_isFormula_2 : decode cX7_isFormula 2 = .ok (.getfield 109, 3) := by decide +kernel
theorem dX7_isFormula_5 : decode cX7_isFormula 5 = .ok (.invokestatic 46, 3) := by decide +kernel
theorem dX7_isFormula_8 : decode cX7_isFormula 8 = .ok (.ireturn, 1) := by decide +kernel
theorem dX7_placesAreRight_0 : decode cX7_placesAreRight 0 = .ok (.iload_n 1, 1) := by decide +kernel
theorem dX7_placesAreRight_1 : decode cX7_placesAreRight 1 = .ok (.invokestatic 186, 3) := by decide +kernel
theorem dX7_placesAreRight_4 : decode cX7_placesAreRight 4 = .ok (.ifCond .eq 9, 3) := by decide +kernel
theorem dX7_placesAreRight_7 : decode cX7_placesAreRight 7 = .ok (.iload_n 2, 1) := by decide +kernel
theorem dX7_placesAreRight_8 : decode cX7_placesAreRight 8 = .ok (.iconst 4, 1) := by decide +kernel
theorem dX7_placesAreRight_9 : decode cX7_placesAreRight 9 = .ok (.invokestatic 46, 3) := by decide +kernel
theorem dX7_placesAreRight_12 : decode cX7_placesAreRight 12 = .ok (.ireturn, 1) := by decide +kernel
theorem dX7_placesAreRight_13 : decode cX7_placesAreRight 13 = .ok (.iload_n 1, 1) := by decide +kernel
theorem dX7_placesAreRight_14 : decode cX7_placesAreRight 14 = .ok (.iconst 5, 1) := by decide +kernel
theorem dX7_placesAreRight_15 : decode cX7_placesAreRight 15 = .ok (.if_icmp .ne 9, 3) := by decide +kernel
theorem dX7_placesAreRight_18 : decode cX7_placesAreRight 18 = .ok (.iload_n 2, 1) := by decide +kernel
theorem dX7_placesAreRight_19 : decode cX7_placesAreRight 19 = .ok (.iconst 4, 1) := by decide +kernel
theorem dX7_placesAreRight_20 : decode cX7_placesAreRight 20 = .ok (.invokestatic 46, 3) := by decide +kernel
theorem dX7_placesAreRight_23 : decode cX7_placesAreRight 23 = .ok (.ireturn, 1) := by decide +kernel
theorem dX7_placesAreRight_24 : decode cX7_placesAreRight 24 = .ok (.iload_n 1, 1) := by decide +kernel
theorem dX7_placesAreRight_25 : decode cX7_placesAreRight 25 = .ok (.bipush 13, 2) := by decide +kernel
theorem dX7_placesAreRight_27 : decode cX7_placesAreRight 27 = .ok (.if_icmp .ne 13, 3) := by decide +kernel
theorem dX7_placesAreRight_30 : decode cX7_placesAreRight 30 = .ok (.aload_n 0, 1) := by decide +kernel
theorem dX7_placesAreRight_31 : decode cX7_placesAreRight 31 = .ok (.iload_n 3, 1) := by decide +kernel
theorem dX7_placesAreRight_32 : decode cX7_placesAreRight 32 = .ok (.invokevirtual 131, 3) := by decide +kernel
theorem dX7_placesAreRight_35 : decode cX7_placesAreRight 35 = .ok (.ifCond .ne 5, 3) := by decide +kernel
theorem dX7_placesAreRight_38 : decode cX7_placesAreRight 38 = .ok (.iconst 0, 1) := by decide +kernel
theorem dX7_placesAreRight_39 : decode cX7_placesAreRight 39 = .ok (.ireturn, 1) := by decide +kernel
theorem dX7_placesAreRight_40 : decode cX7_placesAreRight 40 = .ok (.iload_n 1, 1) := by decide +kernel
theorem dX7_placesAreRight_41 : decode cX7_placesAreRight 41 = .ok (.invokestatic 113, 3) := by decide +kernel
theorem dX7_placesAreRight_44 : decode cX7_placesAreRight 44 = .ok (.ifCond .eq 11, 3) := by decide +kernel
theorem dX7_placesAreRight_47 : decode cX7_placesAreRight 47 = .ok (.aload_n 0, 1) := by decide +kernel
theorem dX7_placesAreRight_48 : decode cX7_placesAreRight 48 = .ok (.iload_n 2, 1) := by decide +kernel
theorem dX7_placesAreRight_49 : decode cX7_placesAreRight 49 = .ok (.invokevirtual 131, 3) := by decide +kernel
theorem dX7_placesAreRight_52 : decode cX7_placesAreRight 52 = .ok (.ifCond .eq 7, 3) := by decide +kernel
theorem dX7_placesAreRight_55 : decode cX7_placesAreRight 55 = .ok (.iconst 1, 1) := by decide +kernel
theorem dX7_placesAreRight_56 : decode cX7_placesAreRight 56 = .ok (.goto 4, 3) := by decide +kernel
theorem dX7_placesAreRight_59 : decode cX7_placesAreRight 59 = .ok (.iconst 0, 1) := by decide +kernel
theorem dX7_placesAreRight_60 : decode cX7_placesAreRight 60 = .ok (.ireturn, 1) := by decide +kernel
theorem dX7_sizeOf_0 : decode cX7_sizeOf 0 = .ok (.aload_n 0, 1) := by decide +kernel
theorem dX7_sizeOf_1 : decode cX7_sizeOf 1 = .ok (.ifnonnull 7, 3) := by decide +kernel
theorem dX7_sizeOf_4 : decode cX7_sizeOf 4 = .ok (.iconst 0, 1) := by decide +kernel
theorem dX7_sizeOf_5 : decode cX7_sizeOf 5 = .ok (.goto 7, 3) := by decide +kernel
theorem dX7_sizeOf_8 : decode cX7_sizeOf 8 = .ok (.aload_n 0, 1) := by decide +kernel
theorem dX7_sizeOf_9 : decode cX7_sizeOf 9 = .ok (.getfield 147, 3) := by decide +kernel
theorem dX7_sizeOf_12 : decode cX7_sizeOf 12 = .ok (.ireturn, 1) := by decide +kernel
theorem dX7_howManyAheadOf_0 : decode cX7_howManyAheadOf 0 = .ok (.iconst 0, 1) := by decide +kernel
theorem dX7_howManyAheadOf_1 : decode cX7_howManyAheadOf 1 = .ok (.istore_n 2, 1) := by decide +kernel
theorem dX7_howManyAheadOf_2 : decode cX7_howManyAheadOf 2 = .ok (.iconst 0, 1) := by decide +kernel
theorem dX7_howManyAheadOf_3 : decode cX7_howManyAheadOf 3 = .ok (.istore_n 3, 1) := by decide +kernel
theorem dX7_howManyAheadOf_4 : decode cX7_howManyAheadOf 4 = .ok (.iload_n 3, 1) := by decide +kernel
theorem dX7_howManyAheadOf_5 : decode cX7_howManyAheadOf 5 = .ok (.bipush 40, 2) := by decide +kernel
theorem dX7_howManyAheadOf_7 : decode cX7_howManyAheadOf 7 = .ok (.if_icmp .ge 21, 3) := by decide +kernel
theorem dX7_howManyAheadOf_10 : decode cX7_howManyAheadOf 10 = .ok (.aload_n 0, 1) := by decide +kernel
theorem dX7_howManyAheadOf_11 : decode cX7_howManyAheadOf 11 = .ok (.iload_n 3, 1) := by decide +kernel
theorem dX7_howManyAheadOf_12 : decode cX7_howManyAheadOf 12 = .ok (.iload_n 1, 1) := by decide +kernel
theorem dX7_howManyAheadOf_13 : decode cX7_howManyAheadOf 13 = .ok (.invokevirtual 189, 3) := by decide +kernel
theorem dX7_howManyAheadOf_16 : decode cX7_howManyAheadOf 16 = .ok (.ifCond .eq 6, 3) := by decide +kernel
theorem dX7_howManyAheadOf_19 : decode cX7_howManyAheadOf 19 = .ok (.iinc 2 1, 3) := by decide +kernel
theorem dX7_howManyAheadOf_22 : decode cX7_howManyAheadOf 22 = .ok (.iinc 3 1, 3) := by decide +kernel
theorem dX7_howManyAheadOf_25 : decode cX7_howManyAheadOf 25 = .ok (.goto (-21), 3) := by decide +kernel
theorem dX7_howManyAheadOf_28 : decode cX7_howManyAheadOf 28 = .ok (.iload_n 2, 1) := by decide +kernel
theorem dX7_howManyAheadOf_29 : decode cX7_howManyAheadOf 29 = .ok (.ireturn, 1) := by decide +kernel
theorem dX7_goesAhead_0 : decode cX7_goesAhead 0 = .ok (.aload_n 0, 1) := by decide +kernel
theorem dX7_goesAhead_1 : decode cX7_goesAhead 1 = .ok (.getfield 42, 3) := by decide +kernel
theorem dX7_goesAhead_4 : decode cX7_goesAhead 4 = .ok (.iload_n 1, 1) := by decide +kernel
theorem dX7_goesAhead_5 : decode cX7_goesAhead 5 = .ok (.baload, 1) := by decide +kernel
theorem dX7_goesAhead_6 : decode cX7_goesAhead 6 = .ok (.aload_n 0, 1) := by decide +kernel
theorem dX7_goesAhead_7 : decode cX7_goesAhead 7 = .ok (.getfield 42, 3) := by decide +kernel
theorem dX7_goesAhead_10 : decode cX7_goesAhead 10 = .ok (.iload_n 2, 1) := by decide +kernel
theorem dX7_goesAhead_11 : decode cX7_goesAhead 11 = .ok (.baload, 1) := by decide +kernel
theorem dX7_goesAhead_12 : decode cX7_goesAhead 12 = .ok (.if_icmp .eq 10, 3) := by decide +kernel
theorem dX7_goesAhead_15 : decode cX7_goesAhead 15 = .ok (.aload_n 0, 1) := by decide +kernel
theorem dX7_goesAhead_16 : decode cX7_goesAhead 16 = .ok (.getfield 42, 3) := by decide +kernel
theorem dX7_goesAhead_19 : decode cX7_goesAhead 19 = .ok (.iload_n 2, 1) := by decide +kernel
theorem dX7_goesAhead_20 : decode cX7_goesAhead 20 = .ok (.baload, 1) := by decide +kernel
theorem dX7_goesAhead_21 : decode cX7_goesAhead 21 = .ok (.ireturn, 1) := by decide +kernel
theorem dX7_goesAhead_22 : decode cX7_goesAhead 22 = .ok (.aload_n 0, 1) := by decide +kernel
theorem dX7_goesAhead_23 : decode cX7_goesAhead 23 = .ok (.getfield 42, 3) := by decide +kernel
theorem dX7_goesAhead_26 : decode cX7_goesAhead 26 = .ok (.iload_n 1, 1) := by decide +kernel
theorem dX7_goesAhead_27 : decode cX7_goesAhead 27 = .ok (.baload, 1) := by decide +kernel
theorem dX7_goesAhead_28 : decode cX7_goesAhead 28 = .ok (.ifCond .ne 19, 3) := by decide +kernel
theorem dX7_goesAhead_31 : decode cX7_goesAhead 31 = .ok (.aload_n 0, 1) := by decide +kernel
theorem dX7_goesAhead_32 : decode cX7_goesAhead 32 = .ok (.getfield 38, 3) := by decide +kernel
theorem dX7_goesAhead_35 : decode cX7_goesAhead 35 = .ok (.iload_n 1, 1) := by decide +kernel
theorem dX7_goesAhead_36 : decode cX7_goesAhead 36 = .ok (.daload, 1) := by decide +kernel
theorem dX7_goesAhead_37 : decode cX7_goesAhead 37 = .ok (.aload_n 0, 1) := by decide +kernel
theorem dX7_goesAhead_38 : decode cX7_goesAhead 38 = .ok (.getfield 38, 3) := by decide +kernel
theorem dX7_goesAhead_41 : decode cX7_goesAhead 41 = .ok (.iload_n 2, 1) := by decide +kernel
theorem dX7_goesAhead_42 : decode cX7_goesAhead 42 = .ok (.daload, 1) := by decide +kernel
theorem dX7_goesAhead_43 : decode cX7_goesAhead 43 = .ok (.dcmp .l, 1) := by decide +kernel
theorem dX7_goesAhead_44 : decode cX7_goesAhead 44 = .ok (.ifCond .ne 14, 3) := by decide +kernel
theorem dX7_goesAhead_47 : decode cX7_goesAhead 47 = .ok (.iload_n 1, 1) := by decide +kernel
theorem dX7_goesAhead_48 : decode cX7_goesAhead 48 = .ok (.iload_n 2, 1) := by decide +kernel
theorem dX7_goesAhead_49 : decode cX7_goesAhead 49 = .ok (.if_icmp .ge 7, 3) := by decide +kernel
theorem dX7_goesAhead_52 : decode cX7_goesAhead 52 = .ok (.iconst 1, 1) := by decide +kernel
theorem dX7_goesAhead_53 : decode cX7_goesAhead 53 = .ok (.goto 4, 3) := by decide +kernel
theorem dX7_goesAhead_56 : decode cX7_goesAhead 56 = .ok (.iconst 0, 1) := by decide +kernel
theorem dX7_goesAhead_57 : decode cX7_goesAhead 57 = .ok (.ireturn, 1) := by decide +kernel
theorem dX7_goesAhead_58 : decode cX7_goesAhead 58 = .ok (.aload_n 0, 1) := by decide +kernel
theorem dX7_goesAhead_59 : decode cX7_goesAhead 59 = .ok (.getfield 38, 3) := by decide +kernel
theorem dX7_goesAhead_62 : decode cX7_goesAhead 62 = .ok (.iload_n 1, 1) := by decide +kernel
theorem dX7_goesAhead_63 : decode cX7_goesAhead 63 = .ok (.daload, 1) := by decide +kernel
theorem dX7_goesAhead_64 : decode cX7_goesAhead 64 = .ok (.aload_n 0, 1) := by decide +kernel
theorem dX7_goesAhead_65 : decode cX7_goesAhead 65 = .ok (.getfield 38, 3) := by decide +kernel
theorem dX7_goesAhead_68 : decode cX7_goesAhead 68 = .ok (.iload_n 2, 1) := by decide +kernel
theorem dX7_goesAhead_69 : decode cX7_goesAhead 69 = .ok (.daload, 1) := by decide +kernel
theorem dX7_goesAhead_70 : decode cX7_goesAhead 70 = .ok (.dcmp .l, 1) := by decide +kernel
theorem dX7_goesAhead_71 : decode cX7_goesAhead 71 = .ok (.ifCond .le 7, 3) := by decide +kernel
theorem dX7_goesAhead_74 : decode cX7_goesAhead 74 = .ok (.iconst 1, 1) := by decide +kernel
theorem dX7_goesAhead_75 : decode cX7_goesAhead 75 = .ok (.goto 4, 3) := by decide +kernel
theorem dX7_goesAhead_78 : decode cX7_goesAhead 78 = .ok (.iconst 0, 1) := by decide +kernel
theorem dX7_goesAhead_79 : decode cX7_goesAhead 79 = .ok (.ireturn, 1) := by decide +kernel
theorem dX8_init_0 : decode cX8_init 0 = .ok (.aload_n 0, 1) := by decide +kernel
theorem dX8_init_1 : decode cX8_init 1 = .ok (.invokespecial 1, 3) := by decide +kernel
theorem dX8_init_4 : decode cX8_init 4 = .ok (.aload_n 0, 1) := by decide +kernel
theorem dX8_init_5 : decode cX8_init 5 = .ok (.sipush 160, 3) := by decide +kernel
theorem dX8_init_8 : decode cX8_init 8 = .ok (.newarray .int, 2) := by decide +kernel
theorem dX8_init_10 : decode cX8_init 10 = .ok (.putfield 7, 3) := by decide +kernel
theorem dX8_init_13 : decode cX8_init 13 = .ok (.aload_n 0, 1) := by decide +kernel
theorem dX8_init_14 : decode cX8_init 14 = .ok (.sipush 160, 3) := by decide +kernel
theorem dX8_init_17 : decode cX8_init 17 = .ok (.newarray .int, 2) := by decide +kernel
theorem dX8_init_19 : decode cX8_init 19 = .ok (.putfield 13, 3) := by decide +kernel
theorem dX8_init_22 : decode cX8_init 22 = .ok (.aload_n 0, 1) := by decide +kernel
theorem dX8_init_23 : decode cX8_init 23 = .ok (.sipush 160, 3) := by decide +kernel
theorem dX8_init_26 : decode cX8_init 26 = .ok (.newarray .double, 2) := by decide +kernel
theorem dX8_init_28 : decode cX8_init 28 = .ok (.putfield 16, 3) := by decide +kernel
theorem dX8_init_31 : decode cX8_init 31 = .ok (.aload_n 0, 1) := by decide +kernel
theorem dX8_init_32 : decode cX8_init 32 = .ok (.iconst 4, 1) := by decide +kernel
theorem dX8_init_33 : decode cX8_init 33 = .ok (.newarray .double, 2) := by decide +kernel
theorem dX8_init_35 : decode cX8_init 35 = .ok (.putfield 20, 3) := by decide +kernel
theorem dX8_init_38 : decode cX8_init 38 = .ok (.aload_n 0, 1) := by decide +kernel
theorem dX8_init_39 : decode cX8_init 39 = .ok (.iconst 4, 1) := by decide +kernel
theorem dX8_init_40 : decode cX8_init 40 = .ok (.newarray .boolean, 2) := by decide +kernel
theorem dX8_init_42 : decode cX8_init 42 = .ok (.putfield 23, 3) := by decide +kernel
theorem dX8_init_45 : decode cX8_init 45 = .ok (.aload_n 0, 1) := by decide +kernel
theorem dX8_init_46 : decode cX8_init 46 = .ok (.bipush 60, 2) := by decide +kernel
theorem dX8_init_48 : decode cX8_init 48 = .ok (.newarray .int, 2) := by decide +kernel
theorem dX8_init_50 : decode cX8_init 50 = .ok (.putfield 27, 3) := by decide +kernel
theorem dX8_init_53 : decode cX8_init 53 = .ok (.aload_n 0, 1) := by decide +kernel
theorem dX8_init_54 : decode cX8_init 54 = .ok (.bipush 60, 2) := by decide +kernel
theorem dX8_init_56 : decode cX8_init 56 = .ok (.newarray .int, 2) := by decide +kernel
theorem dX8_init_58 : decode cX8_init 58 = .ok (.putfield 30, 3) := by decide +kernel
theorem dX8_init_61 : decode cX8_init 61 = .ok (.aload_n 0, 1) := by decide +kernel
theorem dX8_init_62 : decode cX8_init 62 = .ok (.bipush 60, 2) := by decide +kernel
theorem dX8_init_64 : decode cX8_init 64 = .ok (.newarray .double, 2) := by decide +kernel
theorem dX8_init_66 : decode cX8_init 66 = .ok (.putfield 33, 3) := by decide +kernel
theorem dX8_init_69 : decode cX8_init 69 = .ok (.aload_n 0, 1) := by decide +kernel
theorem dX8_init_70 : decode cX8_init 70 = .ok (.bipush 60, 2) := by decide +kernel
theorem dX8_init_72 : decode cX8_init 72 = .ok (.newarray .double, 2) := by decide +kernel
theorem dX8_init_74 : decode cX8_init 74 = .ok (.putfield 36, 3) := by decide +kernel
theorem dX8_init_77 : decode cX8_init 77 = .ok (.aload_n 0, 1) := by decide +kernel
theorem dX8_init_78 : decode cX8_init 78 = .ok (.bipush 60, 2) := by decide +kernel
theorem dX8_init_80 : decode cX8_init 80 = .ok (.newarray .int, 2) := by decide +kernel
theorem dX8_init_82 : decode cX8_init 82 = .ok (.putfield 39, 3) := by decide +kernel
theorem dX8_init_85 : decode cX8_init 85 = .ok (.aload_n 0, 1) := by decide +kernel
theorem dX8_init_86 : decode cX8_init 86 = .ok (.sipush 480, 3) := by decide +kernel
theorem dX8_init_89 : decode cX8_init 89 = .ok (.newarray .int, 2) := by decide +kernel
theorem dX8_init_91 : decode cX8_init 91 = .ok (.putfield 42, 3) := by decide +kernel
theorem dX8_init_94 : decode cX8_init 94 = .ok (.aload_n 0, 1) := by decide +kernel
theorem dX8_init_95 : decode cX8_init 95 = .ok (.bipush 60, 2) := by decide +kernel
theorem dX8_init_97 : decode cX8_init 97 = .ok (.newarray .boolean, 2) := by decide +kernel
theorem dX8_init_99 : decode cX8_init 99 = .ok (.putfield 45, 3) := by decide +kernel
theorem dX8_init_102 : decode cX8_init 102 = .ok (.aload_n 0, 1) := by decide +kernel
theorem dX8_init_103 : decode cX8_init 103 = .ok (.bipush 60, 2) := by decide +kernel
theorem dX8_init_105 : decode cX8_init 105 = .ok (.newarray .int, 2) := by decide +kernel
theorem dX8_init_107 : decode cX8_init 107 = .ok (.putfield 48, 3) := by decide +kernel
theorem dX8_init_110 : decode cX8_init 110 = .ok (.aload_n 0, 1) := by decide +kernel
theorem dX8_init_111 : decode cX8_init 111 = .ok (.bipush 60, 2) := by decide +kernel
theorem dX8_init_113 : decode cX8_init 113 = .ok (.newarray .int, 2) := by decide +kernel
theorem dX8_init_115 : decode cX8_init 115 = .ok (.putfield 51, 3) := by decide +kernel
theorem dX8_init_118 : decode cX8_init 118 = .ok (.aload_n 0, 1) := by decide +kernel
theorem dX8_init_119 : decode cX8_init 119 = .ok (.bipush 60, 2) := by decide +kernel
theorem dX8_init_121 : decode cX8_init 121 = .ok (.newarray .int, 2) := by decide +kernel
theorem dX8_init_123 : decode cX8_init 123 = .ok (.putfield 54, 3) := by decide +kernel
theorem dX8_init_126 : decode cX8_init 126 = .ok (.aload_n 0, 1) := by decide +kernel
theorem dX8_init_127 : decode cX8_init 127 = .ok (.bipush 60, 2) := by decide +kernel
theorem dX8_init_129 : decode cX8_init 129 = .ok (.newarray .boolean, 2) := by decide +kernel
theorem dX8_init_131 : decode cX8_init 131 = .ok (.putfield 57, 3) := by decide +kernel
theorem dX8_init_134 : decode cX8_init 134 = .ok (.aload_n 0, 1) := by decide +kernel
theorem dX8_init_135 : decode cX8_init 135 = .ok (.bipush 64, 2) := by decide +kernel
theorem dX8_init_137 : decode cX8_init 137 = .ok (.newarray .int, 2) := by decide +kernel
theorem dX8_init_139 : decode cX8_init 139 = .ok (.putfield 60, 3) := by decide +kernel
theorem dX8_init_142 : decode cX8_init 142 = .ok (.aload_n 0, 1) := by decide +kernel
theorem dX8_init_143 : decode cX8_init 143 = .ok (.bipush 64, 2) := by decide +kernel
theorem dX8_init_145 : decode cX8_init 145 = .ok (.newarray .int, 2) := by decide +kernel
theorem dX8_init_147 : decode cX8_init 147 = .ok (.putfield 63, 3) := by decide +kernel
theorem dX8_init_150 : decode cX8_init 150 = .ok (.aload_n 0, 1) := by decide +kernel
theorem dX8_init_151 : decode cX8_init 151 = .ok (.bipush 64, 2) := by decide +kernel
theorem dX8_init_153 : decode cX8_init 153 = .ok (.newarray .double, 2) := by decide +kernel
theorem dX8_init_155 : decode cX8_init 155 = .ok (.putfield 66, 3) := by decide +kernel
theorem dX8_init_158 : decode cX8_init 158 = .ok (.aload_n 0, 1) := by decide +kernel
theorem dX8_init_159 : decode cX8_init 159 = .ok (.bipush 64, 2) := by decide +kernel
theorem dX8_init_161 : decode cX8_init 161 = .ok (.newarray .double, 2) := by decide +kernel
theorem dX8_init_163 : decode cX8_init 163 = .ok (.putfield 69, 3) := by decide +kernel
theorem dX8_init_166 : decode cX8_init 166 = .ok (.aload_n 0, 1) := by decide +kernel
theorem dX8_init_167 : decode cX8_init 167 = .ok (.iconst 5, 1) := by decide +kernel
theorem dX8_init_168 : decode cX8_init 168 = .ok (.newarray .int, 2) := by decide +kernel
theorem dX8_init_170 : decode cX8_init 170 = .ok (.putfield 72, 3) := by decide +kernel
theorem dX8_init_173 : decode cX8_init 173 = .ok (.aload_n 0, 1) := by decide +kernel
theorem dX8_init_174 : decode cX8_init 174 = .ok (.bipush 40, 2) := by decide +kernel
theorem dX8_init_176 : decode cX8_init 176 = .ok (.newarray .boolean, 2) := by decide +kernel
theorem dX8_init_178 : decode cX8_init 178 = .ok (.putfield 75, 3) := by decide +kernel
theorem dX8_init_181 : decode cX8_init 181 = .ok (.aload_n 0, 1) := by decide +kernel
theorem dX8_init_182 : decode cX8_init 182 = .ok (.bipush 40, 2) := by decide +kernel
theorem dX8_init_184 : decode cX8_init 184 = .ok (.newarray .double, 2) := by decide +kernel
theorem dX8_init_186 : decode cX8_init 186 = .ok (.putfield 78, 3) := by decide +kernel
theorem dX8_init_189 : decode cX8_init 189 = .ok (.aload_n 0, 1) := by decide +kernel
theorem dX8_init_190 : decode cX8_init 190 = .ok (.invokevirtual 81, 3) := by decide +kernel
theorem dX8_init_193 : decode cX8_init 193 = .ok (.pop, 1) := by decide +kernel
theorem dX8_init_194 : decode cX8_init 194 = .ok (.return_, 1) := by decide +kernel
theorem dX8_clear_0 : decode cX8_clear 0 = .ok (.iconst 0, 1) := by decide +kernel
theorem dX8_clear_1 : decode cX8_clear 1 = .ok (.istore_n 1, 1) := by decide +kernel
theorem dX8_clear_2 : decode cX8_clear 2 = .ok (.iload_n 1, 1) := by decide +kernel
theorem dX8_clear_3 : decode cX8_clear 3 = .ok (.sipush 160, 3) := by decide +kernel
theorem dX8_clear_6 : decode cX8_clear 6 = .ok (.if_icmp .ge 32, 3) := by decide +kernel
theorem dX8_clear_9 : decode cX8_clear 9 = .ok (.aload_n 0, 1) := by decide +kernel
theorem dX8_clear_10 : decode cX8_clear 10 = .ok (.getfield 7, 3) := by decide +kernel
theorem dX8_clear_13 : decode cX8_clear 13 = .ok (.iload_n 1, 1) := by decide +kernel
theorem dX8_clear_14 : decode cX8_clear 14 = .ok (.iconst 0, 1) := by decide +kernel
theorem dX8_clear_15 : decode cX8_clear 15 = .ok (.iastore, 1) := by decide +kernel
theorem dX8_clear_16 : decode cX8_clear 16 = .ok (.aload_n 0, 1) := by decide +kernel
theorem dX8_clear_17 : decode cX8_clear 17 = .ok (.getfield 13, 3) := by decide +kernel
theorem dX8_clear_20 : decode cX8_clear 20 = .ok (.iload_n 1, 1) := by decide +kernel
theorem dX8_clear_21 : decode cX8_clear 21 = .ok (.iconst 0, 1) := by decide +kernel
theorem dX8_clear_22 : decode cX8_clear 22 = .ok (.iastore, 1) := by decide +kernel
theorem dX8_clear_23 : decode cX8_clear 23 = .ok (.aload_n 0, 1) := by decide +kernel
theorem dX8_clear_24 : decode cX8_clear 24 = .ok (.getfield 16, 3) := by decide +kernel
theorem dX8_clear_27 : decode cX8_clear 27 = .ok (.iload_n 1, 1) := by decide +kernel
theorem dX8_clear_28 : decode cX8_clear 28 = .ok (.invokestatic 85, 3) := by decide +kernel
theorem dX8_clear_31 : decode cX8_clear 31 = .ok (.dastore, 1) := by decide +kernel
theorem dX8_clear_32 : decode cX8_clear 32 = .ok (.iinc 1 1, 3) := by decide +kernel
theorem dX8_clear_35 : decode cX8_clear 35 = .ok (.goto (-33), 3) := by decide +kernel
theorem dX8_clear_38 : decode cX8_clear 38 = .ok (.iconst 0, 1) := by decide +kernel
theorem dX8_clear_39 : decode cX8_clear 39 = .ok (.istore_n 1, 1) := by decide +kernel
theorem dX8_clear_40 : decode cX8_clear 40 = .ok (.iload_n 1, 1) := by decide +kernel
theorem dX8_clear_41 : decode cX8_clear 41 = .ok (.iconst 4, 1) := by decide +kernel
theorem dX8_clear_42 : decode cX8_clear 42 = .ok (.if_icmp .ge 16, 3) := by decide +kernel
theorem dX8_clear_45 : decode cX8_clear 45 = .ok (.aload_n 0, 1) := by decide +kernel
theorem dX8_clear_46 : decode cX8_clear 46 = .ok (.getfield 23, 3) := by decide +kernel
theorem dX8_clear_49 : decode cX8_clear 49 = .ok (.iload_n 1, 1) := by decide +kernel
theorem dX8_clear_50 : decode cX8_clear 50 = .ok (.iconst 0, 1) := by decide +kernel
theorem dX8_clear_51 : decode cX8_clear 51 = .ok (.bastore, 1) := by decide +kernel
theorem dX8_clear_52 : decode cX8_clear 52 = .ok (.iinc 1 1, 3) := by decide +kernel
theorem dX8_clear_55 : decode cX8_clear 55 = .ok (.goto (-15), 3) := by decide +kernel
theorem dX8_clear_58 : decode cX8_clear 58 = .ok (.iconst 0, 1) := by decide +kernel
theorem dX8_clear_59 : decode cX8_clear 59 = .ok (.ireturn, 1) := by decide +kernel
theorem dX8_in_0 : decode cX8_in 0 = .ok (.iload_n 0, 1) := by decide +kernel
theorem dX8_in_1 : decode cX8_in 1 = .ok (.iload_n 1, 1) := by decide +kernel
theorem dX8_in_2 : decode cX8_in 2 = .ok (.if_icmp .lt 12, 3) := by decide +kernel
theorem dX8_in_5 : decode cX8_in 5 = .ok (.iload_n 0, 1) := by decide +kernel
theorem dX8_in_6 : decode cX8_in 6 = .ok (.iload_n 2, 1) := by decide +kernel
theorem dX8_in_7 : decode cX8_in 7 = .ok (.if_icmp .gt 7, 3) := by decide +kernel
theorem dX8_in_10 : decode cX8_in 10 = .ok (.iconst 1, 1) := by decide +kernel
theorem dX8_in_11 : decode cX8_in 11 = .ok (.goto 4, 3) := by decide +kernel
theorem dX8_in_14 : decode cX8_in 14 = .ok (.iconst 0, 1) := by decide +kernel
theorem dX8_in_15 : decode cX8_in 15 = .ok (.ireturn, 1) := by decide +kernel
theorem dX8_tell_0 : decode cX8_tell 0 = .ok (.iload_n 1, 1) := by decide +kernel
theorem dX8_tell_1 : decode cX8_tell 1 = .ok (.iconst 0, 1) := by decide +kernel
theorem dX8_tell_2 : decode cX8_tell 2 = .ok (.bipush 39, 2) := by decide +kernel
theorem dX8_tell_4 : decode cX8_tell 4 = .ok (.invokestatic 89, 3) := by decide +kernel
theorem dX8_tell_7 : decode cX8_tell 7 = .ok (.ifCond .eq 34, 3) := by decide +kernel
theorem dX8_tell_10 : decode cX8_tell 10 = .ok (.iload_n 2, 1) := by decide +kernel
theorem dX8_tell_11 : decode cX8_tell 11 = .ok (.iconst 0, 1) := by decide +kernel
theorem dX8_tell_12 : decode cX8_tell 12 = .ok (.iconst 3, 1) := by decide +kernel
theorem dX8_tell_13 : decode cX8_tell 13 = .ok (.invokestatic 89, 3) := by decide +kernel
theorem dX8_tell_16 : decode cX8_tell 16 = .ok (.ifCond .eq 25, 3) := by decide +kernel
theorem dX8_tell_19 : decode cX8_tell 19 = .ok (.iload_n 3, 1) := by decide +kernel
theorem dX8_tell_20 : decode cX8_tell 20 = .ok (.iconst 0, 1) := by decide +kernel
theorem dX8_tell_21 : decode cX8_tell 21 = .ok (.sipush 1000, 3) := by decide +kernel
theorem dX8_tell_24 : decode cX8_tell 24 = .ok (.invokestatic 89, 3) := by decide +kernel
theorem dX8_tell_27 : decode cX8_tell 27 = .ok (.ifCond .eq 14, 3) := by decide +kernel
theorem dX8_tell_30 : decode cX8_tell 30 = .ok (.iload 4, 2) := by decide +kernel
theorem dX8_tell_32 : decode cX8_tell 32 = .ok (.iconst 0, 1) := by decide +kernel
theorem dX8_tell_33 : decode cX8_tell 33 = .ok (.ldc 93, 2) := by decide +kernel
theorem dX8_tell_35 : decode cX8_tell 35 = .ok (.invokestatic 89, 3) := by decide +kernel
theorem dX8_tell_38 : decode cX8_tell 38 = .ok (.ifCond .ne 5, 3) := by decide +kernel
end
section
theorem dX8_tell_41 : decode cX8_tell 41 = .ok (.iconst (-1), 1) := by decide +kernel
theorem dX8_tell_42 : decode cX8_tell 42 = .ok (.ireturn, 1) := by decide +kernel
theorem dX8_tell_43 : decode cX8_tell 43 = .ok (.aload_n 0, 1) := by decide +kernel
theorem dX8_tell_44 : decode cX8_tell 44 = .ok (.getfield 7, 3) := by decide +kernel
theorem dX8_tell_47 : decode cX8_tell 47 = .ok (.iconst 4, 1) := by decide +kernel
theorem dX8_tell_48 : decode cX8_tell 48 = .ok (.iload_n 1, 1) := by decide +kernel
theorem dX8_tell_49 : decode cX8_tell 49 = .ok (.imul, 1) := by decide +kernel
theorem dX8_tell_50 : decode cX8_tell 50 = .ok (.iload_n 2, 1) := by decide +kernel
theorem dX8_tell_51 : decode cX8_tell 51 = .ok (.iadd, 1) := by decide +kernel
theorem dX8_tell_52 : decode cX8_tell 52 = .ok (.iload_n 3, 1) := by decide +kernel
theorem dX8_tell_53 : decode cX8_tell 53 = .ok (.iastore, 1) := by decide +kernel
theorem dX8_tell_54 : decode cX8_tell 54 = .ok (.aload_n 0, 1) := by decide +kernel
theorem dX8_tell_55 : decode cX8_tell 55 = .ok (.getfield 13, 3) := by decide +kernel
theorem dX8_tell_58 : decode cX8_tell 58 = .ok (.iconst 4, 1) := by decide +kernel
theorem dX8_tell_59 : decode cX8_tell 59 = .ok (.iload_n 1, 1) := by decide +kernel
theorem dX8_tell_60 : decode cX8_tell 60 = .ok (.imul, 1) := by decide +kernel
theorem dX8_tell_61 : decode cX8_tell 61 = .ok (.iload_n 2, 1) := by decide +kernel
theorem dX8_tell_62 : decode cX8_tell 62 = .ok (.iadd, 1) := by decide +kernel
theorem dX8_tell_63 : decode cX8_tell 63 = .ok (.iload 4, 2) := by decide +kernel
theorem dX8_tell_65 : decode cX8_tell 65 = .ok (.iastore, 1) := by decide +kernel
theorem dX8_tell_66 : decode cX8_tell 66 = .ok (.iconst 0, 1) := by decide +kernel
theorem dX8_tell_67 : decode cX8_tell 67 = .ok (.ireturn, 1) := by decide +kernel
theorem dX8_column_0 : decode cX8_column 0 = .ok (.iload_n 1, 1) := by decide +kernel
theorem dX8_column_1 : decode cX8_column 1 = .ok (.iconst 0, 1) := by decide +kernel
theorem dX8_column_2 : decode cX8_column 2 = .ok (.bipush 39, 2) := by decide +kernel
theorem dX8_column_4 : decode cX8_column 4 = .ok (.invokestatic 89, 3) := by decide +kernel
theorem dX8_column_7 : decode cX8_column 7 = .ok (.ifCond .eq 12, 3) := by decide +kernel
theorem dX8_column_10 : decode cX8_column 10 = .ok (.iload_n 2, 1) := by decide +kernel
theorem dX8_column_11 : decode cX8_column 11 = .ok (.iconst 0, 1) := by decide +kernel
theorem dX8_column_12 : decode cX8_column 12 = .ok (.iconst 3, 1) := by decide +kernel
theorem dX8_column_13 : decode cX8_column 13 = .ok (.invokestatic 89, 3) := by decide +kernel
theorem dX8_column_16 : decode cX8_column 16 = .ok (.ifCond .ne 5, 3) := by decide +kernel
theorem dX8_column_19 : decode cX8_column 19 = .ok (.iconst (-1), 1) := by decide +kernel
theorem dX8_column_20 : decode cX8_column 20 = .ok (.ireturn, 1) := by decide +kernel
theorem dX8_column_21 : decode cX8_column 21 = .ok (.aload_n 0, 1) := by decide +kernel
theorem dX8_column_22 : decode cX8_column 22 = .ok (.getfield 16, 3) := by decide +kernel
theorem dX8_column_25 : decode cX8_column 25 = .ok (.iconst 4, 1) := by decide +kernel
theorem dX8_column_26 : decode cX8_column 26 = .ok (.iload_n 1, 1) := by decide +kernel
theorem dX8_column_27 : decode cX8_column 27 = .ok (.imul, 1) := by decide +kernel
theorem dX8_column_28 : decode cX8_column 28 = .ok (.iload_n 2, 1) := by decide +kernel
theorem dX8_column_29 : decode cX8_column 29 = .ok (.iadd, 1) := by decide +kernel
theorem dX8_column_30 : decode cX8_column 30 = .ok (.lload_n 3, 1) := by decide +kernel
theorem dX8_column_31 : decode cX8_column 31 = .ok (.invokestatic 94, 3) := by decide +kernel
theorem dX8_column_34 : decode cX8_column 34 = .ok (.dastore, 1) := by decide +kernel
theorem dX8_column_35 : decode cX8_column 35 = .ok (.iconst 0, 1) := by decide +kernel
theorem dX8_column_36 : decode cX8_column 36 = .ok (.ireturn, 1) := by decide +kernel
theorem dX8_given_0 : decode cX8_given 0 = .ok (.lload_n 2, 1) := by decide +kernel
theorem dX8_given_1 : decode cX8_given 1 = .ok (.invokestatic 94, 3) := by decide +kernel
theorem dX8_given_4 : decode cX8_given 4 = .ok (.dstore 4, 2) := by decide +kernel
theorem dX8_given_6 : decode cX8_given 6 = .ok (.iload_n 1, 1) := by decide +kernel
theorem dX8_given_7 : decode cX8_given 7 = .ok (.iconst 0, 1) := by decide +kernel
theorem dX8_given_8 : decode cX8_given 8 = .ok (.iconst 3, 1) := by decide +kernel
theorem dX8_given_9 : decode cX8_given 9 = .ok (.invokestatic 89, 3) := by decide +kernel
theorem dX8_given_12 : decode cX8_given 12 = .ok (.ifCond .eq 10, 3) := by decide +kernel
theorem dX8_given_15 : decode cX8_given 15 = .ok (.dload 4, 2) := by decide +kernel
theorem dX8_given_17 : decode cX8_given 17 = .ok (.dconst 0, 1) := by decide +kernel
theorem dX8_given_18 : decode cX8_given 18 = .ok (.dcmp .g, 1) := by decide +kernel
theorem dX8_given_19 : decode cX8_given 19 = .ok (.ifCond .gt 5, 3) := by decide +kernel
theorem dX8_given_22 : decode cX8_given 22 = .ok (.iconst (-1), 1) := by decide +kernel
theorem dX8_given_23 : decode cX8_given 23 = .ok (.ireturn, 1) := by decide +kernel
theorem dX8_given_24 : decode cX8_given 24 = .ok (.aload_n 0, 1) := by decide +kernel
theorem dX8_given_25 : decode cX8_given 25 = .ok (.getfield 23, 3) := by decide +kernel
theorem dX8_given_28 : decode cX8_given 28 = .ok (.iload_n 1, 1) := by decide +kernel
theorem dX8_given_29 : decode cX8_given 29 = .ok (.dload 4, 2) := by decide +kernel
theorem dX8_given_31 : decode cX8_given 31 = .ok (.dload 4, 2) := by decide +kernel
theorem dX8_given_33 : decode cX8_given 33 = .ok (.dcmp .l, 1) := by decide +kernel
theorem dX8_given_34 : decode cX8_given 34 = .ok (.ifCond .ne 7, 3) := by decide +kernel
theorem dX8_given_37 : decode cX8_given 37 = .ok (.iconst 1, 1) := by decide +kernel
theorem dX8_given_38 : decode cX8_given 38 = .ok (.goto 4, 3) := by decide +kernel
theorem dX8_given_41 : decode cX8_given 41 = .ok (.iconst 0, 1) := by decide +kernel
theorem dX8_given_42 : decode cX8_given 42 = .ok (.bastore, 1) := by decide +kernel
theorem dX8_given_43 : decode cX8_given 43 = .ok (.aload_n 0, 1) := by decide +kernel
theorem dX8_given_44 : decode cX8_given 44 = .ok (.getfield 20, 3) := by decide +kernel
theorem dX8_given_47 : decode cX8_given 47 = .ok (.iload_n 1, 1) := by decide +kernel
theorem dX8_given_48 : decode cX8_given 48 = .ok (.dload 4, 2) := by decide +kernel
theorem dX8_given_50 : decode cX8_given 50 = .ok (.dastore, 1) := by decide +kernel
theorem dX8_given_51 : decode cX8_given 51 = .ok (.iconst 0, 1) := by decide +kernel
theorem dX8_given_52 : decode cX8_given 52 = .ok (.ireturn, 1) := by decide +kernel
theorem dX8_valueOf_0 : decode cX8_valueOf 0 = .ok (.iload_n 0, 1) := by decide +kernel
theorem dX8_valueOf_1 : decode cX8_valueOf 1 = .ok (.bipush 32, 2) := by decide +kernel
theorem dX8_valueOf_3 : decode cX8_valueOf 3 = .ok (.if_icmp .ge 7, 3) := by decide +kernel
theorem dX8_valueOf_6 : decode cX8_valueOf 6 = .ok (.iload_n 0, 1) := by decide +kernel
theorem dX8_valueOf_7 : decode cX8_valueOf 7 = .ok (.goto 17, 3) := by decide +kernel
theorem dX8_valueOf_10 : decode cX8_valueOf 10 = .ok (.bipush 32, 2) := by decide +kernel
theorem dX8_valueOf_12 : decode cX8_valueOf 12 = .ok (.iload_n 0, 1) := by decide +kernel
theorem dX8_valueOf_13 : decode cX8_valueOf 13 = .ok (.bipush 32, 2) := by decide +kernel
theorem dX8_valueOf_15 : decode cX8_valueOf 15 = .ok (.irem, 1) := by decide +kernel
theorem dX8_valueOf_16 : decode cX8_valueOf 16 = .ok (.iadd, 1) := by decide +kernel
theorem dX8_valueOf_17 : decode cX8_valueOf 17 = .ok (.iload_n 0, 1) := by decide +kernel
theorem dX8_valueOf_18 : decode cX8_valueOf 18 = .ok (.bipush 32, 2) := by decide +kernel
theorem dX8_valueOf_20 : decode cX8_valueOf 20 = .ok (.idiv, 1) := by decide +kernel
theorem dX8_valueOf_21 : decode cX8_valueOf 21 = .ok (.iconst 1, 1) := by decide +kernel
theorem dX8_valueOf_22 : decode cX8_valueOf 22 = .ok (.isub, 1) := by decide +kernel
theorem dX8_valueOf_23 : decode cX8_valueOf 23 = .ok (.ishl, 1) := by decide +kernel
theorem dX8_valueOf_24 : decode cX8_valueOf 24 = .ok (.ireturn, 1) := by decide +kernel
theorem dX8_byteOf_0 : decode cX8_byteOf 0 = .ok (.sipush 255, 3) := by decide +kernel
theorem dX8_byteOf_3 : decode cX8_byteOf 3 = .ok (.istore_n 1, 1) := by decide +kernel
theorem dX8_byteOf_4 : decode cX8_byteOf 4 = .ok (.iload_n 1, 1) := by decide +kernel
theorem dX8_byteOf_5 : decode cX8_byteOf 5 = .ok (.invokestatic 98, 3) := by decide +kernel
theorem dX8_byteOf_8 : decode cX8_byteOf 8 = .ok (.iload_n 0, 1) := by decide +kernel
theorem dX8_byteOf_9 : decode cX8_byteOf 9 = .ok (.if_icmp .le 9, 3) := by decide +kernel
theorem dX8_byteOf_12 : decode cX8_byteOf 12 = .ok (.iinc 1 (-1), 3) := by decide +kernel
theorem dX8_byteOf_15 : decode cX8_byteOf 15 = .ok (.goto (-11), 3) := by decide +kernel
theorem dX8_byteOf_18 : decode cX8_byteOf 18 = .ok (.iload_n 1, 1) := by decide +kernel
theorem dX8_byteOf_19 : decode cX8_byteOf 19 = .ok (.ireturn, 1) := by decide +kernel
theorem dX8_packed_0 : decode cX8_packed 0 = .ok (.iload_n 1, 1) := by decide +kernel
theorem dX8_packed_1 : decode cX8_packed 1 = .ok (.iconst 0, 1) := by decide +kernel
theorem dX8_packed_2 : decode cX8_packed 2 = .ok (.ldc 93, 2) := by decide +kernel
theorem dX8_packed_4 : decode cX8_packed 4 = .ok (.invokestatic 89, 3) := by decide +kernel
theorem dX8_packed_7 : decode cX8_packed 7 = .ok (.ifCond .eq 12, 3) := by decide +kernel
theorem dX8_packed_10 : decode cX8_packed 10 = .ok (.iload_n 2, 1) := by decide +kernel
theorem dX8_packed_11 : decode cX8_packed 11 = .ok (.iconst 0, 1) := by decide +kernel
theorem dX8_packed_12 : decode cX8_packed 12 = .ok (.iconst 1, 1) := by decide +kernel
theorem dX8_packed_13 : decode cX8_packed 13 = .ok (.invokestatic 89, 3) := by decide +kernel
theorem dX8_packed_16 : decode cX8_packed 16 = .ok (.ifCond .ne 5, 3) := by decide +kernel
theorem dX8_packed_19 : decode cX8_packed 19 = .ok (.iconst (-1), 1) := by decide +kernel
theorem dX8_packed_20 : decode cX8_packed 20 = .ok (.ireturn, 1) := by decide +kernel
theorem dX8_packed_21 : decode cX8_packed 21 = .ok (.iload_n 2, 1) := by decide +kernel
theorem dX8_packed_22 : decode cX8_packed 22 = .ok (.ifCond .ne 10, 3) := by decide +kernel
theorem dX8_packed_25 : decode cX8_packed 25 = .ok (.iload_n 1, 1) := by decide +kernel
theorem dX8_packed_26 : decode cX8_packed 26 = .ok (.invokestatic 102, 3) := by decide +kernel
theorem dX8_packed_29 : decode cX8_packed 29 = .ok (.goto 10, 3) := by decide +kernel
theorem dX8_packed_32 : decode cX8_packed 32 = .ok (.iload_n 1, 1) := by decide +kernel
theorem dX8_packed_33 : decode cX8_packed 33 = .ok (.invokestatic 102, 3) := by decide +kernel
theorem dX8_packed_36 : decode cX8_packed 36 = .ok (.invokestatic 98, 3) := by decide +kernel
theorem dX8_packed_39 : decode cX8_packed 39 = .ok (.ireturn, 1) := by decide +kernel
theorem dX8_averageOf_0 : decode cX8_averageOf 0 = .ok (.aload_n 0, 1) := by decide +kernel
theorem dX8_averageOf_1 : decode cX8_averageOf 1 = .ok (.getfield 23, 3) := by decide +kernel
theorem dX8_averageOf_4 : decode cX8_averageOf 4 = .ok (.iload_n 1, 1) := by decide +kernel
theorem dX8_averageOf_5 : decode cX8_averageOf 5 = .ok (.baload, 1) := by decide +kernel
theorem dX8_averageOf_6 : decode cX8_averageOf 6 = .ok (.ifCond .eq 10, 3) := by decide +kernel
theorem dX8_averageOf_9 : decode cX8_averageOf 9 = .ok (.aload_n 0, 1) := by decide +kernel
theorem dX8_averageOf_10 : decode cX8_averageOf 10 = .ok (.getfield 20, 3) := by decide +kernel
theorem dX8_averageOf_13 : decode cX8_averageOf 13 = .ok (.iload_n 1, 1) := by decide +kernel
theorem dX8_averageOf_14 : decode cX8_averageOf 14 = .ok (.daload, 1) := by decide +kernel
theorem dX8_averageOf_15 : decode cX8_averageOf 15 = .ok (.dreturn, 1) := by decide +kernel
theorem dX8_averageOf_16 : decode cX8_averageOf 16 = .ok (.lconst 0, 1) := by decide +kernel
theorem dX8_averageOf_17 : decode cX8_averageOf 17 = .ok (.lstore_n 2, 1) := by decide +kernel
theorem dX8_averageOf_18 : decode cX8_averageOf 18 = .ok (.iconst 0, 1) := by decide +kernel
theorem dX8_averageOf_19 : decode cX8_averageOf 19 = .ok (.istore 4, 2) := by decide +kernel
theorem dX8_averageOf_21 : decode cX8_averageOf 21 = .ok (.iconst 0, 1) := by decide +kernel
theorem dX8_averageOf_22 : decode cX8_averageOf 22 = .ok (.istore 5, 2) := by decide +kernel
theorem dX8_averageOf_24 : decode cX8_averageOf 24 = .ok (.iload 5, 2) := by decide +kernel
theorem dX8_averageOf_26 : decode cX8_averageOf 26 = .ok (.bipush 40, 2) := by decide +kernel
theorem dX8_averageOf_28 : decode cX8_averageOf 28 = .ok (.if_icmp .ge 54, 3) := by decide +kernel
theorem dX8_averageOf_31 : decode cX8_averageOf 31 = .ok (.lload_n 2, 1) := by decide +kernel
theorem dX8_averageOf_32 : decode cX8_averageOf 32 = .ok (.aload_n 0, 1) := by decide +kernel
theorem dX8_averageOf_33 : decode cX8_averageOf 33 = .ok (.getfield 13, 3) := by decide +kernel
theorem dX8_averageOf_36 : decode cX8_averageOf 36 = .ok (.iconst 4, 1) := by decide +kernel
theorem dX8_averageOf_37 : decode cX8_averageOf 37 = .ok (.iload 5, 2) := by decide +kernel
theorem dX8_averageOf_39 : decode cX8_averageOf 39 = .ok (.imul, 1) := by decide +kernel
theorem dX8_averageOf_40 : decode cX8_averageOf 40 = .ok (.iload_n 1, 1) := by decide +kernel
theorem dX8_averageOf_41 : decode cX8_averageOf 41 = .ok (.iadd, 1) := by decide +kernel
theorem dX8_averageOf_42 : decode cX8_averageOf 42 = .ok (.iaload, 1) := by decide +kernel
theorem dX8_averageOf_43 : decode cX8_averageOf 43 = .ok (.invokestatic 102, 3) := by decide +kernel
theorem dX8_averageOf_46 : decode cX8_averageOf 46 = .ok (.invokestatic 98, 3) := by decide +kernel
theorem dX8_averageOf_49 : decode cX8_averageOf 49 = .ok (.i2l, 1) := by decide +kernel
theorem dX8_averageOf_50 : decode cX8_averageOf 50 = .ok (.ladd, 1) := by decide +kernel
theorem dX8_averageOf_51 : decode cX8_averageOf 51 = .ok (.lstore_n 2, 1) := by decide +kernel
theorem dX8_averageOf_52 : decode cX8_averageOf 52 = .ok (.iload 4, 2) := by decide +kernel
theorem dX8_averageOf_54 : decode cX8_averageOf 54 = .ok (.aload_n 0, 1) := by decide +kernel
theorem dX8_averageOf_55 : decode cX8_averageOf 55 = .ok (.getfield 13, 3) := by decide +kernel
theorem dX8_averageOf_58 : decode cX8_averageOf 58 = .ok (.iconst 4, 1) := by decide +kernel
theorem dX8_averageOf_59 : decode cX8_averageOf 59 = .ok (.iload 5, 2) := by decide +kernel
theorem dX8_averageOf_61 : decode cX8_averageOf 61 = .ok (.imul, 1) := by decide +kernel
theorem dX8_averageOf_62 : decode cX8_averageOf 62 = .ok (.iload_n 1, 1) := by decide +kernel
theorem dX8_averageOf_63 : decode cX8_averageOf 63 = .ok (.iadd, 1) := by decide +kernel
theorem dX8_averageOf_64 : decode cX8_averageOf 64 = .ok (.iaload, 1) := by decide +kernel
theorem dX8_averageOf_65 : decode cX8_averageOf 65 = .ok (.ifCond .eq 7, 3) := by decide +kernel
theorem dX8_averageOf_68 : decode cX8_averageOf 68 = .ok (.iconst 1, 1) := by decide +kernel
theorem dX8_averageOf_69 : decode cX8_averageOf 69 = .ok (.goto 4, 3) := by decide +kernel
theorem dX8_averageOf_72 : decode cX8_averageOf 72 = .ok (.iconst 0, 1) := by decide +kernel
theorem dX8_averageOf_73 : decode cX8_averageOf 73 = .ok (.iadd, 1) := by decide +kernel
theorem dX8_averageOf_74 : decode cX8_averageOf 74 = .ok (.istore 4, 2) := by decide +kernel
theorem dX8_averageOf_76 : decode cX8_averageOf 76 = .ok (.iinc 5 1, 3) := by decide +kernel
theorem dX8_averageOf_79 : decode cX8_averageOf 79 = .ok (.goto (-55), 3) := by decide +kernel
theorem dX8_averageOf_82 : decode cX8_averageOf 82 = .ok (.lload_n 2, 1) := by decide +kernel
theorem dX8_averageOf_83 : decode cX8_averageOf 83 = .ok (.l2d, 1) := by decide +kernel
theorem dX8_averageOf_84 : decode cX8_averageOf 84 = .ok (.iload 4, 2) := by decide +kernel
theorem dX8_averageOf_86 : decode cX8_averageOf 86 = .ok (.i2d, 1) := by decide +kernel
theorem dX8_averageOf_87 : decode cX8_averageOf 87 = .ok (.invokestatic 105, 3) := by decide +kernel
theorem dX8_averageOf_90 : decode cX8_averageOf 90 = .ok (.dreturn, 1) := by decide +kernel
theorem dX8_average_0 : decode cX8_average 0 = .ok (.iload_n 1, 1) := by decide +kernel
theorem dX8_average_1 : decode cX8_average 1 = .ok (.iconst 0, 1) := by decide +kernel
theorem dX8_average_2 : decode cX8_average 2 = .ok (.iconst 3, 1) := by decide +kernel
theorem dX8_average_3 : decode cX8_average 3 = .ok (.invokestatic 89, 3) := by decide +kernel
theorem dX8_average_6 : decode cX8_average 6 = .ok (.ifCond .eq 14, 3) := by decide +kernel
theorem dX8_average_9 : decode cX8_average 9 = .ok (.aload_n 0, 1) := by decide +kernel
theorem dX8_average_10 : decode cX8_average 10 = .ok (.iload_n 1, 1) := by decide +kernel
theorem dX8_average_11 : decode cX8_average 11 = .ok (.invokevirtual 109, 3) := by decide +kernel
theorem dX8_average_14 : decode cX8_average 14 = .ok (.invokestatic 113, 3) := by decide +kernel
theorem dX8_average_17 : decode cX8_average 17 = .ok (.goto 4, 3) := by decide +kernel
theorem dX8_average_20 : decode cX8_average 20 = .ok (.lconst 0, 1) := by decide +kernel
theorem dX8_average_21 : decode cX8_average 21 = .ok (.lreturn, 1) := by decide +kernel
theorem dX8_isFormula_0 : decode cX8_isFormula 0 = .ok (.iload_n 1, 1) := by decide +kernel
theorem dX8_isFormula_1 : decode cX8_isFormula 1 = .ok (.iconst 0, 1) := by decide +kernel
theorem dX8_isFormula_2 : decode cX8_isFormula 2 = .ok (.aload_n 0, 1) := by decide +kernel
theorem dX8_isFormula_3 : decode cX8_isFormula 3 = .ok (.getfield 119, 3) := by decide +kernel
theorem dX8_isFormula_6 : decode cX8_isFormula 6 = .ok (.iconst 1, 1) := by decide +kernel
theorem dX8_isFormula_7 : decode cX8_isFormula 7 = .ok (.isub, 1) := by decide +kernel
theorem dX8_isFormula_8 : decode cX8_isFormula 8 = .ok (.invokestatic 89, 3) := by decide +kernel
theorem dX8_isFormula_11 : decode cX8_isFormula 11 = .ok (.ireturn, 1) := by decide +kernel
theorem dX8_isRight_0 : decode cX8_isRight 0 = .ok (.iload_n 0, 1) := by decide +kernel
theorem dX8_isRight_1 : decode cX8_isRight 1 = .ok (.iconst 3, 1) := by decide +kernel
theorem dX8_isRight_2 : decode cX8_isRight 2 = .ok (.if_icmp .eq 9, 3) := by decide +kernel
theorem dX8_isRight_5 : decode cX8_isRight 5 = .ok (.iload_n 0, 1) := by decide +kernel
theorem dX8_isRight_6 : decode cX8_isRight 6 = .ok (.bipush 9, 2) := by decide +kernel
theorem dX8_isRight_8 : decode cX8_isRight 8 = .ok (.if_icmp .ne 15, 3) := by decide +kernel
theorem dX8_isRight_11 : decode cX8_isRight 11 = .ok (.dload_n 1, 1) := by decide +kernel
theorem dX8_isRight_12 : decode cX8_isRight 12 = .ok (.dconst 0, 1) := by decide +kernel
theorem dX8_isRight_13 : decode cX8_isRight 13 = .ok (.dcmp .l, 1) := by decide +kernel
theorem dX8_isRight_14 : decode cX8_isRight 14 = .ok (.ifCond .lt 7, 3) := by decide +kernel
theorem dX8_isRight_17 : decode cX8_isRight 17 = .ok (.iconst 1, 1) := by decide +kernel
theorem dX8_isRight_18 : decode cX8_isRight 18 = .ok (.goto 4, 3) := by decide +kernel
theorem dX8_isRight_21 : decode cX8_isRight 21 = .ok (.iconst 0, 1) := by decide +kernel
theorem dX8_isRight_22 : decode cX8_isRight 22 = .ok (.ireturn, 1) := by decide +kernel
theorem dX8_isRight_23 : decode cX8_isRight 23 = .ok (.iload_n 0, 1) := by decide +kernel
theorem dX8_isRight_24 : decode cX8_isRight 24 = .ok (.iconst 4, 1) := by decide +kernel
theorem dX8_isRight_25 : decode cX8_isRight 25 = .ok (.if_icmp .ne 27, 3) := by decide +kernel
theorem dX8_isRight_28 : decode cX8_isRight 28 = .ok (.dload_n 1, 1) := by decide +kernel
theorem dX8_isRight_29 : decode cX8_isRight 29 = .ok (.dconst 0, 1) := by decide +kernel
theorem dX8_isRight_30 : decode cX8_isRight 30 = .ok (.dcmp .l, 1) := by decide +kernel
theorem dX8_isRight_31 : decode cX8_isRight 31 = .ok (.ifCond .lt 19, 3) := by decide +kernel
theorem dX8_isRight_34 : decode cX8_isRight 34 = .ok (.dload_n 3, 1) := by decide +kernel
theorem dX8_isRight_35 : decode cX8_isRight 35 = .ok (.dconst 0, 1) := by decide +kernel
theorem dX8_isRight_36 : decode cX8_isRight 36 = .ok (.dcmp .l, 1) := by decide +kernel
theorem dX8_isRight_37 : decode cX8_isRight 37 = .ok (.ifCond .lt 13, 3) := by decide +kernel
theorem dX8_isRight_40 : decode cX8_isRight 40 = .ok (.dload_n 3, 1) := by decide +kernel
theorem dX8_isRight_41 : decode cX8_isRight 41 = .ok (.dconst 1, 1) := by decide +kernel
theorem dX8_isRight_42 : decode cX8_isRight 42 = .ok (.dcmp .g, 1) := by decide +kernel
theorem dX8_isRight_43 : decode cX8_isRight 43 = .ok (.ifCond .gt 7, 3) := by decide +kernel
theorem dX8_isRight_46 : decode cX8_isRight 46 = .ok (.iconst 1, 1) := by decide +kernel
theorem dX8_isRight_47 : decode cX8_isRight 47 = .ok (.goto 4, 3) := by decide +kernel
theorem dX8_isRight_50 : decode cX8_isRight 50 = .ok (.iconst 0, 1) := by decide +kernel
theorem dX8_isRight_51 : decode cX8_isRight 51 = .ok (.ireturn, 1) := by decide +kernel
theorem dX8_isRight_52 : decode cX8_isRight 52 = .ok (.iload_n 0, 1) := by decide +kernel
theorem dX8_isRight_53 : decode cX8_isRight 53 = .ok (.bipush 8, 2) := by decide +kernel
theorem dX8_isRight_55 : decode cX8_isRight 55 = .ok (.if_icmp .ne 21, 3) := by decide +kernel
theorem dX8_isRight_58 : decode cX8_isRight 58 = .ok (.dload_n 1, 1) := by decide +kernel
theorem dX8_isRight_59 : decode cX8_isRight 59 = .ok (.dconst 0, 1) := by decide +kernel
theorem dX8_isRight_60 : decode cX8_isRight 60 = .ok (.dcmp .l, 1) := by decide +kernel
theorem dX8_isRight_61 : decode cX8_isRight 61 = .ok (.ifCond .lt 13, 3) := by decide +kernel
theorem dX8_isRight_64 : decode cX8_isRight 64 = .ok (.dload_n 1, 1) := by decide +kernel
theorem dX8_isRight_65 : decode cX8_isRight 65 = .ok (.dconst 1, 1) := by decide +kernel
theorem dX8_isRight_66 : decode cX8_isRight 66 = .ok (.dcmp .g, 1) := by decide +kernel
theorem dX8_isRight_67 : decode cX8_isRight 67 = .ok (.ifCond .gt 7, 3) := by decide +kernel
theorem dX8_isRight_70 : decode cX8_isRight 70 = .ok (.iconst 1, 1) := by decide +kernel
theorem dX8_isRight_71 : decode cX8_isRight 71 = .ok (.goto 4, 3) := by decide +kernel
theorem dX8_isRight_74 : decode cX8_isRight 74 = .ok (.iconst 0, 1) := by decide +kernel
theorem dX8_isRight_75 : decode cX8_isRight 75 = .ok (.ireturn, 1) := by decide +kernel
theorem dX8_isRight_76 : decode cX8_isRight 76 = .ok (.iload_n 0, 1) := by decide +kernel
theorem dX8_isRight_77 : decode cX8_isRight 77 = .ok (.bipush 10, 2) := by decide +kernel
theorem dX8_isRight_79 : decode cX8_isRight 79 = .ok (.if_icmp .eq 9, 3) := by decide +kernel
theorem dX8_isRight_82 : decode cX8_isRight 82 = .ok (.iload_n 0, 1) := by decide +kernel
theorem dX8_isRight_83 : decode cX8_isRight 83 = .ok (.bipush 11, 2) := by decide +kernel
theorem dX8_isRight_85 : decode cX8_isRight 85 = .ok (.if_icmp .ne 15, 3) := by decide +kernel
theorem dX8_isRight_88 : decode cX8_isRight 88 = .ok (.dload_n 1, 1) := by decide +kernel
theorem dX8_isRight_89 : decode cX8_isRight 89 = .ok (.dload_n 1, 1) := by decide +kernel
theorem dX8_isRight_90 : decode cX8_isRight 90 = .ok (.dcmp .l, 1) := by decide +kernel
theorem dX8_isRight_91 : decode cX8_isRight 91 = .ok (.ifCond .ne 13, 3) := by decide +kernel
theorem dX8_isRight_94 : decode cX8_isRight 94 = .ok (.dload_n 3, 1) := by decide +kernel
theorem dX8_isRight_95 : decode cX8_isRight 95 = .ok (.dconst 0, 1) := by decide +kernel
theorem dX8_isRight_96 : decode cX8_isRight 96 = .ok (.dcmp .l, 1) := by decide +kernel
theorem dX8_isRight_97 : decode cX8_isRight 97 = .ok (.ifCond .le 7, 3) := by decide +kernel
theorem dX8_isRight_100 : decode cX8_isRight 100 = .ok (.iconst 1, 1) := by decide +kernel
theorem dX8_isRight_101 : decode cX8_isRight 101 = .ok (.goto 4, 3) := by decide +kernel
theorem dX8_isRight_104 : decode cX8_isRight 104 = .ok (.iconst 0, 1) := by decide +kernel
theorem dX8_isRight_105 : decode cX8_isRight 105 = .ok (.ireturn, 1) := by decide +kernel
theorem dX8_formula_0 : decode cX8_formula 0 = .ok (.lload 4, 2) := by decide +kernel
theorem dX8_formula_2 : decode cX8_formula 2 = .ok (.invokestatic 94, 3) := by decide +kernel
theorem dX8_formula_5 : decode cX8_formula 5 = .ok (.dstore 8, 2) := by decide +kernel
theorem dX8_formula_7 : decode cX8_formula 7 = .ok (.lload 6, 2) := by decide +kernel
theorem dX8_formula_9 : decode cX8_formula 9 = .ok (.invokestatic 94, 3) := by decide +kernel
theorem dX8_formula_12 : decode cX8_formula 12 = .ok (.dstore 10, 2) := by decide +kernel
theorem dX8_formula_14 : decode cX8_formula 14 = .ok (.iload_n 1, 1) := by decide +kernel
theorem dX8_formula_15 : decode cX8_formula 15 = .ok (.iconst 0, 1) := by decide +kernel
theorem dX8_formula_16 : decode cX8_formula 16 = .ok (.bipush 13, 2) := by decide +kernel
theorem dX8_formula_18 : decode cX8_formula 18 = .ok (.invokestatic 89, 3) := by decide +kernel
theorem dX8_formula_21 : decode cX8_formula 21 = .ok (.ifCond .eq 14, 3) := by decide +kernel
theorem dX8_formula_24 : decode cX8_formula 24 = .ok (.iload_n 1, 1) := by decide +kernel
theorem dX8_formula_25 : decode cX8_formula 25 = .ok (.dload 8, 2) := by decide +kernel
theorem dX8_formula_27 : decode cX8_formula 27 = .ok (.dload 10, 2) := by decide +kernel
theorem dX8_formula_29 : decode cX8_formula 29 = .ok (.invokestatic 123, 3) := by decide +kernel
theorem dX8_formula_32 : decode cX8_formula 32 = .ok (.ifCond .ne 5, 3) := by decide +kernel
theorem dX8_formula_35 : decode cX8_formula 35 = .ok (.iconst (-1), 1) := by decide +kernel
theorem dX8_formula_36 : decode cX8_formula 36 = .ok (.ireturn, 1) := by decide +kernel
theorem dX8_formula_37 : decode cX8_formula 37 = .ok (.iload_n 1, 1) := by decide +kernel
theorem dX8_formula_38 : decode cX8_formula 38 = .ok (.bipush 9, 2) := by decide +kernel
theorem dX8_formula_40 : decode cX8_formula 40 = .ok (.if_icmp .ge 7, 3) := by decide +kernel
theorem dX8_formula_43 : decode cX8_formula 43 = .ok (.iconst 0, 1) := by decide +kernel
theorem dX8_formula_44 : decode cX8_formula 44 = .ok (.goto 14, 3) := by decide +kernel
theorem dX8_formula_47 : decode cX8_formula 47 = .ok (.iload_n 1, 1) := by decide +kernel
theorem dX8_formula_48 : decode cX8_formula 48 = .ok (.bipush 13, 2) := by decide +kernel
theorem dX8_formula_50 : decode cX8_formula 50 = .ok (.if_icmp .ne 7, 3) := by decide +kernel
theorem dX8_formula_53 : decode cX8_formula 53 = .ok (.iconst 2, 1) := by decide +kernel
theorem dX8_formula_54 : decode cX8_formula 54 = .ok (.goto 4, 3) := by decide +kernel
theorem dX8_formula_57 : decode cX8_formula 57 = .ok (.iconst 1, 1) := by decide +kernel
theorem dX8_formula_58 : decode cX8_formula 58 = .ok (.istore 12, 2) := by decide +kernel
theorem dX8_formula_60 : decode cX8_formula 60 = .ok (.iload_n 1, 1) := by decide +kernel
theorem dX8_formula_61 : decode cX8_formula 61 = .ok (.iconst 1, 1) := by decide +kernel
theorem dX8_formula_62 : decode cX8_formula 62 = .ok (.iconst 5, 1) := by decide +kernel
theorem dX8_formula_63 : decode cX8_formula 63 = .ok (.invokestatic 89, 3) := by decide +kernel
theorem dX8_formula_66 : decode cX8_formula 66 = .ok (.ifCond .eq 12, 3) := by decide +kernel
theorem dX8_formula_69 : decode cX8_formula 69 = .ok (.iload_n 2, 1) := by decide +kernel
theorem dX8_formula_70 : decode cX8_formula 70 = .ok (.iconst 0, 1) := by decide +kernel
theorem dX8_formula_71 : decode cX8_formula 71 = .ok (.iconst 3, 1) := by decide +kernel
theorem dX8_formula_72 : decode cX8_formula 72 = .ok (.invokestatic 89, 3) := by decide +kernel
theorem dX8_formula_75 : decode cX8_formula 75 = .ok (.ifCond .eq 30, 3) := by decide +kernel
theorem dX8_formula_78 : decode cX8_formula 78 = .ok (.iload 12, 2) := by decide +kernel
theorem dX8_formula_80 : decode cX8_formula 80 = .ok (.ifCond .le 11, 3) := by decide +kernel
theorem dX8_formula_83 : decode cX8_formula 83 = .ok (.aload_n 0, 1) := by decide +kernel
theorem dX8_formula_84 : decode cX8_formula 84 = .ok (.iload_n 2, 1) := by decide +kernel
theorem dX8_formula_85 : decode cX8_formula 85 = .ok (.invokevirtual 127, 3) := by decide +kernel
theorem dX8_formula_88 : decode cX8_formula 88 = .ok (.ifCond .eq 17, 3) := by decide +kernel
theorem dX8_formula_91 : decode cX8_formula 91 = .ok (.iload 12, 2) := by decide +kernel
theorem dX8_formula_93 : decode cX8_formula 93 = .ok (.iconst 1, 1) := by decide +kernel
theorem dX8_formula_94 : decode cX8_formula 94 = .ok (.if_icmp .le 13, 3) := by decide +kernel
theorem dX8_formula_97 : decode cX8_formula 97 = .ok (.aload_n 0, 1) := by decide +kernel
theorem dX8_formula_98 : decode cX8_formula 98 = .ok (.iload_n 3, 1) := by decide +kernel
theorem dX8_formula_99 : decode cX8_formula 99 = .ok (.invokevirtual 127, 3) := by decide +kernel
theorem dX8_formula_102 : decode cX8_formula 102 = .ok (.ifCond .ne 5, 3) := by decide +kernel
theorem dX8_formula_105 : decode cX8_formula 105 = .ok (.iconst (-1), 1) := by decide +kernel
theorem dX8_formula_106 : decode cX8_formula 106 = .ok (.ireturn, 1) := by decide +kernel
theorem dX8_formula_107 : decode cX8_formula 107 = .ok (.iconst 1, 1) := by decide +kernel
theorem dX8_formula_108 : decode cX8_formula 108 = .ok (.iload 12, 2) := by decide +kernel
theorem dX8_formula_110 : decode cX8_formula 110 = .ok (.ifCond .le 12, 3) := by decide +kernel
theorem dX8_formula_113 : decode cX8_formula 113 = .ok (.aload_n 0, 1) := by decide +kernel
theorem dX8_formula_114 : decode cX8_formula 114 = .ok (.getfield 48, 3) := by decide +kernel
theorem dX8_formula_117 : decode cX8_formula 117 = .ok (.iload_n 2, 1) := by decide +kernel
theorem dX8_formula_118 : decode cX8_formula 118 = .ok (.iaload, 1) := by decide +kernel
theorem dX8_formula_119 : decode cX8_formula 119 = .ok (.goto 4, 3) := by decide +kernel
theorem dX8_formula_122 : decode cX8_formula 122 = .ok (.iconst 0, 1) := by decide +kernel
theorem dX8_formula_123 : decode cX8_formula 123 = .ok (.iadd, 1) := by decide +kernel
theorem dX8_formula_124 : decode cX8_formula 124 = .ok (.iload 12, 2) := by decide +kernel
theorem dX8_formula_126 : decode cX8_formula 126 = .ok (.iconst 1, 1) := by decide +kernel
theorem dX8_formula_127 : decode cX8_formula 127 = .ok (.if_icmp .le 12, 3) := by decide +kernel
theorem dX8_formula_130 : decode cX8_formula 130 = .ok (.aload_n 0, 1) := by decide +kernel
theorem dX8_formula_131 : decode cX8_formula 131 = .ok (.getfield 48, 3) := by decide +kernel
theorem dX8_formula_134 : decode cX8_formula 134 = .ok (.iload_n 3, 1) := by decide +kernel
theorem dX8_formula_135 : decode cX8_formula 135 = .ok (.iaload, 1) := by decide +kernel
theorem dX8_formula_136 : decode cX8_formula 136 = .ok (.goto 4, 3) := by decide +kernel
theorem dX8_formula_139 : decode cX8_formula 139 = .ok (.iconst 0, 1) := by decide +kernel
theorem dX8_formula_140 : decode cX8_formula 140 = .ok (.iadd, 1) := by decide +kernel
theorem dX8_formula_141 : decode cX8_formula 141 = .ok (.istore 13, 2) := by decide +kernel
theorem dX8_formula_143 : decode cX8_formula 143 = .ok (.aload_n 0, 1) := by decide +kernel
theorem dX8_formula_144 : decode cX8_formula 144 = .ok (.getfield 119, 3) := by decide +kernel
theorem dX8_formula_147 : decode cX8_formula 147 = .ok (.bipush 60, 2) := by decide +kernel
theorem dX8_formula_149 : decode cX8_formula 149 = .ok (.if_icmp .eq 11, 3) := by decide +kernel
theorem dX8_formula_152 : decode cX8_formula 152 = .ok (.iload 13, 2) := by decide +kernel
theorem dX8_formula_154 : decode cX8_formula 154 = .ok (.sipush 200, 3) := by decide +kernel
theorem dX8_formula_157 : decode cX8_formula 157 = .ok (.if_icmp .le 6, 3) := by decide +kernel
theorem dX8_formula_160 : decode cX8_formula 160 = .ok (.bipush (-3), 2) := by decide +kernel
theorem dX8_formula_162 : decode cX8_formula 162 = .ok (.ireturn, 1) := by decide +kernel
theorem dX8_formula_163 : decode cX8_formula 163 = .ok (.aload_n 0, 1) := by decide +kernel
theorem dX8_formula_164 : decode cX8_formula 164 = .ok (.getfield 119, 3) := by decide +kernel
theorem dX8_formula_167 : decode cX8_formula 167 = .ok (.istore 14, 2) := by decide +kernel
theorem dX8_formula_169 : decode cX8_formula 169 = .ok (.aload_n 0, 1) := by decide +kernel
theorem dX8_formula_170 : decode cX8_formula 170 = .ok (.dup, 1) := by decide +kernel
theorem dX8_formula_171 : decode cX8_formula 171 = .ok (.getfield 119, 3) := by decide +kernel
theorem dX8_formula_174 : decode cX8_formula 174 = .ok (.iconst 1, 1) := by decide +kernel
theorem dX8_formula_175 : decode cX8_formula 175 = .ok (.iadd, 1) := by decide +kernel
theorem dX8_formula_176 : decode cX8_formula 176 = .ok (.putfield 119, 3) := by decide +kernel
theorem dX8_formula_179 : decode cX8_formula 179 = .ok (.aload_n 0, 1) := by decide +kernel
theorem dX8_formula_180 : decode cX8_formula 180 = .ok (.getfield 27, 3) := by decide +kernel
theorem dX8_formula_183 : decode cX8_formula 183 = .ok (.iload 14, 2) := by decide +kernel
theorem dX8_formula_185 : decode cX8_formula 185 = .ok (.iload_n 1, 1) := by decide +kernel
theorem dX8_formula_186 : decode cX8_formula 186 = .ok (.iastore, 1) := by decide +kernel
theorem dX8_formula_187 : decode cX8_formula 187 = .ok (.aload_n 0, 1) := by decide +kernel
theorem dX8_formula_188 : decode cX8_formula 188 = .ok (.getfield 30, 3) := by decide +kernel
theorem dX8_formula_191 : decode cX8_formula 191 = .ok (.iload 14, 2) := by decide +kernel
theorem dX8_formula_193 : decode cX8_formula 193 = .ok (.iload_n 2, 1) := by decide +kernel
theorem dX8_formula_194 : decode cX8_formula 194 = .ok (.iastore, 1) := by decide +kernel
theorem dX8_formula_195 : decode cX8_formula 195 = .ok (.aload_n 0, 1) := by decide +kernel
theorem dX8_formula_196 : decode cX8_formula 196 = .ok (.getfield 33, 3) := by decide +kernel
theorem dX8_formula_199 : decode cX8_formula 199 = .ok (.iload 14, 2) := by decide +kernel
theorem dX8_formula_201 : decode cX8_formula 201 = .ok (.dload 8, 2) := by decide +kernel
theorem dX8_formula_203 : decode cX8_formula 203 = .ok (.dastore, 1) := by decide +kernel
theorem dX8_formula_204 : decode cX8_formula 204 = .ok (.aload_n 0, 1) := by decide +kernel
theorem dX8_formula_205 : decode cX8_formula 205 = .ok (.getfield 36, 3) := by decide +kernel
theorem dX8_formula_208 : decode cX8_formula 208 = .ok (.iload 14, 2) := by decide +kernel
theorem dX8_formula_210 : decode cX8_formula 210 = .ok (.dload 10, 2) := by decide +kernel
theorem dX8_formula_212 : decode cX8_formula 212 = .ok (.dastore, 1) := by decide +kernel
theorem dX8_formula_213 : decode cX8_formula 213 = .ok (.aload_n 0, 1) := by decide +kernel
theorem dX8_formula_214 : decode cX8_formula 214 = .ok (.getfield 39, 3) := by decide +kernel
theorem dX8_formula_217 : decode cX8_formula 217 = .ok (.iload 14, 2) := by decide +kernel
theorem dX8_formula_219 : decode cX8_formula 219 = .ok (.iload 12, 2) := by decide +kernel
theorem dX8_formula_221 : decode cX8_formula 221 = .ok (.iastore, 1) := by decide +kernel
theorem dX8_formula_222 : decode cX8_formula 222 = .ok (.aload_n 0, 1) := by decide +kernel
theorem dX8_formula_223 : decode cX8_formula 223 = .ok (.getfield 45, 3) := by decide +kernel
theorem dX8_formula_226 : decode cX8_formula 226 = .ok (.iload 14, 2) := by decide +kernel
theorem dX8_formula_228 : decode cX8_formula 228 = .ok (.iconst 0, 1) := by decide +kernel
theorem dX8_formula_229 : decode cX8_formula 229 = .ok (.bastore, 1) := by decide +kernel
theorem dX8_formula_230 : decode cX8_formula 230 = .ok (.iload 12, 2) := by decide +kernel
theorem dX8_formula_232 : decode cX8_formula 232 = .ok (.ifCond .le 21, 3) := by decide +kernel
theorem dX8_formula_235 : decode cX8_formula 235 = .ok (.aload_n 0, 1) := by decide +kernel
theorem dX8_formula_236 : decode cX8_formula 236 = .ok (.getfield 42, 3) := by decide +kernel
theorem dX8_formula_239 : decode cX8_formula 239 = .ok (.bipush 8, 2) := by decide +kernel
theorem dX8_formula_241 : decode cX8_formula 241 = .ok (.iload 14, 2) := by decide +kernel
theorem dX8_formula_243 : decode cX8_formula 243 = .ok (.imul, 1) := by decide +kernel
theorem dX8_formula_244 : decode cX8_formula 244 = .ok (.iload_n 2, 1) := by decide +kernel
theorem dX8_formula_245 : decode cX8_formula 245 = .ok (.iastore, 1) := by decide +kernel
theorem dX8_formula_246 : decode cX8_formula 246 = .ok (.aload_n 0, 1) := by decide +kernel
theorem dX8_formula_247 : decode cX8_formula 247 = .ok (.getfield 45, 3) := by decide +kernel
theorem dX8_formula_250 : decode cX8_formula 250 = .ok (.iload_n 2, 1) := by decide +kernel
theorem dX8_formula_251 : decode cX8_formula 251 = .ok (.iconst 1, 1) := by decide +kernel
theorem dX8_formula_252 : decode cX8_formula 252 = .ok (.bastore, 1) := by decide +kernel
theorem dX8_formula_253 : decode cX8_formula 253 = .ok (.iload 12, 2) := by decide +kernel
theorem dX8_formula_255 : decode cX8_formula 255 = .ok (.iconst 1, 1) := by decide +kernel
theorem dX8_formula_256 : decode cX8_formula 256 = .ok (.if_icmp .le 23, 3) := by decide +kernel
theorem dX8_formula_259 : decode cX8_formula 259 = .ok (.aload_n 0, 1) := by decide +kernel
theorem dX8_formula_260 : decode cX8_formula 260 = .ok (.getfield 42, 3) := by decide +kernel
theorem dX8_formula_263 : decode cX8_formula 263 = .ok (.bipush 8, 2) := by decide +kernel
theorem dX8_formula_265 : decode cX8_formula 265 = .ok (.iload 14, 2) := by decide +kernel
theorem dX8_formula_267 : decode cX8_formula 267 = .ok (.imul, 1) := by decide +kernel
theorem dX8_formula_268 : decode cX8_formula 268 = .ok (.iconst 1, 1) := by decide +kernel
theorem dX8_formula_269 : decode cX8_formula 269 = .ok (.iadd, 1) := by decide +kernel
theorem dX8_formula_270 : decode cX8_formula 270 = .ok (.iload_n 3, 1) := by decide +kernel
theorem dX8_formula_271 : decode cX8_formula 271 = .ok (.iastore, 1) := by decide +kernel
theorem dX8_formula_272 : decode cX8_formula 272 = .ok (.aload_n 0, 1) := by decide +kernel
theorem dX8_formula_273 : decode cX8_formula 273 = .ok (.getfield 45, 3) := by decide +kernel
theorem dX8_formula_276 : decode cX8_formula 276 = .ok (.iload_n 3, 1) := by decide +kernel
theorem dX8_formula_277 : decode cX8_formula 277 = .ok (.iconst 1, 1) := by decide +kernel
theorem dX8_formula_278 : decode cX8_formula 278 = .ok (.bastore, 1) := by decide +kernel
theorem dX8_formula_279 : decode cX8_formula 279 = .ok (.aload_n 0, 1) := by decide +kernel
theorem dX8_formula_280 : decode cX8_formula 280 = .ok (.iload 14, 2) := by decide +kernel
theorem dX8_formula_282 : decode cX8_formula 282 = .ok (.invokevirtual 131, 3) := by decide +kernel
theorem dX8_formula_285 : decode cX8_formula 285 = .ok (.iload 14, 2) := by decide +kernel
theorem dX8_formula_287 : decode cX8_formula 287 = .ok (.ireturn, 1) := by decide +kernel
theorem dX8_judge_0 : decode cX8_judge 0 = .ok (.aload_n 0, 1) := by decide +kernel
theorem dX8_judge_1 : decode cX8_judge 1 = .ok (.getfield 27, 3) := by decide +kernel
theorem dX8_judge_4 : decode cX8_judge 4 = .ok (.iload_n 1, 1) := by decide +kernel
theorem dX8_judge_5 : decode cX8_judge 5 = .ok (.iaload, 1) := by decide +kernel
theorem dX8_judge_6 : decode cX8_judge 6 = .ok (.istore_n 2, 1) := by decide +kernel
theorem dX8_judge_7 : decode cX8_judge 7 = .ok (.iconst 1, 1) := by decide +kernel
theorem dX8_judge_8 : decode cX8_judge 8 = .ok (.istore_n 3, 1) := by decide +kernel
theorem dX8_judge_9 : decode cX8_judge 9 = .ok (.iload_n 2, 1) := by decide +kernel
theorem dX8_judge_10 : decode cX8_judge 10 = .ok (.iconst 1, 1) := by decide +kernel
theorem dX8_judge_11 : decode cX8_judge 11 = .ok (.iconst 4, 1) := by decide +kernel
theorem dX8_judge_12 : decode cX8_judge 12 = .ok (.invokestatic 89, 3) := by decide +kernel
theorem dX8_judge_15 : decode cX8_judge 15 = .ok (.ifCond .eq 14, 3) := by decide +kernel
theorem dX8_judge_18 : decode cX8_judge 18 = .ok (.iconst 1, 1) := by decide +kernel
theorem dX8_judge_19 : decode cX8_judge 19 = .ok (.aload_n 0, 1) := by decide +kernel
theorem dX8_judge_20 : decode cX8_judge 20 = .ok (.getfield 30, 3) := by decide +kernel
theorem dX8_judge_23 : decode cX8_judge 23 = .ok (.iload_n 1, 1) := by decide +kernel
theorem dX8_judge_24 : decode cX8_judge 24 = .ok (.iaload, 1) := by decide +kernel
theorem dX8_judge_25 : decode cX8_judge 25 = .ok (.ishl, 1) := by decide +kernel
theorem dX8_judge_26 : decode cX8_judge 26 = .ok (.goto 4, 3) := by decide +kernel
theorem dX8_judge_29 : decode cX8_judge 29 = .ok (.iconst 0, 1) := by decide +kernel
theorem dX8_judge_30 : decode cX8_judge 30 = .ok (.istore 4, 2) := by decide +kernel
theorem dX8_judge_32 : decode cX8_judge 32 = .ok (.iconst 1, 1) := by decide +kernel
theorem dX8_judge_33 : decode cX8_judge 33 = .ok (.istore 5, 2) := by decide +kernel
theorem dX8_judge_35 : decode cX8_judge 35 = .ok (.bipush 15, 2) := by decide +kernel
theorem dX8_judge_37 : decode cX8_judge 37 = .ok (.istore 6, 2) := by decide +kernel
theorem dX8_judge_39 : decode cX8_judge 39 = .ok (.iconst 0, 1) := by decide +kernel
theorem dX8_judge_40 : decode cX8_judge 40 = .ok (.istore 7, 2) := by decide +kernel
theorem dX8_judge_42 : decode cX8_judge 42 = .ok (.iload 7, 2) := by decide +kernel
theorem dX8_judge_44 : decode cX8_judge 44 = .ok (.aload_n 0, 1) := by decide +kernel
theorem dX8_judge_45 : decode cX8_judge 45 = .ok (.getfield 39, 3) := by decide +kernel
theorem dX8_judge_48 : decode cX8_judge 48 = .ok (.iload_n 1, 1) := by decide +kernel
theorem dX8_judge_49 : decode cX8_judge 49 = .ok (.iaload, 1) := by decide +kernel
theorem dX8_judge_50 : decode cX8_judge 50 = .ok (.if_icmp .ge 79, 3) := by decide +kernel
theorem dX8_judge_53 : decode cX8_judge 53 = .ok (.aload_n 0, 1) := by decide +kernel
theorem dX8_judge_54 : decode cX8_judge 54 = .ok (.getfield 42, 3) := by decide +kernel
theorem dX8_judge_57 : decode cX8_judge 57 = .ok (.bipush 8, 2) := by decide +kernel
theorem dX8_judge_59 : decode cX8_judge 59 = .ok (.iload_n 1, 1) := by decide +kernel
theorem dX8_judge_60 : decode cX8_judge 60 = .ok (.imul, 1) := by decide +kernel
theorem dX8_judge_61 : decode cX8_judge 61 = .ok (.iload 7, 2) := by decide +kernel
theorem dX8_judge_63 : decode cX8_judge 63 = .ok (.iadd, 1) := by decide +kernel
theorem dX8_judge_64 : decode cX8_judge 64 = .ok (.iaload, 1) := by decide +kernel
theorem dX8_judge_65 : decode cX8_judge 65 = .ok (.istore 8, 2) := by decide +kernel
theorem dX8_judge_67 : decode cX8_judge 67 = .ok (.iload_n 3, 1) := by decide +kernel
theorem dX8_judge_68 : decode cX8_judge 68 = .ok (.aload_n 0, 1) := by decide +kernel
theorem dX8_judge_69 : decode cX8_judge 69 = .ok (.getfield 48, 3) := by decide +kernel
theorem dX8_judge_72 : decode cX8_judge 72 = .ok (.iload 8, 2) := by decide +kernel
theorem dX8_judge_74 : decode cX8_judge 74 = .ok (.iaload, 1) := by decide +kernel
theorem dX8_judge_75 : decode cX8_judge 75 = .ok (.iadd, 1) := by decide +kernel
theorem dX8_judge_76 : decode cX8_judge 76 = .ok (.istore_n 3, 1) := by decide +kernel
theorem dX8_judge_77 : decode cX8_judge 77 = .ok (.iload 4, 2) := by decide +kernel
theorem dX8_judge_79 : decode cX8_judge 79 = .ok (.aload_n 0, 1) := by decide +kernel
theorem dX8_judge_80 : decode cX8_judge 80 = .ok (.getfield 51, 3) := by decide +kernel
theorem dX8_judge_83 : decode cX8_judge 83 = .ok (.iload 8, 2) := by decide +kernel
theorem dX8_judge_85 : decode cX8_judge 85 = .ok (.iaload, 1) := by decide +kernel
theorem dX8_judge_86 : decode cX8_judge 86 = .ok (.ior, 1) := by decide +kernel
theorem dX8_judge_87 : decode cX8_judge 87 = .ok (.istore 4, 2) := by decide +kernel
theorem dX8_judge_89 : decode cX8_judge 89 = .ok (.iload 5, 2) := by decide +kernel
theorem dX8_judge_91 : decode cX8_judge 91 = .ok (.ifCond .eq 17, 3) := by decide +kernel
theorem dX8_judge_94 : decode cX8_judge 94 = .ok (.aload_n 0, 1) := by decide +kernel
theorem dX8_judge_95 : decode cX8_judge 95 = .ok (.getfield 57, 3) := by decide +kernel
theorem dX8_judge_98 : decode cX8_judge 98 = .ok (.iload 8, 2) := by decide +kernel
theorem dX8_judge_100 : decode cX8_judge 100 = .ok (.baload, 1) := by decide +kernel
theorem dX8_judge_101 : decode cX8_judge 101 = .ok (.ifCond .eq 7, 3) := by decide +kernel
theorem dX8_judge_104 : decode cX8_judge 104 = .ok (.iconst 1, 1) := by decide +kernel
theorem dX8_judge_105 : decode cX8_judge 105 = .ok (.goto 4, 3) := by decide +kernel
theorem dX8_judge_108 : decode cX8_judge 108 = .ok (.iconst 0, 1) := by decide +kernel
theorem dX8_judge_109 : decode cX8_judge 109 = .ok (.istore 5, 2) := by decide +kernel
theorem dX8_judge_111 : decode cX8_judge 111 = .ok (.iload 6, 2) := by decide +kernel
theorem dX8_judge_113 : decode cX8_judge 113 = .ok (.aload_n 0, 1) := by decide +kernel
theorem dX8_judge_114 : decode cX8_judge 114 = .ok (.getfield 54, 3) := by decide +kernel
theorem dX8_judge_117 : decode cX8_judge 117 = .ok (.iload 8, 2) := by decide +kernel
theorem dX8_judge_119 : decode cX8_judge 119 = .ok (.iaload, 1) := by decide +kernel
theorem dX8_judge_120 : decode cX8_judge 120 = .ok (.iand, 1) := by decide +kernel
theorem dX8_judge_121 : decode cX8_judge 121 = .ok (.istore 6, 2) := by decide +kernel
theorem dX8_judge_123 : decode cX8_judge 123 = .ok (.iinc 7 1, 3) := by decide +kernel
theorem dX8_judge_126 : decode cX8_judge 126 = .ok (.goto (-84), 3) := by decide +kernel
theorem dX8_judge_129 : decode cX8_judge 129 = .ok (.aload_n 0, 1) := by decide +kernel
theorem dX8_judge_130 : decode cX8_judge 130 = .ok (.getfield 48, 3) := by decide +kernel
theorem dX8_judge_133 : decode cX8_judge 133 = .ok (.iload_n 1, 1) := by decide +kernel
theorem dX8_judge_134 : decode cX8_judge 134 = .ok (.iload_n 3, 1) := by decide +kernel
theorem dX8_judge_135 : decode cX8_judge 135 = .ok (.iastore, 1) := by decide +kernel
theorem dX8_judge_136 : decode cX8_judge 136 = .ok (.aload_n 0, 1) := by decide +kernel
theorem dX8_judge_137 : decode cX8_judge 137 = .ok (.getfield 51, 3) := by decide +kernel
theorem dX8_judge_140 : decode cX8_judge 140 = .ok (.iload_n 1, 1) := by decide +kernel
theorem dX8_judge_141 : decode cX8_judge 141 = .ok (.iload 4, 2) := by decide +kernel
theorem dX8_judge_143 : decode cX8_judge 143 = .ok (.iastore, 1) := by decide +kernel
theorem dX8_judge_144 : decode cX8_judge 144 = .ok (.aload_n 0, 1) := by decide +kernel
theorem dX8_judge_145 : decode cX8_judge 145 = .ok (.getfield 33, 3) := by decide +kernel
theorem dX8_judge_148 : decode cX8_judge 148 = .ok (.iload_n 1, 1) := by decide +kernel
theorem dX8_judge_149 : decode cX8_judge 149 = .ok (.daload, 1) := by decide +kernel
theorem dX8_judge_150 : decode cX8_judge 150 = .ok (.dconst 0, 1) := by decide +kernel
theorem dX8_judge_151 : decode cX8_judge 151 = .ok (.dcmp .g, 1) := by decide +kernel
theorem dX8_judge_152 : decode cX8_judge 152 = .ok (.ifCond .ge 7, 3) := by decide +kernel
theorem dX8_judge_155 : decode cX8_judge 155 = .ok (.iconst 1, 1) := by decide +kernel
theorem dX8_judge_156 : decode cX8_judge 156 = .ok (.goto 4, 3) := by decide +kernel
theorem dX8_judge_159 : decode cX8_judge 159 = .ok (.iconst 0, 1) := by decide +kernel
theorem dX8_judge_160 : decode cX8_judge 160 = .ok (.istore 7, 2) := by decide +kernel
theorem dX8_judge_162 : decode cX8_judge 162 = .ok (.aload_n 0, 1) := by decide +kernel
theorem dX8_judge_163 : decode cX8_judge 163 = .ok (.getfield 57, 3) := by decide +kernel
theorem dX8_judge_166 : decode cX8_judge 166 = .ok (.iload_n 1, 1) := by decide +kernel
theorem dX8_judge_167 : decode cX8_judge 167 = .ok (.iload_n 2, 1) := by decide +kernel
theorem dX8_judge_168 : decode cX8_judge 168 = .ok (.ifCond .ne 16, 3) := by decide +kernel
theorem dX8_judge_171 : decode cX8_judge 171 = .ok (.iload 7, 2) := by decide +kernel
theorem dX8_judge_173 : decode cX8_judge 173 = .ok (.ifCond .ne 7, 3) := by decide +kernel
theorem dX8_judge_176 : decode cX8_judge 176 = .ok (.iconst 1, 1) := by decide +kernel
theorem dX8_judge_177 : decode cX8_judge 177 = .ok (.goto 34, 3) := by decide +kernel
theorem dX8_judge_180 : decode cX8_judge 180 = .ok (.iconst 0, 1) := by decide +kernel
theorem dX8_judge_181 : decode cX8_judge 181 = .ok (.goto 30, 3) := by decide +kernel
theorem dX8_judge_184 : decode cX8_judge 184 = .ok (.iload_n 2, 1) := by decide +kernel
theorem dX8_judge_185 : decode cX8_judge 185 = .ok (.iconst 5, 1) := by decide +kernel
theorem dX8_judge_186 : decode cX8_judge 186 = .ok (.if_icmp .ne 7, 3) := by decide +kernel
theorem dX8_judge_189 : decode cX8_judge 189 = .ok (.iconst 0, 1) := by decide +kernel
theorem dX8_judge_190 : decode cX8_judge 190 = .ok (.goto 21, 3) := by decide +kernel
theorem dX8_judge_193 : decode cX8_judge 193 = .ok (.iload_n 2, 1) := by decide +kernel
theorem dX8_judge_194 : decode cX8_judge 194 = .ok (.bipush 12, 2) := by decide +kernel
theorem dX8_judge_196 : decode cX8_judge 196 = .ok (.if_icmp .eq 9, 3) := by decide +kernel
theorem dX8_judge_199 : decode cX8_judge 199 = .ok (.iload_n 2, 1) := by decide +kernel
theorem dX8_judge_200 : decode cX8_judge 200 = .ok (.bipush 13, 2) := by decide +kernel
theorem dX8_judge_202 : decode cX8_judge 202 = .ok (.if_icmp .ne 8, 3) := by decide +kernel
theorem dX8_judge_205 : decode cX8_judge 205 = .ok (.iload 5, 2) := by decide +kernel
theorem dX8_judge_207 : decode cX8_judge 207 = .ok (.goto 4, 3) := by decide +kernel
theorem dX8_judge_210 : decode cX8_judge 210 = .ok (.iconst 1, 1) := by decide +kernel
theorem dX8_judge_211 : decode cX8_judge 211 = .ok (.bastore, 1) := by decide +kernel
theorem dX8_judge_212 : decode cX8_judge 212 = .ok (.iload_n 2, 1) := by decide +kernel
theorem dX8_judge_213 : decode cX8_judge 213 = .ok (.iconst 1, 1) := by decide +kernel
theorem dX8_judge_214 : decode cX8_judge 214 = .ok (.iconst 4, 1) := by decide +kernel
theorem dX8_judge_215 : decode cX8_judge 215 = .ok (.invokestatic 89, 3) := by decide +kernel
theorem dX8_judge_218 : decode cX8_judge 218 = .ok (.ifCond .eq 8, 3) := by decide +kernel
theorem dX8_judge_221 : decode cX8_judge 221 = .ok (.bipush 15, 2) := by decide +kernel
theorem dX8_judge_223 : decode cX8_judge 223 = .ok (.goto 44, 3) := by decide +kernel
theorem dX8_judge_226 : decode cX8_judge 226 = .ok (.iload_n 2, 1) := by decide +kernel
theorem dX8_judge_227 : decode cX8_judge 227 = .ok (.bipush 6, 2) := by decide +kernel
theorem dX8_judge_229 : decode cX8_judge 229 = .ok (.if_icmp .eq 32, 3) := by decide +kernel
theorem dX8_judge_232 : decode cX8_judge 232 = .ok (.iload_n 2, 1) := by decide +kernel
theorem dX8_judge_233 : decode cX8_judge 233 = .ok (.bipush 8, 2) := by decide +kernel
theorem dX8_judge_235 : decode cX8_judge 235 = .ok (.if_icmp .eq 26, 3) := by decide +kernel
theorem dX8_judge_238 : decode cX8_judge 238 = .ok (.iload_n 2, 1) := by decide +kernel
theorem dX8_judge_239 : decode cX8_judge 239 = .ok (.bipush 9, 2) := by decide +kernel
theorem dX8_judge_241 : decode cX8_judge 241 = .ok (.if_icmp .eq 20, 3) := by decide +kernel
theorem dX8_judge_244 : decode cX8_judge 244 = .ok (.iload_n 2, 1) := by decide +kernel
theorem dX8_judge_245 : decode cX8_judge 245 = .ok (.bipush 12, 2) := by decide +kernel
theorem dX8_judge_247 : decode cX8_judge 247 = .ok (.if_icmp .eq 14, 3) := by decide +kernel
theorem dX8_judge_250 : decode cX8_judge 250 = .ok (.iload_n 2, 1) := by decide +kernel
theorem dX8_judge_251 : decode cX8_judge 251 = .ok (.bipush 7, 2) := by decide +kernel
theorem dX8_judge_253 : decode cX8_judge 253 = .ok (.if_icmp .ne 13, 3) := by decide +kernel
theorem dX8_judge_256 : decode cX8_judge 256 = .ok (.iload 5, 2) := by decide +kernel
theorem dX8_judge_258 : decode cX8_judge 258 = .ok (.ifCond .eq 8, 3) := by decide +kernel
theorem dX8_judge_261 : decode cX8_judge 261 = .ok (.iload 6, 2) := by decide +kernel
theorem dX8_judge_263 : decode cX8_judge 263 = .ok (.goto 4, 3) := by decide +kernel
theorem dX8_judge_266 : decode cX8_judge 266 = .ok (.iconst 0, 1) := by decide +kernel
theorem dX8_judge_267 : decode cX8_judge 267 = .ok (.istore 8, 2) := by decide +kernel
theorem dX8_judge_269 : decode cX8_judge 269 = .ok (.aload_n 0, 1) := by decide +kernel
theorem dX8_judge_270 : decode cX8_judge 270 = .ok (.getfield 54, 3) := by decide +kernel
theorem dX8_judge_273 : decode cX8_judge 273 = .ok (.iload_n 1, 1) := by decide +kernel
theorem dX8_judge_274 : decode cX8_judge 274 = .ok (.iload 8, 2) := by decide +kernel
theorem dX8_judge_276 : decode cX8_judge 276 = .ok (.iload 4, 2) := by decide +kernel
theorem dX8_judge_278 : decode cX8_judge 278 = .ok (.iconst (-1), 1) := by decide +kernel
theorem dX8_judge_279 : decode cX8_judge 279 = .ok (.ixor, 1) := by decide +kernel
theorem dX8_judge_280 : decode cX8_judge 280 = .ok (.ior, 1) := by decide +kernel
theorem dX8_judge_281 : decode cX8_judge 281 = .ok (.bipush 15, 2) := by decide +kernel
theorem dX8_judge_283 : decode cX8_judge 283 = .ok (.iand, 1) := by decide +kernel
theorem dX8_judge_284 : decode cX8_judge 284 = .ok (.iastore, 1) := by decide +kernel
theorem dX8_judge_285 : decode cX8_judge 285 = .ok (.return_, 1) := by decide +kernel
theorem dX8_part_0 : decode cX8_part 0 = .ok (.aload_n 0, 1) := by decide +kernel
theorem dX8_part_1 : decode cX8_part 1 = .ok (.iload_n 1, 1) := by decide +kernel
theorem dX8_part_2 : decode cX8_part 2 = .ok (.invokevirtual 127, 3) := by decide +kernel
theorem dX8_part_5 : decode cX8_part 5 = .ok (.ifCond .eq 30, 3) := by decide +kernel
theorem dX8_part_8 : decode cX8_part 8 = .ok (.aload_n 0, 1) := by decide +kernel
theorem dX8_part_9 : decode cX8_part 9 = .ok (.getfield 27, 3) := by decide +kernel
theorem dX8_part_12 : decode cX8_part 12 = .ok (.iload_n 1, 1) := by decide +kernel
theorem dX8_part_13 : decode cX8_part 13 = .ok (.iaload, 1) := by decide +kernel
theorem dX8_part_14 : decode cX8_part 14 = .ok (.bipush 6, 2) := by decide +kernel
theorem dX8_part_16 : decode cX8_part 16 = .ok (.bipush 8, 2) := by decide +kernel
theorem dX8_part_18 : decode cX8_part 18 = .ok (.invokestatic 89, 3) := by decide +kernel
theorem dX8_part_21 : decode cX8_part 21 = .ok (.ifCond .eq 14, 3) := by decide +kernel
theorem dX8_part_24 : decode cX8_part 24 = .ok (.iload_n 2, 1) := by decide +kernel
theorem dX8_part_25 : decode cX8_part 25 = .ok (.iconst 0, 1) := by decide +kernel
theorem dX8_part_26 : decode cX8_part 26 = .ok (.iload_n 1, 1) := by decide +kernel
theorem dX8_part_27 : decode cX8_part 27 = .ok (.iconst 1, 1) := by decide +kernel
theorem dX8_part_28 : decode cX8_part 28 = .ok (.isub, 1) := by decide +kernel
theorem dX8_part_29 : decode cX8_part 29 = .ok (.invokestatic 89, 3) := by decide +kernel
theorem dX8_part_32 : decode cX8_part 32 = .ok (.ifCond .ne 5, 3) := by decide +kernel
theorem dX8_part_35 : decode cX8_part 35 = .ok (.iconst (-1), 1) := by decide +kernel
theorem dX8_part_36 : decode cX8_part 36 = .ok (.ireturn, 1) := by decide +kernel
theorem dX8_part_37 : decode cX8_part 37 = .ok (.aload_n 0, 1) := by decide +kernel
theorem dX8_part_38 : decode cX8_part 38 = .ok (.getfield 45, 3) := by decide +kernel
theorem dX8_part_41 : decode cX8_part 41 = .ok (.iload_n 1, 1) := by decide +kernel
theorem dX8_part_42 : decode cX8_part 42 = .ok (.baload, 1) := by decide +kernel
theorem dX8_part_43 : decode cX8_part 43 = .ok (.ifCond .eq 6, 3) := by decide +kernel
theorem dX8_part_46 : decode cX8_part 46 = .ok (.bipush (-2), 2) := by decide +kernel
theorem dX8_part_48 : decode cX8_part 48 = .ok (.ireturn, 1) := by decide +kernel
theorem dX8_part_49 : decode cX8_part 49 = .ok (.aload_n 0, 1) := by decide +kernel
theorem dX8_part_50 : decode cX8_part 50 = .ok (.getfield 39, 3) := by decide +kernel
theorem dX8_part_53 : decode cX8_part 53 = .ok (.iload_n 1, 1) := by decide +kernel
theorem dX8_part_54 : decode cX8_part 54 = .ok (.iaload, 1) := by decide +kernel
theorem dX8_part_55 : decode cX8_part 55 = .ok (.bipush 8, 2) := by decide +kernel
theorem dX8_part_57 : decode cX8_part 57 = .ok (.if_icmp .eq 22, 3) := by decide +kernel
theorem dX8_part_60 : decode cX8_part 60 = .ok (.aload_n 0, 1) := by decide +kernel
theorem dX8_part_61 : decode cX8_part 61 = .ok (.getfield 48, 3) := by decide +kernel
theorem dX8_part_64 : decode cX8_part 64 = .ok (.iload_n 1, 1) := by decide +kernel
theorem dX8_part_65 : decode cX8_part 65 = .ok (.iaload, 1) := by decide +kernel
theorem dX8_part_66 : decode cX8_part 66 = .ok (.aload_n 0, 1) := by decide +kernel
theorem dX8_part_67 : decode cX8_part 67 = .ok (.getfield 48, 3) := by decide +kernel
theorem dX8_part_70 : decode cX8_part 70 = .ok (.iload_n 2, 1) := by decide +kernel
theorem dX8_part_71 : decode cX8_part 71 = .ok (.iaload, 1) := by decide +kernel
theorem dX8_part_72 : decode cX8_part 72 = .ok (.iadd, 1) := by decide +kernel
theorem dX8_part_73 : decode cX8_part 73 = .ok (.sipush 200, 3) := by decide +kernel
theorem dX8_part_76 : decode cX8_part 76 = .ok (.if_icmp .le 6, 3) := by decide +kernel
theorem dX8_part_79 : decode cX8_part 79 = .ok (.bipush (-3), 2) := by decide +kernel
theorem dX8_part_81 : decode cX8_part 81 = .ok (.ireturn, 1) := by decide +kernel
theorem dX8_part_82 : decode cX8_part 82 = .ok (.aload_n 0, 1) := by decide +kernel
theorem dX8_part_83 : decode cX8_part 83 = .ok (.getfield 42, 3) := by decide +kernel
theorem dX8_part_86 : decode cX8_part 86 = .ok (.bipush 8, 2) := by decide +kernel
theorem dX8_part_88 : decode cX8_part 88 = .ok (.iload_n 1, 1) := by decide +kernel
theorem dX8_part_89 : decode cX8_part 89 = .ok (.imul, 1) := by decide +kernel
theorem dX8_part_90 : decode cX8_part 90 = .ok (.aload_n 0, 1) := by decide +kernel
theorem dX8_part_91 : decode cX8_part 91 = .ok (.getfield 39, 3) := by decide +kernel
theorem dX8_part_94 : decode cX8_part 94 = .ok (.iload_n 1, 1) := by decide +kernel
theorem dX8_part_95 : decode cX8_part 95 = .ok (.iaload, 1) := by decide +kernel
theorem dX8_part_96 : decode cX8_part 96 = .ok (.iadd, 1) := by decide +kernel
theorem dX8_part_97 : decode cX8_part 97 = .ok (.iload_n 2, 1) := by decide +kernel
theorem dX8_part_98 : decode cX8_part 98 = .ok (.iastore, 1) := by decide +kernel
theorem dX8_part_99 : decode cX8_part 99 = .ok (.aload_n 0, 1) := by decide +kernel
theorem dX8_part_100 : decode cX8_part 100 = .ok (.getfield 39, 3) := by decide +kernel
theorem dX8_part_103 : decode cX8_part 103 = .ok (.iload_n 1, 1) := by decide +kernel
theorem dX8_part_104 : decode cX8_part 104 = .ok (.dup2, 1) := by decide +kernel
theorem dX8_part_105 : decode cX8_part 105 = .ok (.iaload, 1) := by decide +kernel
theorem dX8_part_106 : decode cX8_part 106 = .ok (.iconst 1, 1) := by decide +kernel
theorem dX8_part_107 : decode cX8_part 107 = .ok (.iadd, 1) := by decide +kernel
theorem dX8_part_108 : decode cX8_part 108 = .ok (.iastore, 1) := by decide +kernel
theorem dX8_part_109 : decode cX8_part 109 = .ok (.aload_n 0, 1) := by decide +kernel
theorem dX8_part_110 : decode cX8_part 110 = .ok (.getfield 45, 3) := by decide +kernel
theorem dX8_part_113 : decode cX8_part 113 = .ok (.iload_n 2, 1) := by decide +kernel
theorem dX8_part_114 : decode cX8_part 114 = .ok (.iconst 1, 1) := by decide +kernel
theorem dX8_part_115 : decode cX8_part 115 = .ok (.bastore, 1) := by decide +kernel
theorem dX8_part_116 : decode cX8_part 116 = .ok (.aload_n 0, 1) := by decide +kernel
theorem dX8_part_117 : decode cX8_part 117 = .ok (.iload_n 1, 1) := by decide +kernel
theorem dX8_part_118 : decode cX8_part 118 = .ok (.invokevirtual 131, 3) := by decide +kernel
theorem dX8_part_121 : decode cX8_part 121 = .ok (.aload_n 0, 1) := by decide +kernel
theorem dX8_part_122 : decode cX8_part 122 = .ok (.getfield 39, 3) := by decide +kernel
theorem dX8_part_125 : decode cX8_part 125 = .ok (.iload_n 1, 1) := by decide +kernel
theorem dX8_part_126 : decode cX8_part 126 = .ok (.iaload, 1) := by decide +kernel
theorem dX8_part_127 : decode cX8_part 127 = .ok (.ireturn, 1) := by decide +kernel
theorem dX8_noReal_0 : decode cX8_noReal 0 = .ok (.ldc2_w 135, 3) := by decide +kernel
theorem dX8_noReal_3 : decode cX8_noReal 3 = .ok (.invokestatic 137, 3) := by decide +kernel
theorem dX8_noReal_6 : decode cX8_noReal 6 = .ok (.dreturn, 1) := by decide +kernel
theorem dX8_realOfBits_0 : decode cX8_realOfBits 0 = .ok (.lload_n 0, 1) := by decide +kernel
theorem dX8_realOfBits_1 : decode cX8_realOfBits 1 = .ok (.ldc2_w 140, 3) := by decide +kernel
theorem dX8_realOfBits_4 : decode cX8_realOfBits 4 = .ok (.land, 1) := by decide +kernel
theorem dX8_realOfBits_5 : decode cX8_realOfBits 5 = .ok (.ldc2_w 142, 3) := by decide +kernel
theorem dX8_realOfBits_8 : decode cX8_realOfBits 8 = .ok (.lcmp, 1) := by decide +kernel
theorem dX8_realOfBits_9 : decode cX8_realOfBits 9 = .ok (.ifCond .le 9, 3) := by decide +kernel
theorem dX8_realOfBits_12 : decode cX8_realOfBits 12 = .ok (.invokestatic 85, 3) := by decide +kernel
theorem dX8_realOfBits_15 : decode cX8_realOfBits 15 = .ok (.goto 7, 3) := by decide +kernel
theorem dX8_realOfBits_18 : decode cX8_realOfBits 18 = .ok (.lload_n 0, 1) := by decide +kernel
theorem dX8_realOfBits_19 : decode cX8_realOfBits 19 = .ok (.invokestatic 137, 3) := by decide +kernel
theorem dX8_realOfBits_22 : decode cX8_realOfBits 22 = .ok (.dreturn, 1) := by decide +kernel
theorem dX8_isEndlessReal_0 : decode cX8_isEndlessReal 0 = .ok (.dload_n 0, 1) := by decide +kernel
theorem dX8_isEndlessReal_1 : decode cX8_isEndlessReal 1 = .ok (.ldc2_w 144, 3) := by decide +kernel
theorem dX8_isEndlessReal_4 : decode cX8_isEndlessReal 4 = .ok (.dcmp .l, 1) := by decide +kernel
theorem dX8_isEndlessReal_5 : decode cX8_isEndlessReal 5 = .ok (.ifCond .gt 11, 3) := by decide +kernel
theorem dX8_isEndlessReal_8 : decode cX8_isEndlessReal 8 = .ok (.dload_n 0, 1) := by decide +kernel
theorem dX8_isEndlessReal_9 : decode cX8_isEndlessReal 9 = .ok (.ldc2_w 146, 3) := by decide +kernel
theorem dX8_isEndlessReal_12 : decode cX8_isEndlessReal 12 = .ok (.dcmp .g, 1) := by decide +kernel
theorem dX8_isEndlessReal_13 : decode cX8_isEndlessReal 13 = .ok (.ifCond .ge 7, 3) := by decide +kernel
theorem dX8_isEndlessReal_16 : decode cX8_isEndlessReal 16 = .ok (.iconst 1, 1) := by decide +kernel
theorem dX8_isEndlessReal_17 : decode cX8_isEndlessReal 17 = .ok (.goto 4, 3) := by decide +kernel
theorem dX8_isEndlessReal_20 : decode cX8_isEndlessReal 20 = .ok (.iconst 0, 1) := by decide +kernel
theorem dX8_isEndlessReal_21 : decode cX8_isEndlessReal 21 = .ok (.ireturn, 1) := by decide +kernel
theorem dX8_realPlus_0 : decode cX8_realPlus 0 = .ok (.dload_n 0, 1) := by decide +kernel
theorem dX8_realPlus_1 : decode cX8_realPlus 1 = .ok (.dload_n 0, 1) := by decide +kernel
theorem dX8_realPlus_2 : decode cX8_realPlus 2 = .ok (.dcmp .l, 1) := by decide +kernel
theorem dX8_realPlus_3 : decode cX8_realPlus 3 = .ok (.ifCond .ne 29, 3) := by decide +kernel
theorem dX8_realPlus_6 : decode cX8_realPlus 6 = .ok (.dload_n 2, 1) := by decide +kernel
theorem dX8_realPlus_7 : decode cX8_realPlus 7 = .ok (.dload_n 2, 1) := by decide +kernel
theorem dX8_realPlus_8 : decode cX8_realPlus 8 = .ok (.dcmp .l, 1) := by decide +kernel
theorem dX8_realPlus_9 : decode cX8_realPlus 9 = .ok (.ifCond .ne 23, 3) := by decide +kernel
theorem dX8_realPlus_12 : decode cX8_realPlus 12 = .ok (.dload_n 0, 1) := by decide +kernel
theorem dX8_realPlus_13 : decode cX8_realPlus 13 = .ok (.invokestatic 148, 3) := by decide +kernel
theorem dX8_realPlus_16 : decode cX8_realPlus 16 = .ok (.ifCond .eq 22, 3) := by decide +kernel
theorem dX8_realPlus_19 : decode cX8_realPlus 19 = .ok (.dload_n 2, 1) := by decide +kernel
theorem dX8_realPlus_20 : decode cX8_realPlus 20 = .ok (.invokestatic 148, 3) := by decide +kernel
theorem dX8_realPlus_23 : decode cX8_realPlus 23 = .ok (.ifCond .eq 15, 3) := by decide +kernel
theorem dX8_realPlus_26 : decode cX8_realPlus 26 = .ok (.dload_n 0, 1) := by decide +kernel
theorem dX8_realPlus_27 : decode cX8_realPlus 27 = .ok (.dload_n 2, 1) := by decide +kernel
theorem dX8_realPlus_28 : decode cX8_realPlus 28 = .ok (.dcmp .l, 1) := by decide +kernel
theorem dX8_realPlus_29 : decode cX8_realPlus 29 = .ok (.ifCond .eq 9, 3) := by decide +kernel
theorem dX8_realPlus_32 : decode cX8_realPlus 32 = .ok (.invokestatic 85, 3) := by decide +kernel
theorem dX8_realPlus_35 : decode cX8_realPlus 35 = .ok (.goto 6, 3) := by decide +kernel
theorem dX8_realPlus_38 : decode cX8_realPlus 38 = .ok (.dload_n 0, 1) := by decide +kernel
theorem dX8_realPlus_39 : decode cX8_realPlus 39 = .ok (.dload_n 2, 1) := by decide +kernel
theorem dX8_realPlus_40 : decode cX8_realPlus 40 = .ok (.dadd, 1) := by decide +kernel
theorem dX8_realPlus_41 : decode cX8_realPlus 41 = .ok (.dreturn, 1) := by decide +kernel
theorem dX8_realLess_0 : decode cX8_realLess 0 = .ok (.dload_n 0, 1) := by decide +kernel
theorem dX8_realLess_1 : decode cX8_realLess 1 = .ok (.dload_n 0, 1) := by decide +kernel
theorem dX8_realLess_2 : decode cX8_realLess 2 = .ok (.dcmp .l, 1) := by decide +kernel
theorem dX8_realLess_3 : decode cX8_realLess 3 = .ok (.ifCond .ne 29, 3) := by decide +kernel
theorem dX8_realLess_6 : decode cX8_realLess 6 = .ok (.dload_n 2, 1) := by decide +kernel
theorem dX8_realLess_7 : decode cX8_realLess 7 = .ok (.dload_n 2, 1) := by decide +kernel
theorem dX8_realLess_8 : decode cX8_realLess 8 = .ok (.dcmp .l, 1) := by decide +kernel
theorem dX8_realLess_9 : decode cX8_realLess 9 = .ok (.ifCond .ne 23, 3) := by decide +kernel
theorem dX8_realLess_12 : decode cX8_realLess 12 = .ok (.dload_n 0, 1) := by decide +kernel
theorem dX8_realLess_13 : decode cX8_realLess 13 = .ok (.invokestatic 148, 3) := by decide +kernel
theorem dX8_realLess_16 : decode cX8_realLess 16 = .ok (.ifCond .eq 22, 3) := by decide +kernel
theorem dX8_realLess_19 : decode cX8_realLess 19 = .ok (.dload_n 2, 1) := by decide +kernel
theorem dX8_realLess_20 : decode cX8_realLess 20 = .ok (.invokestatic 148, 3) := by decide +kernel
theorem dX8_realLess_23 : decode cX8_realLess 23 = .ok (.ifCond .eq 15, 3) := by decide +kernel
theorem dX8_realLess_26 : decode cX8_realLess 26 = .ok (.dload_n 0, 1) := by decide +kernel
theorem dX8_realLess_27 : decode cX8_realLess 27 = .ok (.dload_n 2, 1) := by decide +kernel
theorem dX8_realLess_28 : decode cX8_realLess 28 = .ok (.dcmp .l, 1) := by decide +kernel
theorem dX8_realLess_29 : decode cX8_realLess 29 = .ok (.ifCond .ne 9, 3) := by decide +kernel
theorem dX8_realLess_32 : decode cX8_realLess 32 = .ok (.invokestatic 85, 3) := by decide +kernel
theorem dX8_realLess_35 : decode cX8_realLess 35 = .ok (.goto 6, 3) := by decide +kernel
theorem dX8_realLess_38 : decode cX8_realLess 38 = .ok (.dload_n 0, 1) := by decide +kernel
theorem dX8_realLess_39 : decode cX8_realLess 39 = .ok (.dload_n 2, 1) := by decide +kernel
theorem dX8_realLess_40 : decode cX8_realLess 40 = .ok (.dsub, 1) := by decide +kernel
theorem dX8_realLess_41 : decode cX8_realLess 41 = .ok (.dreturn, 1) := by decide +kernel
theorem dX8_realTimes_0 : decode cX8_realTimes 0 = .ok (.dload_n 0, 1) := by decide +kernel
theorem dX8_realTimes_1 : decode cX8_realTimes 1 = .ok (.dload_n 0, 1) := by decide +kernel
theorem dX8_realTimes_2 : decode cX8_realTimes 2 = .ok (.dcmp .l, 1) := by decide +kernel
theorem dX8_realTimes_3 : decode cX8_realTimes 3 = .ok (.ifCond .ne 35, 3) := by decide +kernel
theorem dX8_realTimes_6 : decode cX8_realTimes 6 = .ok (.dload_n 2, 1) := by decide +kernel
theorem dX8_realTimes_7 : decode cX8_realTimes 7 = .ok (.dload_n 2, 1) := by decide +kernel
theorem dX8_realTimes_8 : decode cX8_realTimes 8 = .ok (.dcmp .l, 1) := by decide +kernel
theorem dX8_realTimes_9 : decode cX8_realTimes 9 = .ok (.ifCond .ne 29, 3) := by decide +kernel
theorem dX8_realTimes_12 : decode cX8_realTimes 12 = .ok (.dload_n 0, 1) := by decide +kernel
theorem dX8_realTimes_13 : decode cX8_realTimes 13 = .ok (.invokestatic 148, 3) := by decide +kernel
theorem dX8_realTimes_16 : decode cX8_realTimes 16 = .ok (.ifCond .eq 9, 3) := by decide +kernel
theorem dX8_realTimes_19 : decode cX8_realTimes 19 = .ok (.dload_n 2, 1) := by decide +kernel
theorem dX8_realTimes_20 : decode cX8_realTimes 20 = .ok (.dconst 0, 1) := by decide +kernel
theorem dX8_realTimes_21 : decode cX8_realTimes 21 = .ok (.dcmp .l, 1) := by decide +kernel
theorem dX8_realTimes_22 : decode cX8_realTimes 22 = .ok (.ifCond .eq 16, 3) := by decide +kernel
theorem dX8_realTimes_25 : decode cX8_realTimes 25 = .ok (.dload_n 2, 1) := by decide +kernel
theorem dX8_realTimes_26 : decode cX8_realTimes 26 = .ok (.invokestatic 148, 3) := by decide +kernel
theorem dX8_realTimes_29 : decode cX8_realTimes 29 = .ok (.ifCond .eq 15, 3) := by decide +kernel
theorem dX8_realTimes_32 : decode cX8_realTimes 32 = .ok (.dload_n 0, 1) := by decide +kernel
theorem dX8_realTimes_33 : decode cX8_realTimes 33 = .ok (.dconst 0, 1) := by decide +kernel
theorem dX8_realTimes_34 : decode cX8_realTimes 34 = .ok (.dcmp .l, 1) := by decide +kernel
theorem dX8_realTimes_35 : decode cX8_realTimes 35 = .ok (.ifCond .ne 9, 3) := by decide +kernel
theorem dX8_realTimes_38 : decode cX8_realTimes 38 = .ok (.invokestatic 85, 3) := by decide +kernel
theorem dX8_realTimes_41 : decode cX8_realTimes 41 = .ok (.goto 6, 3) := by decide +kernel
theorem dX8_realTimes_44 : decode cX8_realTimes 44 = .ok (.dload_n 0, 1) := by decide +kernel
theorem dX8_realTimes_45 : decode cX8_realTimes 45 = .ok (.dload_n 2, 1) := by decide +kernel
theorem dX8_realTimes_46 : decode cX8_realTimes 46 = .ok (.dmul, 1) := by decide +kernel
theorem dX8_realTimes_47 : decode cX8_realTimes 47 = .ok (.dreturn, 1) := by decide +kernel
theorem dX8_realOver_0 : decode cX8_realOver 0 = .ok (.dload_n 0, 1) := by decide +kernel
theorem dX8_realOver_1 : decode cX8_realOver 1 = .ok (.dload_n 0, 1) := by decide +kernel
theorem dX8_realOver_2 : decode cX8_realOver 2 = .ok (.dcmp .l, 1) := by decide +kernel
theorem dX8_realOver_3 : decode cX8_realOver 3 = .ok (.ifCond .ne 35, 3) := by decide +kernel
theorem dX8_realOver_6 : decode cX8_realOver 6 = .ok (.dload_n 2, 1) := by decide +kernel
theorem dX8_realOver_7 : decode cX8_realOver 7 = .ok (.dload_n 2, 1) := by decide +kernel
theorem dX8_realOver_8 : decode cX8_realOver 8 = .ok (.dcmp .l, 1) := by decide +kernel
theorem dX8_realOver_9 : decode cX8_realOver 9 = .ok (.ifCond .ne 29, 3) := by decide +kernel
theorem dX8_realOver_12 : decode cX8_realOver 12 = .ok (.dload_n 0, 1) := by decide +kernel
theorem dX8_realOver_13 : decode cX8_realOver 13 = .ok (.invokestatic 148, 3) := by decide +kernel
theorem dX8_realOver_16 : decode cX8_realOver 16 = .ok (.ifCond .eq 10, 3) := by decide +kernel
theorem dX8_realOver_19 : decode cX8_realOver 19 = .ok (.dload_n 2, 1) := by decide +kernel
theorem dX8_realOver_20 : decode cX8_realOver 20 = .ok (.invokestatic 148, 3) := by decide +kernel
theorem dX8_realOver_23 : decode cX8_realOver 23 = .ok (.ifCond .ne 15, 3) := by decide +kernel
theorem dX8_realOver_26 : decode cX8_realOver 26 = .ok (.dload_n 0, 1) := by decide +kernel
theorem dX8_realOver_27 : decode cX8_realOver 27 = .ok (.dconst 0, 1) := by decide +kernel
theorem dX8_realOver_28 : decode cX8_realOver 28 = .ok (.dcmp .l, 1) := by decide +kernel
theorem dX8_realOver_29 : decode cX8_realOver 29 = .ok (.ifCond .ne 15, 3) := by decide +kernel
theorem dX8_realOver_32 : decode cX8_realOver 32 = .ok (.dload_n 2, 1) := by decide +kernel
theorem dX8_realOver_33 : decode cX8_realOver 33 = .ok (.dconst 0, 1) := by decide +kernel
theorem dX8_realOver_34 : decode cX8_realOver 34 = .ok (.dcmp .l, 1) := by decide +kernel
theorem dX8_realOver_35 : decode cX8_realOver 35 = .ok (.ifCond .ne 9, 3) := by decide +kernel
theorem dX8_realOver_38 : decode cX8_realOver 38 = .ok (.invokestatic 85, 3) := by decide +kernel
theorem dX8_realOver_41 : decode cX8_realOver 41 = .ok (.goto 6, 3) := by decide +kernel
theorem dX8_realOver_44 : decode cX8_realOver 44 = .ok (.dload_n 0, 1) := by decide +kernel
theorem dX8_realOver_45 : decode cX8_realOver 45 = .ok (.dload_n 2, 1) := by decide +kernel
theorem dX8_realOver_46 : decode cX8_realOver 46 = .ok (.ddiv, 1) := by decide +kernel
theorem dX8_realOver_47 : decode cX8_realOver 47 = .ok (.dreturn, 1) := by decide +kernel
theorem dX8_greater_0 : decode cX8_greater 0 = .ok (.dload_n 0, 1) := by decide +kernel
theorem dX8_greater_1 : decode cX8_greater 1 = .ok (.dload_n 0, 1) := by decide +kernel
theorem dX8_greater_2 : decode cX8_greater 2 = .ok (.dcmp .l, 1) := by decide +kernel
theorem dX8_greater_3 : decode cX8_greater 3 = .ok (.ifCond .ne 9, 3) := by decide +kernel
theorem dX8_greater_6 : decode cX8_greater 6 = .ok (.dload_n 2, 1) := by decide +kernel
theorem dX8_greater_7 : decode cX8_greater 7 = .ok (.dload_n 2, 1) := by decide +kernel
theorem dX8_greater_8 : decode cX8_greater 8 = .ok (.dcmp .l, 1) := by decide +kernel
theorem dX8_greater_9 : decode cX8_greater 9 = .ok (.ifCond .eq 7, 3) := by decide +kernel
theorem dX8_greater_12 : decode cX8_greater 12 = .ok (.invokestatic 85, 3) := by decide +kernel
theorem dX8_greater_15 : decode cX8_greater 15 = .ok (.dreturn, 1) := by decide +kernel
theorem dX8_greater_16 : decode cX8_greater 16 = .ok (.dload_n 0, 1) := by decide +kernel
theorem dX8_greater_17 : decode cX8_greater 17 = .ok (.dload_n 2, 1) := by decide +kernel
theorem dX8_greater_18 : decode cX8_greater 18 = .ok (.dcmp .l, 1) := by decide +kernel
theorem dX8_greater_19 : decode cX8_greater 19 = .ok (.ifCond .ne 18, 3) := by decide +kernel
theorem dX8_greater_22 : decode cX8_greater 22 = .ok (.dload_n 0, 1) := by decide +kernel
theorem dX8_greater_23 : decode cX8_greater 23 = .ok (.invokestatic 113, 3) := by decide +kernel
theorem dX8_greater_26 : decode cX8_greater 26 = .ok (.lconst 0, 1) := by decide +kernel
theorem dX8_greater_27 : decode cX8_greater 27 = .ok (.lcmp, 1) := by decide +kernel
theorem dX8_greater_28 : decode cX8_greater 28 = .ok (.ifCond .ge 7, 3) := by decide +kernel
theorem dX8_greater_31 : decode cX8_greater 31 = .ok (.dload_n 2, 1) := by decide +kernel
theorem dX8_greater_32 : decode cX8_greater 32 = .ok (.goto 4, 3) := by decide +kernel
theorem dX8_greater_35 : decode cX8_greater 35 = .ok (.dload_n 0, 1) := by decide +kernel
theorem dX8_greater_36 : decode cX8_greater 36 = .ok (.dreturn, 1) := by decide +kernel
theorem dX8_greater_37 : decode cX8_greater 37 = .ok (.dload_n 0, 1) := by decide +kernel
theorem dX8_greater_38 : decode cX8_greater 38 = .ok (.dload_n 2, 1) := by decide +kernel
theorem dX8_greater_39 : decode cX8_greater 39 = .ok (.dcmp .l, 1) := by decide +kernel
theorem dX8_greater_40 : decode cX8_greater 40 = .ok (.ifCond .le 7, 3) := by decide +kernel
theorem dX8_greater_43 : decode cX8_greater 43 = .ok (.dload_n 0, 1) := by decide +kernel
theorem dX8_greater_44 : decode cX8_greater 44 = .ok (.goto 4, 3) := by decide +kernel
theorem dX8_greater_47 : decode cX8_greater 47 = .ok (.dload_n 2, 1) := by decide +kernel
theorem dX8_greater_48 : decode cX8_greater 48 = .ok (.dreturn, 1) := by decide +kernel
theorem dX8_down_0 : decode cX8_down 0 = .ok (.dload_n 0, 1) := by decide +kernel
theorem dX8_down_1 : decode cX8_down 1 = .ok (.dload_n 0, 1) := by decide +kernel
theorem dX8_down_2 : decode cX8_down 2 = .ok (.dcmp .l, 1) := by decide +kernel
theorem dX8_down_3 : decode cX8_down 3 = .ok (.ifCond .ne 25, 3) := by decide +kernel
theorem dX8_down_6 : decode cX8_down 6 = .ok (.dload_n 0, 1) := by decide +kernel
theorem dX8_down_7 : decode cX8_down 7 = .ok (.ldc2_w 152, 3) := by decide +kernel
theorem dX8_down_10 : decode cX8_down 10 = .ok (.dcmp .l, 1) := by decide +kernel
theorem dX8_down_11 : decode cX8_down 11 = .ok (.ifCond .ge 17, 3) := by decide +kernel
theorem dX8_down_14 : decode cX8_down 14 = .ok (.dload_n 0, 1) := by decide +kernel
theorem dX8_down_15 : decode cX8_down 15 = .ok (.ldc2_w 154, 3) := by decide +kernel
theorem dX8_down_18 : decode cX8_down 18 = .ok (.dcmp .g, 1) := by decide +kernel
theorem dX8_down_19 : decode cX8_down 19 = .ok (.ifCond .le 9, 3) := by decide +kernel
theorem dX8_down_22 : decode cX8_down 22 = .ok (.dload_n 0, 1) := by decide +kernel
theorem dX8_down_23 : decode cX8_down 23 = .ok (.dconst 0, 1) := by decide +kernel
theorem dX8_down_24 : decode cX8_down 24 = .ok (.dcmp .l, 1) := by decide +kernel
theorem dX8_down_25 : decode cX8_down 25 = .ok (.ifCond .ne 5, 3) := by decide +kernel
theorem dX8_down_28 : decode cX8_down 28 = .ok (.dload_n 0, 1) := by decide +kernel
theorem dX8_down_29 : decode cX8_down 29 = .ok (.dreturn, 1) := by decide +kernel
theorem dX8_down_30 : decode cX8_down 30 = .ok (.dload_n 0, 1) := by decide +kernel
theorem dX8_down_31 : decode cX8_down 31 = .ok (.d2l, 1) := by decide +kernel
theorem dX8_down_32 : decode cX8_down 32 = .ok (.l2d, 1) := by decide +kernel
theorem dX8_down_33 : decode cX8_down 33 = .ok (.dstore_n 2, 1) := by decide +kernel
theorem dX8_down_34 : decode cX8_down 34 = .ok (.dload_n 2, 1) := by decide +kernel
theorem dX8_down_35 : decode cX8_down 35 = .ok (.dload_n 0, 1) := by decide +kernel
theorem dX8_down_36 : decode cX8_down 36 = .ok (.dcmp .l, 1) := by decide +kernel
theorem dX8_down_37 : decode cX8_down 37 = .ok (.ifCond .le 9, 3) := by decide +kernel
theorem dX8_down_40 : decode cX8_down 40 = .ok (.dload_n 2, 1) := by decide +kernel
theorem dX8_down_41 : decode cX8_down 41 = .ok (.dconst 1, 1) := by decide +kernel
theorem dX8_down_42 : decode cX8_down 42 = .ok (.dsub, 1) := by decide +kernel
theorem dX8_down_43 : decode cX8_down 43 = .ok (.goto 4, 3) := by decide +kernel
theorem dX8_down_46 : decode cX8_down 46 = .ok (.dload_n 2, 1) := by decide +kernel
theorem dX8_down_47 : decode cX8_down 47 = .ok (.dreturn, 1) := by decide +kernel
theorem dX8_root_0 : decode cX8_root 0 = .ok (.dload_n 0, 1) := by decide +kernel
theorem dX8_root_1 : decode cX8_root 1 = .ok (.invokestatic 113, 3) := by decide +kernel
theorem dX8_root_4 : decode cX8_root 4 = .ok (.lstore_n 2, 1) := by decide +kernel
theorem dX8_root_5 : decode cX8_root 5 = .ok (.dload_n 0, 1) := by decide +kernel
theorem dX8_root_6 : decode cX8_root 6 = .ok (.dconst 0, 1) := by decide +kernel
theorem dX8_root_7 : decode cX8_root 7 = .ok (.dcmp .l, 1) := by decide +kernel
theorem dX8_root_8 : decode cX8_root 8 = .ok (.ifCond .ne 5, 3) := by decide +kernel
theorem dX8_root_11 : decode cX8_root 11 = .ok (.dload_n 0, 1) := by decide +kernel
theorem dX8_root_12 : decode cX8_root 12 = .ok (.dreturn, 1) := by decide +kernel
theorem dX8_root_13 : decode cX8_root 13 = .ok (.lload_n 2, 1) := by decide +kernel
theorem dX8_root_14 : decode cX8_root 14 = .ok (.bipush 52, 2) := by decide +kernel
theorem dX8_root_16 : decode cX8_root 16 = .ok (.lshr, 1) := by decide +kernel
theorem dX8_root_17 : decode cX8_root 17 = .ok (.l2i, 1) := by decide +kernel
theorem dX8_root_18 : decode cX8_root 18 = .ok (.sipush 1023, 3) := by decide +kernel
theorem dX8_root_21 : decode cX8_root 21 = .ok (.isub, 1) := by decide +kernel
theorem dX8_root_22 : decode cX8_root 22 = .ok (.istore 4, 2) := by decide +kernel
theorem dX8_root_24 : decode cX8_root 24 = .ok (.lload_n 2, 1) := by decide +kernel
theorem dX8_root_25 : decode cX8_root 25 = .ok (.ldc2_w 156, 3) := by decide +kernel
theorem dX8_root_28 : decode cX8_root 28 = .ok (.land, 1) := by decide +kernel
theorem dX8_root_29 : decode cX8_root 29 = .ok (.ldc2_w 158, 3) := by decide +kernel
theorem dX8_root_32 : decode cX8_root 32 = .ok (.lor, 1) := by decide +kernel
theorem dX8_root_33 : decode cX8_root 33 = .ok (.lstore 5, 2) := by decide +kernel
theorem dX8_root_35 : decode cX8_root 35 = .ok (.iload 4, 2) := by decide +kernel
theorem dX8_root_37 : decode cX8_root 37 = .ok (.iconst 1, 1) := by decide +kernel
theorem dX8_root_38 : decode cX8_root 38 = .ok (.iand, 1) := by decide +kernel
theorem dX8_root_39 : decode cX8_root 39 = .ok (.ifCond .eq 9, 3) := by decide +kernel
theorem dX8_root_42 : decode cX8_root 42 = .ok (.lload 5, 2) := by decide +kernel
theorem dX8_root_44 : decode cX8_root 44 = .ok (.iconst 1, 1) := by decide +kernel
theorem dX8_root_45 : decode cX8_root 45 = .ok (.lshl, 1) := by decide +kernel
theorem dX8_root_46 : decode cX8_root 46 = .ok (.lstore 5, 2) := by decide +kernel
theorem dX8_root_48 : decode cX8_root 48 = .ok (.iload 4, 2) := by decide +kernel
theorem dX8_root_50 : decode cX8_root 50 = .ok (.iconst 1, 1) := by decide +kernel
theorem dX8_root_51 : decode cX8_root 51 = .ok (.ishr, 1) := by decide +kernel
theorem dX8_root_52 : decode cX8_root 52 = .ok (.istore 4, 2) := by decide +kernel
theorem dX8_root_54 : decode cX8_root 54 = .ok (.lload 5, 2) := by decide +kernel
theorem dX8_root_56 : decode cX8_root 56 = .ok (.iconst 1, 1) := by decide +kernel
theorem dX8_root_57 : decode cX8_root 57 = .ok (.lshl, 1) := by decide +kernel
theorem dX8_root_58 : decode cX8_root 58 = .ok (.lstore 5, 2) := by decide +kernel
theorem dX8_root_60 : decode cX8_root 60 = .ok (.lconst 0, 1) := by decide +kernel
theorem dX8_root_61 : decode cX8_root 61 = .ok (.lstore 7, 2) := by decide +kernel
theorem dX8_root_63 : decode cX8_root 63 = .ok (.lconst 0, 1) := by decide +kernel
theorem dX8_root_64 : decode cX8_root 64 = .ok (.lstore 9, 2) := by decide +kernel
theorem dX8_root_66 : decode cX8_root 66 = .ok (.ldc2_w 160, 3) := by decide +kernel
theorem dX8_root_69 : decode cX8_root 69 = .ok (.lstore 11, 2) := by decide +kernel
theorem dX8_root_71 : decode cX8_root 71 = .ok (.lload 11, 2) := by decide +kernel
theorem dX8_root_73 : decode cX8_root 73 = .ok (.lconst 0, 1) := by decide +kernel
theorem dX8_root_74 : decode cX8_root 74 = .ok (.lcmp, 1) := by decide +kernel
theorem dX8_root_75 : decode cX8_root 75 = .ok (.ifCond .eq 54, 3) := by decide +kernel
theorem dX8_root_78 : decode cX8_root 78 = .ok (.lload 9, 2) := by decide +kernel
theorem dX8_root_80 : decode cX8_root 80 = .ok (.lload 11, 2) := by decide +kernel
theorem dX8_root_82 : decode cX8_root 82 = .ok (.ladd, 1) := by decide +kernel
theorem dX8_root_83 : decode cX8_root 83 = .ok (.lstore 13, 2) := by decide +kernel
theorem dX8_root_85 : decode cX8_root 85 = .ok (.lload 13, 2) := by decide +kernel
theorem dX8_root_87 : decode cX8_root 87 = .ok (.lload 5, 2) := by decide +kernel
theorem dX8_root_89 : decode cX8_root 89 = .ok (.lcmp, 1) := by decide +kernel
theorem dX8_root_90 : decode cX8_root 90 = .ok (.ifCond .gt 24, 3) := by decide +kernel
theorem dX8_root_93 : decode cX8_root 93 = .ok (.lload 13, 2) := by decide +kernel
theorem dX8_root_95 : decode cX8_root 95 = .ok (.lload 11, 2) := by decide +kernel
theorem dX8_root_97 : decode cX8_root 97 = .ok (.ladd, 1) := by decide +kernel
theorem dX8_root_98 : decode cX8_root 98 = .ok (.lstore 9, 2) := by decide +kernel
theorem dX8_root_100 : decode cX8_root 100 = .ok (.lload 5, 2) := by decide +kernel
theorem dX8_root_102 : decode cX8_root 102 = .ok (.lload 13, 2) := by decide +kernel
theorem dX8_root_104 : decode cX8_root 104 = .ok (.lsub, 1) := by decide +kernel
theorem dX8_root_105 : decode cX8_root 105 = .ok (.lstore 5, 2) := by decide +kernel
theorem dX8_root_107 : decode cX8_root 107 = .ok (.lload 7, 2) := by decide +kernel
theorem dX8_root_109 : decode cX8_root 109 = .ok (.lload 11, 2) := by decide +kernel
theorem dX8_root_111 : decode cX8_root 111 = .ok (.ladd, 1) := by decide +kernel
theorem dX8_root_112 : decode cX8_root 112 = .ok (.lstore 7, 2) := by decide +kernel
theorem dX8_root_114 : decode cX8_root 114 = .ok (.lload 5, 2) := by decide +kernel
theorem dX8_root_116 : decode cX8_root 116 = .ok (.iconst 1, 1) := by decide +kernel
theorem dX8_root_117 : decode cX8_root 117 = .ok (.lshl, 1) := by decide +kernel
theorem dX8_root_118 : decode cX8_root 118 = .ok (.lstore 5, 2) := by decide +kernel
theorem dX8_root_120 : decode cX8_root 120 = .ok (.lload 11, 2) := by decide +kernel
theorem dX8_root_122 : decode cX8_root 122 = .ok (.iconst 1, 1) := by decide +kernel
theorem dX8_root_123 : decode cX8_root 123 = .ok (.lshr, 1) := by decide +kernel
theorem dX8_root_124 : decode cX8_root 124 = .ok (.lstore 11, 2) := by decide +kernel
theorem dX8_root_126 : decode cX8_root 126 = .ok (.goto (-55), 3) := by decide +kernel
theorem dX8_root_129 : decode cX8_root 129 = .ok (.lload 5, 2) := by decide +kernel
theorem dX8_root_131 : decode cX8_root 131 = .ok (.lconst 0, 1) := by decide +kernel
theorem dX8_root_132 : decode cX8_root 132 = .ok (.lcmp, 1) := by decide +kernel
theorem dX8_root_133 : decode cX8_root 133 = .ok (.ifCond .eq 12, 3) := by decide +kernel
theorem dX8_root_136 : decode cX8_root 136 = .ok (.lload 7, 2) := by decide +kernel
theorem dX8_root_138 : decode cX8_root 138 = .ok (.lload 7, 2) := by decide +kernel
theorem dX8_root_140 : decode cX8_root 140 = .ok (.lconst 1, 1) := by decide +kernel
theorem dX8_root_141 : decode cX8_root 141 = .ok (.land, 1) := by decide +kernel
theorem dX8_root_142 : decode cX8_root 142 = .ok (.ladd, 1) := by decide +kernel
theorem dX8_root_143 : decode cX8_root 143 = .ok (.lstore 7, 2) := by decide +kernel
theorem dX8_root_145 : decode cX8_root 145 = .ok (.lload 7, 2) := by decide +kernel
theorem dX8_root_147 : decode cX8_root 147 = .ok (.iconst 1, 1) := by decide +kernel
theorem dX8_root_148 : decode cX8_root 148 = .ok (.lshr, 1) := by decide +kernel
theorem dX8_root_149 : decode cX8_root 149 = .ok (.ldc2_w 162, 3) := by decide +kernel
theorem dX8_root_152 : decode cX8_root 152 = .ok (.ladd, 1) := by decide +kernel
theorem dX8_root_153 : decode cX8_root 153 = .ok (.iload 4, 2) := by decide +kernel
theorem dX8_root_155 : decode cX8_root 155 = .ok (.i2l, 1) := by decide +kernel
theorem dX8_root_156 : decode cX8_root 156 = .ok (.bipush 52, 2) := by decide +kernel
theorem dX8_root_158 : decode cX8_root 158 = .ok (.lshl, 1) := by decide +kernel
theorem dX8_root_159 : decode cX8_root 159 = .ok (.ladd, 1) := by decide +kernel
theorem dX8_root_160 : decode cX8_root 160 = .ok (.invokestatic 137, 3) := by decide +kernel
theorem dX8_root_163 : decode cX8_root 163 = .ok (.dreturn, 1) := by decide +kernel
theorem dX8_begin_0 : decode cX8_begin 0 = .ok (.aload_n 0, 1) := by decide +kernel
theorem dX8_begin_1 : decode cX8_begin 1 = .ok (.getfield 60, 3) := by decide +kernel
theorem dX8_begin_4 : decode cX8_begin 4 = .ok (.aload_n 0, 1) := by decide +kernel
theorem dX8_begin_5 : decode cX8_begin 5 = .ok (.getfield 164, 3) := by decide +kernel
theorem dX8_begin_8 : decode cX8_begin 8 = .ok (.iload_n 1, 1) := by decide +kernel
theorem dX8_begin_9 : decode cX8_begin 9 = .ok (.iastore, 1) := by decide +kernel
theorem dX8_begin_10 : decode cX8_begin 10 = .ok (.aload_n 0, 1) := by decide +kernel
theorem dX8_begin_11 : decode cX8_begin 11 = .ok (.getfield 63, 3) := by decide +kernel
theorem dX8_begin_14 : decode cX8_begin 14 = .ok (.aload_n 0, 1) := by decide +kernel
theorem dX8_begin_15 : decode cX8_begin 15 = .ok (.getfield 164, 3) := by decide +kernel
theorem dX8_begin_18 : decode cX8_begin 18 = .ok (.iconst 0, 1) := by decide +kernel
theorem dX8_begin_19 : decode cX8_begin 19 = .ok (.iastore, 1) := by decide +kernel
theorem dX8_begin_20 : decode cX8_begin 20 = .ok (.aload_n 0, 1) := by decide +kernel
theorem dX8_begin_21 : decode cX8_begin 21 = .ok (.getfield 66, 3) := by decide +kernel
theorem dX8_begin_24 : decode cX8_begin 24 = .ok (.aload_n 0, 1) := by decide +kernel
theorem dX8_begin_25 : decode cX8_begin 25 = .ok (.getfield 164, 3) := by decide +kernel
theorem dX8_begin_28 : decode cX8_begin 28 = .ok (.aload_n 0, 1) := by decide +kernel
theorem dX8_begin_29 : decode cX8_begin 29 = .ok (.getfield 27, 3) := by decide +kernel
theorem dX8_begin_32 : decode cX8_begin 32 = .ok (.iload_n 1, 1) := by decide +kernel
theorem dX8_begin_33 : decode cX8_begin 33 = .ok (.iaload, 1) := by decide +kernel
theorem dX8_begin_34 : decode cX8_begin 34 = .ok (.bipush 7, 2) := by decide +kernel
theorem dX8_begin_36 : decode cX8_begin 36 = .ok (.if_icmp .ne 7, 3) := by decide +kernel
theorem dX8_begin_39 : decode cX8_begin 39 = .ok (.dconst 1, 1) := by decide +kernel
theorem dX8_begin_40 : decode cX8_begin 40 = .ok (.goto 4, 3) := by decide +kernel
theorem dX8_begin_43 : decode cX8_begin 43 = .ok (.dconst 0, 1) := by decide +kernel
theorem dX8_begin_44 : decode cX8_begin 44 = .ok (.dastore, 1) := by decide +kernel
theorem dX8_begin_45 : decode cX8_begin 45 = .ok (.aload_n 0, 1) := by decide +kernel
theorem dX8_begin_46 : decode cX8_begin 46 = .ok (.getfield 69, 3) := by decide +kernel
theorem dX8_begin_49 : decode cX8_begin 49 = .ok (.aload_n 0, 1) := by decide +kernel
theorem dX8_begin_50 : decode cX8_begin 50 = .ok (.getfield 164, 3) := by decide +kernel
theorem dX8_begin_53 : decode cX8_begin 53 = .ok (.dconst 0, 1) := by decide +kernel
theorem dX8_begin_54 : decode cX8_begin 54 = .ok (.dastore, 1) := by decide +kernel
theorem dX8_begin_55 : decode cX8_begin 55 = .ok (.aload_n 0, 1) := by decide +kernel
theorem dX8_begin_56 : decode cX8_begin 56 = .ok (.dup, 1) := by decide +kernel
theorem dX8_begin_57 : decode cX8_begin 57 = .ok (.getfield 164, 3) := by decide +kernel
theorem dX8_begin_60 : decode cX8_begin 60 = .ok (.iconst 1, 1) := by decide +kernel
theorem dX8_begin_61 : decode cX8_begin 61 = .ok (.iadd, 1) := by decide +kernel
theorem dX8_begin_62 : decode cX8_begin 62 = .ok (.putfield 164, 3) := by decide +kernel
theorem dX8_begin_65 : decode cX8_begin 65 = .ok (.aload_n 0, 1) := by decide +kernel
theorem dX8_begin_66 : decode cX8_begin 66 = .ok (.dup, 1) := by decide +kernel
theorem dX8_begin_67 : decode cX8_begin 67 = .ok (.getfield 167, 3) := by decide +kernel
theorem dX8_begin_70 : decode cX8_begin 70 = .ok (.iconst 1, 1) := by decide +kernel
theorem dX8_begin_71 : decode cX8_begin 71 = .ok (.iadd, 1) := by decide +kernel
theorem dX8_begin_72 : decode cX8_begin 72 = .ok (.putfield 167, 3) := by decide +kernel
theorem dX8_begin_75 : decode cX8_begin 75 = .ok (.aload_n 0, 1) := by decide +kernel
theorem dX8_begin_76 : decode cX8_begin 76 = .ok (.aload_n 0, 1) := by decide +kernel
theorem dX8_begin_77 : decode cX8_begin 77 = .ok (.getfield 164, 3) := by decide +kernel
theorem dX8_begin_80 : decode cX8_begin 80 = .ok (.aload_n 0, 1) := by decide +kernel
theorem dX8_begin_81 : decode cX8_begin 81 = .ok (.getfield 170, 3) := by decide +kernel
theorem dX8_begin_84 : decode cX8_begin 84 = .ok (.if_icmp .le 10, 3) := by decide +kernel
theorem dX8_begin_87 : decode cX8_begin 87 = .ok (.aload_n 0, 1) := by decide +kernel
theorem dX8_begin_88 : decode cX8_begin 88 = .ok (.getfield 164, 3) := by decide +kernel
theorem dX8_begin_91 : decode cX8_begin 91 = .ok (.goto 7, 3) := by decide +kernel
theorem dX8_begin_94 : decode cX8_begin 94 = .ok (.aload_n 0, 1) := by decide +kernel
theorem dX8_begin_95 : decode cX8_begin 95 = .ok (.getfield 170, 3) := by decide +kernel
theorem dX8_begin_98 : decode cX8_begin 98 = .ok (.putfield 170, 3) := by decide +kernel
theorem dX8_begin_101 : decode cX8_begin 101 = .ok (.return_, 1) := by decide +kernel
theorem dX8_worked_0 : decode cX8_worked 0 = .ok (.aload_n 0, 1) := by decide +kernel
theorem dX8_worked_1 : decode cX8_worked 1 = .ok (.getfield 27, 3) := by decide +kernel
theorem dX8_worked_4 : decode cX8_worked 4 = .ok (.iload_n 2, 1) := by decide +kernel
theorem dX8_worked_5 : decode cX8_worked 5 = .ok (.iaload, 1) := by decide +kernel
theorem dX8_worked_6 : decode cX8_worked 6 = .ok (.istore 7, 2) := by decide +kernel
theorem dX8_worked_8 : decode cX8_worked 8 = .ok (.aload_n 0, 1) := by decide +kernel
theorem dX8_worked_9 : decode cX8_worked 9 = .ok (.getfield 33, 3) := by decide +kernel
theorem dX8_worked_12 : decode cX8_worked 12 = .ok (.iload_n 2, 1) := by decide +kernel
theorem dX8_worked_13 : decode cX8_worked 13 = .ok (.daload, 1) := by decide +kernel
theorem dX8_worked_14 : decode cX8_worked 14 = .ok (.dstore 8, 2) := by decide +kernel
theorem dX8_worked_16 : decode cX8_worked 16 = .ok (.aload_n 0, 1) := by decide +kernel
theorem dX8_worked_17 : decode cX8_worked 17 = .ok (.getfield 36, 3) := by decide +kernel
theorem dX8_worked_20 : decode cX8_worked 20 = .ok (.iload_n 2, 1) := by decide +kernel
theorem dX8_worked_21 : decode cX8_worked 21 = .ok (.daload, 1) := by decide +kernel
theorem dX8_worked_22 : decode cX8_worked 22 = .ok (.dstore 10, 2) := by decide +kernel
theorem dX8_worked_24 : decode cX8_worked 24 = .ok (.iconst 4, 1) := by decide +kernel
theorem dX8_worked_25 : decode cX8_worked 25 = .ok (.iload_n 1, 1) := by decide +kernel
theorem dX8_worked_26 : decode cX8_worked 26 = .ok (.imul, 1) := by decide +kernel
theorem dX8_worked_27 : decode cX8_worked 27 = .ok (.iload 7, 2) := by decide +kernel
theorem dX8_worked_29 : decode cX8_worked 29 = .ok (.iconst 1, 1) := by decide +kernel
theorem dX8_worked_30 : decode cX8_worked 30 = .ok (.iconst 5, 1) := by decide +kernel
theorem dX8_worked_31 : decode cX8_worked 31 = .ok (.invokestatic 89, 3) := by decide +kernel
theorem dX8_worked_34 : decode cX8_worked 34 = .ok (.ifCond .eq 12, 3) := by decide +kernel
theorem dX8_worked_37 : decode cX8_worked 37 = .ok (.aload_n 0, 1) := by decide +kernel
theorem dX8_worked_38 : decode cX8_worked 38 = .ok (.getfield 30, 3) := by decide +kernel
theorem dX8_worked_41 : decode cX8_worked 41 = .ok (.iload_n 2, 1) := by decide +kernel
theorem dX8_worked_42 : decode cX8_worked 42 = .ok (.iaload, 1) := by decide +kernel
theorem dX8_worked_43 : decode cX8_worked 43 = .ok (.goto 4, 3) := by decide +kernel
theorem dX8_worked_46 : decode cX8_worked 46 = .ok (.iconst 0, 1) := by decide +kernel
theorem dX8_worked_47 : decode cX8_worked 47 = .ok (.iadd, 1) := by decide +kernel
theorem dX8_worked_48 : decode cX8_worked 48 = .ok (.istore 12, 2) := by decide +kernel
theorem dX8_worked_50 : decode cX8_worked 50 = .ok (.aload_n 0, 1) := by decide +kernel
theorem dX8_worked_51 : decode cX8_worked 51 = .ok (.getfield 7, 3) := by decide +kernel
theorem dX8_worked_54 : decode cX8_worked 54 = .ok (.iload 12, 2) := by decide +kernel
theorem dX8_worked_56 : decode cX8_worked 56 = .ok (.iaload, 1) := by decide +kernel
theorem dX8_worked_57 : decode cX8_worked 57 = .ok (.i2d, 1) := by decide +kernel
theorem dX8_worked_58 : decode cX8_worked 58 = .ok (.dstore 13, 2) := by decide +kernel
theorem dX8_worked_60 : decode cX8_worked 60 = .ok (.iload 7, 2) := by decide +kernel
theorem dX8_worked_62 : decode cX8_worked 62 = .ok (.iconst 3, 1) := by decide +kernel
theorem dX8_worked_63 : decode cX8_worked 63 = .ok (.if_icmp .ge 30, 3) := by decide +kernel
theorem dX8_worked_66 : decode cX8_worked 66 = .ok (.iload 7, 2) := by decide +kernel
theorem dX8_worked_68 : decode cX8_worked 68 = .ok (.ifCond .ne 8, 3) := by decide +kernel
theorem dX8_worked_71 : decode cX8_worked 71 = .ok (.dload 8, 2) := by decide +kernel
theorem dX8_worked_73 : decode cX8_worked 73 = .ok (.goto 19, 3) := by decide +kernel
theorem dX8_worked_76 : decode cX8_worked 76 = .ok (.iload 7, 2) := by decide +kernel
theorem dX8_worked_78 : decode cX8_worked 78 = .ok (.iconst 1, 1) := by decide +kernel
theorem dX8_worked_79 : decode cX8_worked 79 = .ok (.if_icmp .ne 8, 3) := by decide +kernel
theorem dX8_worked_82 : decode cX8_worked 82 = .ok (.dload 13, 2) := by decide +kernel
theorem dX8_worked_84 : decode cX8_worked 84 = .ok (.goto 8, 3) := by decide +kernel
theorem dX8_worked_87 : decode cX8_worked 87 = .ok (.dload 13, 2) := by decide +kernel
theorem dX8_worked_89 : decode cX8_worked 89 = .ok (.invokestatic 173, 3) := by decide +kernel
theorem dX8_worked_92 : decode cX8_worked 92 = .ok (.dreturn, 1) := by decide +kernel
theorem dX8_worked_93 : decode cX8_worked 93 = .ok (.iload 7, 2) := by decide +kernel
theorem dX8_worked_95 : decode cX8_worked 95 = .ok (.iconst 3, 1) := by decide +kernel
theorem dX8_worked_96 : decode cX8_worked 96 = .ok (.if_icmp .ne 16, 3) := by decide +kernel
theorem dX8_worked_99 : decode cX8_worked 99 = .ok (.dload 13, 2) := by decide +kernel
theorem dX8_worked_101 : decode cX8_worked 101 = .ok (.dload 13, 2) := by decide +kernel
theorem dX8_worked_103 : decode cX8_worked 103 = .ok (.dload 8, 2) := by decide +kernel
theorem dX8_worked_105 : decode cX8_worked 105 = .ok (.invokestatic 177, 3) := by decide +kernel
theorem dX8_worked_108 : decode cX8_worked 108 = .ok (.invokestatic 105, 3) := by decide +kernel
theorem dX8_worked_111 : decode cX8_worked 111 = .ok (.dreturn, 1) := by decide +kernel
theorem dX8_worked_112 : decode cX8_worked 112 = .ok (.iload 7, 2) := by decide +kernel
theorem dX8_worked_114 : decode cX8_worked 114 = .ok (.iconst 4, 1) := by decide +kernel
theorem dX8_worked_115 : decode cX8_worked 115 = .ok (.if_icmp .ne 77, 3) := by decide +kernel
theorem dX8_worked_118 : decode cX8_worked 118 = .ok (.aload_n 0, 1) := by decide +kernel
theorem dX8_worked_119 : decode cX8_worked 119 = .ok (.getfield 13, 3) := by decide +kernel
theorem dX8_worked_122 : decode cX8_worked 122 = .ok (.iload 12, 2) := by decide +kernel
theorem dX8_worked_124 : decode cX8_worked 124 = .ok (.iaload, 1) := by decide +kernel
theorem dX8_worked_125 : decode cX8_worked 125 = .ok (.invokestatic 102, 3) := by decide +kernel
theorem dX8_worked_128 : decode cX8_worked 128 = .ok (.invokestatic 98, 3) := by decide +kernel
theorem dX8_worked_131 : decode cX8_worked 131 = .ok (.i2d, 1) := by decide +kernel
theorem dX8_worked_132 : decode cX8_worked 132 = .ok (.dstore 15, 2) := by decide +kernel
theorem dX8_worked_134 : decode cX8_worked 134 = .ok (.dconst 1, 1) := by decide +kernel
theorem dX8_worked_135 : decode cX8_worked 135 = .ok (.dload 10, 2) := by decide +kernel
theorem dX8_worked_137 : decode cX8_worked 137 = .ok (.invokestatic 180, 3) := by decide +kernel
theorem dX8_worked_140 : decode cX8_worked 140 = .ok (.dload 10, 2) := by decide +kernel
theorem dX8_worked_142 : decode cX8_worked 142 = .ok (.dload 15, 2) := by decide +kernel
theorem dX8_worked_144 : decode cX8_worked 144 = .ok (.aload_n 0, 1) := by decide +kernel
theorem dX8_worked_145 : decode cX8_worked 145 = .ok (.aload_n 0, 1) := by decide +kernel
theorem dX8_worked_146 : decode cX8_worked 146 = .ok (.getfield 30, 3) := by decide +kernel
theorem dX8_worked_149 : decode cX8_worked 149 = .ok (.iload_n 2, 1) := by decide +kernel
theorem dX8_worked_150 : decode cX8_worked 150 = .ok (.iaload, 1) := by decide +kernel
theorem dX8_worked_151 : decode cX8_worked 151 = .ok (.invokevirtual 109, 3) := by decide +kernel
theorem dX8_worked_154 : decode cX8_worked 154 = .ok (.invokestatic 105, 3) := by decide +kernel
theorem dX8_worked_157 : decode cX8_worked 157 = .ok (.invokestatic 183, 3) := by decide +kernel
theorem dX8_worked_160 : decode cX8_worked 160 = .ok (.invokestatic 177, 3) := by decide +kernel
theorem dX8_worked_163 : decode cX8_worked 163 = .ok (.dstore 17, 2) := by decide +kernel
theorem dX8_worked_165 : decode cX8_worked 165 = .ok (.dload 13, 2) := by decide +kernel
theorem dX8_worked_167 : decode cX8_worked 167 = .ok (.dload 8, 2) := by decide +kernel
theorem dX8_worked_169 : decode cX8_worked 169 = .ok (.dconst 1, 1) := by decide +kernel
theorem dX8_worked_170 : decode cX8_worked 170 = .ok (.invokestatic 177, 3) := by decide +kernel
theorem dX8_worked_173 : decode cX8_worked 173 = .ok (.invokestatic 183, 3) := by decide +kernel
theorem dX8_worked_176 : decode cX8_worked 176 = .ok (.dload 13, 2) := by decide +kernel
theorem dX8_worked_178 : decode cX8_worked 178 = .ok (.dload 8, 2) := by decide +kernel
theorem dX8_worked_180 : decode cX8_worked 180 = .ok (.dload 17, 2) := by decide +kernel
theorem dX8_worked_182 : decode cX8_worked 182 = .ok (.invokestatic 183, 3) := by decide +kernel
theorem dX8_worked_185 : decode cX8_worked 185 = .ok (.invokestatic 177, 3) := by decide +kernel
theorem dX8_worked_188 : decode cX8_worked 188 = .ok (.invokestatic 105, 3) := by decide +kernel
theorem dX8_worked_191 : decode cX8_worked 191 = .ok (.dreturn, 1) := by decide +kernel
theorem dX8_worked_192 : decode cX8_worked 192 = .ok (.iload 7, 2) := by decide +kernel
theorem dX8_worked_194 : decode cX8_worked 194 = .ok (.iconst 5, 1) := by decide +kernel
theorem dX8_worked_195 : decode cX8_worked 195 = .ok (.if_icmp .ne 11, 3) := by decide +kernel
theorem dX8_worked_198 : decode cX8_worked 198 = .ok (.aload_n 0, 1) := by decide +kernel
theorem dX8_worked_199 : decode cX8_worked 199 = .ok (.getfield 16, 3) := by decide +kernel
theorem dX8_worked_202 : decode cX8_worked 202 = .ok (.iload 12, 2) := by decide +kernel
theorem dX8_worked_204 : decode cX8_worked 204 = .ok (.daload, 1) := by decide +kernel
theorem dX8_worked_205 : decode cX8_worked 205 = .ok (.dreturn, 1) := by decide +kernel
theorem dX8_worked_206 : decode cX8_worked 206 = .ok (.iload 7, 2) := by decide +kernel
theorem dX8_worked_208 : decode cX8_worked 208 = .ok (.bipush 8, 2) := by decide +kernel
theorem dX8_worked_210 : decode cX8_worked 210 = .ok (.if_icmp .ne 20, 3) := by decide +kernel
theorem dX8_worked_213 : decode cX8_worked 213 = .ok (.dload 5, 2) := by decide +kernel
theorem dX8_worked_215 : decode cX8_worked 215 = .ok (.dload 8, 2) := by decide +kernel
theorem dX8_worked_217 : decode cX8_worked 217 = .ok (.dload_n 3, 1) := by decide +kernel
theorem dX8_worked_218 : decode cX8_worked 218 = .ok (.dload 5, 2) := by decide +kernel
theorem dX8_worked_220 : decode cX8_worked 220 = .ok (.invokestatic 180, 3) := by decide +kernel
theorem dX8_worked_223 : decode cX8_worked 223 = .ok (.invokestatic 183, 3) := by decide +kernel
theorem dX8_worked_226 : decode cX8_worked 226 = .ok (.invokestatic 177, 3) := by decide +kernel
theorem dX8_worked_229 : decode cX8_worked 229 = .ok (.dreturn, 1) := by decide +kernel
theorem dX8_worked_230 : decode cX8_worked 230 = .ok (.iload 7, 2) := by decide +kernel
theorem dX8_worked_232 : decode cX8_worked 232 = .ok (.bipush 9, 2) := by decide +kernel
theorem dX8_worked_234 : decode cX8_worked 234 = .ok (.if_icmp .ne 10, 3) := by decide +kernel
theorem dX8_worked_237 : decode cX8_worked 237 = .ok (.dload 8, 2) := by decide +kernel
theorem dX8_worked_239 : decode cX8_worked 239 = .ok (.dload_n 3, 1) := by decide +kernel
theorem dX8_worked_240 : decode cX8_worked 240 = .ok (.invokestatic 183, 3) := by decide +kernel
theorem dX8_worked_243 : decode cX8_worked 243 = .ok (.dreturn, 1) := by decide +kernel
theorem dX8_worked_244 : decode cX8_worked 244 = .ok (.iload 7, 2) := by decide +kernel
theorem dX8_worked_246 : decode cX8_worked 246 = .ok (.bipush 10, 2) := by decide +kernel
theorem dX8_worked_248 : decode cX8_worked 248 = .ok (.if_icmp .ne 46, 3) := by decide +kernel
theorem dX8_worked_251 : decode cX8_worked 251 = .ok (.dload_n 3, 1) := by decide +kernel
theorem dX8_worked_252 : decode cX8_worked 252 = .ok (.dload 8, 2) := by decide +kernel
theorem dX8_worked_254 : decode cX8_worked 254 = .ok (.invokestatic 180, 3) := by decide +kernel
theorem dX8_worked_257 : decode cX8_worked 257 = .ok (.dstore 15, 2) := by decide +kernel
theorem dX8_worked_259 : decode cX8_worked 259 = .ok (.dload 15, 2) := by decide +kernel
theorem dX8_worked_261 : decode cX8_worked 261 = .ok (.dconst 0, 1) := by decide +kernel
theorem dX8_worked_262 : decode cX8_worked 262 = .ok (.dcmp .g, 1) := by decide +kernel
theorem dX8_worked_263 : decode cX8_worked 263 = .ok (.ifCond .gt 10, 3) := by decide +kernel
theorem dX8_worked_266 : decode cX8_worked 266 = .ok (.dconst 0, 1) := by decide +kernel
theorem dX8_worked_267 : decode cX8_worked 267 = .ok (.dload 15, 2) := by decide +kernel
theorem dX8_worked_269 : decode cX8_worked 269 = .ok (.dsub, 1) := by decide +kernel
theorem dX8_worked_270 : decode cX8_worked 270 = .ok (.goto 5, 3) := by decide +kernel
theorem dX8_worked_273 : decode cX8_worked 273 = .ok (.dload 15, 2) := by decide +kernel
theorem dX8_worked_275 : decode cX8_worked 275 = .ok (.dstore 15, 2) := by decide +kernel
theorem dX8_worked_277 : decode cX8_worked 277 = .ok (.dconst 0, 1) := by decide +kernel
theorem dX8_worked_278 : decode cX8_worked 278 = .ok (.dload 10, 2) := by decide +kernel
theorem dX8_worked_280 : decode cX8_worked 280 = .ok (.dload 15, 2) := by decide +kernel
theorem dX8_worked_282 : decode cX8_worked 282 = .ok (.invokestatic 180, 3) := by decide +kernel
theorem dX8_worked_285 : decode cX8_worked 285 = .ok (.dload 10, 2) := by decide +kernel
theorem dX8_worked_287 : decode cX8_worked 287 = .ok (.invokestatic 105, 3) := by decide +kernel
theorem dX8_worked_290 : decode cX8_worked 290 = .ok (.invokestatic 186, 3) := by decide +kernel
theorem dX8_worked_293 : decode cX8_worked 293 = .ok (.dreturn, 1) := by decide +kernel
theorem dX8_worked_294 : decode cX8_worked 294 = .ok (.iload 7, 2) := by decide +kernel
theorem dX8_worked_296 : decode cX8_worked 296 = .ok (.bipush 11, 2) := by decide +kernel
theorem dX8_worked_298 : decode cX8_worked 298 = .ok (.if_icmp .ne 32, 3) := by decide +kernel
theorem dX8_worked_301 : decode cX8_worked 301 = .ok (.dload_n 3, 1) := by decide +kernel
theorem dX8_worked_302 : decode cX8_worked 302 = .ok (.dload 8, 2) := by decide +kernel
theorem dX8_worked_304 : decode cX8_worked 304 = .ok (.invokestatic 180, 3) := by decide +kernel
theorem dX8_worked_307 : decode cX8_worked 307 = .ok (.dload 10, 2) := by decide +kernel
theorem dX8_worked_309 : decode cX8_worked 309 = .ok (.invokestatic 105, 3) := by decide +kernel
theorem dX8_worked_312 : decode cX8_worked 312 = .ok (.dstore 15, 2) := by decide +kernel
theorem dX8_worked_314 : decode cX8_worked 314 = .ok (.dconst 1, 1) := by decide +kernel
theorem dX8_worked_315 : decode cX8_worked 315 = .ok (.dconst 1, 1) := by decide +kernel
theorem dX8_worked_316 : decode cX8_worked 316 = .ok (.dload 15, 2) := by decide +kernel
theorem dX8_worked_318 : decode cX8_worked 318 = .ok (.dload 15, 2) := by decide +kernel
theorem dX8_worked_320 : decode cX8_worked 320 = .ok (.invokestatic 183, 3) := by decide +kernel
theorem dX8_worked_323 : decode cX8_worked 323 = .ok (.invokestatic 177, 3) := by decide +kernel
theorem dX8_worked_326 : decode cX8_worked 326 = .ok (.invokestatic 105, 3) := by decide +kernel
theorem dX8_worked_329 : decode cX8_worked 329 = .ok (.dreturn, 1) := by decide +kernel
theorem dX8_worked_330 : decode cX8_worked 330 = .ok (.iload 7, 2) := by decide +kernel
theorem dX8_worked_332 : decode cX8_worked 332 = .ok (.bipush 12, 2) := by decide +kernel
theorem dX8_worked_334 : decode cX8_worked 334 = .ok (.if_icmp .ne 10, 3) := by decide +kernel
theorem dX8_worked_337 : decode cX8_worked 337 = .ok (.dload_n 3, 1) := by decide +kernel
theorem dX8_worked_338 : decode cX8_worked 338 = .ok (.invokestatic 189, 3) := by decide +kernel
theorem dX8_worked_341 : decode cX8_worked 341 = .ok (.goto 4, 3) := by decide +kernel
theorem dX8_worked_344 : decode cX8_worked 344 = .ok (.dload_n 3, 1) := by decide +kernel
theorem dX8_worked_345 : decode cX8_worked 345 = .ok (.dreturn, 1) := by decide +kernel
theorem dX8_give_0 : decode cX8_give 0 = .ok (.aload_n 0, 1) := by decide +kernel
theorem dX8_give_1 : decode cX8_give 1 = .ok (.dup, 1) := by decide +kernel
theorem dX8_give_2 : decode cX8_give 2 = .ok (.getfield 164, 3) := by decide +kernel
theorem dX8_give_5 : decode cX8_give 5 = .ok (.iconst 1, 1) := by decide +kernel
theorem dX8_give_6 : decode cX8_give 6 = .ok (.isub, 1) := by decide +kernel
end
section
theorem dX8_give_7 : decode cX8_give 7 = .ok (.putfield 164, 3) := by decide +kernel
theorem dX8_give_10 : decode cX8_give 10 = .ok (.aload_n 0, 1) := by decide +kernel
theorem dX8_give_11 : decode cX8_give 11 = .ok (.getfield 164, 3) := by decide +kernel
theorem dX8_give_14 : decode cX8_give 14 = .ok (.ifCond .ne 9, 3) := by decide +kernel
theorem dX8_give_17 : decode cX8_give 17 = .ok (.aload_n 0, 1) := by decide +kernel
theorem dX8_give_18 : decode cX8_give 18 = .ok (.dload_n 1, 1) := by decide +kernel
theorem dX8_give_19 : decode cX8_give 19 = .ok (.putfield 192, 3) := by decide +kernel
theorem dX8_give_22 : decode cX8_give 22 = .ok (.return_, 1) := by decide +kernel
theorem dX8_give_23 : decode cX8_give 23 = .ok (.aload_n 0, 1) := by decide +kernel
theorem dX8_give_24 : decode cX8_give 24 = .ok (.getfield 164, 3) := by decide +kernel
theorem dX8_give_27 : decode cX8_give 27 = .ok (.iconst 1, 1) := by decide +kernel
theorem dX8_give_28 : decode cX8_give 28 = .ok (.isub, 1) := by decide +kernel
theorem dX8_give_29 : decode cX8_give 29 = .ok (.istore_n 3, 1) := by decide +kernel
theorem dX8_give_30 : decode cX8_give 30 = .ok (.aload_n 0, 1) := by decide +kernel
theorem dX8_give_31 : decode cX8_give 31 = .ok (.getfield 27, 3) := by decide +kernel
theorem dX8_give_34 : decode cX8_give 34 = .ok (.aload_n 0, 1) := by decide +kernel
theorem dX8_give_35 : decode cX8_give 35 = .ok (.getfield 60, 3) := by decide +kernel
theorem dX8_give_38 : decode cX8_give 38 = .ok (.iload_n 3, 1) := by decide +kernel
theorem dX8_give_39 : decode cX8_give 39 = .ok (.iaload, 1) := by decide +kernel
theorem dX8_give_40 : decode cX8_give 40 = .ok (.iaload, 1) := by decide +kernel
theorem dX8_give_41 : decode cX8_give 41 = .ok (.istore 4, 2) := by decide +kernel
theorem dX8_give_43 : decode cX8_give 43 = .ok (.aload_n 0, 1) := by decide +kernel
theorem dX8_give_44 : decode cX8_give 44 = .ok (.getfield 69, 3) := by decide +kernel
theorem dX8_give_47 : decode cX8_give 47 = .ok (.iload_n 3, 1) := by decide +kernel
theorem dX8_give_48 : decode cX8_give 48 = .ok (.aload_n 0, 1) := by decide +kernel
theorem dX8_give_49 : decode cX8_give 49 = .ok (.getfield 63, 3) := by decide +kernel
theorem dX8_give_52 : decode cX8_give 52 = .ok (.iload_n 3, 1) := by decide +kernel
theorem dX8_give_53 : decode cX8_give 53 = .ok (.iaload, 1) := by decide +kernel
theorem dX8_give_54 : decode cX8_give 54 = .ok (.ifCond .ne 7, 3) := by decide +kernel
theorem dX8_give_57 : decode cX8_give 57 = .ok (.dload_n 1, 1) := by decide +kernel
theorem dX8_give_58 : decode cX8_give 58 = .ok (.goto 13, 3) := by decide +kernel
theorem dX8_give_61 : decode cX8_give 61 = .ok (.aload_n 0, 1) := by decide +kernel
theorem dX8_give_62 : decode cX8_give 62 = .ok (.getfield 69, 3) := by decide +kernel
theorem dX8_give_65 : decode cX8_give 65 = .ok (.iload_n 3, 1) := by decide +kernel
theorem dX8_give_66 : decode cX8_give 66 = .ok (.daload, 1) := by decide +kernel
theorem dX8_give_67 : decode cX8_give 67 = .ok (.dload_n 1, 1) := by decide +kernel
theorem dX8_give_68 : decode cX8_give 68 = .ok (.invokestatic 186, 3) := by decide +kernel
theorem dX8_give_71 : decode cX8_give 71 = .ok (.dastore, 1) := by decide +kernel
theorem dX8_give_72 : decode cX8_give 72 = .ok (.aload_n 0, 1) := by decide +kernel
theorem dX8_give_73 : decode cX8_give 73 = .ok (.getfield 66, 3) := by decide +kernel
theorem dX8_give_76 : decode cX8_give 76 = .ok (.iload_n 3, 1) := by decide +kernel
theorem dX8_give_77 : decode cX8_give 77 = .ok (.iload 4, 2) := by decide +kernel
theorem dX8_give_79 : decode cX8_give 79 = .ok (.bipush 7, 2) := by decide +kernel
theorem dX8_give_81 : decode cX8_give 81 = .ok (.if_icmp .ne 16, 3) := by decide +kernel
theorem dX8_give_84 : decode cX8_give 84 = .ok (.aload_n 0, 1) := by decide +kernel
theorem dX8_give_85 : decode cX8_give 85 = .ok (.getfield 66, 3) := by decide +kernel
theorem dX8_give_88 : decode cX8_give 88 = .ok (.iload_n 3, 1) := by decide +kernel
theorem dX8_give_89 : decode cX8_give 89 = .ok (.daload, 1) := by decide +kernel
theorem dX8_give_90 : decode cX8_give 90 = .ok (.dload_n 1, 1) := by decide +kernel
theorem dX8_give_91 : decode cX8_give 91 = .ok (.invokestatic 183, 3) := by decide +kernel
theorem dX8_give_94 : decode cX8_give 94 = .ok (.goto 24, 3) := by decide +kernel
theorem dX8_give_97 : decode cX8_give 97 = .ok (.iload 4, 2) := by decide +kernel
theorem dX8_give_99 : decode cX8_give 99 = .ok (.bipush 9, 2) := by decide +kernel
theorem dX8_give_101 : decode cX8_give 101 = .ok (.if_icmp .ge 16, 3) := by decide +kernel
theorem dX8_give_104 : decode cX8_give 104 = .ok (.aload_n 0, 1) := by decide +kernel
theorem dX8_give_105 : decode cX8_give 105 = .ok (.getfield 66, 3) := by decide +kernel
theorem dX8_give_108 : decode cX8_give 108 = .ok (.iload_n 3, 1) := by decide +kernel
theorem dX8_give_109 : decode cX8_give 109 = .ok (.daload, 1) := by decide +kernel
theorem dX8_give_110 : decode cX8_give 110 = .ok (.dload_n 1, 1) := by decide +kernel
theorem dX8_give_111 : decode cX8_give 111 = .ok (.invokestatic 177, 3) := by decide +kernel
theorem dX8_give_114 : decode cX8_give 114 = .ok (.goto 4, 3) := by decide +kernel
theorem dX8_give_117 : decode cX8_give 117 = .ok (.dload_n 1, 1) := by decide +kernel
theorem dX8_give_118 : decode cX8_give 118 = .ok (.dastore, 1) := by decide +kernel
theorem dX8_give_119 : decode cX8_give 119 = .ok (.aload_n 0, 1) := by decide +kernel
theorem dX8_give_120 : decode cX8_give 120 = .ok (.getfield 63, 3) := by decide +kernel
theorem dX8_give_123 : decode cX8_give 123 = .ok (.iload_n 3, 1) := by decide +kernel
theorem dX8_give_124 : decode cX8_give 124 = .ok (.dup2, 1) := by decide +kernel
theorem dX8_give_125 : decode cX8_give 125 = .ok (.iaload, 1) := by decide +kernel
theorem dX8_give_126 : decode cX8_give 126 = .ok (.iconst 1, 1) := by decide +kernel
theorem dX8_give_127 : decode cX8_give 127 = .ok (.iadd, 1) := by decide +kernel
theorem dX8_give_128 : decode cX8_give 128 = .ok (.iastore, 1) := by decide +kernel
theorem dX8_give_129 : decode cX8_give 129 = .ok (.iload 4, 2) := by decide +kernel
theorem dX8_give_131 : decode cX8_give 131 = .ok (.bipush 13, 2) := by decide +kernel
theorem dX8_give_133 : decode cX8_give 133 = .ok (.if_icmp .ne 10, 3) := by decide +kernel
theorem dX8_give_136 : decode cX8_give 136 = .ok (.aload_n 0, 1) := by decide +kernel
theorem dX8_give_137 : decode cX8_give 137 = .ok (.getfield 63, 3) := by decide +kernel
theorem dX8_give_140 : decode cX8_give 140 = .ok (.iload_n 3, 1) := by decide +kernel
theorem dX8_give_141 : decode cX8_give 141 = .ok (.iconst 2, 1) := by decide +kernel
theorem dX8_give_142 : decode cX8_give 142 = .ok (.iastore, 1) := by decide +kernel
theorem dX8_give_143 : decode cX8_give 143 = .ok (.return_, 1) := by decide +kernel
theorem dX8_fail_0 : decode cX8_fail 0 = .ok (.aload_n 0, 1) := by decide +kernel
theorem dX8_fail_1 : decode cX8_fail 1 = .ok (.aload_n 0, 1) := by decide +kernel
theorem dX8_fail_2 : decode cX8_fail 2 = .ok (.getfield 60, 3) := by decide +kernel
theorem dX8_fail_5 : decode cX8_fail 5 = .ok (.aload_n 0, 1) := by decide +kernel
theorem dX8_fail_6 : decode cX8_fail 6 = .ok (.getfield 164, 3) := by decide +kernel
theorem dX8_fail_9 : decode cX8_fail 9 = .ok (.iconst 1, 1) := by decide +kernel
theorem dX8_fail_10 : decode cX8_fail 10 = .ok (.isub, 1) := by decide +kernel
theorem dX8_fail_11 : decode cX8_fail 11 = .ok (.iaload, 1) := by decide +kernel
theorem dX8_fail_12 : decode cX8_fail 12 = .ok (.putfield 196, 3) := by decide +kernel
theorem dX8_fail_15 : decode cX8_fail 15 = .ok (.aload_n 0, 1) := by decide +kernel
theorem dX8_fail_16 : decode cX8_fail 16 = .ok (.dup, 1) := by decide +kernel
theorem dX8_fail_17 : decode cX8_fail 17 = .ok (.getfield 164, 3) := by decide +kernel
theorem dX8_fail_20 : decode cX8_fail 20 = .ok (.iconst 1, 1) := by decide +kernel
theorem dX8_fail_21 : decode cX8_fail 21 = .ok (.isub, 1) := by decide +kernel
theorem dX8_fail_22 : decode cX8_fail 22 = .ok (.putfield 164, 3) := by decide +kernel
theorem dX8_fail_25 : decode cX8_fail 25 = .ok (.aload_n 0, 1) := by decide +kernel
theorem dX8_fail_26 : decode cX8_fail 26 = .ok (.getfield 164, 3) := by decide +kernel
theorem dX8_fail_29 : decode cX8_fail 29 = .ok (.ifCond .le 51, 3) := by decide +kernel
theorem dX8_fail_32 : decode cX8_fail 32 = .ok (.aload_n 0, 1) := by decide +kernel
theorem dX8_fail_33 : decode cX8_fail 33 = .ok (.getfield 27, 3) := by decide +kernel
theorem dX8_fail_36 : decode cX8_fail 36 = .ok (.aload_n 0, 1) := by decide +kernel
theorem dX8_fail_37 : decode cX8_fail 37 = .ok (.getfield 60, 3) := by decide +kernel
theorem dX8_fail_40 : decode cX8_fail 40 = .ok (.aload_n 0, 1) := by decide +kernel
theorem dX8_fail_41 : decode cX8_fail 41 = .ok (.getfield 164, 3) := by decide +kernel
theorem dX8_fail_44 : decode cX8_fail 44 = .ok (.iconst 1, 1) := by decide +kernel
theorem dX8_fail_45 : decode cX8_fail 45 = .ok (.isub, 1) := by decide +kernel
theorem dX8_fail_46 : decode cX8_fail 46 = .ok (.iaload, 1) := by decide +kernel
theorem dX8_fail_47 : decode cX8_fail 47 = .ok (.iaload, 1) := by decide +kernel
theorem dX8_fail_48 : decode cX8_fail 48 = .ok (.bipush 13, 2) := by decide +kernel
theorem dX8_fail_50 : decode cX8_fail 50 = .ok (.if_icmp .ne 17, 3) := by decide +kernel
theorem dX8_fail_53 : decode cX8_fail 53 = .ok (.aload_n 0, 1) := by decide +kernel
theorem dX8_fail_54 : decode cX8_fail 54 = .ok (.getfield 63, 3) := by decide +kernel
theorem dX8_fail_57 : decode cX8_fail 57 = .ok (.aload_n 0, 1) := by decide +kernel
theorem dX8_fail_58 : decode cX8_fail 58 = .ok (.getfield 164, 3) := by decide +kernel
theorem dX8_fail_61 : decode cX8_fail 61 = .ok (.iconst 1, 1) := by decide +kernel
theorem dX8_fail_62 : decode cX8_fail 62 = .ok (.isub, 1) := by decide +kernel
theorem dX8_fail_63 : decode cX8_fail 63 = .ok (.iaload, 1) := by decide +kernel
theorem dX8_fail_64 : decode cX8_fail 64 = .ok (.ifCond .eq 16, 3) := by decide +kernel
theorem dX8_fail_67 : decode cX8_fail 67 = .ok (.aload_n 0, 1) := by decide +kernel
theorem dX8_fail_68 : decode cX8_fail 68 = .ok (.dup, 1) := by decide +kernel
theorem dX8_fail_69 : decode cX8_fail 69 = .ok (.getfield 164, 3) := by decide +kernel
theorem dX8_fail_72 : decode cX8_fail 72 = .ok (.iconst 1, 1) := by decide +kernel
theorem dX8_fail_73 : decode cX8_fail 73 = .ok (.isub, 1) := by decide +kernel
theorem dX8_fail_74 : decode cX8_fail 74 = .ok (.putfield 164, 3) := by decide +kernel
theorem dX8_fail_77 : decode cX8_fail 77 = .ok (.goto (-52), 3) := by decide +kernel
theorem dX8_fail_80 : decode cX8_fail 80 = .ok (.aload_n 0, 1) := by decide +kernel
theorem dX8_fail_81 : decode cX8_fail 81 = .ok (.getfield 164, 3) := by decide +kernel
theorem dX8_fail_84 : decode cX8_fail 84 = .ok (.ifCond .ne 11, 3) := by decide +kernel
theorem dX8_fail_87 : decode cX8_fail 87 = .ok (.aload_n 0, 1) := by decide +kernel
theorem dX8_fail_88 : decode cX8_fail 88 = .ok (.iload_n 1, 1) := by decide +kernel
theorem dX8_fail_89 : decode cX8_fail 89 = .ok (.putfield 199, 3) := by decide +kernel
theorem dX8_fail_92 : decode cX8_fail 92 = .ok (.goto 50, 3) := by decide +kernel
theorem dX8_fail_95 : decode cX8_fail 95 = .ok (.aload_n 0, 1) := by decide +kernel
theorem dX8_fail_96 : decode cX8_fail 96 = .ok (.dup, 1) := by decide +kernel
theorem dX8_fail_97 : decode cX8_fail 97 = .ok (.getfield 202, 3) := by decide +kernel
theorem dX8_fail_100 : decode cX8_fail 100 = .ok (.iconst 1, 1) := by decide +kernel
theorem dX8_fail_101 : decode cX8_fail 101 = .ok (.iadd, 1) := by decide +kernel
theorem dX8_fail_102 : decode cX8_fail 102 = .ok (.putfield 202, 3) := by decide +kernel
theorem dX8_fail_105 : decode cX8_fail 105 = .ok (.aload_n 0, 1) := by decide +kernel
theorem dX8_fail_106 : decode cX8_fail 106 = .ok (.getfield 63, 3) := by decide +kernel
theorem dX8_fail_109 : decode cX8_fail 109 = .ok (.aload_n 0, 1) := by decide +kernel
theorem dX8_fail_110 : decode cX8_fail 110 = .ok (.getfield 164, 3) := by decide +kernel
theorem dX8_fail_113 : decode cX8_fail 113 = .ok (.iconst 1, 1) := by decide +kernel
theorem dX8_fail_114 : decode cX8_fail 114 = .ok (.isub, 1) := by decide +kernel
theorem dX8_fail_115 : decode cX8_fail 115 = .ok (.iconst 1, 1) := by decide +kernel
theorem dX8_fail_116 : decode cX8_fail 116 = .ok (.iastore, 1) := by decide +kernel
theorem dX8_fail_117 : decode cX8_fail 117 = .ok (.aload_n 0, 1) := by decide +kernel
theorem dX8_fail_118 : decode cX8_fail 118 = .ok (.aload_n 0, 1) := by decide +kernel
theorem dX8_fail_119 : decode cX8_fail 119 = .ok (.getfield 42, 3) := by decide +kernel
theorem dX8_fail_122 : decode cX8_fail 122 = .ok (.bipush 8, 2) := by decide +kernel
theorem dX8_fail_124 : decode cX8_fail 124 = .ok (.aload_n 0, 1) := by decide +kernel
theorem dX8_fail_125 : decode cX8_fail 125 = .ok (.getfield 60, 3) := by decide +kernel
theorem dX8_fail_128 : decode cX8_fail 128 = .ok (.aload_n 0, 1) := by decide +kernel
theorem dX8_fail_129 : decode cX8_fail 129 = .ok (.getfield 164, 3) := by decide +kernel
theorem dX8_fail_132 : decode cX8_fail 132 = .ok (.iconst 1, 1) := by decide +kernel
theorem dX8_fail_133 : decode cX8_fail 133 = .ok (.isub, 1) := by decide +kernel
theorem dX8_fail_134 : decode cX8_fail 134 = .ok (.iaload, 1) := by decide +kernel
theorem dX8_fail_135 : decode cX8_fail 135 = .ok (.imul, 1) := by decide +kernel
theorem dX8_fail_136 : decode cX8_fail 136 = .ok (.iconst 1, 1) := by decide +kernel
theorem dX8_fail_137 : decode cX8_fail 137 = .ok (.iadd, 1) := by decide +kernel
theorem dX8_fail_138 : decode cX8_fail 138 = .ok (.iaload, 1) := by decide +kernel
theorem dX8_fail_139 : decode cX8_fail 139 = .ok (.invokevirtual 205, 3) := by decide +kernel
theorem dX8_fail_142 : decode cX8_fail 142 = .ok (.return_, 1) := by decide +kernel
theorem dX8_work_0 : decode cX8_work 0 = .ok (.aload_n 0, 1) := by decide +kernel
theorem dX8_work_1 : decode cX8_work 1 = .ok (.iconst 0, 1) := by decide +kernel
theorem dX8_work_2 : decode cX8_work 2 = .ok (.putfield 164, 3) := by decide +kernel
theorem dX8_work_5 : decode cX8_work 5 = .ok (.aload_n 0, 1) := by decide +kernel
theorem dX8_work_6 : decode cX8_work 6 = .ok (.iconst 0, 1) := by decide +kernel
theorem dX8_work_7 : decode cX8_work 7 = .ok (.putfield 199, 3) := by decide +kernel
theorem dX8_work_10 : decode cX8_work 10 = .ok (.aload_n 0, 1) := by decide +kernel
theorem dX8_work_11 : decode cX8_work 11 = .ok (.bipush (-9), 2) := by decide +kernel
theorem dX8_work_13 : decode cX8_work 13 = .ok (.putfield 196, 3) := by decide +kernel
theorem dX8_work_16 : decode cX8_work 16 = .ok (.aload_n 0, 1) := by decide +kernel
theorem dX8_work_17 : decode cX8_work 17 = .ok (.iconst 0, 1) := by decide +kernel
theorem dX8_work_18 : decode cX8_work 18 = .ok (.putfield 167, 3) := by decide +kernel
theorem dX8_work_21 : decode cX8_work 21 = .ok (.aload_n 0, 1) := by decide +kernel
theorem dX8_work_22 : decode cX8_work 22 = .ok (.iconst 0, 1) := by decide +kernel
theorem dX8_work_23 : decode cX8_work 23 = .ok (.putfield 202, 3) := by decide +kernel
theorem dX8_work_26 : decode cX8_work 26 = .ok (.aload_n 0, 1) := by decide +kernel
theorem dX8_work_27 : decode cX8_work 27 = .ok (.iconst 0, 1) := by decide +kernel
theorem dX8_work_28 : decode cX8_work 28 = .ok (.putfield 170, 3) := by decide +kernel
theorem dX8_work_31 : decode cX8_work 31 = .ok (.aload_n 0, 1) := by decide +kernel
theorem dX8_work_32 : decode cX8_work 32 = .ok (.dconst 0, 1) := by decide +kernel
theorem dX8_work_33 : decode cX8_work 33 = .ok (.putfield 192, 3) := by decide +kernel
theorem dX8_work_36 : decode cX8_work 36 = .ok (.aload_n 0, 1) := by decide +kernel
theorem dX8_work_37 : decode cX8_work 37 = .ok (.iload_n 1, 1) := by decide +kernel
theorem dX8_work_38 : decode cX8_work 38 = .ok (.invokevirtual 205, 3) := by decide +kernel
theorem dX8_work_41 : decode cX8_work 41 = .ok (.aload_n 0, 1) := by decide +kernel
theorem dX8_work_42 : decode cX8_work 42 = .ok (.getfield 164, 3) := by decide +kernel
theorem dX8_work_45 : decode cX8_work 45 = .ok (.ifCond .le 151, 3) := by decide +kernel
theorem dX8_work_48 : decode cX8_work 48 = .ok (.aload_n 0, 1) := by decide +kernel
theorem dX8_work_49 : decode cX8_work 49 = .ok (.getfield 164, 3) := by decide +kernel
theorem dX8_work_52 : decode cX8_work 52 = .ok (.iconst 1, 1) := by decide +kernel
theorem dX8_work_53 : decode cX8_work 53 = .ok (.isub, 1) := by decide +kernel
theorem dX8_work_54 : decode cX8_work 54 = .ok (.istore_n 3, 1) := by decide +kernel
theorem dX8_work_55 : decode cX8_work 55 = .ok (.aload_n 0, 1) := by decide +kernel
theorem dX8_work_56 : decode cX8_work 56 = .ok (.getfield 60, 3) := by decide +kernel
theorem dX8_work_59 : decode cX8_work 59 = .ok (.iload_n 3, 1) := by decide +kernel
theorem dX8_work_60 : decode cX8_work 60 = .ok (.iaload, 1) := by decide +kernel
theorem dX8_work_61 : decode cX8_work 61 = .ok (.istore 4, 2) := by decide +kernel
theorem dX8_work_63 : decode cX8_work 63 = .ok (.aload_n 0, 1) := by decide +kernel
theorem dX8_work_64 : decode cX8_work 64 = .ok (.getfield 63, 3) := by decide +kernel
theorem dX8_work_67 : decode cX8_work 67 = .ok (.iload_n 3, 1) := by decide +kernel
theorem dX8_work_68 : decode cX8_work 68 = .ok (.iaload, 1) := by decide +kernel
theorem dX8_work_69 : decode cX8_work 69 = .ok (.aload_n 0, 1) := by decide +kernel
theorem dX8_work_70 : decode cX8_work 70 = .ok (.getfield 39, 3) := by decide +kernel
theorem dX8_work_73 : decode cX8_work 73 = .ok (.iload 4, 2) := by decide +kernel
theorem dX8_work_75 : decode cX8_work 75 = .ok (.iaload, 1) := by decide +kernel
theorem dX8_work_76 : decode cX8_work 76 = .ok (.if_icmp .ge 27, 3) := by decide +kernel
theorem dX8_work_79 : decode cX8_work 79 = .ok (.aload_n 0, 1) := by decide +kernel
theorem dX8_work_80 : decode cX8_work 80 = .ok (.aload_n 0, 1) := by decide +kernel
theorem dX8_work_81 : decode cX8_work 81 = .ok (.getfield 42, 3) := by decide +kernel
theorem dX8_work_84 : decode cX8_work 84 = .ok (.bipush 8, 2) := by decide +kernel
theorem dX8_work_86 : decode cX8_work 86 = .ok (.iload 4, 2) := by decide +kernel
theorem dX8_work_88 : decode cX8_work 88 = .ok (.imul, 1) := by decide +kernel
theorem dX8_work_89 : decode cX8_work 89 = .ok (.aload_n 0, 1) := by decide +kernel
theorem dX8_work_90 : decode cX8_work 90 = .ok (.getfield 63, 3) := by decide +kernel
theorem dX8_work_93 : decode cX8_work 93 = .ok (.iload_n 3, 1) := by decide +kernel
theorem dX8_work_94 : decode cX8_work 94 = .ok (.iaload, 1) := by decide +kernel
theorem dX8_work_95 : decode cX8_work 95 = .ok (.iadd, 1) := by decide +kernel
theorem dX8_work_96 : decode cX8_work 96 = .ok (.iaload, 1) := by decide +kernel
theorem dX8_work_97 : decode cX8_work 97 = .ok (.invokevirtual 205, 3) := by decide +kernel
theorem dX8_work_100 : decode cX8_work 100 = .ok (.goto 93, 3) := by decide +kernel
theorem dX8_work_103 : decode cX8_work 103 = .ok (.aload_n 0, 1) := by decide +kernel
theorem dX8_work_104 : decode cX8_work 104 = .ok (.iload_n 2, 1) := by decide +kernel
theorem dX8_work_105 : decode cX8_work 105 = .ok (.iload 4, 2) := by decide +kernel
theorem dX8_work_107 : decode cX8_work 107 = .ok (.aload_n 0, 1) := by decide +kernel
theorem dX8_work_108 : decode cX8_work 108 = .ok (.getfield 66, 3) := by decide +kernel
theorem dX8_work_111 : decode cX8_work 111 = .ok (.iload_n 3, 1) := by decide +kernel
theorem dX8_work_112 : decode cX8_work 112 = .ok (.daload, 1) := by decide +kernel
theorem dX8_work_113 : decode cX8_work 113 = .ok (.aload_n 0, 1) := by decide +kernel
theorem dX8_work_114 : decode cX8_work 114 = .ok (.getfield 69, 3) := by decide +kernel
theorem dX8_work_117 : decode cX8_work 117 = .ok (.iload_n 3, 1) := by decide +kernel
theorem dX8_work_118 : decode cX8_work 118 = .ok (.daload, 1) := by decide +kernel
theorem dX8_work_119 : decode cX8_work 119 = .ok (.invokevirtual 208, 3) := by decide +kernel
theorem dX8_work_122 : decode cX8_work 122 = .ok (.dstore 5, 2) := by decide +kernel
theorem dX8_work_124 : decode cX8_work 124 = .ok (.dload 5, 2) := by decide +kernel
theorem dX8_work_126 : decode cX8_work 126 = .ok (.dload 5, 2) := by decide +kernel
theorem dX8_work_128 : decode cX8_work 128 = .ok (.dcmp .l, 1) := by decide +kernel
theorem dX8_work_129 : decode cX8_work 129 = .ok (.ifCond .eq 26, 3) := by decide +kernel
theorem dX8_work_132 : decode cX8_work 132 = .ok (.aload_n 0, 1) := by decide +kernel
theorem dX8_work_133 : decode cX8_work 133 = .ok (.aload_n 0, 1) := by decide +kernel
theorem dX8_work_134 : decode cX8_work 134 = .ok (.getfield 27, 3) := by decide +kernel
theorem dX8_work_137 : decode cX8_work 137 = .ok (.iload 4, 2) := by decide +kernel
theorem dX8_work_139 : decode cX8_work 139 = .ok (.iaload, 1) := by decide +kernel
theorem dX8_work_140 : decode cX8_work 140 = .ok (.iconst 5, 1) := by decide +kernel
theorem dX8_work_141 : decode cX8_work 141 = .ok (.if_icmp .ne 7, 3) := by decide +kernel
theorem dX8_work_144 : decode cX8_work 144 = .ok (.iconst 1, 1) := by decide +kernel
theorem dX8_work_145 : decode cX8_work 145 = .ok (.goto 4, 3) := by decide +kernel
theorem dX8_work_148 : decode cX8_work 148 = .ok (.iconst 2, 1) := by decide +kernel
theorem dX8_work_149 : decode cX8_work 149 = .ok (.invokevirtual 212, 3) := by decide +kernel
theorem dX8_work_152 : decode cX8_work 152 = .ok (.goto 41, 3) := by decide +kernel
theorem dX8_work_155 : decode cX8_work 155 = .ok (.aload_n 0, 1) := by decide +kernel
theorem dX8_work_156 : decode cX8_work 156 = .ok (.getfield 27, 3) := by decide +kernel
theorem dX8_work_159 : decode cX8_work 159 = .ok (.iload 4, 2) := by decide +kernel
theorem dX8_work_161 : decode cX8_work 161 = .ok (.iaload, 1) := by decide +kernel
theorem dX8_work_162 : decode cX8_work 162 = .ok (.bipush 6, 2) := by decide +kernel
theorem dX8_work_164 : decode cX8_work 164 = .ok (.bipush 9, 2) := by decide +kernel
theorem dX8_work_166 : decode cX8_work 166 = .ok (.invokestatic 89, 3) := by decide +kernel
theorem dX8_work_169 : decode cX8_work 169 = .ok (.ifCond .eq 18, 3) := by decide +kernel
theorem dX8_work_172 : decode cX8_work 172 = .ok (.dload 5, 2) := by decide +kernel
theorem dX8_work_174 : decode cX8_work 174 = .ok (.dconst 0, 1) := by decide +kernel
theorem dX8_work_175 : decode cX8_work 175 = .ok (.dcmp .g, 1) := by decide +kernel
theorem dX8_work_176 : decode cX8_work 176 = .ok (.ifCond .ge 11, 3) := by decide +kernel
theorem dX8_work_179 : decode cX8_work 179 = .ok (.aload_n 0, 1) := by decide +kernel
theorem dX8_work_180 : decode cX8_work 180 = .ok (.iconst 3, 1) := by decide +kernel
theorem dX8_work_181 : decode cX8_work 181 = .ok (.invokevirtual 212, 3) := by decide +kernel
theorem dX8_work_184 : decode cX8_work 184 = .ok (.goto 9, 3) := by decide +kernel
theorem dX8_work_187 : decode cX8_work 187 = .ok (.aload_n 0, 1) := by decide +kernel
theorem dX8_work_188 : decode cX8_work 188 = .ok (.dload 5, 2) := by decide +kernel
theorem dX8_work_190 : decode cX8_work 190 = .ok (.invokevirtual 215, 3) := by decide +kernel
theorem dX8_work_193 : decode cX8_work 193 = .ok (.goto (-152), 3) := by decide +kernel
theorem dX8_work_196 : decode cX8_work 196 = .ok (.return_, 1) := by decide +kernel
theorem dX8_score_0 : decode cX8_score 0 = .ok (.aload_n 0, 1) := by decide +kernel
theorem dX8_score_1 : decode cX8_score 1 = .ok (.iload_n 1, 1) := by decide +kernel
theorem dX8_score_2 : decode cX8_score 2 = .ok (.invokevirtual 127, 3) := by decide +kernel
theorem dX8_score_5 : decode cX8_score 5 = .ok (.ifCond .eq 13, 3) := by decide +kernel
theorem dX8_score_8 : decode cX8_score 8 = .ok (.iload_n 2, 1) := by decide +kernel
theorem dX8_score_9 : decode cX8_score 9 = .ok (.iconst 0, 1) := by decide +kernel
theorem dX8_score_10 : decode cX8_score 10 = .ok (.bipush 39, 2) := by decide +kernel
theorem dX8_score_12 : decode cX8_score 12 = .ok (.invokestatic 89, 3) := by decide +kernel
theorem dX8_score_15 : decode cX8_score 15 = .ok (.ifCond .ne 5, 3) := by decide +kernel
theorem dX8_score_18 : decode cX8_score 18 = .ok (.lconst 0, 1) := by decide +kernel
theorem dX8_score_19 : decode cX8_score 19 = .ok (.lreturn, 1) := by decide +kernel
theorem dX8_score_20 : decode cX8_score 20 = .ok (.aload_n 0, 1) := by decide +kernel
theorem dX8_score_21 : decode cX8_score 21 = .ok (.iload_n 1, 1) := by decide +kernel
theorem dX8_score_22 : decode cX8_score 22 = .ok (.iload_n 2, 1) := by decide +kernel
theorem dX8_score_23 : decode cX8_score 23 = .ok (.invokevirtual 219, 3) := by decide +kernel
theorem dX8_score_26 : decode cX8_score 26 = .ok (.aload_n 0, 1) := by decide +kernel
theorem dX8_score_27 : decode cX8_score 27 = .ok (.iconst 1, 1) := by decide +kernel
theorem dX8_score_28 : decode cX8_score 28 = .ok (.putfield 223, 3) := by decide +kernel
theorem dX8_score_31 : decode cX8_score 31 = .ok (.aload_n 0, 1) := by decide +kernel
theorem dX8_score_32 : decode cX8_score 32 = .ok (.getfield 72, 3) := by decide +kernel
theorem dX8_score_35 : decode cX8_score 35 = .ok (.iconst 0, 1) := by decide +kernel
theorem dX8_score_36 : decode cX8_score 36 = .ok (.aload_n 0, 1) := by decide +kernel
theorem dX8_score_37 : decode cX8_score 37 = .ok (.getfield 199, 3) := by decide +kernel
theorem dX8_score_40 : decode cX8_score 40 = .ok (.iastore, 1) := by decide +kernel
theorem dX8_score_41 : decode cX8_score 41 = .ok (.aload_n 0, 1) := by decide +kernel
theorem dX8_score_42 : decode cX8_score 42 = .ok (.getfield 72, 3) := by decide +kernel
theorem dX8_score_45 : decode cX8_score 45 = .ok (.iconst 1, 1) := by decide +kernel
theorem dX8_score_46 : decode cX8_score 46 = .ok (.aload_n 0, 1) := by decide +kernel
theorem dX8_score_47 : decode cX8_score 47 = .ok (.getfield 199, 3) := by decide +kernel
theorem dX8_score_50 : decode cX8_score 50 = .ok (.ifCond .ne 8, 3) := by decide +kernel
theorem dX8_score_53 : decode cX8_score 53 = .ok (.bipush (-9), 2) := by decide +kernel
theorem dX8_score_55 : decode cX8_score 55 = .ok (.goto 7, 3) := by decide +kernel
theorem dX8_score_58 : decode cX8_score 58 = .ok (.aload_n 0, 1) := by decide +kernel
theorem dX8_score_59 : decode cX8_score 59 = .ok (.getfield 196, 3) := by decide +kernel
theorem dX8_score_62 : decode cX8_score 62 = .ok (.iastore, 1) := by decide +kernel
theorem dX8_score_63 : decode cX8_score 63 = .ok (.aload_n 0, 1) := by decide +kernel
theorem dX8_score_64 : decode cX8_score 64 = .ok (.getfield 72, 3) := by decide +kernel
theorem dX8_score_67 : decode cX8_score 67 = .ok (.iconst 2, 1) := by decide +kernel
theorem dX8_score_68 : decode cX8_score 68 = .ok (.aload_n 0, 1) := by decide +kernel
theorem dX8_score_69 : decode cX8_score 69 = .ok (.getfield 167, 3) := by decide +kernel
theorem dX8_score_72 : decode cX8_score 72 = .ok (.iastore, 1) := by decide +kernel
theorem dX8_score_73 : decode cX8_score 73 = .ok (.aload_n 0, 1) := by decide +kernel
theorem dX8_score_74 : decode cX8_score 74 = .ok (.getfield 72, 3) := by decide +kernel
theorem dX8_score_77 : decode cX8_score 77 = .ok (.iconst 3, 1) := by decide +kernel
theorem dX8_score_78 : decode cX8_score 78 = .ok (.aload_n 0, 1) := by decide +kernel
theorem dX8_score_79 : decode cX8_score 79 = .ok (.getfield 202, 3) := by decide +kernel
theorem dX8_score_82 : decode cX8_score 82 = .ok (.iastore, 1) := by decide +kernel
theorem dX8_score_83 : decode cX8_score 83 = .ok (.aload_n 0, 1) := by decide +kernel
theorem dX8_score_84 : decode cX8_score 84 = .ok (.getfield 72, 3) := by decide +kernel
theorem dX8_score_87 : decode cX8_score 87 = .ok (.iconst 4, 1) := by decide +kernel
theorem dX8_score_88 : decode cX8_score 88 = .ok (.aload_n 0, 1) := by decide +kernel
theorem dX8_score_89 : decode cX8_score 89 = .ok (.getfield 170, 3) := by decide +kernel
theorem dX8_score_92 : decode cX8_score 92 = .ok (.iastore, 1) := by decide +kernel
theorem dX8_score_93 : decode cX8_score 93 = .ok (.aload_n 0, 1) := by decide +kernel
theorem dX8_score_94 : decode cX8_score 94 = .ok (.getfield 199, 3) := by decide +kernel
theorem dX8_score_97 : decode cX8_score 97 = .ok (.ifCond .ne 13, 3) := by decide +kernel
theorem dX8_score_100 : decode cX8_score 100 = .ok (.aload_n 0, 1) := by decide +kernel
theorem dX8_score_101 : decode cX8_score 101 = .ok (.getfield 192, 3) := by decide +kernel
theorem dX8_score_104 : decode cX8_score 104 = .ok (.invokestatic 113, 3) := by decide +kernel
theorem dX8_score_107 : decode cX8_score 107 = .ok (.goto 4, 3) := by decide +kernel
theorem dX8_score_110 : decode cX8_score 110 = .ok (.lconst 0, 1) := by decide +kernel
theorem dX8_score_111 : decode cX8_score 111 = .ok (.lreturn, 1) := by decide +kernel
theorem dX8_told_0 : decode cX8_told 0 = .ok (.iload_n 1, 1) := by decide +kernel
theorem dX8_told_1 : decode cX8_told 1 = .ok (.iconst 0, 1) := by decide +kernel
theorem dX8_told_2 : decode cX8_told 2 = .ok (.iconst 4, 1) := by decide +kernel
theorem dX8_told_3 : decode cX8_told 3 = .ok (.invokestatic 89, 3) := by decide +kernel
theorem dX8_told_6 : decode cX8_told 6 = .ok (.ifCond .ne 5, 3) := by decide +kernel
theorem dX8_told_9 : decode cX8_told 9 = .ok (.iconst (-1), 1) := by decide +kernel
theorem dX8_told_10 : decode cX8_told 10 = .ok (.ireturn, 1) := by decide +kernel
theorem dX8_told_11 : decode cX8_told 11 = .ok (.aload_n 0, 1) := by decide +kernel
theorem dX8_told_12 : decode cX8_told 12 = .ok (.getfield 223, 3) := by decide +kernel
theorem dX8_told_15 : decode cX8_told 15 = .ok (.ifCond .eq 12, 3) := by decide +kernel
theorem dX8_told_18 : decode cX8_told 18 = .ok (.aload_n 0, 1) := by decide +kernel
theorem dX8_told_19 : decode cX8_told 19 = .ok (.getfield 72, 3) := by decide +kernel
theorem dX8_told_22 : decode cX8_told 22 = .ok (.iload_n 1, 1) := by decide +kernel
theorem dX8_told_23 : decode cX8_told 23 = .ok (.iaload, 1) := by decide +kernel
theorem dX8_told_24 : decode cX8_told 24 = .ok (.goto 14, 3) := by decide +kernel
theorem dX8_told_27 : decode cX8_told 27 = .ok (.iload_n 1, 1) := by decide +kernel
theorem dX8_told_28 : decode cX8_told 28 = .ok (.iconst 1, 1) := by decide +kernel
theorem dX8_told_29 : decode cX8_told 29 = .ok (.if_icmp .ne 8, 3) := by decide +kernel
theorem dX8_told_32 : decode cX8_told 32 = .ok (.bipush (-9), 2) := by decide +kernel
theorem dX8_told_34 : decode cX8_told 34 = .ok (.goto 4, 3) := by decide +kernel
theorem dX8_told_37 : decode cX8_told 37 = .ok (.iconst 0, 1) := by decide +kernel
theorem dX8_told_38 : decode cX8_told 38 = .ok (.ireturn, 1) := by decide +kernel
theorem dX8_about_0 : decode cX8_about 0 = .ok (.aload_n 0, 1) := by decide +kernel
theorem dX8_about_1 : decode cX8_about 1 = .ok (.iload_n 1, 1) := by decide +kernel
theorem dX8_about_2 : decode cX8_about 2 = .ok (.invokevirtual 127, 3) := by decide +kernel
theorem dX8_about_5 : decode cX8_about 5 = .ok (.ifCond .eq 13, 3) := by decide +kernel
theorem dX8_about_8 : decode cX8_about 8 = .ok (.iload_n 2, 1) := by decide +kernel
theorem dX8_about_9 : decode cX8_about 9 = .ok (.iconst 0, 1) := by decide +kernel
theorem dX8_about_10 : decode cX8_about 10 = .ok (.bipush 11, 2) := by decide +kernel
theorem dX8_about_12 : decode cX8_about 12 = .ok (.invokestatic 89, 3) := by decide +kernel
theorem dX8_about_15 : decode cX8_about 15 = .ok (.ifCond .ne 5, 3) := by decide +kernel
theorem dX8_about_18 : decode cX8_about 18 = .ok (.iconst (-1), 1) := by decide +kernel
theorem dX8_about_19 : decode cX8_about 19 = .ok (.ireturn, 1) := by decide +kernel
theorem dX8_about_20 : decode cX8_about 20 = .ok (.iload_n 2, 1) := by decide +kernel
theorem dX8_about_21 : decode cX8_about 21 = .ok (.iconst 3, 1) := by decide +kernel
theorem dX8_about_22 : decode cX8_about 22 = .ok (.if_icmp .ge 37, 3) := by decide +kernel
theorem dX8_about_25 : decode cX8_about 25 = .ok (.iload_n 2, 1) := by decide +kernel
theorem dX8_about_26 : decode cX8_about 26 = .ok (.ifCond .ne 12, 3) := by decide +kernel
theorem dX8_about_29 : decode cX8_about 29 = .ok (.aload_n 0, 1) := by decide +kernel
theorem dX8_about_30 : decode cX8_about 30 = .ok (.getfield 27, 3) := by decide +kernel
theorem dX8_about_33 : decode cX8_about 33 = .ok (.iload_n 1, 1) := by decide +kernel
theorem dX8_about_34 : decode cX8_about 34 = .ok (.iaload, 1) := by decide +kernel
theorem dX8_about_35 : decode cX8_about 35 = .ok (.goto 23, 3) := by decide +kernel
theorem dX8_about_38 : decode cX8_about 38 = .ok (.iload_n 2, 1) := by decide +kernel
theorem dX8_about_39 : decode cX8_about 39 = .ok (.iconst 1, 1) := by decide +kernel
theorem dX8_about_40 : decode cX8_about 40 = .ok (.if_icmp .ne 12, 3) := by decide +kernel
theorem dX8_about_43 : decode cX8_about 43 = .ok (.aload_n 0, 1) := by decide +kernel
theorem dX8_about_44 : decode cX8_about 44 = .ok (.getfield 39, 3) := by decide +kernel
theorem dX8_about_47 : decode cX8_about 47 = .ok (.iload_n 1, 1) := by decide +kernel
theorem dX8_about_48 : decode cX8_about 48 = .ok (.iaload, 1) := by decide +kernel
theorem dX8_about_49 : decode cX8_about 49 = .ok (.goto 9, 3) := by decide +kernel
theorem dX8_about_52 : decode cX8_about 52 = .ok (.aload_n 0, 1) := by decide +kernel
theorem dX8_about_53 : decode cX8_about 53 = .ok (.getfield 48, 3) := by decide +kernel
theorem dX8_about_56 : decode cX8_about 56 = .ok (.iload_n 1, 1) := by decide +kernel
theorem dX8_about_57 : decode cX8_about 57 = .ok (.iaload, 1) := by decide +kernel
theorem dX8_about_58 : decode cX8_about 58 = .ok (.ireturn, 1) := by decide +kernel
theorem dX8_about_59 : decode cX8_about 59 = .ok (.iload_n 2, 1) := by decide +kernel
theorem dX8_about_60 : decode cX8_about 60 = .ok (.iconst 3, 1) := by decide +kernel
theorem dX8_about_61 : decode cX8_about 61 = .ok (.if_icmp .ne 18, 3) := by decide +kernel
theorem dX8_about_64 : decode cX8_about 64 = .ok (.aload_n 0, 1) := by decide +kernel
theorem dX8_about_65 : decode cX8_about 65 = .ok (.getfield 57, 3) := by decide +kernel
theorem dX8_about_68 : decode cX8_about 68 = .ok (.iload_n 1, 1) := by decide +kernel
theorem dX8_about_69 : decode cX8_about 69 = .ok (.baload, 1) := by decide +kernel
theorem dX8_about_70 : decode cX8_about 70 = .ok (.ifCond .eq 7, 3) := by decide +kernel
theorem dX8_about_73 : decode cX8_about 73 = .ok (.iconst 1, 1) := by decide +kernel
theorem dX8_about_74 : decode cX8_about 74 = .ok (.goto 4, 3) := by decide +kernel
theorem dX8_about_77 : decode cX8_about 77 = .ok (.iconst 0, 1) := by decide +kernel
theorem dX8_about_78 : decode cX8_about 78 = .ok (.ireturn, 1) := by decide +kernel
theorem dX8_about_79 : decode cX8_about 79 = .ok (.iload_n 2, 1) := by decide +kernel
theorem dX8_about_80 : decode cX8_about 80 = .ok (.bipush 8, 2) := by decide +kernel
theorem dX8_about_82 : decode cX8_about 82 = .ok (.if_icmp .ge 18, 3) := by decide +kernel
theorem dX8_about_85 : decode cX8_about 85 = .ok (.aload_n 0, 1) := by decide +kernel
theorem dX8_about_86 : decode cX8_about 86 = .ok (.getfield 51, 3) := by decide +kernel
theorem dX8_about_89 : decode cX8_about 89 = .ok (.iload_n 1, 1) := by decide +kernel
theorem dX8_about_90 : decode cX8_about 90 = .ok (.iaload, 1) := by decide +kernel
theorem dX8_about_91 : decode cX8_about 91 = .ok (.iload_n 2, 1) := by decide +kernel
theorem dX8_about_92 : decode cX8_about 92 = .ok (.iconst 4, 1) := by decide +kernel
theorem dX8_about_93 : decode cX8_about 93 = .ok (.isub, 1) := by decide +kernel
theorem dX8_about_94 : decode cX8_about 94 = .ok (.ishr, 1) := by decide +kernel
theorem dX8_about_95 : decode cX8_about 95 = .ok (.iconst 1, 1) := by decide +kernel
theorem dX8_about_96 : decode cX8_about 96 = .ok (.iand, 1) := by decide +kernel
theorem dX8_about_97 : decode cX8_about 97 = .ok (.goto 16, 3) := by decide +kernel
theorem dX8_about_100 : decode cX8_about 100 = .ok (.aload_n 0, 1) := by decide +kernel
theorem dX8_about_101 : decode cX8_about 101 = .ok (.getfield 54, 3) := by decide +kernel
theorem dX8_about_104 : decode cX8_about 104 = .ok (.iload_n 1, 1) := by decide +kernel
theorem dX8_about_105 : decode cX8_about 105 = .ok (.iaload, 1) := by decide +kernel
theorem dX8_about_106 : decode cX8_about 106 = .ok (.iload_n 2, 1) := by decide +kernel
theorem dX8_about_107 : decode cX8_about 107 = .ok (.bipush 8, 2) := by decide +kernel
theorem dX8_about_109 : decode cX8_about 109 = .ok (.isub, 1) := by decide +kernel
theorem dX8_about_110 : decode cX8_about 110 = .ok (.ishr, 1) := by decide +kernel
theorem dX8_about_111 : decode cX8_about 111 = .ok (.iconst 1, 1) := by decide +kernel
theorem dX8_about_112 : decode cX8_about 112 = .ok (.iand, 1) := by decide +kernel
theorem dX8_about_113 : decode cX8_about 113 = .ok (.ireturn, 1) := by decide +kernel
theorem dX8_partOf_0 : decode cX8_partOf 0 = .ok (.aload_n 0, 1) := by decide +kernel
theorem dX8_partOf_1 : decode cX8_partOf 1 = .ok (.iload_n 1, 1) := by decide +kernel
theorem dX8_partOf_2 : decode cX8_partOf 2 = .ok (.invokevirtual 127, 3) := by decide +kernel
theorem dX8_partOf_5 : decode cX8_partOf 5 = .ok (.ifCond .eq 33, 3) := by decide +kernel
theorem dX8_partOf_8 : decode cX8_partOf 8 = .ok (.iload_n 2, 1) := by decide +kernel
theorem dX8_partOf_9 : decode cX8_partOf 9 = .ok (.iconst 0, 1) := by decide +kernel
theorem dX8_partOf_10 : decode cX8_partOf 10 = .ok (.aload_n 0, 1) := by decide +kernel
theorem dX8_partOf_11 : decode cX8_partOf 11 = .ok (.getfield 39, 3) := by decide +kernel
theorem dX8_partOf_14 : decode cX8_partOf 14 = .ok (.iload_n 1, 1) := by decide +kernel
theorem dX8_partOf_15 : decode cX8_partOf 15 = .ok (.iaload, 1) := by decide +kernel
theorem dX8_partOf_16 : decode cX8_partOf 16 = .ok (.iconst 1, 1) := by decide +kernel
theorem dX8_partOf_17 : decode cX8_partOf 17 = .ok (.isub, 1) := by decide +kernel
theorem dX8_partOf_18 : decode cX8_partOf 18 = .ok (.invokestatic 89, 3) := by decide +kernel
theorem dX8_partOf_21 : decode cX8_partOf 21 = .ok (.ifCond .eq 17, 3) := by decide +kernel
theorem dX8_partOf_24 : decode cX8_partOf 24 = .ok (.aload_n 0, 1) := by decide +kernel
theorem dX8_partOf_25 : decode cX8_partOf 25 = .ok (.getfield 42, 3) := by decide +kernel
theorem dX8_partOf_28 : decode cX8_partOf 28 = .ok (.bipush 8, 2) := by decide +kernel
theorem dX8_partOf_30 : decode cX8_partOf 30 = .ok (.iload_n 1, 1) := by decide +kernel
theorem dX8_partOf_31 : decode cX8_partOf 31 = .ok (.imul, 1) := by decide +kernel
theorem dX8_partOf_32 : decode cX8_partOf 32 = .ok (.iload_n 2, 1) := by decide +kernel
theorem dX8_partOf_33 : decode cX8_partOf 33 = .ok (.iadd, 1) := by decide +kernel
theorem dX8_partOf_34 : decode cX8_partOf 34 = .ok (.iaload, 1) := by decide +kernel
theorem dX8_partOf_35 : decode cX8_partOf 35 = .ok (.goto 4, 3) := by decide +kernel
theorem dX8_partOf_38 : decode cX8_partOf 38 = .ok (.iconst (-1), 1) := by decide +kernel
theorem dX8_partOf_39 : decode cX8_partOf 39 = .ok (.ireturn, 1) := by decide +kernel
theorem dX8_top_0 : decode cX8_top 0 = .ok (.aload_n 0, 1) := by decide +kernel
theorem dX8_top_1 : decode cX8_top 1 = .ok (.iload_n 1, 1) := by decide +kernel
theorem dX8_top_2 : decode cX8_top 2 = .ok (.invokevirtual 127, 3) := by decide +kernel
theorem dX8_top_5 : decode cX8_top 5 = .ok (.ifCond .eq 13, 3) := by decide +kernel
theorem dX8_top_8 : decode cX8_top 8 = .ok (.iload_n 2, 1) := by decide +kernel
theorem dX8_top_9 : decode cX8_top 9 = .ok (.iconst 0, 1) := by decide +kernel
theorem dX8_top_10 : decode cX8_top 10 = .ok (.bipush 39, 2) := by decide +kernel
theorem dX8_top_12 : decode cX8_top 12 = .ok (.invokestatic 89, 3) := by decide +kernel
theorem dX8_top_15 : decode cX8_top 15 = .ok (.ifCond .ne 5, 3) := by decide +kernel
theorem dX8_top_18 : decode cX8_top 18 = .ok (.iconst (-1), 1) := by decide +kernel
theorem dX8_top_19 : decode cX8_top 19 = .ok (.ireturn, 1) := by decide +kernel
theorem dX8_top_20 : decode cX8_top 20 = .ok (.iconst 0, 1) := by decide +kernel
theorem dX8_top_21 : decode cX8_top 21 = .ok (.istore_n 3, 1) := by decide +kernel
theorem dX8_top_22 : decode cX8_top 22 = .ok (.iload_n 3, 1) := by decide +kernel
theorem dX8_top_23 : decode cX8_top 23 = .ok (.bipush 40, 2) := by decide +kernel
theorem dX8_top_25 : decode cX8_top 25 = .ok (.if_icmp .ge 43, 3) := by decide +kernel
theorem dX8_top_28 : decode cX8_top 28 = .ok (.aload_n 0, 1) := by decide +kernel
theorem dX8_top_29 : decode cX8_top 29 = .ok (.iload_n 1, 1) := by decide +kernel
theorem dX8_top_30 : decode cX8_top 30 = .ok (.iload_n 3, 1) := by decide +kernel
theorem dX8_top_31 : decode cX8_top 31 = .ok (.invokevirtual 219, 3) := by decide +kernel
theorem dX8_top_34 : decode cX8_top 34 = .ok (.aload_n 0, 1) := by decide +kernel
theorem dX8_top_35 : decode cX8_top 35 = .ok (.getfield 75, 3) := by decide +kernel
theorem dX8_top_38 : decode cX8_top 38 = .ok (.iload_n 3, 1) := by decide +kernel
theorem dX8_top_39 : decode cX8_top 39 = .ok (.aload_n 0, 1) := by decide +kernel
theorem dX8_top_40 : decode cX8_top 40 = .ok (.getfield 199, 3) := by decide +kernel
theorem dX8_top_43 : decode cX8_top 43 = .ok (.ifCond .eq 7, 3) := by decide +kernel
theorem dX8_top_46 : decode cX8_top 46 = .ok (.iconst 1, 1) := by decide +kernel
theorem dX8_top_47 : decode cX8_top 47 = .ok (.goto 4, 3) := by decide +kernel
theorem dX8_top_50 : decode cX8_top 50 = .ok (.iconst 0, 1) := by decide +kernel
theorem dX8_top_51 : decode cX8_top 51 = .ok (.bastore, 1) := by decide +kernel
theorem dX8_top_52 : decode cX8_top 52 = .ok (.aload_n 0, 1) := by decide +kernel
theorem dX8_top_53 : decode cX8_top 53 = .ok (.getfield 78, 3) := by decide +kernel
theorem dX8_top_56 : decode cX8_top 56 = .ok (.iload_n 3, 1) := by decide +kernel
theorem dX8_top_57 : decode cX8_top 57 = .ok (.aload_n 0, 1) := by decide +kernel
theorem dX8_top_58 : decode cX8_top 58 = .ok (.getfield 192, 3) := by decide +kernel
theorem dX8_top_61 : decode cX8_top 61 = .ok (.dastore, 1) := by decide +kernel
theorem dX8_top_62 : decode cX8_top 62 = .ok (.iinc 3 1, 3) := by decide +kernel
theorem dX8_top_65 : decode cX8_top 65 = .ok (.goto (-43), 3) := by decide +kernel
theorem dX8_top_68 : decode cX8_top 68 = .ok (.iconst 0, 1) := by decide +kernel
theorem dX8_top_69 : decode cX8_top 69 = .ok (.istore_n 3, 1) := by decide +kernel
theorem dX8_top_70 : decode cX8_top 70 = .ok (.iload_n 3, 1) := by decide +kernel
theorem dX8_top_71 : decode cX8_top 71 = .ok (.bipush 40, 2) := by decide +kernel
theorem dX8_top_73 : decode cX8_top 73 = .ok (.if_icmp .ge 194, 3) := by decide +kernel
theorem dX8_top_76 : decode cX8_top 76 = .ok (.iconst 0, 1) := by decide +kernel
theorem dX8_top_77 : decode cX8_top 77 = .ok (.istore 4, 2) := by decide +kernel
theorem dX8_top_79 : decode cX8_top 79 = .ok (.iconst 0, 1) := by decide +kernel
theorem dX8_top_80 : decode cX8_top 80 = .ok (.istore 5, 2) := by decide +kernel
theorem dX8_top_82 : decode cX8_top 82 = .ok (.iload 5, 2) := by decide +kernel
theorem dX8_top_84 : decode cX8_top 84 = .ok (.bipush 40, 2) := by decide +kernel
theorem dX8_top_86 : decode cX8_top 86 = .ok (.if_icmp .ge 167, 3) := by decide +kernel
theorem dX8_top_89 : decode cX8_top 89 = .ok (.aload_n 0, 1) := by decide +kernel
theorem dX8_top_90 : decode cX8_top 90 = .ok (.getfield 75, 3) := by decide +kernel
theorem dX8_top_93 : decode cX8_top 93 = .ok (.iload_n 3, 1) := by decide +kernel
theorem dX8_top_94 : decode cX8_top 94 = .ok (.baload, 1) := by decide +kernel
theorem dX8_top_95 : decode cX8_top 95 = .ok (.ifCond .eq 13, 3) := by decide +kernel
theorem dX8_top_98 : decode cX8_top 98 = .ok (.aload_n 0, 1) := by decide +kernel
theorem dX8_top_99 : decode cX8_top 99 = .ok (.getfield 75, 3) := by decide +kernel
theorem dX8_top_102 : decode cX8_top 102 = .ok (.iload 5, 2) := by decide +kernel
theorem dX8_top_104 : decode cX8_top 104 = .ok (.baload, 1) := by decide +kernel
theorem dX8_top_105 : decode cX8_top 105 = .ok (.ifCond .ne 39, 3) := by decide +kernel
theorem dX8_top_108 : decode cX8_top 108 = .ok (.aload_n 0, 1) := by decide +kernel
theorem dX8_top_109 : decode cX8_top 109 = .ok (.getfield 75, 3) := by decide +kernel
theorem dX8_top_112 : decode cX8_top 112 = .ok (.iload_n 3, 1) := by decide +kernel
theorem dX8_top_113 : decode cX8_top 113 = .ok (.baload, 1) := by decide +kernel
theorem dX8_top_114 : decode cX8_top 114 = .ok (.ifCond .ne 34, 3) := by decide +kernel
theorem dX8_top_117 : decode cX8_top 117 = .ok (.aload_n 0, 1) := by decide +kernel
theorem dX8_top_118 : decode cX8_top 118 = .ok (.getfield 75, 3) := by decide +kernel
theorem dX8_top_121 : decode cX8_top 121 = .ok (.iload 5, 2) := by decide +kernel
theorem dX8_top_123 : decode cX8_top 123 = .ok (.baload, 1) := by decide +kernel
theorem dX8_top_124 : decode cX8_top 124 = .ok (.ifCond .ne 24, 3) := by decide +kernel
theorem dX8_top_127 : decode cX8_top 127 = .ok (.aload_n 0, 1) := by decide +kernel
theorem dX8_top_128 : decode cX8_top 128 = .ok (.getfield 78, 3) := by decide +kernel
theorem dX8_top_131 : decode cX8_top 131 = .ok (.iload 5, 2) := by decide +kernel
theorem dX8_top_133 : decode cX8_top 133 = .ok (.daload, 1) := by decide +kernel
theorem dX8_top_134 : decode cX8_top 134 = .ok (.aload_n 0, 1) := by decide +kernel
theorem dX8_top_135 : decode cX8_top 135 = .ok (.getfield 78, 3) := by decide +kernel
theorem dX8_top_138 : decode cX8_top 138 = .ok (.iload_n 3, 1) := by decide +kernel
theorem dX8_top_139 : decode cX8_top 139 = .ok (.daload, 1) := by decide +kernel
theorem dX8_top_140 : decode cX8_top 140 = .ok (.dcmp .l, 1) := by decide +kernel
theorem dX8_top_141 : decode cX8_top 141 = .ok (.ifCond .ne 7, 3) := by decide +kernel
theorem dX8_top_144 : decode cX8_top 144 = .ok (.iconst 1, 1) := by decide +kernel
theorem dX8_top_145 : decode cX8_top 145 = .ok (.goto 4, 3) := by decide +kernel
theorem dX8_top_148 : decode cX8_top 148 = .ok (.iconst 0, 1) := by decide +kernel
theorem dX8_top_149 : decode cX8_top 149 = .ok (.istore 6, 2) := by decide +kernel
theorem dX8_top_151 : decode cX8_top 151 = .ok (.iload 6, 2) := by decide +kernel
theorem dX8_top_153 : decode cX8_top 153 = .ok (.ifCond .eq 17, 3) := by decide +kernel
theorem dX8_top_156 : decode cX8_top 156 = .ok (.iload 5, 2) := by decide +kernel
theorem dX8_top_158 : decode cX8_top 158 = .ok (.iload_n 3, 1) := by decide +kernel
theorem dX8_top_159 : decode cX8_top 159 = .ok (.if_icmp .ge 7, 3) := by decide +kernel
theorem dX8_top_162 : decode cX8_top 162 = .ok (.iconst 1, 1) := by decide +kernel
theorem dX8_top_163 : decode cX8_top 163 = .ok (.goto 67, 3) := by decide +kernel
theorem dX8_top_166 : decode cX8_top 166 = .ok (.iconst 0, 1) := by decide +kernel
theorem dX8_top_167 : decode cX8_top 167 = .ok (.goto 63, 3) := by decide +kernel
theorem dX8_top_170 : decode cX8_top 170 = .ok (.aload_n 0, 1) := by decide +kernel
theorem dX8_top_171 : decode cX8_top 171 = .ok (.getfield 75, 3) := by decide +kernel
theorem dX8_top_174 : decode cX8_top 174 = .ok (.iload_n 3, 1) := by decide +kernel
theorem dX8_top_175 : decode cX8_top 175 = .ok (.baload, 1) := by decide +kernel
theorem dX8_top_176 : decode cX8_top 176 = .ok (.ifCond .eq 13, 3) := by decide +kernel
theorem dX8_top_179 : decode cX8_top 179 = .ok (.aload_n 0, 1) := by decide +kernel
theorem dX8_top_180 : decode cX8_top 180 = .ok (.getfield 75, 3) := by decide +kernel
theorem dX8_top_183 : decode cX8_top 183 = .ok (.iload 5, 2) := by decide +kernel
theorem dX8_top_185 : decode cX8_top 185 = .ok (.baload, 1) := by decide +kernel
theorem dX8_top_186 : decode cX8_top 186 = .ok (.ifCond .eq 39, 3) := by decide +kernel
theorem dX8_top_189 : decode cX8_top 189 = .ok (.aload_n 0, 1) := by decide +kernel
theorem dX8_top_190 : decode cX8_top 190 = .ok (.getfield 75, 3) := by decide +kernel
theorem dX8_top_193 : decode cX8_top 193 = .ok (.iload_n 3, 1) := by decide +kernel
theorem dX8_top_194 : decode cX8_top 194 = .ok (.baload, 1) := by decide +kernel
theorem dX8_top_195 : decode cX8_top 195 = .ok (.ifCond .ne 34, 3) := by decide +kernel
theorem dX8_top_198 : decode cX8_top 198 = .ok (.aload_n 0, 1) := by decide +kernel
theorem dX8_top_199 : decode cX8_top 199 = .ok (.getfield 75, 3) := by decide +kernel
theorem dX8_top_202 : decode cX8_top 202 = .ok (.iload 5, 2) := by decide +kernel
theorem dX8_top_204 : decode cX8_top 204 = .ok (.baload, 1) := by decide +kernel
theorem dX8_top_205 : decode cX8_top 205 = .ok (.ifCond .ne 24, 3) := by decide +kernel
theorem dX8_top_208 : decode cX8_top 208 = .ok (.aload_n 0, 1) := by decide +kernel
theorem dX8_top_209 : decode cX8_top 209 = .ok (.getfield 78, 3) := by decide +kernel
theorem dX8_top_212 : decode cX8_top 212 = .ok (.iload 5, 2) := by decide +kernel
theorem dX8_top_214 : decode cX8_top 214 = .ok (.daload, 1) := by decide +kernel
theorem dX8_top_215 : decode cX8_top 215 = .ok (.aload_n 0, 1) := by decide +kernel
theorem dX8_top_216 : decode cX8_top 216 = .ok (.getfield 78, 3) := by decide +kernel
theorem dX8_top_219 : decode cX8_top 219 = .ok (.iload_n 3, 1) := by decide +kernel
theorem dX8_top_220 : decode cX8_top 220 = .ok (.daload, 1) := by decide +kernel
theorem dX8_top_221 : decode cX8_top 221 = .ok (.dcmp .l, 1) := by decide +kernel
theorem dX8_top_222 : decode cX8_top 222 = .ok (.ifCond .le 7, 3) := by decide +kernel
theorem dX8_top_225 : decode cX8_top 225 = .ok (.iconst 1, 1) := by decide +kernel
theorem dX8_top_226 : decode cX8_top 226 = .ok (.goto 4, 3) := by decide +kernel
theorem dX8_top_229 : decode cX8_top 229 = .ok (.iconst 0, 1) := by decide +kernel
theorem dX8_top_230 : decode cX8_top 230 = .ok (.istore 7, 2) := by decide +kernel
theorem dX8_top_232 : decode cX8_top 232 = .ok (.iload 4, 2) := by decide +kernel
theorem dX8_top_234 : decode cX8_top 234 = .ok (.iload 7, 2) := by decide +kernel
theorem dX8_top_236 : decode cX8_top 236 = .ok (.ifCond .eq 7, 3) := by decide +kernel
theorem dX8_top_239 : decode cX8_top 239 = .ok (.iconst 1, 1) := by decide +kernel
theorem dX8_top_240 : decode cX8_top 240 = .ok (.goto 4, 3) := by decide +kernel
theorem dX8_top_243 : decode cX8_top 243 = .ok (.iconst 0, 1) := by decide +kernel
theorem dX8_top_244 : decode cX8_top 244 = .ok (.iadd, 1) := by decide +kernel
theorem dX8_top_245 : decode cX8_top 245 = .ok (.istore 4, 2) := by decide +kernel
theorem dX8_top_247 : decode cX8_top 247 = .ok (.iinc 5 1, 3) := by decide +kernel
theorem dX8_top_250 : decode cX8_top 250 = .ok (.goto (-168), 3) := by decide +kernel
theorem dX8_top_253 : decode cX8_top 253 = .ok (.iload 4, 2) := by decide +kernel
theorem dX8_top_255 : decode cX8_top 255 = .ok (.iload_n 2, 1) := by decide +kernel
theorem dX8_top_256 : decode cX8_top 256 = .ok (.if_icmp .ne 5, 3) := by decide +kernel
theorem dX8_top_259 : decode cX8_top 259 = .ok (.iload_n 3, 1) := by decide +kernel
theorem dX8_top_260 : decode cX8_top 260 = .ok (.ireturn, 1) := by decide +kernel
theorem dX8_top_261 : decode cX8_top 261 = .ok (.iinc 3 1, 3) := by decide +kernel
theorem dX8_top_264 : decode cX8_top 264 = .ok (.goto (-194), 3) := by decide +kernel
theorem dX8_top_267 : decode cX8_top 267 = .ok (.iconst (-1), 1) := by decide +kernel
theorem dX8_top_268 : decode cX8_top 268 = .ok (.ireturn, 1) := by decide +kernel
theorem dX8_forget_0 : decode cX8_forget 0 = .ok (.aload_n 0, 1) := by decide +kernel
theorem dX8_forget_1 : decode cX8_forget 1 = .ok (.getfield 119, 3) := by decide +kernel
theorem dX8_forget_4 : decode cX8_forget 4 = .ok (.istore_n 1, 1) := by decide +kernel
theorem dX8_forget_5 : decode cX8_forget 5 = .ok (.aload_n 0, 1) := by decide +kernel
theorem dX8_forget_6 : decode cX8_forget 6 = .ok (.iconst 0, 1) := by decide +kernel
theorem dX8_forget_7 : decode cX8_forget 7 = .ok (.putfield 119, 3) := by decide +kernel
theorem dX8_forget_10 : decode cX8_forget 10 = .ok (.iload_n 1, 1) := by decide +kernel
theorem dX8_forget_11 : decode cX8_forget 11 = .ok (.ireturn, 1) := by decide +kernel
theorem dJxe99ae_isNaN_b9ae7_0 : decode cJxe99ae_isNaN_b9ae7 0 = .ok (.dload_n 0, 1) := by decide +kernel
theorem dJxe99ae_isNaN_b9ae7_1 : decode cJxe99ae_isNaN_b9ae7 1 = .ok (.dload_n 0, 1) := by decide +kernel
theorem dJxe99ae_isNaN_b9ae7_2 : decode cJxe99ae_isNaN_b9ae7 2 = .ok (.dcmp .l, 1) := by decide +kernel
theorem dJxe99ae_isNaN_b9ae7_3 : decode cJxe99ae_isNaN_b9ae7 3 = .ok (.ifCond .eq 7, 3) := by decide +kernel
theorem dJxe99ae_isNaN_b9ae7_6 : decode cJxe99ae_isNaN_b9ae7 6 = .ok (.iconst 1, 1) := by decide +kernel
theorem dJxe99ae_isNaN_b9ae7_7 : decode cJxe99ae_isNaN_b9ae7 7 = .ok (.goto 4, 3) := by decide +kernel
theorem dJxe99ae_isNaN_b9ae7_10 : decode cJxe99ae_isNaN_b9ae7 10 = .ok (.iconst 0, 1) := by decide +kernel
theorem dJxe99ae_isNaN_b9ae7_11 : decode cJxe99ae_isNaN_b9ae7 11 = .ok (.ireturn, 1) := by decide +kernel
theorem dJxe99ae_doubleToLongBits_ccdee_0 : decode cJxe99ae_doubleToLongBits_ccdee 0 = .ok (.dload_n 0, 1) := by decide +kernel
theorem dJxe99ae_doubleToLongBits_ccdee_1 : decode cJxe99ae_doubleToLongBits_ccdee 1 = .ok (.invokestatic 122, 3) := by decide +kernel
theorem dJxe99ae_doubleToLongBits_ccdee_4 : decode cJxe99ae_doubleToLongBits_ccdee 4 = .ok (.ifCond .ne 8, 3) := by decide +kernel
theorem dJxe99ae_doubleToLongBits_ccdee_7 : decode cJxe99ae_doubleToLongBits_ccdee 7 = .ok (.dload_n 0, 1) := by decide +kernel
theorem dJxe99ae_doubleToLongBits_ccdee_8 : decode cJxe99ae_doubleToLongBits_ccdee 8 = .ok (.invokestatic 134, 3) := by decide +kernel
theorem dJxe99ae_doubleToLongBits_ccdee_11 : decode cJxe99ae_doubleToLongBits_ccdee 11 = .ok (.lreturn, 1) := by decide +kernel
theorem dJxe99ae_doubleToLongBits_ccdee_12 : decode cJxe99ae_doubleToLongBits_ccdee 12 = .ok (.ldc2_w 137, 3) := by decide +kernel
theorem dJxe99ae_doubleToLongBits_ccdee_15 : decode cJxe99ae_doubleToLongBits_ccdee 15 = .ok (.lreturn, 1) := by decide +kernel
theorem dL_law_0 : decode cL_law 0 = .ok (.new 7, 3) := by decide +kernel
theorem dL_law_3 : decode cL_law 3 = .ok (.dup, 1) := by decide +kernel
theorem dL_law_4 : decode cL_law 4 = .ok (.invokespecial 9, 3) := by decide +kernel
theorem dL_law_7 : decode cL_law 7 = .ok (.astore_n 1, 1) := by decide +kernel
theorem dL_law_8 : decode cL_law 8 = .ok (.new 10, 3) := by decide +kernel
theorem dL_law_11 : decode cL_law 11 = .ok (.dup, 1) := by decide +kernel
theorem dL_law_12 : decode cL_law 12 = .ok (.invokespecial 12, 3) := by decide +kernel
theorem dL_law_15 : decode cL_law 15 = .ok (.astore_n 2, 1) := by decide +kernel
theorem dL_law_16 : decode cL_law 16 = .ok (.iconst 0, 1) := by decide +kernel
theorem dL_law_17 : decode cL_law 17 = .ok (.istore_n 3, 1) := by decide +kernel
theorem dL_law_18 : decode cL_law 18 = .ok (.iload_n 3, 1) := by decide +kernel
theorem dL_law_19 : decode cL_law 19 = .ok (.aload_n 0, 1) := by decide +kernel
theorem dL_law_20 : decode cL_law 20 = .ok (.arraylength, 1) := by decide +kernel
theorem dL_law_21 : decode cL_law 21 = .ok (.bipush 8, 2) := by decide +kernel
theorem dL_law_23 : decode cL_law 23 = .ok (.isub, 1) := by decide +kernel
theorem dL_law_24 : decode cL_law 24 = .ok (.if_icmp .gt 674, 3) := by decide +kernel
theorem dL_law_27 : decode cL_law 27 = .ok (.aload_n 0, 1) := by decide +kernel
theorem dL_law_28 : decode cL_law 28 = .ok (.iload_n 3, 1) := by decide +kernel
theorem dL_law_29 : decode cL_law 29 = .ok (.iaload, 1) := by decide +kernel
theorem dL_law_30 : decode cL_law 30 = .ok (.bipush 15, 2) := by decide +kernel
theorem dL_law_32 : decode cL_law 32 = .ok (.iand, 1) := by decide +kernel
theorem dL_law_33 : decode cL_law 33 = .ok (.tableswitch 659 0 13 #[71, 124, 197, 260, 284, 317, 444, 477, 511, 534, 567, 600, 633, 646], 71) := by decide +kernel
theorem dL_law_104 : decode cL_law 104 = .ok (.aload_n 1, 1) := by decide +kernel
theorem dL_law_105 : decode cL_law 105 = .ok (.aload_n 0, 1) := by decide +kernel
theorem dL_law_106 : decode cL_law 106 = .ok (.iload_n 3, 1) := by decide +kernel
theorem dL_law_107 : decode cL_law 107 = .ok (.iconst 1, 1) := by decide +kernel
theorem dL_law_108 : decode cL_law 108 = .ok (.iadd, 1) := by decide +kernel
theorem dL_law_109 : decode cL_law 109 = .ok (.iaload, 1) := by decide +kernel
theorem dL_law_110 : decode cL_law 110 = .ok (.aload_n 0, 1) := by decide +kernel
theorem dL_law_111 : decode cL_law 111 = .ok (.iload_n 3, 1) := by decide +kernel
theorem dL_law_112 : decode cL_law 112 = .ok (.iconst 2, 1) := by decide +kernel
theorem dL_law_113 : decode cL_law 113 = .ok (.iadd, 1) := by decide +kernel
theorem dL_law_114 : decode cL_law 114 = .ok (.iaload, 1) := by decide +kernel
theorem dL_law_115 : decode cL_law 115 = .ok (.aload_n 0, 1) := by decide +kernel
theorem dL_law_116 : decode cL_law 116 = .ok (.iload_n 3, 1) := by decide +kernel
theorem dL_law_117 : decode cL_law 117 = .ok (.iconst 3, 1) := by decide +kernel
theorem dL_law_118 : decode cL_law 118 = .ok (.iadd, 1) := by decide +kernel
theorem dL_law_119 : decode cL_law 119 = .ok (.iaload, 1) := by decide +kernel
theorem dL_law_120 : decode cL_law 120 = .ok (.aload_n 0, 1) := by decide +kernel
theorem dL_law_121 : decode cL_law 121 = .ok (.iload_n 3, 1) := by decide +kernel
theorem dL_law_122 : decode cL_law 122 = .ok (.iconst 4, 1) := by decide +kernel
theorem dL_law_123 : decode cL_law 123 = .ok (.iadd, 1) := by decide +kernel
theorem dL_law_124 : decode cL_law 124 = .ok (.iaload, 1) := by decide +kernel
theorem dL_law_125 : decode cL_law 125 = .ok (.invokevirtual 13, 3) := by decide +kernel
theorem dL_law_128 : decode cL_law 128 = .ok (.aload_n 2, 1) := by decide +kernel
theorem dL_law_129 : decode cL_law 129 = .ok (.aload_n 0, 1) := by decide +kernel
theorem dL_law_130 : decode cL_law 130 = .ok (.iload_n 3, 1) := by decide +kernel
theorem dL_law_131 : decode cL_law 131 = .ok (.iconst 1, 1) := by decide +kernel
theorem dL_law_132 : decode cL_law 132 = .ok (.iadd, 1) := by decide +kernel
theorem dL_law_133 : decode cL_law 133 = .ok (.iaload, 1) := by decide +kernel
theorem dL_law_134 : decode cL_law 134 = .ok (.aload_n 0, 1) := by decide +kernel
theorem dL_law_135 : decode cL_law 135 = .ok (.iload_n 3, 1) := by decide +kernel
theorem dL_law_136 : decode cL_law 136 = .ok (.iconst 2, 1) := by decide +kernel
theorem dL_law_137 : decode cL_law 137 = .ok (.iadd, 1) := by decide +kernel
theorem dL_law_138 : decode cL_law 138 = .ok (.iaload, 1) := by decide +kernel
theorem dL_law_139 : decode cL_law 139 = .ok (.aload_n 0, 1) := by decide +kernel
theorem dL_law_140 : decode cL_law 140 = .ok (.iload_n 3, 1) := by decide +kernel
theorem dL_law_141 : decode cL_law 141 = .ok (.iconst 3, 1) := by decide +kernel
theorem dL_law_142 : decode cL_law 142 = .ok (.iadd, 1) := by decide +kernel
theorem dL_law_143 : decode cL_law 143 = .ok (.iaload, 1) := by decide +kernel
theorem dL_law_144 : decode cL_law 144 = .ok (.aload_n 0, 1) := by decide +kernel
theorem dL_law_145 : decode cL_law 145 = .ok (.iload_n 3, 1) := by decide +kernel
theorem dL_law_146 : decode cL_law 146 = .ok (.iconst 4, 1) := by decide +kernel
theorem dL_law_147 : decode cL_law 147 = .ok (.iadd, 1) := by decide +kernel
theorem dL_law_148 : decode cL_law 148 = .ok (.iaload, 1) := by decide +kernel
theorem dL_law_149 : decode cL_law 149 = .ok (.invokevirtual 17, 3) := by decide +kernel
theorem dL_law_152 : decode cL_law 152 = .ok (.if_icmp .eq 540, 3) := by decide +kernel
theorem dL_law_155 : decode cL_law 155 = .ok (.iconst 0, 1) := by decide +kernel
theorem dL_law_156 : decode cL_law 156 = .ok (.ireturn, 1) := by decide +kernel
theorem dL_law_157 : decode cL_law 157 = .ok (.aload_n 1, 1) := by decide +kernel
theorem dL_law_158 : decode cL_law 158 = .ok (.aload_n 0, 1) := by decide +kernel
theorem dL_law_159 : decode cL_law 159 = .ok (.iload_n 3, 1) := by decide +kernel
theorem dL_law_160 : decode cL_law 160 = .ok (.iconst 1, 1) := by decide +kernel
theorem dL_law_161 : decode cL_law 161 = .ok (.iadd, 1) := by decide +kernel
theorem dL_law_162 : decode cL_law 162 = .ok (.iaload, 1) := by decide +kernel
theorem dL_law_163 : decode cL_law 163 = .ok (.aload_n 0, 1) := by decide +kernel
theorem dL_law_164 : decode cL_law 164 = .ok (.iload_n 3, 1) := by decide +kernel
theorem dL_law_165 : decode cL_law 165 = .ok (.iconst 2, 1) := by decide +kernel
theorem dL_law_166 : decode cL_law 166 = .ok (.iadd, 1) := by decide +kernel
theorem dL_law_167 : decode cL_law 167 = .ok (.iaload, 1) := by decide +kernel
theorem dL_law_168 : decode cL_law 168 = .ok (.aload_n 0, 1) := by decide +kernel
theorem dL_law_169 : decode cL_law 169 = .ok (.iload_n 3, 1) := by decide +kernel
theorem dL_law_170 : decode cL_law 170 = .ok (.iconst 3, 1) := by decide +kernel
theorem dL_law_171 : decode cL_law 171 = .ok (.iadd, 1) := by decide +kernel
theorem dL_law_172 : decode cL_law 172 = .ok (.iaload, 1) := by decide +kernel
theorem dL_law_173 : decode cL_law 173 = .ok (.i2l, 1) := by decide +kernel
theorem dL_law_174 : decode cL_law 174 = .ok (.bipush 32, 2) := by decide +kernel
theorem dL_law_176 : decode cL_law 176 = .ok (.lshl, 1) := by decide +kernel
theorem dL_law_177 : decode cL_law 177 = .ok (.aload_n 0, 1) := by decide +kernel
theorem dL_law_178 : decode cL_law 178 = .ok (.iload_n 3, 1) := by decide +kernel
theorem dL_law_179 : decode cL_law 179 = .ok (.iconst 4, 1) := by decide +kernel
theorem dL_law_180 : decode cL_law 180 = .ok (.iadd, 1) := by decide +kernel
theorem dL_law_181 : decode cL_law 181 = .ok (.iaload, 1) := by decide +kernel
theorem dL_law_182 : decode cL_law 182 = .ok (.i2l, 1) := by decide +kernel
theorem dL_law_183 : decode cL_law 183 = .ok (.ldc2_w 18, 3) := by decide +kernel
theorem dL_law_186 : decode cL_law 186 = .ok (.land, 1) := by decide +kernel
theorem dL_law_187 : decode cL_law 187 = .ok (.lor, 1) := by decide +kernel
theorem dL_law_188 : decode cL_law 188 = .ok (.invokevirtual 20, 3) := by decide +kernel
theorem dL_law_191 : decode cL_law 191 = .ok (.aload_n 2, 1) := by decide +kernel
theorem dL_law_192 : decode cL_law 192 = .ok (.aload_n 0, 1) := by decide +kernel
theorem dL_law_193 : decode cL_law 193 = .ok (.iload_n 3, 1) := by decide +kernel
theorem dL_law_194 : decode cL_law 194 = .ok (.iconst 1, 1) := by decide +kernel
theorem dL_law_195 : decode cL_law 195 = .ok (.iadd, 1) := by decide +kernel
theorem dL_law_196 : decode cL_law 196 = .ok (.iaload, 1) := by decide +kernel
theorem dL_law_197 : decode cL_law 197 = .ok (.aload_n 0, 1) := by decide +kernel
theorem dL_law_198 : decode cL_law 198 = .ok (.iload_n 3, 1) := by decide +kernel
theorem dL_law_199 : decode cL_law 199 = .ok (.iconst 2, 1) := by decide +kernel
theorem dL_law_200 : decode cL_law 200 = .ok (.iadd, 1) := by decide +kernel
theorem dL_law_201 : decode cL_law 201 = .ok (.iaload, 1) := by decide +kernel
theorem dL_law_202 : decode cL_law 202 = .ok (.aload_n 0, 1) := by decide +kernel
theorem dL_law_203 : decode cL_law 203 = .ok (.iload_n 3, 1) := by decide +kernel
theorem dL_law_204 : decode cL_law 204 = .ok (.iconst 3, 1) := by decide +kernel
theorem dL_law_205 : decode cL_law 205 = .ok (.iadd, 1) := by decide +kernel
theorem dL_law_206 : decode cL_law 206 = .ok (.iaload, 1) := by decide +kernel
theorem dL_law_207 : decode cL_law 207 = .ok (.i2l, 1) := by decide +kernel
theorem dL_law_208 : decode cL_law 208 = .ok (.bipush 32, 2) := by decide +kernel
theorem dL_law_210 : decode cL_law 210 = .ok (.lshl, 1) := by decide +kernel
theorem dL_law_211 : decode cL_law 211 = .ok (.aload_n 0, 1) := by decide +kernel
theorem dL_law_212 : decode cL_law 212 = .ok (.iload_n 3, 1) := by decide +kernel
theorem dL_law_213 : decode cL_law 213 = .ok (.iconst 4, 1) := by decide +kernel
theorem dL_law_214 : decode cL_law 214 = .ok (.iadd, 1) := by decide +kernel
theorem dL_law_215 : decode cL_law 215 = .ok (.iaload, 1) := by decide +kernel
theorem dL_law_216 : decode cL_law 216 = .ok (.i2l, 1) := by decide +kernel
theorem dL_law_217 : decode cL_law 217 = .ok (.ldc2_w 18, 3) := by decide +kernel
theorem dL_law_220 : decode cL_law 220 = .ok (.land, 1) := by decide +kernel
theorem dL_law_221 : decode cL_law 221 = .ok (.lor, 1) := by decide +kernel
theorem dL_law_222 : decode cL_law 222 = .ok (.invokevirtual 24, 3) := by decide +kernel
theorem dL_law_225 : decode cL_law 225 = .ok (.if_icmp .eq 467, 3) := by decide +kernel
theorem dL_law_228 : decode cL_law 228 = .ok (.iconst 0, 1) := by decide +kernel
theorem dL_law_229 : decode cL_law 229 = .ok (.ireturn, 1) := by decide +kernel
theorem dL_law_230 : decode cL_law 230 = .ok (.aload_n 1, 1) := by decide +kernel
theorem dL_law_231 : decode cL_law 231 = .ok (.aload_n 0, 1) := by decide +kernel
theorem dL_law_232 : decode cL_law 232 = .ok (.iload_n 3, 1) := by decide +kernel
theorem dL_law_233 : decode cL_law 233 = .ok (.iconst 1, 1) := by decide +kernel
theorem dL_law_234 : decode cL_law 234 = .ok (.iadd, 1) := by decide +kernel
theorem dL_law_235 : decode cL_law 235 = .ok (.iaload, 1) := by decide +kernel
theorem dL_law_236 : decode cL_law 236 = .ok (.aload_n 0, 1) := by decide +kernel
theorem dL_law_237 : decode cL_law 237 = .ok (.iload_n 3, 1) := by decide +kernel
theorem dL_law_238 : decode cL_law 238 = .ok (.iconst 2, 1) := by decide +kernel
theorem dL_law_239 : decode cL_law 239 = .ok (.iadd, 1) := by decide +kernel
theorem dL_law_240 : decode cL_law 240 = .ok (.iaload, 1) := by decide +kernel
theorem dL_law_241 : decode cL_law 241 = .ok (.i2l, 1) := by decide +kernel
theorem dL_law_242 : decode cL_law 242 = .ok (.bipush 32, 2) := by decide +kernel
theorem dL_law_244 : decode cL_law 244 = .ok (.lshl, 1) := by decide +kernel
theorem dL_law_245 : decode cL_law 245 = .ok (.aload_n 0, 1) := by decide +kernel
theorem dL_law_246 : decode cL_law 246 = .ok (.iload_n 3, 1) := by decide +kernel
theorem dL_law_247 : decode cL_law 247 = .ok (.iconst 3, 1) := by decide +kernel
theorem dL_law_248 : decode cL_law 248 = .ok (.iadd, 1) := by decide +kernel
theorem dL_law_249 : decode cL_law 249 = .ok (.iaload, 1) := by decide +kernel
theorem dL_law_250 : decode cL_law 250 = .ok (.i2l, 1) := by decide +kernel
theorem dL_law_251 : decode cL_law 251 = .ok (.ldc2_w 18, 3) := by decide +kernel
theorem dL_law_254 : decode cL_law 254 = .ok (.land, 1) := by decide +kernel
theorem dL_law_255 : decode cL_law 255 = .ok (.lor, 1) := by decide +kernel
theorem dL_law_256 : decode cL_law 256 = .ok (.invokevirtual 25, 3) := by decide +kernel
theorem dL_law_259 : decode cL_law 259 = .ok (.aload_n 2, 1) := by decide +kernel
theorem dL_law_260 : decode cL_law 260 = .ok (.aload_n 0, 1) := by decide +kernel
theorem dL_law_261 : decode cL_law 261 = .ok (.iload_n 3, 1) := by decide +kernel
theorem dL_law_262 : decode cL_law 262 = .ok (.iconst 1, 1) := by decide +kernel
theorem dL_law_263 : decode cL_law 263 = .ok (.iadd, 1) := by decide +kernel
theorem dL_law_264 : decode cL_law 264 = .ok (.iaload, 1) := by decide +kernel
theorem dL_law_265 : decode cL_law 265 = .ok (.aload_n 0, 1) := by decide +kernel
theorem dL_law_266 : decode cL_law 266 = .ok (.iload_n 3, 1) := by decide +kernel
theorem dL_law_267 : decode cL_law 267 = .ok (.iconst 2, 1) := by decide +kernel
theorem dL_law_268 : decode cL_law 268 = .ok (.iadd, 1) := by decide +kernel
theorem dL_law_269 : decode cL_law 269 = .ok (.iaload, 1) := by decide +kernel
theorem dL_law_270 : decode cL_law 270 = .ok (.i2l, 1) := by decide +kernel
theorem dL_law_271 : decode cL_law 271 = .ok (.bipush 32, 2) := by decide +kernel
theorem dL_law_273 : decode cL_law 273 = .ok (.lshl, 1) := by decide +kernel
theorem dL_law_274 : decode cL_law 274 = .ok (.aload_n 0, 1) := by decide +kernel
theorem dL_law_275 : decode cL_law 275 = .ok (.iload_n 3, 1) := by decide +kernel
theorem dL_law_276 : decode cL_law 276 = .ok (.iconst 3, 1) := by decide +kernel
theorem dL_law_277 : decode cL_law 277 = .ok (.iadd, 1) := by decide +kernel
theorem dL_law_278 : decode cL_law 278 = .ok (.iaload, 1) := by decide +kernel
theorem dL_law_279 : decode cL_law 279 = .ok (.i2l, 1) := by decide +kernel
theorem dL_law_280 : decode cL_law 280 = .ok (.ldc2_w 18, 3) := by decide +kernel
theorem dL_law_283 : decode cL_law 283 = .ok (.land, 1) := by decide +kernel
theorem dL_law_284 : decode cL_law 284 = .ok (.lor, 1) := by decide +kernel
theorem dL_law_285 : decode cL_law 285 = .ok (.invokevirtual 29, 3) := by decide +kernel
theorem dL_law_288 : decode cL_law 288 = .ok (.if_icmp .eq 404, 3) := by decide +kernel
theorem dL_law_291 : decode cL_law 291 = .ok (.iconst 0, 1) := by decide +kernel
theorem dL_law_292 : decode cL_law 292 = .ok (.ireturn, 1) := by decide +kernel
theorem dL_law_293 : decode cL_law 293 = .ok (.aload_n 1, 1) := by decide +kernel
theorem dL_law_294 : decode cL_law 294 = .ok (.aload_n 0, 1) := by decide +kernel
theorem dL_law_295 : decode cL_law 295 = .ok (.iload_n 3, 1) := by decide +kernel
theorem dL_law_296 : decode cL_law 296 = .ok (.iconst 1, 1) := by decide +kernel
theorem dL_law_297 : decode cL_law 297 = .ok (.iadd, 1) := by decide +kernel
theorem dL_law_298 : decode cL_law 298 = .ok (.iaload, 1) := by decide +kernel
theorem dL_law_299 : decode cL_law 299 = .ok (.invokevirtual 30, 3) := by decide +kernel
theorem dL_law_302 : decode cL_law 302 = .ok (.aload_n 2, 1) := by decide +kernel
theorem dL_law_303 : decode cL_law 303 = .ok (.aload_n 0, 1) := by decide +kernel
theorem dL_law_304 : decode cL_law 304 = .ok (.iload_n 3, 1) := by decide +kernel
theorem dL_law_305 : decode cL_law 305 = .ok (.iconst 1, 1) := by decide +kernel
theorem dL_law_306 : decode cL_law 306 = .ok (.iadd, 1) := by decide +kernel
theorem dL_law_307 : decode cL_law 307 = .ok (.iaload, 1) := by decide +kernel
theorem dL_law_308 : decode cL_law 308 = .ok (.invokevirtual 34, 3) := by decide +kernel
theorem dL_law_311 : decode cL_law 311 = .ok (.lcmp, 1) := by decide +kernel
theorem dL_law_312 : decode cL_law 312 = .ok (.ifCond .eq 380, 3) := by decide +kernel
theorem dL_law_315 : decode cL_law 315 = .ok (.iconst 0, 1) := by decide +kernel
theorem dL_law_316 : decode cL_law 316 = .ok (.ireturn, 1) := by decide +kernel
theorem dL_law_317 : decode cL_law 317 = .ok (.aload_n 1, 1) := by decide +kernel
theorem dL_law_318 : decode cL_law 318 = .ok (.aload_n 0, 1) := by decide +kernel
theorem dL_law_319 : decode cL_law 319 = .ok (.iload_n 3, 1) := by decide +kernel
theorem dL_law_320 : decode cL_law 320 = .ok (.iconst 1, 1) := by decide +kernel
theorem dL_law_321 : decode cL_law 321 = .ok (.iadd, 1) := by decide +kernel
theorem dL_law_322 : decode cL_law 322 = .ok (.iaload, 1) := by decide +kernel
theorem dL_law_323 : decode cL_law 323 = .ok (.aload_n 0, 1) := by decide +kernel
theorem dL_law_324 : decode cL_law 324 = .ok (.iload_n 3, 1) := by decide +kernel
theorem dL_law_325 : decode cL_law 325 = .ok (.iconst 2, 1) := by decide +kernel
theorem dL_law_326 : decode cL_law 326 = .ok (.iadd, 1) := by decide +kernel
theorem dL_law_327 : decode cL_law 327 = .ok (.iaload, 1) := by decide +kernel
theorem dL_law_328 : decode cL_law 328 = .ok (.invokevirtual 35, 3) := by decide +kernel
theorem dL_law_331 : decode cL_law 331 = .ok (.aload_n 2, 1) := by decide +kernel
theorem dL_law_332 : decode cL_law 332 = .ok (.aload_n 0, 1) := by decide +kernel
theorem dL_law_333 : decode cL_law 333 = .ok (.iload_n 3, 1) := by decide +kernel
theorem dL_law_334 : decode cL_law 334 = .ok (.iconst 1, 1) := by decide +kernel
theorem dL_law_335 : decode cL_law 335 = .ok (.iadd, 1) := by decide +kernel
theorem dL_law_336 : decode cL_law 336 = .ok (.iaload, 1) := by decide +kernel
theorem dL_law_337 : decode cL_law 337 = .ok (.aload_n 0, 1) := by decide +kernel
theorem dL_law_338 : decode cL_law 338 = .ok (.iload_n 3, 1) := by decide +kernel
theorem dL_law_339 : decode cL_law 339 = .ok (.iconst 2, 1) := by decide +kernel
theorem dL_law_340 : decode cL_law 340 = .ok (.iadd, 1) := by decide +kernel
theorem dL_law_341 : decode cL_law 341 = .ok (.iaload, 1) := by decide +kernel
theorem dL_law_342 : decode cL_law 342 = .ok (.invokevirtual 39, 3) := by decide +kernel
theorem dL_law_345 : decode cL_law 345 = .ok (.if_icmp .eq 347, 3) := by decide +kernel
theorem dL_law_348 : decode cL_law 348 = .ok (.iconst 0, 1) := by decide +kernel
theorem dL_law_349 : decode cL_law 349 = .ok (.ireturn, 1) := by decide +kernel
theorem dL_law_350 : decode cL_law 350 = .ok (.aload_n 1, 1) := by decide +kernel
theorem dL_law_351 : decode cL_law 351 = .ok (.aload_n 0, 1) := by decide +kernel
theorem dL_law_352 : decode cL_law 352 = .ok (.iload_n 3, 1) := by decide +kernel
theorem dL_law_353 : decode cL_law 353 = .ok (.iconst 1, 1) := by decide +kernel
theorem dL_law_354 : decode cL_law 354 = .ok (.iadd, 1) := by decide +kernel
theorem dL_law_355 : decode cL_law 355 = .ok (.iaload, 1) := by decide +kernel
theorem dL_law_356 : decode cL_law 356 = .ok (.aload_n 0, 1) := by decide +kernel
theorem dL_law_357 : decode cL_law 357 = .ok (.iload_n 3, 1) := by decide +kernel
theorem dL_law_358 : decode cL_law 358 = .ok (.iconst 2, 1) := by decide +kernel
theorem dL_law_359 : decode cL_law 359 = .ok (.iadd, 1) := by decide +kernel
theorem dL_law_360 : decode cL_law 360 = .ok (.iaload, 1) := by decide +kernel
theorem dL_law_361 : decode cL_law 361 = .ok (.aload_n 0, 1) := by decide +kernel
theorem dL_law_362 : decode cL_law 362 = .ok (.iload_n 3, 1) := by decide +kernel
theorem dL_law_363 : decode cL_law 363 = .ok (.iconst 3, 1) := by decide +kernel
theorem dL_law_364 : decode cL_law 364 = .ok (.iadd, 1) := by decide +kernel
theorem dL_law_365 : decode cL_law 365 = .ok (.iaload, 1) := by decide +kernel
theorem dL_law_366 : decode cL_law 366 = .ok (.aload_n 0, 1) := by decide +kernel
theorem dL_law_367 : decode cL_law 367 = .ok (.iload_n 3, 1) := by decide +kernel
theorem dL_law_368 : decode cL_law 368 = .ok (.iconst 4, 1) := by decide +kernel
theorem dL_law_369 : decode cL_law 369 = .ok (.iadd, 1) := by decide +kernel
theorem dL_law_370 : decode cL_law 370 = .ok (.iaload, 1) := by decide +kernel
theorem dL_law_371 : decode cL_law 371 = .ok (.i2l, 1) := by decide +kernel
theorem dL_law_372 : decode cL_law 372 = .ok (.bipush 32, 2) := by decide +kernel
theorem dL_law_374 : decode cL_law 374 = .ok (.lshl, 1) := by decide +kernel
theorem dL_law_375 : decode cL_law 375 = .ok (.aload_n 0, 1) := by decide +kernel
theorem dL_law_376 : decode cL_law 376 = .ok (.iload_n 3, 1) := by decide +kernel
theorem dL_law_377 : decode cL_law 377 = .ok (.iconst 5, 1) := by decide +kernel
theorem dL_law_378 : decode cL_law 378 = .ok (.iadd, 1) := by decide +kernel
theorem dL_law_379 : decode cL_law 379 = .ok (.iaload, 1) := by decide +kernel
theorem dL_law_380 : decode cL_law 380 = .ok (.i2l, 1) := by decide +kernel
theorem dL_law_381 : decode cL_law 381 = .ok (.ldc2_w 18, 3) := by decide +kernel
theorem dL_law_384 : decode cL_law 384 = .ok (.land, 1) := by decide +kernel
theorem dL_law_385 : decode cL_law 385 = .ok (.lor, 1) := by decide +kernel
theorem dL_law_386 : decode cL_law 386 = .ok (.aload_n 0, 1) := by decide +kernel
theorem dL_law_387 : decode cL_law 387 = .ok (.iload_n 3, 1) := by decide +kernel
theorem dL_law_388 : decode cL_law 388 = .ok (.bipush 6, 2) := by decide +kernel
theorem dL_law_390 : decode cL_law 390 = .ok (.iadd, 1) := by decide +kernel
theorem dL_law_391 : decode cL_law 391 = .ok (.iaload, 1) := by decide +kernel
theorem dL_law_392 : decode cL_law 392 = .ok (.i2l, 1) := by decide +kernel
theorem dL_law_393 : decode cL_law 393 = .ok (.bipush 32, 2) := by decide +kernel
theorem dL_law_395 : decode cL_law 395 = .ok (.lshl, 1) := by decide +kernel
theorem dL_law_396 : decode cL_law 396 = .ok (.aload_n 0, 1) := by decide +kernel
theorem dL_law_397 : decode cL_law 397 = .ok (.iload_n 3, 1) := by decide +kernel
theorem dL_law_398 : decode cL_law 398 = .ok (.bipush 7, 2) := by decide +kernel
theorem dL_law_400 : decode cL_law 400 = .ok (.iadd, 1) := by decide +kernel
theorem dL_law_401 : decode cL_law 401 = .ok (.iaload, 1) := by decide +kernel
theorem dL_law_402 : decode cL_law 402 = .ok (.i2l, 1) := by decide +kernel
theorem dL_law_403 : decode cL_law 403 = .ok (.ldc2_w 18, 3) := by decide +kernel
theorem dL_law_406 : decode cL_law 406 = .ok (.land, 1) := by decide +kernel
theorem dL_law_407 : decode cL_law 407 = .ok (.lor, 1) := by decide +kernel
theorem dL_law_408 : decode cL_law 408 = .ok (.invokevirtual 40, 3) := by decide +kernel
theorem dL_law_411 : decode cL_law 411 = .ok (.aload_n 2, 1) := by decide +kernel
theorem dL_law_412 : decode cL_law 412 = .ok (.aload_n 0, 1) := by decide +kernel
theorem dL_law_413 : decode cL_law 413 = .ok (.iload_n 3, 1) := by decide +kernel
theorem dL_law_414 : decode cL_law 414 = .ok (.iconst 1, 1) := by decide +kernel
theorem dL_law_415 : decode cL_law 415 = .ok (.iadd, 1) := by decide +kernel
theorem dL_law_416 : decode cL_law 416 = .ok (.iaload, 1) := by decide +kernel
theorem dL_law_417 : decode cL_law 417 = .ok (.aload_n 0, 1) := by decide +kernel
theorem dL_law_418 : decode cL_law 418 = .ok (.iload_n 3, 1) := by decide +kernel
theorem dL_law_419 : decode cL_law 419 = .ok (.iconst 2, 1) := by decide +kernel
theorem dL_law_420 : decode cL_law 420 = .ok (.iadd, 1) := by decide +kernel
theorem dL_law_421 : decode cL_law 421 = .ok (.iaload, 1) := by decide +kernel
theorem dL_law_422 : decode cL_law 422 = .ok (.aload_n 0, 1) := by decide +kernel
theorem dL_law_423 : decode cL_law 423 = .ok (.iload_n 3, 1) := by decide +kernel
theorem dL_law_424 : decode cL_law 424 = .ok (.iconst 3, 1) := by decide +kernel
theorem dL_law_425 : decode cL_law 425 = .ok (.iadd, 1) := by decide +kernel
theorem dL_law_426 : decode cL_law 426 = .ok (.iaload, 1) := by decide +kernel
theorem dL_law_427 : decode cL_law 427 = .ok (.aload_n 0, 1) := by decide +kernel
theorem dL_law_428 : decode cL_law 428 = .ok (.iload_n 3, 1) := by decide +kernel
theorem dL_law_429 : decode cL_law 429 = .ok (.iconst 4, 1) := by decide +kernel
theorem dL_law_430 : decode cL_law 430 = .ok (.iadd, 1) := by decide +kernel
theorem dL_law_431 : decode cL_law 431 = .ok (.iaload, 1) := by decide +kernel
theorem dL_law_432 : decode cL_law 432 = .ok (.i2l, 1) := by decide +kernel
theorem dL_law_433 : decode cL_law 433 = .ok (.bipush 32, 2) := by decide +kernel
theorem dL_law_435 : decode cL_law 435 = .ok (.lshl, 1) := by decide +kernel
theorem dL_law_436 : decode cL_law 436 = .ok (.aload_n 0, 1) := by decide +kernel
theorem dL_law_437 : decode cL_law 437 = .ok (.iload_n 3, 1) := by decide +kernel
theorem dL_law_438 : decode cL_law 438 = .ok (.iconst 5, 1) := by decide +kernel
theorem dL_law_439 : decode cL_law 439 = .ok (.iadd, 1) := by decide +kernel
theorem dL_law_440 : decode cL_law 440 = .ok (.iaload, 1) := by decide +kernel
theorem dL_law_441 : decode cL_law 441 = .ok (.i2l, 1) := by decide +kernel
theorem dL_law_442 : decode cL_law 442 = .ok (.ldc2_w 18, 3) := by decide +kernel
theorem dL_law_445 : decode cL_law 445 = .ok (.land, 1) := by decide +kernel
theorem dL_law_446 : decode cL_law 446 = .ok (.lor, 1) := by decide +kernel
theorem dL_law_447 : decode cL_law 447 = .ok (.aload_n 0, 1) := by decide +kernel
theorem dL_law_448 : decode cL_law 448 = .ok (.iload_n 3, 1) := by decide +kernel
theorem dL_law_449 : decode cL_law 449 = .ok (.bipush 6, 2) := by decide +kernel
theorem dL_law_451 : decode cL_law 451 = .ok (.iadd, 1) := by decide +kernel
theorem dL_law_452 : decode cL_law 452 = .ok (.iaload, 1) := by decide +kernel
theorem dL_law_453 : decode cL_law 453 = .ok (.i2l, 1) := by decide +kernel
theorem dL_law_454 : decode cL_law 454 = .ok (.bipush 32, 2) := by decide +kernel
theorem dL_law_456 : decode cL_law 456 = .ok (.lshl, 1) := by decide +kernel
theorem dL_law_457 : decode cL_law 457 = .ok (.aload_n 0, 1) := by decide +kernel
theorem dL_law_458 : decode cL_law 458 = .ok (.iload_n 3, 1) := by decide +kernel
theorem dL_law_459 : decode cL_law 459 = .ok (.bipush 7, 2) := by decide +kernel
theorem dL_law_461 : decode cL_law 461 = .ok (.iadd, 1) := by decide +kernel
theorem dL_law_462 : decode cL_law 462 = .ok (.iaload, 1) := by decide +kernel
theorem dL_law_463 : decode cL_law 463 = .ok (.i2l, 1) := by decide +kernel
theorem dL_law_464 : decode cL_law 464 = .ok (.ldc2_w 18, 3) := by decide +kernel
theorem dL_law_467 : decode cL_law 467 = .ok (.land, 1) := by decide +kernel
theorem dL_law_468 : decode cL_law 468 = .ok (.lor, 1) := by decide +kernel
theorem dL_law_469 : decode cL_law 469 = .ok (.invokevirtual 44, 3) := by decide +kernel
theorem dL_law_472 : decode cL_law 472 = .ok (.if_icmp .eq 220, 3) := by decide +kernel
theorem dL_law_475 : decode cL_law 475 = .ok (.iconst 0, 1) := by decide +kernel
theorem dL_law_476 : decode cL_law 476 = .ok (.ireturn, 1) := by decide +kernel
theorem dL_law_477 : decode cL_law 477 = .ok (.aload_n 1, 1) := by decide +kernel
theorem dL_law_478 : decode cL_law 478 = .ok (.aload_n 0, 1) := by decide +kernel
theorem dL_law_479 : decode cL_law 479 = .ok (.iload_n 3, 1) := by decide +kernel
theorem dL_law_480 : decode cL_law 480 = .ok (.iconst 1, 1) := by decide +kernel
theorem dL_law_481 : decode cL_law 481 = .ok (.iadd, 1) := by decide +kernel
theorem dL_law_482 : decode cL_law 482 = .ok (.iaload, 1) := by decide +kernel
theorem dL_law_483 : decode cL_law 483 = .ok (.aload_n 0, 1) := by decide +kernel
theorem dL_law_484 : decode cL_law 484 = .ok (.iload_n 3, 1) := by decide +kernel
theorem dL_law_485 : decode cL_law 485 = .ok (.iconst 2, 1) := by decide +kernel
theorem dL_law_486 : decode cL_law 486 = .ok (.iadd, 1) := by decide +kernel
theorem dL_law_487 : decode cL_law 487 = .ok (.iaload, 1) := by decide +kernel
theorem dL_law_488 : decode cL_law 488 = .ok (.invokevirtual 45, 3) := by decide +kernel
theorem dL_law_491 : decode cL_law 491 = .ok (.aload_n 2, 1) := by decide +kernel
theorem dL_law_492 : decode cL_law 492 = .ok (.aload_n 0, 1) := by decide +kernel
theorem dL_law_493 : decode cL_law 493 = .ok (.iload_n 3, 1) := by decide +kernel
theorem dL_law_494 : decode cL_law 494 = .ok (.iconst 1, 1) := by decide +kernel
theorem dL_law_495 : decode cL_law 495 = .ok (.iadd, 1) := by decide +kernel
theorem dL_law_496 : decode cL_law 496 = .ok (.iaload, 1) := by decide +kernel
theorem dL_law_497 : decode cL_law 497 = .ok (.aload_n 0, 1) := by decide +kernel
theorem dL_law_498 : decode cL_law 498 = .ok (.iload_n 3, 1) := by decide +kernel
theorem dL_law_499 : decode cL_law 499 = .ok (.iconst 2, 1) := by decide +kernel
theorem dL_law_500 : decode cL_law 500 = .ok (.iadd, 1) := by decide +kernel
theorem dL_law_501 : decode cL_law 501 = .ok (.iaload, 1) := by decide +kernel
theorem dL_law_502 : decode cL_law 502 = .ok (.invokevirtual 48, 3) := by decide +kernel
theorem dL_law_505 : decode cL_law 505 = .ok (.if_icmp .eq 187, 3) := by decide +kernel
theorem dL_law_508 : decode cL_law 508 = .ok (.iconst 0, 1) := by decide +kernel
theorem dL_law_509 : decode cL_law 509 = .ok (.ireturn, 1) := by decide +kernel
theorem dL_law_510 : decode cL_law 510 = .ok (.aload_n 1, 1) := by decide +kernel
theorem dL_law_511 : decode cL_law 511 = .ok (.aload_n 0, 1) := by decide +kernel
theorem dL_law_512 : decode cL_law 512 = .ok (.iload_n 3, 1) := by decide +kernel
theorem dL_law_513 : decode cL_law 513 = .ok (.iconst 1, 1) := by decide +kernel
theorem dL_law_514 : decode cL_law 514 = .ok (.iadd, 1) := by decide +kernel
theorem dL_law_515 : decode cL_law 515 = .ok (.iaload, 1) := by decide +kernel
theorem dL_law_516 : decode cL_law 516 = .ok (.aload_n 0, 1) := by decide +kernel
theorem dL_law_517 : decode cL_law 517 = .ok (.iload_n 3, 1) := by decide +kernel
theorem dL_law_518 : decode cL_law 518 = .ok (.iconst 2, 1) := by decide +kernel
theorem dL_law_519 : decode cL_law 519 = .ok (.iadd, 1) := by decide +kernel
theorem dL_law_520 : decode cL_law 520 = .ok (.iaload, 1) := by decide +kernel
theorem dL_law_521 : decode cL_law 521 = .ok (.invokevirtual 49, 3) := by decide +kernel
theorem dL_law_524 : decode cL_law 524 = .ok (.aload_n 2, 1) := by decide +kernel
theorem dL_law_525 : decode cL_law 525 = .ok (.aload_n 0, 1) := by decide +kernel
theorem dL_law_526 : decode cL_law 526 = .ok (.iload_n 3, 1) := by decide +kernel
theorem dL_law_527 : decode cL_law 527 = .ok (.iconst 1, 1) := by decide +kernel
theorem dL_law_528 : decode cL_law 528 = .ok (.iadd, 1) := by decide +kernel
theorem dL_law_529 : decode cL_law 529 = .ok (.iaload, 1) := by decide +kernel
theorem dL_law_530 : decode cL_law 530 = .ok (.aload_n 0, 1) := by decide +kernel
theorem dL_law_531 : decode cL_law 531 = .ok (.iload_n 3, 1) := by decide +kernel
theorem dL_law_532 : decode cL_law 532 = .ok (.iconst 2, 1) := by decide +kernel
theorem dL_law_533 : decode cL_law 533 = .ok (.iadd, 1) := by decide +kernel
theorem dL_law_534 : decode cL_law 534 = .ok (.iaload, 1) := by decide +kernel
theorem dL_law_535 : decode cL_law 535 = .ok (.invokevirtual 53, 3) := by decide +kernel
theorem dL_law_538 : decode cL_law 538 = .ok (.lcmp, 1) := by decide +kernel
theorem dL_law_539 : decode cL_law 539 = .ok (.ifCond .eq 153, 3) := by decide +kernel
theorem dL_law_542 : decode cL_law 542 = .ok (.iconst 0, 1) := by decide +kernel
theorem dL_law_543 : decode cL_law 543 = .ok (.ireturn, 1) := by decide +kernel
theorem dL_law_544 : decode cL_law 544 = .ok (.aload_n 1, 1) := by decide +kernel
theorem dL_law_545 : decode cL_law 545 = .ok (.aload_n 0, 1) := by decide +kernel
theorem dL_law_546 : decode cL_law 546 = .ok (.iload_n 3, 1) := by decide +kernel
theorem dL_law_547 : decode cL_law 547 = .ok (.iconst 1, 1) := by decide +kernel
theorem dL_law_548 : decode cL_law 548 = .ok (.iadd, 1) := by decide +kernel
theorem dL_law_549 : decode cL_law 549 = .ok (.iaload, 1) := by decide +kernel
theorem dL_law_550 : decode cL_law 550 = .ok (.invokevirtual 54, 3) := by decide +kernel
theorem dL_law_553 : decode cL_law 553 = .ok (.aload_n 2, 1) := by decide +kernel
theorem dL_law_554 : decode cL_law 554 = .ok (.aload_n 0, 1) := by decide +kernel
theorem dL_law_555 : decode cL_law 555 = .ok (.iload_n 3, 1) := by decide +kernel
theorem dL_law_556 : decode cL_law 556 = .ok (.iconst 1, 1) := by decide +kernel
theorem dL_law_557 : decode cL_law 557 = .ok (.iadd, 1) := by decide +kernel
theorem dL_law_558 : decode cL_law 558 = .ok (.iaload, 1) := by decide +kernel
theorem dL_law_559 : decode cL_law 559 = .ok (.invokevirtual 58, 3) := by decide +kernel
theorem dL_law_562 : decode cL_law 562 = .ok (.if_icmp .eq 130, 3) := by decide +kernel
theorem dL_law_565 : decode cL_law 565 = .ok (.iconst 0, 1) := by decide +kernel
theorem dL_law_566 : decode cL_law 566 = .ok (.ireturn, 1) := by decide +kernel
theorem dL_law_567 : decode cL_law 567 = .ok (.aload_n 1, 1) := by decide +kernel
theorem dL_law_568 : decode cL_law 568 = .ok (.aload_n 0, 1) := by decide +kernel
theorem dL_law_569 : decode cL_law 569 = .ok (.iload_n 3, 1) := by decide +kernel
theorem dL_law_570 : decode cL_law 570 = .ok (.iconst 1, 1) := by decide +kernel
theorem dL_law_571 : decode cL_law 571 = .ok (.iadd, 1) := by decide +kernel
theorem dL_law_572 : decode cL_law 572 = .ok (.iaload, 1) := by decide +kernel
theorem dL_law_573 : decode cL_law 573 = .ok (.aload_n 0, 1) := by decide +kernel
theorem dL_law_574 : decode cL_law 574 = .ok (.iload_n 3, 1) := by decide +kernel
theorem dL_law_575 : decode cL_law 575 = .ok (.iconst 2, 1) := by decide +kernel
theorem dL_law_576 : decode cL_law 576 = .ok (.iadd, 1) := by decide +kernel
theorem dL_law_577 : decode cL_law 577 = .ok (.iaload, 1) := by decide +kernel
theorem dL_law_578 : decode cL_law 578 = .ok (.invokevirtual 59, 3) := by decide +kernel
theorem dL_law_581 : decode cL_law 581 = .ok (.aload_n 2, 1) := by decide +kernel
theorem dL_law_582 : decode cL_law 582 = .ok (.aload_n 0, 1) := by decide +kernel
theorem dL_law_583 : decode cL_law 583 = .ok (.iload_n 3, 1) := by decide +kernel
theorem dL_law_584 : decode cL_law 584 = .ok (.iconst 1, 1) := by decide +kernel
theorem dL_law_585 : decode cL_law 585 = .ok (.iadd, 1) := by decide +kernel
theorem dL_law_586 : decode cL_law 586 = .ok (.iaload, 1) := by decide +kernel
theorem dL_law_587 : decode cL_law 587 = .ok (.aload_n 0, 1) := by decide +kernel
theorem dL_law_588 : decode cL_law 588 = .ok (.iload_n 3, 1) := by decide +kernel
theorem dL_law_589 : decode cL_law 589 = .ok (.iconst 2, 1) := by decide +kernel
theorem dL_law_590 : decode cL_law 590 = .ok (.iadd, 1) := by decide +kernel
theorem dL_law_591 : decode cL_law 591 = .ok (.iaload, 1) := by decide +kernel
theorem dL_law_592 : decode cL_law 592 = .ok (.invokevirtual 62, 3) := by decide +kernel
theorem dL_law_595 : decode cL_law 595 = .ok (.if_icmp .eq 97, 3) := by decide +kernel
theorem dL_law_598 : decode cL_law 598 = .ok (.iconst 0, 1) := by decide +kernel
theorem dL_law_599 : decode cL_law 599 = .ok (.ireturn, 1) := by decide +kernel
theorem dL_law_600 : decode cL_law 600 = .ok (.aload_n 1, 1) := by decide +kernel
theorem dL_law_601 : decode cL_law 601 = .ok (.aload_n 0, 1) := by decide +kernel
theorem dL_law_602 : decode cL_law 602 = .ok (.iload_n 3, 1) := by decide +kernel
theorem dL_law_603 : decode cL_law 603 = .ok (.iconst 1, 1) := by decide +kernel
theorem dL_law_604 : decode cL_law 604 = .ok (.iadd, 1) := by decide +kernel
theorem dL_law_605 : decode cL_law 605 = .ok (.iaload, 1) := by decide +kernel
theorem dL_law_606 : decode cL_law 606 = .ok (.aload_n 0, 1) := by decide +kernel
theorem dL_law_607 : decode cL_law 607 = .ok (.iload_n 3, 1) := by decide +kernel
theorem dL_law_608 : decode cL_law 608 = .ok (.iconst 2, 1) := by decide +kernel
theorem dL_law_609 : decode cL_law 609 = .ok (.iadd, 1) := by decide +kernel
theorem dL_law_610 : decode cL_law 610 = .ok (.iaload, 1) := by decide +kernel
theorem dL_law_611 : decode cL_law 611 = .ok (.invokevirtual 63, 3) := by decide +kernel
theorem dL_law_614 : decode cL_law 614 = .ok (.aload_n 2, 1) := by decide +kernel
theorem dL_law_615 : decode cL_law 615 = .ok (.aload_n 0, 1) := by decide +kernel
theorem dL_law_616 : decode cL_law 616 = .ok (.iload_n 3, 1) := by decide +kernel
theorem dL_law_617 : decode cL_law 617 = .ok (.iconst 1, 1) := by decide +kernel
theorem dL_law_618 : decode cL_law 618 = .ok (.iadd, 1) := by decide +kernel
theorem dL_law_619 : decode cL_law 619 = .ok (.iaload, 1) := by decide +kernel
theorem dL_law_620 : decode cL_law 620 = .ok (.aload_n 0, 1) := by decide +kernel
theorem dL_law_621 : decode cL_law 621 = .ok (.iload_n 3, 1) := by decide +kernel
theorem dL_law_622 : decode cL_law 622 = .ok (.iconst 2, 1) := by decide +kernel
theorem dL_law_623 : decode cL_law 623 = .ok (.iadd, 1) := by decide +kernel
theorem dL_law_624 : decode cL_law 624 = .ok (.iaload, 1) := by decide +kernel
theorem dL_law_625 : decode cL_law 625 = .ok (.invokevirtual 66, 3) := by decide +kernel
theorem dL_law_628 : decode cL_law 628 = .ok (.if_icmp .eq 64, 3) := by decide +kernel
theorem dL_law_631 : decode cL_law 631 = .ok (.iconst 0, 1) := by decide +kernel
theorem dL_law_632 : decode cL_law 632 = .ok (.ireturn, 1) := by decide +kernel
theorem dL_law_633 : decode cL_law 633 = .ok (.aload_n 1, 1) := by decide +kernel
theorem dL_law_634 : decode cL_law 634 = .ok (.aload_n 0, 1) := by decide +kernel
theorem dL_law_635 : decode cL_law 635 = .ok (.iload_n 3, 1) := by decide +kernel
theorem dL_law_636 : decode cL_law 636 = .ok (.iconst 1, 1) := by decide +kernel
theorem dL_law_637 : decode cL_law 637 = .ok (.iadd, 1) := by decide +kernel
theorem dL_law_638 : decode cL_law 638 = .ok (.iaload, 1) := by decide +kernel
theorem dL_law_639 : decode cL_law 639 = .ok (.aload_n 0, 1) := by decide +kernel
theorem dL_law_640 : decode cL_law 640 = .ok (.iload_n 3, 1) := by decide +kernel
theorem dL_law_641 : decode cL_law 641 = .ok (.iconst 2, 1) := by decide +kernel
theorem dL_law_642 : decode cL_law 642 = .ok (.iadd, 1) := by decide +kernel
theorem dL_law_643 : decode cL_law 643 = .ok (.iaload, 1) := by decide +kernel
theorem dL_law_644 : decode cL_law 644 = .ok (.invokevirtual 67, 3) := by decide +kernel
theorem dL_law_647 : decode cL_law 647 = .ok (.aload_n 2, 1) := by decide +kernel
theorem dL_law_648 : decode cL_law 648 = .ok (.aload_n 0, 1) := by decide +kernel
theorem dL_law_649 : decode cL_law 649 = .ok (.iload_n 3, 1) := by decide +kernel
theorem dL_law_650 : decode cL_law 650 = .ok (.iconst 1, 1) := by decide +kernel
theorem dL_law_651 : decode cL_law 651 = .ok (.iadd, 1) := by decide +kernel
theorem dL_law_652 : decode cL_law 652 = .ok (.iaload, 1) := by decide +kernel
theorem dL_law_653 : decode cL_law 653 = .ok (.aload_n 0, 1) := by decide +kernel
theorem dL_law_654 : decode cL_law 654 = .ok (.iload_n 3, 1) := by decide +kernel
theorem dL_law_655 : decode cL_law 655 = .ok (.iconst 2, 1) := by decide +kernel
theorem dL_law_656 : decode cL_law 656 = .ok (.iadd, 1) := by decide +kernel
theorem dL_law_657 : decode cL_law 657 = .ok (.iaload, 1) := by decide +kernel
theorem dL_law_658 : decode cL_law 658 = .ok (.invokevirtual 70, 3) := by decide +kernel
theorem dL_law_661 : decode cL_law 661 = .ok (.if_icmp .eq 31, 3) := by decide +kernel
theorem dL_law_664 : decode cL_law 664 = .ok (.iconst 0, 1) := by decide +kernel
theorem dL_law_665 : decode cL_law 665 = .ok (.ireturn, 1) := by decide +kernel
theorem dL_law_666 : decode cL_law 666 = .ok (.aload_n 1, 1) := by decide +kernel
theorem dL_law_667 : decode cL_law 667 = .ok (.invokevirtual 71, 3) := by decide +kernel
theorem dL_law_670 : decode cL_law 670 = .ok (.aload_n 2, 1) := by decide +kernel
theorem dL_law_671 : decode cL_law 671 = .ok (.invokevirtual 75, 3) := by decide +kernel
theorem dL_law_674 : decode cL_law 674 = .ok (.if_icmp .eq 18, 3) := by decide +kernel
theorem dL_law_677 : decode cL_law 677 = .ok (.iconst 0, 1) := by decide +kernel
theorem dL_law_678 : decode cL_law 678 = .ok (.ireturn, 1) := by decide +kernel
theorem dL_law_679 : decode cL_law 679 = .ok (.aload_n 1, 1) := by decide +kernel
theorem dL_law_680 : decode cL_law 680 = .ok (.invokevirtual 76, 3) := by decide +kernel
theorem dL_law_683 : decode cL_law 683 = .ok (.aload_n 2, 1) := by decide +kernel
theorem dL_law_684 : decode cL_law 684 = .ok (.invokevirtual 79, 3) := by decide +kernel
theorem dL_law_687 : decode cL_law 687 = .ok (.if_icmp .eq 5, 3) := by decide +kernel
theorem dL_law_690 : decode cL_law 690 = .ok (.iconst 0, 1) := by decide +kernel
theorem dL_law_691 : decode cL_law 691 = .ok (.ireturn, 1) := by decide +kernel
theorem dL_law_692 : decode cL_law 692 = .ok (.iinc 3 8, 3) := by decide +kernel
theorem dL_law_695 : decode cL_law 695 = .ok (.goto (-677), 3) := by decide +kernel
theorem dL_law_698 : decode cL_law 698 = .ok (.iconst 1, 1) := by decide +kernel
theorem dL_law_699 : decode cL_law 699 = .ok (.ireturn, 1) := by decide +kernel
end
section
/-! THE PURE MACHINE: memory by object numbers (order of allocation), all of the claim's bytecode as functions -/
abbrev pm_M : Type := Nat × (Nat → Nat → Int32) × (Nat → Nat → UInt64) × (Nat → Nat → Option Nat)
def pm_u {α : Type} (f : Nat → Nat → α) (a b : Nat) (v : α) : Nat → Nat → α := fun i j => if i = a ∧ j = b then v else f i j
/-- the kinds of the objects in the order in which they are made: the class's place in vwCl and its number of fields, or 10 int, 11 boolean, 12 double, 13 Formula arrays with their lengths -/
def pm_kl (i : Nat) : Nat × Nat := match i with
  | 0 => (4, 7)
  | 1 => (3, 9)
  | 2 => (10, 160)
  | 3 => (12, 160)
  | 4 => (10, 160)
  | 5 => (10, 4)
  | 6 => (10, 4)
  | 7 => (11, 160)
  | 8 => (12, 160)
  | 9 => (11, 4)
  | 10 => (12, 4)
  | 11 => (2, 9)
  | 12 => (1, 1)
  | 13 => (12, 480)
  | _ => (13, 60)
def pm_kh (i : Nat) : Nat × Nat := match i with
  | 0 => (10, 5)
  | 1 => (12, 40)
  | 2 => (11, 40)
  | 3 => (5, 32)
  | 4 => (10, 160)
  | 5 => (10, 160)
  | 6 => (12, 160)
  | 7 => (12, 4)
  | 8 => (11, 4)
  | 9 => (10, 60)
  | 10 => (10, 60)
  | 11 => (12, 60)
  | 12 => (12, 60)
  | 13 => (10, 60)
  | 14 => (10, 480)
  | 15 => (11, 60)
  | 16 => (10, 60)
  | 17 => (10, 60)
  | 18 => (10, 60)
  | 19 => (11, 60)
  | 20 => (10, 64)
  | 21 => (10, 64)
  | 22 => (12, 64)
  | 23 => (12, 64)
  | 24 => (10, 5)
  | 25 => (11, 40)
  | 26 => (12, 40)
  | _ => (99, 0)
def pm_k (i : Nat) : Nat × Nat := if i < 15 then pm_kl i else if i < 135 then (if i % 2 = 1 then (0, 15) else (13, 8)) else pm_kh (i - 135)
/-- the types of a class's fields, classes by their places in vwCl -/
def pm_ty (c : Nat) : Nat → FieldType := match c with
  | 0 => tyX1
  | 1 => tyX4
  | 2 => tyX5
  | 3 => tyX6
  | 4 => tyX7
  | _ => tyX8
/-- where a field lies in the memory: the fields of Formula k as rows 200 + field of column k -/
def pm_l (i s : Nat) : Nat × Nat := if (pm_k i).1 = 0 then (200 + s, (i - 15) / 2) else (i, s)
def pm_o (r : Option Nat) : Value := match r with
  | some k => .ref k
  | none => .null
def pm_g (μ : pm_M) (i s : Nat) (ty : FieldType) : Value := match ty with
  | .int => .int (μ.2.1 (pm_l i s).1 (pm_l i s).2)
  | .boolean => .int (μ.2.1 (pm_l i s).1 (pm_l i s).2)
  | .double => .double (μ.2.2.1 (pm_l i s).1 (pm_l i s).2)
  | _ => pm_o (μ.2.2.2 (pm_l i s).1 (pm_l i s).2)
def pm_wI (μ : pm_M) (a b : Nat) (x : Int32) : pm_M := (μ.1, pm_u μ.2.1 a b x, μ.2.2.1, μ.2.2.2)
def pm_wD (μ : pm_M) (a b : Nat) (x : UInt64) : pm_M := (μ.1, μ.2.1, pm_u μ.2.2.1 a b x, μ.2.2.2)
def pm_wR (μ : pm_M) (a b : Nat) (x : Option Nat) : pm_M := (μ.1, μ.2.1, μ.2.2.1, pm_u μ.2.2.2 a b x)
def pm_p (μ : pm_M) (i s : Nat) (ty : FieldType) (v : Value) : Option pm_M := match ty with
  | .int => (match v with
    | .int x => some (pm_wI μ (pm_l i s).1 (pm_l i s).2 x)
    | _ => none)
  | .boolean => (match v with
    | .int x => if x &&& 1 = x then some (pm_wI μ (pm_l i s).1 (pm_l i s).2 x) else none
    | _ => none)
  | .double => (match v with
    | .double x => some (pm_wD μ (pm_l i s).1 (pm_l i s).2 x)
    | _ => none)
  | .object _ => (match v with
    | .ref k => some (pm_wR μ (pm_l i s).1 (pm_l i s).2 (some k))
    | _ => none)
  | .array _ => (match v with
    | .ref k => some (pm_wR μ (pm_l i s).1 (pm_l i s).2 (some k))
    | _ => none)
  | _ => none
abbrev pm_F : Type := List Value → pm_M → Option (Option Value × pm_M)
/-- what a method's code is read with: the bytes; field links (class, field) to read, to write; constants; calls (0 virtual, 1 static, 2 special; how many arguments beside the receiver; the receiver's class; the function); classes (to make objects of; 13: arrays over Formula); natives (0 longBitsToDouble, 1 doubleToRawLongBits); the script; the type of the answer -/
abbrev pm_E : Type := ByteArray × (Nat → Option (Nat × Nat)) × (Nat → Option (Nat × Nat)) × (Nat → Option Value) × (Nat → Option (Nat × Nat × Nat × pm_F)) × (Nat → Option Nat) × (Nat → Option Nat) × Option (Nat × (Nat → Int32)) × Option FieldType
abbrev pm_Ec (E : pm_E) : ByteArray := E.1
abbrev pm_Eg (E : pm_E) : Nat → Option (Nat × Nat) := E.2.1
abbrev pm_Ep (E : pm_E) : Nat → Option (Nat × Nat) := E.2.2.1
abbrev pm_Ek (E : pm_E) : Nat → Option Value := E.2.2.2.1
abbrev pm_Ef (E : pm_E) : Nat → Option (Nat × Nat × Nat × pm_F) := E.2.2.2.2.1
abbrev pm_Eo (E : pm_E) : Nat → Option Nat := E.2.2.2.2.2.1
abbrev pm_En (E : pm_E) : Nat → Option Nat := E.2.2.2.2.2.2.1
abbrev pm_Ex (E : pm_E) : Option (Nat × (Nat → Int32)) := E.2.2.2.2.2.2.2.1
abbrev pm_Er (E : pm_E) : Option FieldType := E.2.2.2.2.2.2.2.2
abbrev pm_S : Type := Nat × List Value × List Value × pm_M
def pm_at (L : List Value) (i : Nat) : Value := L.getD i (.retAddr 0)
def pm_c (c : ClassFile.Cond) (x y : Int32) : Bool := match c with
  | .eq => decide (x = y)
  | .ne => !decide (x = y)
  | .lt => decide (x < y)
  | .ge => decide (y ≤ x)
  | .gt => decide (y < x)
  | .le => decide (x ≤ y)
def pm_t (pc : Nat) (off : Int) : Option Nat := if 0 ≤ (pc : Int) + off then some ((pc : Int) + off).toNat else none
def pm_sw (d lo hi : Int) (offs : Array Int) (x : Int32) : Option Int := if x.toInt < lo ∨ hi < x.toInt then some d else offs[(x.toInt - lo).toNat]?
/-- instructions that leave the memory -/
def pm_s1 (i : ClassFile.Instr) (pc : Nat) (L st : List Value) : Option (Nat × List Value × List Value) := match i with
  | .iconst n => some (pc + 1, L, .int (Int32.ofInt n) :: st)
  | .bipush n => some (pc + 2, L, .int (Int8.ofInt n).toInt32 :: st)
  | .sipush n => some (pc + 3, L, .int (Int16.ofInt n).toInt32 :: st)
  | .lconst n => some (pc + 1, L, .long (Int64.ofNat n) :: st)
  | .dconst n => some (pc + 1, L, .double (if n = 0 then 0 else 4607182418800017408) :: st)
  | .aconst_null => some (pc + 1, L, .null :: st)
  | .iload_n k => (match pm_at L k with
    | .int x => some (pc + 1, L, .int x :: st)
    | _ => none)
  | .iload k => (match pm_at L k with
    | .int x => some (pc + 2, L, .int x :: st)
    | _ => none)
  | .lload_n k => (match pm_at L k, pm_at L (k + 1) with
    | .long x, .retAddr 1 => some (pc + 1, L, .long x :: st)
    | _, _ => none)
  | .lload k => (match pm_at L k, pm_at L (k + 1) with
    | .long x, .retAddr 1 => some (pc + 2, L, .long x :: st)
    | _, _ => none)
  | .dload_n k => (match pm_at L k, pm_at L (k + 1) with
    | .double x, .retAddr 1 => some (pc + 1, L, .double x :: st)
    | _, _ => none)
  | .dload k => (match pm_at L k, pm_at L (k + 1) with
    | .double x, .retAddr 1 => some (pc + 2, L, .double x :: st)
    | _, _ => none)
  | .aload_n k => (match pm_at L k with
    | .ref x => some (pc + 1, L, .ref x :: st)
    | .null => some (pc + 1, L, .null :: st)
    | _ => none)
  | .aload k => (match pm_at L k with
    | .ref x => some (pc + 2, L, .ref x :: st)
    | .null => some (pc + 2, L, .null :: st)
    | _ => none)
  | .istore_n k => (match st with
    | .int x :: st => if k < L.length then some (pc + 1, L.set k (.int x), st) else none
    | _ => none)
  | .istore k => (match st with
    | .int x :: st => if k < L.length then some (pc + 2, L.set k (.int x), st) else none
    | _ => none)
  | .lstore_n k => (match st with
    | .long x :: st => if k + 1 < L.length then some (pc + 1, (L.set k (.long x)).set (k + 1) (.retAddr 1), st) else none
    | _ => none)
  | .lstore k => (match st with
    | .long x :: st => if k + 1 < L.length then some (pc + 2, (L.set k (.long x)).set (k + 1) (.retAddr 1), st) else none
    | _ => none)
  | .dstore_n k => (match st with
    | .double x :: st => if k + 1 < L.length then some (pc + 1, (L.set k (.double x)).set (k + 1) (.retAddr 1), st) else none
    | _ => none)
  | .dstore k => (match st with
    | .double x :: st => if k + 1 < L.length then some (pc + 2, (L.set k (.double x)).set (k + 1) (.retAddr 1), st) else none
    | _ => none)
  | .astore_n k => (match st with
    | .ref x :: st => if k < L.length then some (pc + 1, L.set k (.ref x), st) else none
    | .null :: st => if k < L.length then some (pc + 1, L.set k .null, st) else none
    | _ => none)
  | .astore k => (match st with
    | .ref x :: st => if k < L.length then some (pc + 2, L.set k (.ref x), st) else none
    | .null :: st => if k < L.length then some (pc + 2, L.set k .null, st) else none
    | _ => none)
  | .iinc k n => (match pm_at L k with
    | .int x => if k < L.length then some (pc + 3, L.set k (.int (x + Int32.ofInt n)), st) else none
    | _ => none)
  | .iadd => (match st with
    | .int y :: .int x :: st => some (pc + 1, L, .int (x + y) :: st)
    | _ => none)
  | .isub => (match st with
    | .int y :: .int x :: st => some (pc + 1, L, .int (x - y) :: st)
    | _ => none)
  | .imul => (match st with
    | .int y :: .int x :: st => some (pc + 1, L, .int (x * y) :: st)
    | _ => none)
  | .idiv => (match st with
    | .int y :: .int x :: st => if y = 0 then none else some (pc + 1, L, .int (x / y) :: st)
    | _ => none)
  | .irem => (match st with
    | .int y :: .int x :: st => if y = 0 then none else some (pc + 1, L, .int (x - x / y * y) :: st)
    | _ => none)
  | .ineg => (match st with
    | .int x :: st => some (pc + 1, L, .int (-x) :: st)
    | _ => none)
  | .ishl => (match st with
    | .int y :: .int x :: st => some (pc + 1, L, .int (x <<< (y &&& 31)) :: st)
    | _ => none)
  | .ishr => (match st with
    | .int y :: .int x :: st => some (pc + 1, L, .int (x >>> (y &&& 31)) :: st)
    | _ => none)
  | .iand => (match st with
    | .int y :: .int x :: st => some (pc + 1, L, .int (x &&& y) :: st)
    | _ => none)
  | .ior => (match st with
    | .int y :: .int x :: st => some (pc + 1, L, .int (x ||| y) :: st)
    | _ => none)
  | .ixor => (match st with
    | .int y :: .int x :: st => some (pc + 1, L, .int (x ^^^ y) :: st)
    | _ => none)
  | .i2l => (match st with
    | .int x :: st => some (pc + 1, L, .long x.toInt64 :: st)
    | _ => none)
  | .i2d => (match st with
    | .int x :: st => some (pc + 1, L, .double (FP.i2d x) :: st)
    | _ => none)
  | .l2i => (match st with
    | .long x :: st => some (pc + 1, L, .int x.toInt32 :: st)
    | _ => none)
  | .l2d => (match st with
    | .long x :: st => some (pc + 1, L, .double (FP.l2d x) :: st)
    | _ => none)
  | .d2l => (match st with
    | .double x :: st => some (pc + 1, L, .long (FP.d2l x) :: st)
    | _ => none)
  | .ladd => (match st with
    | .long y :: .long x :: st => some (pc + 1, L, .long (x + y) :: st)
    | _ => none)
  | .lsub => (match st with
    | .long y :: .long x :: st => some (pc + 1, L, .long (x - y) :: st)
    | _ => none)
  | .lmul => (match st with
    | .long y :: .long x :: st => some (pc + 1, L, .long (x * y) :: st)
    | _ => none)
  | .ldiv => (match st with
    | .long y :: .long x :: st => if y = 0 then none else some (pc + 1, L, .long (x / y) :: st)
    | _ => none)
  | .land => (match st with
    | .long y :: .long x :: st => some (pc + 1, L, .long (x &&& y) :: st)
    | _ => none)
  | .lor => (match st with
    | .long y :: .long x :: st => some (pc + 1, L, .long (x ||| y) :: st)
    | _ => none)
  | .lshl => (match st with
    | .int y :: .long x :: st => some (pc + 1, L, .long (x <<< (y.toInt64 &&& 63)) :: st)
    | _ => none)
  | .lshr => (match st with
    | .int y :: .long x :: st => some (pc + 1, L, .long (x >>> (y.toInt64 &&& 63)) :: st)
    | _ => none)
  | .lushr => (match st with
    | .int y :: .long x :: st => some (pc + 1, L, .long (x.toUInt64 >>> (y.toInt64.toUInt64 &&& Int64.toUInt64 63)).toInt64 :: st)
    | _ => none)
  | .lcmp => (match st with
    | .long y :: .long x :: st => some (pc + 1, L, .int (lg_cmp x y) :: st)
    | _ => none)
  | .dcmp op => (match st with
    | .double y :: .double x :: st => some (pc + 1, L, .int (Op.cmpValue (FP.dcmp x y) op) :: st)
    | _ => none)
  | .dadd => (match st with
    | .double y :: .double x :: st => if FP.dadd x y &&& 0x7fffffffffffffff ≤ 0x7ff0000000000000 then some (pc + 1, L, .double (FP.dadd x y) :: st) else none
    | _ => none)
  | .dsub => (match st with
    | .double y :: .double x :: st => if FP.dsub x y &&& 0x7fffffffffffffff ≤ 0x7ff0000000000000 then some (pc + 1, L, .double (FP.dsub x y) :: st) else none
    | _ => none)
  | .dmul => (match st with
    | .double y :: .double x :: st => if FP.dmul x y &&& 0x7fffffffffffffff ≤ 0x7ff0000000000000 then some (pc + 1, L, .double (FP.dmul x y) :: st) else none
    | _ => none)
  | .ddiv => (match st with
    | .double y :: .double x :: st => if FP.ddiv x y &&& 0x7fffffffffffffff ≤ 0x7ff0000000000000 then some (pc + 1, L, .double (FP.ddiv x y) :: st) else none
    | _ => none)
  | .dneg => (match st with
    | .double x :: st => some (pc + 1, L, .double (FP.dneg x) :: st)
    | _ => none)
  | .dup => (match st with
    | .int x :: st => some (pc + 1, L, .int x :: .int x :: st)
    | .ref x :: st => some (pc + 1, L, .ref x :: .ref x :: st)
    | _ => none)
  | .dup2 => (match st with
    | .int x :: .ref y :: st => some (pc + 1, L, .int x :: .ref y :: .int x :: .ref y :: st)
    | .double x :: st => some (pc + 1, L, .double x :: .double x :: st)
    | _ => none)
  | .pop => (match st with
    | .int _ :: st => some (pc + 1, L, st)
    | _ => none)
  | .goto off => (pm_t pc off).map fun t => (t, L, st)
  | .ifCond c off => (match st with
    | .int x :: st => (pm_t pc off).map fun t => (if pm_c c x 0 = true then t else pc + 3, L, st)
    | _ => none)
  | .if_icmp c off => (match st with
    | .int y :: .int x :: st => (pm_t pc off).map fun t => (if pm_c c x y = true then t else pc + 3, L, st)
    | _ => none)
  | .ifnull off => (match st with
    | .ref _ :: st => some (pc + 3, L, st)
    | .null :: st => (pm_t pc off).map fun t => (t, L, st)
    | _ => none)
  | .ifnonnull off => (match st with
    | .ref _ :: st => (pm_t pc off).map fun t => (t, L, st)
    | .null :: st => some (pc + 3, L, st)
    | _ => none)
  | .tableswitch d lo hi offs => (match st with
    | .int x :: st => (pm_sw d lo hi offs x).bind fun o => (pm_t pc o).map fun t => (t, L, st)
    | _ => none)
  | .lookupswitch d ps => (match st with
    | .int x :: st => if (ps.toList.zip (ps.toList.drop 1)).all (fun (a, next) => a.1 < next.1) = true then (pm_t pc (Op.lookupswitch.offset ps.toList d x.toInt)).map fun t => (t, L, st) else none
    | _ => none)
  | _ => none

/-- instructions that read or change the memory -/
def pm_s2 (E : pm_E) (i : ClassFile.Instr) (pc : Nat) (L st : List Value) (μ : pm_M) : Option pm_S := match i with
  | .ldc k => (match pm_Ek E k with
    | some (.int x) => some (pc + 2, L, .int x :: st, μ)
    | _ => none)
  | .ldc2_w k => (match pm_Ek E k with
    | some (.long x) => some (pc + 3, L, .long x :: st, μ)
    | some (.double x) => some (pc + 3, L, .double x :: st, μ)
    | _ => none)
  | .getfield k => (match st, pm_Eg E k with
    | .ref i :: st, some q => if (pm_k i).1 = q.1 ∧ i < μ.1 then some (pc + 3, L, pm_g μ i q.2 (pm_ty q.1 q.2) :: st, μ) else none
    | _, _ => none)
  | .putfield k => (match st, pm_Ep E k with
    | v :: .ref i :: st, some q => if (pm_k i).1 = q.1 ∧ i < μ.1 then (pm_p μ i q.2 (pm_ty q.1 q.2) v).map fun μ' => (pc + 3, L, st, μ') else none
    | _, _ => none)
  | .iaload => (match st with
    | .int j :: .ref i :: st => if i = 9999 then (match pm_Ex E with
        | some q => if j < 0 ∨ q.1 ≤ j.toNatClampNeg then none else some (pc + 1, L, .int (q.2 j.toNatClampNeg) :: st, μ)
        | none => none)
      else if (pm_k i).1 = 10 ∧ i < μ.1 then (if j < 0 ∨ (pm_k i).2 ≤ j.toNatClampNeg then none else some (pc + 1, L, .int (μ.2.1 i j.toNatClampNeg) :: st, μ)) else none
    | _ => none)
  | .baload => (match st with
    | .int j :: .ref i :: st => if (pm_k i).1 = 11 ∧ i < μ.1 then (if j < 0 ∨ (pm_k i).2 ≤ j.toNatClampNeg then none else some (pc + 1, L, .int (μ.2.1 i j.toNatClampNeg) :: st, μ)) else none
    | _ => none)
  | .daload => (match st with
    | .int j :: .ref i :: st => if (pm_k i).1 = 12 ∧ i < μ.1 then (if j < 0 ∨ (pm_k i).2 ≤ j.toNatClampNeg then none else some (pc + 1, L, .double (μ.2.2.1 i j.toNatClampNeg) :: st, μ)) else none
    | _ => none)
  | .aaload => (match st with
    | .int j :: .ref i :: st => if (pm_k i).1 = 13 ∧ i < μ.1 then (if j < 0 ∨ (pm_k i).2 ≤ j.toNatClampNeg then none else some (pc + 1, L, pm_o (μ.2.2.2 i j.toNatClampNeg) :: st, μ)) else none
    | _ => none)
  | .iastore => (match st with
    | .int x :: .int j :: .ref i :: st => if (pm_k i).1 = 10 ∧ i < μ.1 then (if j < 0 ∨ (pm_k i).2 ≤ j.toNatClampNeg then none else some (pc + 1, L, st, pm_wI μ i j.toNatClampNeg x)) else none
    | _ => none)
  | .bastore => (match st with
    | .int x :: .int j :: .ref i :: st => if (pm_k i).1 = 11 ∧ i < μ.1 then (if j < 0 ∨ (pm_k i).2 ≤ j.toNatClampNeg then none else some (pc + 1, L, st, pm_wI μ i j.toNatClampNeg (x &&& 1))) else none
    | _ => none)
  | .dastore => (match st with
    | .double x :: .int j :: .ref i :: st => if (pm_k i).1 = 12 ∧ i < μ.1 then (if j < 0 ∨ (pm_k i).2 ≤ j.toNatClampNeg then none else some (pc + 1, L, st, pm_wD μ i j.toNatClampNeg x)) else none
    | _ => none)
  | .aastore => (match st with
    | .ref v :: .int j :: .ref i :: st => if ((pm_k i).1 = 13 ∧ i < μ.1) ∧ (pm_k v).1 = 0 ∧ v < μ.1 then (if j < 0 ∨ (pm_k i).2 ≤ j.toNatClampNeg then none else some (pc + 1, L, st, pm_wR μ i j.toNatClampNeg (some v))) else none
    | _ => none)
  | .arraylength => (match st with
    | .ref i :: st => if i = 9999 then (match pm_Ex E with
        | some q => some (pc + 1, L, .int (Int32.ofNat q.1) :: st, μ)
        | none => none)
      else none
    | _ => none)
  | .new k => (match pm_Eo E k with
    | some c => if c < 6 ∧ (pm_k μ.1).1 = c then some (pc + 3, L, .ref μ.1 :: st, (μ.1 + 1, μ.2)) else none
    | none => none)
  | .newarray t => (match st with
    | .int n :: st => if ((t = .int ∧ (pm_k μ.1).1 = 10) ∨ (t = .boolean ∧ (pm_k μ.1).1 = 11) ∨ (t = .double ∧ (pm_k μ.1).1 = 12)) ∧ ¬ n < 0 ∧ n.toNatClampNeg = (pm_k μ.1).2 then some (pc + 2, L, .ref μ.1 :: st, (μ.1 + 1, μ.2)) else none
    | _ => none)
  | .anewarray k => (match st, pm_Eo E k with
    | .int n :: st, some c => if c = 13 ∧ (pm_k μ.1).1 = 13 ∧ ¬ n < 0 ∧ n.toNatClampNeg = (pm_k μ.1).2 then some (pc + 3, L, .ref μ.1 :: st, (μ.1 + 1, μ.2)) else none
    | _, _ => none)
  | .invokevirtual k => (match pm_Ef E k with
    | some q => if q.1 = 0 then (match st.drop q.2.1 with
      | .ref i :: rest => if ((pm_k i).1 = q.2.2.1 ∧ i < μ.1) ∧ rest.length ≤ 4 then (q.2.2.2 (.ref i :: (st.take q.2.1).reverse) μ).map fun r => (pc + 3, L, r.1.toList ++ rest, r.2) else none
      | _ => none) else none
    | none => none)
  | .invokestatic k => (match pm_En E k with
    | some 0 => (match st with
      | .long x :: rest => if rest.length ≤ 4 ∧ vn_snl2d x = false then some (pc + 3, L, .double x.toUInt64 :: rest, μ) else none
      | _ => none)
    | some 1 => (match st with
      | .double x :: rest => if rest.length ≤ 4 then some (pc + 3, L, .long x.toInt64 :: rest, μ) else none
      | _ => none)
    | some _ => none
    | none => (match pm_Ef E k with
      | some q => if q.1 = 1 ∧ q.2.1 ≤ st.length ∧ (st.drop q.2.1).length ≤ 4 then (q.2.2.2 (st.take q.2.1).reverse μ).map fun r => (pc + 3, L, r.1.toList ++ st.drop q.2.1, r.2) else none
      | none => none))
  | .invokespecial k => (match pm_En E k with
    | some 2 => (match st with
      | .ref _ :: rest => if rest.length ≤ 4 then some (pc + 3, L, rest, μ) else none
      | _ => none)
    | some _ => none
    | none => (match pm_Ef E k with
      | some q => if q.1 = 2 then (match st.drop q.2.1 with
        | .ref i :: rest => if i < μ.1 ∧ rest.length ≤ 4 then (q.2.2.2 (.ref i :: (st.take q.2.1).reverse) μ).map fun r => (pc + 3, L, r.1.toList ++ rest, r.2) else none
        | _ => none) else none
      | none => none))
  | _ => none
def pm_s (E : pm_E) (i : ClassFile.Instr) (pc : Nat) (L st : List Value) (μ : pm_M) : Option pm_S := match pm_s1 i pc L st with
  | some q => some (q.1, q.2.1, q.2.2, μ)
  | none => pm_s2 E i pc L st μ
/-- a method's end -/
def pm_r (E : pm_E) (i : ClassFile.Instr) (st : List Value) : Option (Option Value) := match i with
  | .return_ => (match st, pm_Er E with
    | [], none => some none
    | _, _ => none)
  | .ireturn => (match st, pm_Er E with
    | [.int x], some .int => some (some (.int x))
    | [.int x], some .boolean => if x &&& 1 = x then some (some (.int x)) else none
    | _, _ => none)
  | .lreturn => (match st, pm_Er E with
    | [.long x], some .long => some (some (.long x))
    | _, _ => none)
  | .dreturn => (match st, pm_Er E with
    | [.double x], some .double => some (some (.double x))
    | _, _ => none)
  | _ => none
/-- the length that an instruction must have -/
def pm_w (i : ClassFile.Instr) (n : Nat) : Bool := match i with
  | .bipush _ | .iload _ | .lload _ | .dload _ | .aload _ | .istore _ | .lstore _ | .dstore _ | .astore _ | .newarray _ | .ldc _ => n == 2
  | .sipush _ | .ldc2_w _ | .getfield _ | .putfield _ | .invokevirtual _ | .invokestatic _ | .invokespecial _ | .new _ | .anewarray _ | .iinc _ _ | .goto _ | .ifCond _ _ | .if_icmp _ _ | .ifnull _ | .ifnonnull _ => n == 3
  | .tableswitch _ _ _ _ | .lookupswitch _ _ => true
  | _ => n == 1
def pm_x (E : pm_E) : Nat → Nat → List Value → List Value → pm_M → Option (Option Value × pm_M)
  | 0, _, _, _, _ => none
  | n + 1, pc, L, st, μ => match decode (pm_Ec E) pc with
    | .ok q => if pm_w q.1 q.2 = true then (match pm_r E q.1 st with
      | some r => some (r, μ)
      | none => (match pm_s E q.1 pc L st μ with
        | some t => pm_x E n t.1 t.2.1 t.2.2.1 t.2.2.2
        | none => none)) else none
    | _ => none
theorem pm_x_more {E : pm_E} : ∀ (n k pc : Nat) (L st : List Value) (μ : pm_M) (r : Option Value × pm_M), pm_x E n pc L st μ = some r → pm_x E (n + k) pc L st μ = some r := by
  intro n
  induction n with
  | zero => intro k pc L st μ r h; cases h
  | succ n ih =>
    intro k pc L st μ r h
    rw [show n + 1 + k = (n + k) + 1 by omega]
    unfold pm_x at h ⊢
    split at h
    · split at h
      · rename_i hw
        rw [if_pos hw]
        split at h
        · exact h
        · split at h
          · exact ih k _ _ _ _ r h
          · cases h
      · cases h
    · cases h
theorem pm_x_one {E : pm_E} {n k pc : Nat} {L st : List Value} {μ : pm_M} {r t : Option Value × pm_M} (h : pm_x E n pc L st μ = some r) (g : pm_x E k pc L st μ = some t) : r = t := by
  have h1 := pm_x_more n k pc L st μ r h
  have g1 := pm_x_more k n pc L st μ t g
  rw [Nat.add_comm] at g1
  exact Option.some.inj (h1.symm.trans g1)
noncomputable def pm_run (E : pm_E) (pc : Nat) (L st : List Value) (μ : pm_M) : Option (Option Value × pm_M) :=
  @dite _ (∃ n r, pm_x E n pc L st μ = some r) (Classical.propDecidable _) (fun h => some (Classical.choose (Classical.choose_spec h))) (fun _ => none)
theorem pm_run_iff {E : pm_E} {pc : Nat} {L st : List Value} {μ : pm_M} {r : Option Value × pm_M} : pm_run E pc L st μ = some r ↔ ∃ n, pm_x E n pc L st μ = some r := by
  unfold pm_run
  by_cases h : ∃ n r, pm_x E n pc L st μ = some r
  · rw [dif_pos h]
    have h1 := Classical.choose_spec (Classical.choose_spec h)
    constructor
    · intro e
      cases e
      exact ⟨_, h1⟩
    · rintro ⟨n, e⟩
      rw [pm_x_one h1 e]
  · rw [dif_neg h]
    constructor
    · intro e; cases e
    · rintro ⟨n, e⟩
      exact absurd ⟨n, r, e⟩ h
theorem pm_run_ext {E : pm_E} {pc pc' : Nat} {L st L' st' : List Value} {μ μ' : pm_M} (h : ∀ r, (∃ n, pm_x E n pc L st μ = some r) ↔ (∃ n, pm_x E n pc' L' st' μ' = some r)) : pm_run E pc L st μ = pm_run E pc' L' st' μ' := by
  cases h1 : pm_run E pc' L' st' μ' with
  | some r => rw [pm_run_iff, h r, ← pm_run_iff]; exact h1
  | none =>
    cases h2 : pm_run E pc L st μ with
    | none => rfl
    | some r =>
      rw [pm_run_iff, h r, ← pm_run_iff, h1] at h2
      cases h2
theorem pm_run_step {E : pm_E} {pc len : Nat} {i : ClassFile.Instr} {L st : List Value} {μ : pm_M} {t : pm_S} (hd : decode (pm_Ec E) pc = .ok (i, len)) (hw : pm_w i len = true) (hr : pm_r E i st = none) (hs : pm_s E i pc L st μ = some t) : pm_run E pc L st μ = pm_run E t.1 t.2.1 t.2.2.1 t.2.2.2 := by
  apply pm_run_ext
  intro r
  constructor
  · rintro ⟨n, h⟩
    cases n with
    | zero => cases h
    | succ n =>
      unfold pm_x at h
      simp only [hd, hw, hr, hs, if_true] at h
      exact ⟨n, h⟩
  · rintro ⟨n, h⟩
    refine ⟨n + 1, ?_⟩
    unfold pm_x
    simp only [hd, hw, hr, hs, if_true]
    exact h
theorem pm_run_ret {E : pm_E} {pc len : Nat} {i : ClassFile.Instr} {L st : List Value} {μ : pm_M} {r : Option Value} (hd : decode (pm_Ec E) pc = .ok (i, len)) (hw : pm_w i len = true) (hr : pm_r E i st = some r) : pm_run E pc L st μ = some (r, μ) := by
  rw [pm_run_iff]
  refine ⟨1, ?_⟩
  unfold pm_x
  simp only [hd, hw, hr, if_true]
theorem pm_run_none {E : pm_E} {pc len : Nat} {i : ClassFile.Instr} {L st : List Value} {μ : pm_M} (hd : decode (pm_Ec E) pc = .ok (i, len)) (hw : pm_w i len = true) (hr : pm_r E i st = none) (hs : pm_s E i pc L st μ = none) : pm_run E pc L st μ = none := by
  cases h : pm_run E pc L st μ with
  | none => rfl
  | some r =>
    rw [pm_run_iff] at h
    obtain ⟨n, h⟩ := h
    cases n with
    | zero => cases h
    | succ n =>
      unfold pm_x at h
      simp only [hd, hw, hr, hs, if_true] at h
      cases h
/-- the locals with which a method begins -/
def pm_e : List Value → List Value
  | [] => []
  | .long x :: vs => .long x :: .retAddr 1 :: pm_e vs
  | .double x :: vs => .double x :: .retAddr 1 :: pm_e vs
  | v :: vs => v :: pm_e vs
noncomputable def pm_fn (E : pm_E) (maxL : Nat) : pm_F := fun a μ => if (pm_e a).length ≤ maxL then pm_run E 0 (pm_e a ++ List.replicate (maxL - (pm_e a).length) (.retAddr 0)) [] μ else none
end
section
/-! THE PURE MACHINE IS SOUND, 1: instructions without memory -/
/-- a value of the machine as the heap has it: object k lies at b0 + k, the script at b -/
def pm_v (b0 b : Nat) (v : Value) : Value := match v with
  | .ref k => .ref (if k = 9999 then b else b0 + k)
  | v => v
theorem pm_v_cat (b0 b : Nat) (v : Value) : (pm_v b0 b v).category = v.category := by cases v <;> rfl
/-- the locals hold what the machine's list says; what is 'second' or unset says nothing -/
def pm_lh (b0 b : Nat) (ls : Array Slot) (nL : Nat) (L : List Value) : Prop := ls.size = nL ∧ L.length = nL ∧ lv_wf ls ∧ ∀ (i : Nat) (v : Value), L[i]? = some v → (∀ k, v ≠ .retAddr k) → (v.category = 2 → L[i + 1]? = some (.retAddr 1)) → ls[i]? = some (.val (pm_v b0 b v))
def pm_lok (L : List Value) (i : Nat) : Bool := match L[i]? with
  | some (.retAddr _) => false
  | some v => v.category == 1 || L[i + 1]? == some (.retAddr 1)
  | none => false
def pm_lvl (b0 b : Nat) (L : List Value) : List (Nat × Value) := (List.range L.length).filterMap fun i => if pm_lok L i = true then some (i, pm_v b0 b (pm_at L i)) else none
theorem pm_cat12 (v : Value) : v.category = 1 ∨ v.category = 2 := by cases v <;> simp [Value.category]
theorem pm_at_get {L : List Value} {i : Nat} {v : Value} (h : L[i]? = some v) : pm_at L i = v := by simp [pm_at, List.getD, h]
theorem pm_get_at {L : List Value} {i : Nat} {v : Value} (h : pm_at L i = v) (hv : ∀ k, v ≠ .retAddr k) : L[i]? = some v := by
  unfold pm_at List.getD at h
  cases e : L[i]? with
  | none => rw [e] at h; exact absurd h.symm (hv 0)
  | some w => rw [e] at h; exact congrArg some h
theorem pm_get_at1 {L : List Value} {i : Nat} (h : pm_at L i = .retAddr 1) : L[i]? = some (.retAddr 1) := by
  unfold pm_at List.getD at h
  cases e : L[i]? with
  | none => rw [e] at h; cases h
  | some w => rw [e] at h; exact congrArg some h
theorem pm_lvl_mem {b0 b : Nat} {L : List Value} {q : Nat × Value} (h : q ∈ pm_lvl b0 b L) : ∃ v, L[q.1]? = some v ∧ q.2 = pm_v b0 b v ∧ (∀ k, v ≠ .retAddr k) ∧ (v.category = 2 → L[q.1 + 1]? = some (.retAddr 1)) := by
  unfold pm_lvl at h
  obtain ⟨i, -, hi⟩ := List.mem_filterMap.mp h
  split at hi
  · rename_i hok
    cases hi
    unfold pm_lok at hok
    split at hok
    · cases hok
    · rename_i v hne e
      refine ⟨v, e, ?_, ?_, ?_⟩
      · show pm_v b0 b (pm_at L i) = _
        rw [pm_at_get e]
      · intro k hk
        exact hne k hk
      · intro hc
        simp only [Bool.or_eq_true, beq_iff_eq] at hok
        rcases hok with h1 | h1
        · omega
        · exact h1
    · cases hok
  · cases hi
theorem pm_mem_lvl {b0 b : Nat} {L : List Value} {i : Nat} {v : Value} (h : L[i]? = some v) (hv : ∀ k, v ≠ .retAddr k) (hc : v.category = 2 → L[i + 1]? = some (.retAddr 1)) : (i, pm_v b0 b v) ∈ pm_lvl b0 b L := by
  unfold pm_lvl
  refine List.mem_filterMap.mpr ⟨i, List.mem_range.mpr (List.getElem?_eq_some_iff.mp h).1, ?_⟩
  have hok : pm_lok L i = true := by
    unfold pm_lok
    rw [h]
    cases v with
    | retAddr k => exact absurd rfl (hv k)
    | long x => simp [hc rfl]
    | double x => simp [hc rfl]
    | _ => simp [Value.category]
  rw [if_pos hok, pm_at_get h]
theorem pm_lh_has {b0 b nL : Nat} {ls : Array Slot} {L : List Value} (h : pm_lh b0 b ls nL L) : lv_has ls nL (pm_lvl b0 b L) := by
  refine ⟨h.1, h.2.2.1, fun q hq => ?_⟩
  obtain ⟨v, h1, h2, h3, h4⟩ := pm_lvl_mem hq
  rw [h2]
  exact h.2.2.2 _ _ h1 h3 h4
theorem pm_lh_get {b0 b nL : Nat} {ls : Array Slot} {L : List Value} (h : pm_lh b0 b ls nL L) {i : Nat} {v : Value} (hv : pm_at L i = v) (hr : ∀ k, v ≠ .retAddr k) (hc : v.category = 1) : ls[i]? = some (.val (pm_v b0 b v)) :=
  h.2.2.2 i v (pm_get_at hv hr) hr (fun e => by omega)
theorem pm_lh_get2 {b0 b nL : Nat} {ls : Array Slot} {L : List Value} (h : pm_lh b0 b ls nL L) {i : Nat} {v : Value} (hv : pm_at L i = v) (hr : ∀ k, v ≠ .retAddr k) (hc : pm_at L (i + 1) = .retAddr 1) : ls[i]? = some (.val (pm_v b0 b v)) :=
  h.2.2.2 i v (pm_get_at hv hr) hr (fun _ => pm_get_at1 hc)
theorem pm_lh_set1 {b0 b nL i : Nat} {L : List Value} {v : Value} {ls ls' : Array Slot} (h : pm_lh b0 b ls nL L) (hi : i < L.length) (hc : v.category = 1) (hr : ∀ k, v ≠ .retAddr k)
    (hl : lv_has ls' nL ((i, pm_v b0 b v) :: (pm_lvl b0 b L).filter (fun q => !(q.1 == i) && !(q.1 + 1 == i && q.2.category == 2)))) : pm_lh b0 b ls' nL (L.set i v) := by
  refine ⟨hl.1, by rw [List.length_set]; exact h.2.1, hl.2.1, fun j w hj hw hc2 => ?_⟩
  by_cases e : i = j
  · subst e
    rw [List.getElem?_set_self hi] at hj
    cases hj
    exact hl.2.2 (i, pm_v b0 b v) List.mem_cons_self
  · rw [List.getElem?_set_ne e] at hj
    have hc3 : w.category = 2 → i ≠ j + 1 ∧ L[j + 1]? = some (.retAddr 1) := by
      intro z
      have z2 := hc2 z
      by_cases e2 : i = j + 1
      · subst e2
        rw [List.getElem?_set_self hi] at z2
        cases z2
        exact absurd rfl (hr 1)
      · rw [List.getElem?_set_ne e2] at z2
        exact ⟨e2, z2⟩
    refine hl.2.2 (j, pm_v b0 b w) (List.mem_cons_of_mem _ (List.mem_filter.mpr ⟨pm_mem_lvl hj hw (fun z => (hc3 z).2), ?_⟩))
    rcases pm_cat12 w with z | z
    · simp [pm_v_cat, z, Ne.symm e]
    · simp [pm_v_cat, z, Ne.symm e, Ne.symm (hc3 z).1]
theorem pm_lh_set2 {b0 b nL i : Nat} {L : List Value} {v : Value} {ls ls' : Array Slot} (h : pm_lh b0 b ls nL L) (hi : i + 1 < L.length) (hc : v.category = 2)
    (hl : lv_has ls' nL ((i, pm_v b0 b v) :: (pm_lvl b0 b L).filter (fun q => !(q.1 == i) && (!(q.1 == i + 1) && !(q.1 + 1 == i && q.2.category == 2))))) : pm_lh b0 b ls' nL ((L.set i v).set (i + 1) (.retAddr 1)) := by
  refine ⟨hl.1, by rw [List.length_set, List.length_set]; exact h.2.1, hl.2.1, fun j w hj hw hc2 => ?_⟩
  by_cases e1 : i + 1 = j
  · subst e1
    rw [List.getElem?_set_self (by rw [List.length_set]; exact hi)] at hj
    cases hj
    exact absurd rfl (hw 1)
  · rw [List.getElem?_set_ne e1] at hj
    by_cases e : i = j
    · subst e
      rw [List.getElem?_set_self (by omega)] at hj
      cases hj
      exact hl.2.2 (i, pm_v b0 b v) List.mem_cons_self
    · rw [List.getElem?_set_ne e] at hj
      have hc3 : w.category = 2 → i ≠ j + 1 ∧ L[j + 1]? = some (.retAddr 1) := by
        intro z
        have z2 := hc2 z
        rw [List.getElem?_set_ne (by omega)] at z2
        by_cases e2 : i = j + 1
        · subst e2
          rw [List.getElem?_set_self (by omega)] at z2
          cases z2
          cases hc
        · rw [List.getElem?_set_ne e2] at z2
          exact ⟨e2, z2⟩
      refine hl.2.2 (j, pm_v b0 b w) (List.mem_cons_of_mem _ (List.mem_filter.mpr ⟨pm_mem_lvl hj hw (fun z => (hc3 z).2), ?_⟩))
      rcases pm_cat12 w with z | z
      · simp [pm_v_cat, z, Ne.symm e, Ne.symm e1]
      · simp [pm_v_cat, z, Ne.symm e, Ne.symm e1, Ne.symm (hc3 z).1]
section PMS
variable {p : Program} {l : Launch} {e : Env} {R : Room} {s : State} {m : MethodId} {args : Array Value} {below : List Frame} {meth : Method} {c : Code} {H : Heap} {locs : List Loc} {cells slots : Nat} {Q : State → Prop}
variable {cc : ByteArray} {pc pc' nL len b0 b : Nat} {ls : Array Slot} {L L' st st' : List Value}

theorem pm_q_iconst (hx : p.tables.exec = Jvm.exec) (hb : c.code = cc) {n : Int} (hd : decode cc pc = .ok (.iconst n, len)) (hw : pm_w (.iconst n) len = true) (h : pm_s1 (.iconst n) pc L st = some (pc', L', st')) (hl : pm_lh b0 b ls nL L) (kk : ∀ ls' : Array Slot, pm_lh b0 b ls' nL L' → W p l e R s m args below meth c H locs cells slots Q (F0 m pc' ls' (st'.map (pm_v b0 b)))) : W p l e R s m args below meth c H locs cells slots Q (F0 m pc ls (st.map (pm_v b0 b))) := by
  have hn : len = 1 := by simpa [pm_w] using hw
  subst hn
  simp only [pm_s1] at h
  cases h
  exact lv_iconst hx hb hd rfl (kk ls hl)
theorem pm_q_bipush (hx : p.tables.exec = Jvm.exec) (hb : c.code = cc) {n : Int} (hd : decode cc pc = .ok (.bipush n, len)) (hw : pm_w (.bipush n) len = true) (h : pm_s1 (.bipush n) pc L st = some (pc', L', st')) (hl : pm_lh b0 b ls nL L) (kk : ∀ ls' : Array Slot, pm_lh b0 b ls' nL L' → W p l e R s m args below meth c H locs cells slots Q (F0 m pc' ls' (st'.map (pm_v b0 b)))) : W p l e R s m args below meth c H locs cells slots Q (F0 m pc ls (st.map (pm_v b0 b))) := by
  have hn : len = 2 := by simpa [pm_w] using hw
  subst hn
  simp only [pm_s1] at h
  cases h
  exact lv_bipush hx hb hd rfl (kk ls hl)
theorem pm_q_sipush (hx : p.tables.exec = Jvm.exec) (hb : c.code = cc) {n : Int} (hd : decode cc pc = .ok (.sipush n, len)) (hw : pm_w (.sipush n) len = true) (h : pm_s1 (.sipush n) pc L st = some (pc', L', st')) (hl : pm_lh b0 b ls nL L) (kk : ∀ ls' : Array Slot, pm_lh b0 b ls' nL L' → W p l e R s m args below meth c H locs cells slots Q (F0 m pc' ls' (st'.map (pm_v b0 b)))) : W p l e R s m args below meth c H locs cells slots Q (F0 m pc ls (st.map (pm_v b0 b))) := by
  have hn : len = 3 := by simpa [pm_w] using hw
  subst hn
  simp only [pm_s1] at h
  cases h
  exact lv_sipush hx hb hd rfl (kk ls hl)
theorem pm_q_lconst (hx : p.tables.exec = Jvm.exec) (hb : c.code = cc) {n : Fin 2} (hd : decode cc pc = .ok (.lconst n, len)) (hw : pm_w (.lconst n) len = true) (h : pm_s1 (.lconst n) pc L st = some (pc', L', st')) (hl : pm_lh b0 b ls nL L) (kk : ∀ ls' : Array Slot, pm_lh b0 b ls' nL L' → W p l e R s m args below meth c H locs cells slots Q (F0 m pc' ls' (st'.map (pm_v b0 b)))) : W p l e R s m args below meth c H locs cells slots Q (F0 m pc ls (st.map (pm_v b0 b))) := by
  have hn : len = 1 := by simpa [pm_w] using hw
  subst hn
  simp only [pm_s1] at h
  cases h
  exact lv_lconst hx hb hd rfl (kk ls hl)
theorem pm_q_aconst_null (hx : p.tables.exec = Jvm.exec) (hb : c.code = cc) (hd : decode cc pc = .ok (.aconst_null, len)) (hw : pm_w (.aconst_null) len = true) (h : pm_s1 (.aconst_null) pc L st = some (pc', L', st')) (hl : pm_lh b0 b ls nL L) (kk : ∀ ls' : Array Slot, pm_lh b0 b ls' nL L' → W p l e R s m args below meth c H locs cells slots Q (F0 m pc' ls' (st'.map (pm_v b0 b)))) : W p l e R s m args below meth c H locs cells slots Q (F0 m pc ls (st.map (pm_v b0 b))) := by
  have hn : len = 1 := by simpa [pm_w] using hw
  subst hn
  simp only [pm_s1] at h
  cases h
  exact lv_null hx hb hd (kk ls hl)
theorem pm_q_dconst (hx : p.tables.exec = Jvm.exec) (hb : c.code = cc) {n : Fin 2} (hd : decode cc pc = .ok (.dconst n, len)) (hw : pm_w (.dconst n) len = true) (h : pm_s1 (.dconst n) pc L st = some (pc', L', st')) (hl : pm_lh b0 b ls nL L) (kk : ∀ ls' : Array Slot, pm_lh b0 b ls' nL L' → W p l e R s m args below meth c H locs cells slots Q (F0 m pc' ls' (st'.map (pm_v b0 b)))) : W p l e R s m args below meth c H locs cells slots Q (F0 m pc ls (st.map (pm_v b0 b))) := by
  have hn : len = 1 := by simpa [pm_w] using hw
  subst hn
  simp only [pm_s1] at h
  cases h
  rcases (by omega : n = 0 ∨ n = 1) with rfl | rfl
  · exact lv_dconst0 hx hb hd (kk ls hl)
  · exact lv_dconst1 hx hb hd (kk ls hl)
theorem pm_q_iload_n (hx : p.tables.exec = Jvm.exec) (hb : c.code = cc) {k : Fin 4} (hd : decode cc pc = .ok (.iload_n k, len)) (hw : pm_w (.iload_n k) len = true) (h : pm_s1 (.iload_n k) pc L st = some (pc', L', st')) (hl : pm_lh b0 b ls nL L) (kk : ∀ ls' : Array Slot, pm_lh b0 b ls' nL L' → W p l e R s m args below meth c H locs cells slots Q (F0 m pc' ls' (st'.map (pm_v b0 b)))) : W p l e R s m args below meth c H locs cells slots Q (F0 m pc ls (st.map (pm_v b0 b))) := by
  have hn : len = 1 := by simpa [pm_w] using hw
  subst hn
  simp only [pm_s1] at h
  split at h
  · rename_i x hv
    cases h
    exact lv_iload_n hx hb hd rfl (pm_lh_get hl hv (fun _ z => by cases z) rfl) (kk ls hl)
  · cases h
theorem pm_q_iload (hx : p.tables.exec = Jvm.exec) (hb : c.code = cc) {k : Nat} (hd : decode cc pc = .ok (.iload k, len)) (hw : pm_w (.iload k) len = true) (h : pm_s1 (.iload k) pc L st = some (pc', L', st')) (hl : pm_lh b0 b ls nL L) (kk : ∀ ls' : Array Slot, pm_lh b0 b ls' nL L' → W p l e R s m args below meth c H locs cells slots Q (F0 m pc' ls' (st'.map (pm_v b0 b)))) : W p l e R s m args below meth c H locs cells slots Q (F0 m pc ls (st.map (pm_v b0 b))) := by
  have hn : len = 2 := by simpa [pm_w] using hw
  subst hn
  simp only [pm_s1] at h
  split at h
  · rename_i x hv
    cases h
    exact lv_iload hx hb hd (pm_lh_get hl hv (fun _ z => by cases z) rfl) (kk ls hl)
  · cases h
theorem pm_q_lload_n (hx : p.tables.exec = Jvm.exec) (hb : c.code = cc) {k : Fin 4} (hd : decode cc pc = .ok (.lload_n k, len)) (hw : pm_w (.lload_n k) len = true) (h : pm_s1 (.lload_n k) pc L st = some (pc', L', st')) (hl : pm_lh b0 b ls nL L) (kk : ∀ ls' : Array Slot, pm_lh b0 b ls' nL L' → W p l e R s m args below meth c H locs cells slots Q (F0 m pc' ls' (st'.map (pm_v b0 b)))) : W p l e R s m args below meth c H locs cells slots Q (F0 m pc ls (st.map (pm_v b0 b))) := by
  have hn : len = 1 := by simpa [pm_w] using hw
  subst hn
  simp only [pm_s1] at h
  split at h
  · rename_i x hv hv2
    cases h
    exact lv_lload_n hx hb hd rfl (pm_lh_get2 hl hv (fun _ z => by cases z) hv2) (kk ls hl)
  · cases h
theorem pm_q_lload (hx : p.tables.exec = Jvm.exec) (hb : c.code = cc) {k : Nat} (hd : decode cc pc = .ok (.lload k, len)) (hw : pm_w (.lload k) len = true) (h : pm_s1 (.lload k) pc L st = some (pc', L', st')) (hl : pm_lh b0 b ls nL L) (kk : ∀ ls' : Array Slot, pm_lh b0 b ls' nL L' → W p l e R s m args below meth c H locs cells slots Q (F0 m pc' ls' (st'.map (pm_v b0 b)))) : W p l e R s m args below meth c H locs cells slots Q (F0 m pc ls (st.map (pm_v b0 b))) := by
  have hn : len = 2 := by simpa [pm_w] using hw
  subst hn
  simp only [pm_s1] at h
  split at h
  · rename_i x hv hv2
    cases h
    exact lv_lload hx hb hd (pm_lh_get2 hl hv (fun _ z => by cases z) hv2) (kk ls hl)
  · cases h
theorem pm_q_dload_n (hx : p.tables.exec = Jvm.exec) (hb : c.code = cc) {k : Fin 4} (hd : decode cc pc = .ok (.dload_n k, len)) (hw : pm_w (.dload_n k) len = true) (h : pm_s1 (.dload_n k) pc L st = some (pc', L', st')) (hl : pm_lh b0 b ls nL L) (kk : ∀ ls' : Array Slot, pm_lh b0 b ls' nL L' → W p l e R s m args below meth c H locs cells slots Q (F0 m pc' ls' (st'.map (pm_v b0 b)))) : W p l e R s m args below meth c H locs cells slots Q (F0 m pc ls (st.map (pm_v b0 b))) := by
  have hn : len = 1 := by simpa [pm_w] using hw
  subst hn
  simp only [pm_s1] at h
  split at h
  · rename_i x hv hv2
    cases h
    exact lv_dload_n hx hb hd rfl (pm_lh_get2 hl hv (fun _ z => by cases z) hv2) (kk ls hl)
  · cases h
theorem pm_q_dload (hx : p.tables.exec = Jvm.exec) (hb : c.code = cc) {k : Nat} (hd : decode cc pc = .ok (.dload k, len)) (hw : pm_w (.dload k) len = true) (h : pm_s1 (.dload k) pc L st = some (pc', L', st')) (hl : pm_lh b0 b ls nL L) (kk : ∀ ls' : Array Slot, pm_lh b0 b ls' nL L' → W p l e R s m args below meth c H locs cells slots Q (F0 m pc' ls' (st'.map (pm_v b0 b)))) : W p l e R s m args below meth c H locs cells slots Q (F0 m pc ls (st.map (pm_v b0 b))) := by
  have hn : len = 2 := by simpa [pm_w] using hw
  subst hn
  simp only [pm_s1] at h
  split at h
  · rename_i x hv hv2
    cases h
    exact lv_dload hx hb hd (pm_lh_get2 hl hv (fun _ z => by cases z) hv2) (kk ls hl)
  · cases h
theorem pm_q_aload_n (hx : p.tables.exec = Jvm.exec) (hb : c.code = cc) {k : Fin 4} (hd : decode cc pc = .ok (.aload_n k, len)) (hw : pm_w (.aload_n k) len = true) (h : pm_s1 (.aload_n k) pc L st = some (pc', L', st')) (hl : pm_lh b0 b ls nL L) (kk : ∀ ls' : Array Slot, pm_lh b0 b ls' nL L' → W p l e R s m args below meth c H locs cells slots Q (F0 m pc' ls' (st'.map (pm_v b0 b)))) : W p l e R s m args below meth c H locs cells slots Q (F0 m pc ls (st.map (pm_v b0 b))) := by
  have hn : len = 1 := by simpa [pm_w] using hw
  subst hn
  simp only [pm_s1] at h
  split at h
  · rename_i x hv
    cases h
    exact lv_aload_n hx hb hd rfl (pm_lh_get hl hv (fun _ z => by cases z) rfl) (kk ls hl)
  · rename_i hv
    cases h
    exact lv_aload_nN hx hb hd rfl (pm_lh_get hl hv (fun _ z => by cases z) rfl) (kk ls hl)
  · cases h
theorem pm_q_aload (hx : p.tables.exec = Jvm.exec) (hb : c.code = cc) {k : Nat} (hd : decode cc pc = .ok (.aload k, len)) (hw : pm_w (.aload k) len = true) (h : pm_s1 (.aload k) pc L st = some (pc', L', st')) (hl : pm_lh b0 b ls nL L) (kk : ∀ ls' : Array Slot, pm_lh b0 b ls' nL L' → W p l e R s m args below meth c H locs cells slots Q (F0 m pc' ls' (st'.map (pm_v b0 b)))) : W p l e R s m args below meth c H locs cells slots Q (F0 m pc ls (st.map (pm_v b0 b))) := by
  have hn : len = 2 := by simpa [pm_w] using hw
  subst hn
  simp only [pm_s1] at h
  split at h
  · rename_i x hv
    cases h
    exact lv_aload hx hb hd (pm_lh_get hl hv (fun _ z => by cases z) rfl) (kk ls hl)
  · rename_i hv
    cases h
    exact lv_aloadN hx hb hd (pm_lh_get hl hv (fun _ z => by cases z) rfl) (kk ls hl)
  · cases h
theorem pm_q_istore_n (hx : p.tables.exec = Jvm.exec) (hb : c.code = cc) {k : Fin 4} (hd : decode cc pc = .ok (.istore_n k, len)) (hw : pm_w (.istore_n k) len = true) (h : pm_s1 (.istore_n k) pc L st = some (pc', L', st')) (hl : pm_lh b0 b ls nL L) (kk : ∀ ls' : Array Slot, pm_lh b0 b ls' nL L' → W p l e R s m args below meth c H locs cells slots Q (F0 m pc' ls' (st'.map (pm_v b0 b)))) : W p l e R s m args below meth c H locs cells slots Q (F0 m pc ls (st.map (pm_v b0 b))) := by
  have hn : len = 1 := by simpa [pm_w] using hw
  subst hn
  simp only [pm_s1] at h
  split at h
  · rename_i x r
    split at h
    · rename_i hi
      cases h
      exact lv_istore_n hx hb hd rfl (pm_lh_has hl) (hl.2.1 ▸ hi) rfl (fun ls' h2 => kk ls' (pm_lh_set1 (v := .int x) hl hi rfl (fun _ z => by cases z) h2))
    · cases h
  · cases h
theorem pm_q_lstore_n (hx : p.tables.exec = Jvm.exec) (hb : c.code = cc) {k : Fin 4} (hd : decode cc pc = .ok (.lstore_n k, len)) (hw : pm_w (.lstore_n k) len = true) (h : pm_s1 (.lstore_n k) pc L st = some (pc', L', st')) (hl : pm_lh b0 b ls nL L) (kk : ∀ ls' : Array Slot, pm_lh b0 b ls' nL L' → W p l e R s m args below meth c H locs cells slots Q (F0 m pc' ls' (st'.map (pm_v b0 b)))) : W p l e R s m args below meth c H locs cells slots Q (F0 m pc ls (st.map (pm_v b0 b))) := by
  have hn : len = 1 := by simpa [pm_w] using hw
  subst hn
  simp only [pm_s1] at h
  split at h
  · rename_i x r
    split at h
    · rename_i hi
      cases h
      exact lv_lstore_n hx hb hd rfl (pm_lh_has hl) (hl.2.1 ▸ hi) rfl (fun ls' h2 => kk ls' (pm_lh_set2 (v := .long x) hl hi rfl h2))
    · cases h
  · cases h
theorem pm_q_dstore_n (hx : p.tables.exec = Jvm.exec) (hb : c.code = cc) {k : Fin 4} (hd : decode cc pc = .ok (.dstore_n k, len)) (hw : pm_w (.dstore_n k) len = true) (h : pm_s1 (.dstore_n k) pc L st = some (pc', L', st')) (hl : pm_lh b0 b ls nL L) (kk : ∀ ls' : Array Slot, pm_lh b0 b ls' nL L' → W p l e R s m args below meth c H locs cells slots Q (F0 m pc' ls' (st'.map (pm_v b0 b)))) : W p l e R s m args below meth c H locs cells slots Q (F0 m pc ls (st.map (pm_v b0 b))) := by
  have hn : len = 1 := by simpa [pm_w] using hw
  subst hn
  simp only [pm_s1] at h
  split at h
  · rename_i x r
    split at h
    · rename_i hi
      cases h
      exact lv_dstore_n hx hb hd rfl (pm_lh_has hl) (hl.2.1 ▸ hi) rfl (fun ls' h2 => kk ls' (pm_lh_set2 (v := .double x) hl hi rfl h2))
    · cases h
  · cases h
theorem pm_q_astore_n (hx : p.tables.exec = Jvm.exec) (hb : c.code = cc) {k : Fin 4} (hd : decode cc pc = .ok (.astore_n k, len)) (hw : pm_w (.astore_n k) len = true) (h : pm_s1 (.astore_n k) pc L st = some (pc', L', st')) (hl : pm_lh b0 b ls nL L) (kk : ∀ ls' : Array Slot, pm_lh b0 b ls' nL L' → W p l e R s m args below meth c H locs cells slots Q (F0 m pc' ls' (st'.map (pm_v b0 b)))) : W p l e R s m args below meth c H locs cells slots Q (F0 m pc ls (st.map (pm_v b0 b))) := by
  have hn : len = 1 := by simpa [pm_w] using hw
  subst hn
  simp only [pm_s1] at h
  split at h
  · rename_i x r
    split at h
    · rename_i hi
      cases h
      exact lv_astore_n hx hb hd rfl (pm_lh_has hl) (hl.2.1 ▸ hi) rfl (fun ls' h2 => kk ls' (pm_lh_set1 (v := .ref x) hl hi rfl (fun _ z => by cases z) h2))
    · cases h
  · rename_i r
    split at h
    · rename_i hi
      cases h
      exact lv_astore_nN hx hb hd rfl (pm_lh_has hl) (hl.2.1 ▸ hi) rfl (fun ls' h2 => kk ls' (pm_lh_set1 (v := .null) hl hi rfl (fun _ z => by cases z) h2))
    · cases h
  · cases h
theorem pm_q_istore (hx : p.tables.exec = Jvm.exec) (hb : c.code = cc) {k : Nat} (hd : decode cc pc = .ok (.istore k, len)) (hw : pm_w (.istore k) len = true) (h : pm_s1 (.istore k) pc L st = some (pc', L', st')) (hl : pm_lh b0 b ls nL L) (kk : ∀ ls' : Array Slot, pm_lh b0 b ls' nL L' → W p l e R s m args below meth c H locs cells slots Q (F0 m pc' ls' (st'.map (pm_v b0 b)))) : W p l e R s m args below meth c H locs cells slots Q (F0 m pc ls (st.map (pm_v b0 b))) := by
  have hn : len = 2 := by simpa [pm_w] using hw
  subst hn
  simp only [pm_s1] at h
  split at h
  · rename_i x r
    split at h
    · rename_i hi
      cases h
      exact lv_istore hx hb hd (pm_lh_has hl) (hl.2.1 ▸ hi) rfl (fun ls' h2 => kk ls' (pm_lh_set1 (v := .int x) hl hi rfl (fun _ z => by cases z) h2))
    · cases h
  · cases h
theorem pm_q_lstore (hx : p.tables.exec = Jvm.exec) (hb : c.code = cc) {k : Nat} (hd : decode cc pc = .ok (.lstore k, len)) (hw : pm_w (.lstore k) len = true) (h : pm_s1 (.lstore k) pc L st = some (pc', L', st')) (hl : pm_lh b0 b ls nL L) (kk : ∀ ls' : Array Slot, pm_lh b0 b ls' nL L' → W p l e R s m args below meth c H locs cells slots Q (F0 m pc' ls' (st'.map (pm_v b0 b)))) : W p l e R s m args below meth c H locs cells slots Q (F0 m pc ls (st.map (pm_v b0 b))) := by
  have hn : len = 2 := by simpa [pm_w] using hw
  subst hn
  simp only [pm_s1] at h
  split at h
  · rename_i x r
    split at h
    · rename_i hi
      cases h
      exact lv_lstore hx hb hd (pm_lh_has hl) (hl.2.1 ▸ hi) rfl (fun ls' h2 => kk ls' (pm_lh_set2 (v := .long x) hl hi rfl h2))
    · cases h
  · cases h
theorem pm_q_dstore (hx : p.tables.exec = Jvm.exec) (hb : c.code = cc) {k : Nat} (hd : decode cc pc = .ok (.dstore k, len)) (hw : pm_w (.dstore k) len = true) (h : pm_s1 (.dstore k) pc L st = some (pc', L', st')) (hl : pm_lh b0 b ls nL L) (kk : ∀ ls' : Array Slot, pm_lh b0 b ls' nL L' → W p l e R s m args below meth c H locs cells slots Q (F0 m pc' ls' (st'.map (pm_v b0 b)))) : W p l e R s m args below meth c H locs cells slots Q (F0 m pc ls (st.map (pm_v b0 b))) := by
  have hn : len = 2 := by simpa [pm_w] using hw
  subst hn
  simp only [pm_s1] at h
  split at h
  · rename_i x r
    split at h
    · rename_i hi
      cases h
      exact lv_dstore hx hb hd (pm_lh_has hl) (hl.2.1 ▸ hi) rfl (fun ls' h2 => kk ls' (pm_lh_set2 (v := .double x) hl hi rfl h2))
    · cases h
  · cases h
theorem pm_q_astore (hx : p.tables.exec = Jvm.exec) (hb : c.code = cc) {k : Nat} (hd : decode cc pc = .ok (.astore k, len)) (hw : pm_w (.astore k) len = true) (h : pm_s1 (.astore k) pc L st = some (pc', L', st')) (hl : pm_lh b0 b ls nL L) (kk : ∀ ls' : Array Slot, pm_lh b0 b ls' nL L' → W p l e R s m args below meth c H locs cells slots Q (F0 m pc' ls' (st'.map (pm_v b0 b)))) : W p l e R s m args below meth c H locs cells slots Q (F0 m pc ls (st.map (pm_v b0 b))) := by
  have hn : len = 2 := by simpa [pm_w] using hw
  subst hn
  simp only [pm_s1] at h
  split at h
  · rename_i x r
    split at h
    · rename_i hi
      cases h
      exact lv_astore hx hb hd (pm_lh_has hl) (hl.2.1 ▸ hi) rfl (fun ls' h2 => kk ls' (pm_lh_set1 (v := .ref x) hl hi rfl (fun _ z => by cases z) h2))
    · cases h
  · rename_i r
    split at h
    · rename_i hi
      cases h
      exact lv_astoreN hx hb hd (pm_lh_has hl) (hl.2.1 ▸ hi) rfl (fun ls' h2 => kk ls' (pm_lh_set1 (v := .null) hl hi rfl (fun _ z => by cases z) h2))
    · cases h
  · cases h
theorem pm_q_iinc (hx : p.tables.exec = Jvm.exec) (hb : c.code = cc) {k : Nat} {n : Int} (hd : decode cc pc = .ok (.iinc k n, len)) (hw : pm_w (.iinc k n) len = true) (h : pm_s1 (.iinc k n) pc L st = some (pc', L', st')) (hl : pm_lh b0 b ls nL L) (kk : ∀ ls' : Array Slot, pm_lh b0 b ls' nL L' → W p l e R s m args below meth c H locs cells slots Q (F0 m pc' ls' (st'.map (pm_v b0 b)))) : W p l e R s m args below meth c H locs cells slots Q (F0 m pc ls (st.map (pm_v b0 b))) := by
  have hn : len = 3 := by simpa [pm_w] using hw
  subst hn
  simp only [pm_s1] at h
  split at h
  · rename_i x hv
    split at h
    · rename_i hi
      cases h
      obtain ⟨q, hq⟩ := List.getElem?_of_mem (pm_mem_lvl (b0 := b0) (b := b) (pm_get_at hv (fun _ z => by cases z)) (fun _ z => by cases z) (fun z => by cases z))
      exact lv_iinc hx hb hd (pm_lh_has hl) hq rfl (hl.2.1 ▸ hi) rfl (fun ls' h2 => kk ls' (pm_lh_set1 (v := .int (x + Int32.ofInt n)) hl hi rfl (fun _ z => by cases z) h2))
    · cases h
  · cases h
theorem pm_q_iadd (hx : p.tables.exec = Jvm.exec) (hb : c.code = cc) (hd : decode cc pc = .ok (.iadd, len)) (hw : pm_w (.iadd) len = true) (h : pm_s1 (.iadd) pc L st = some (pc', L', st')) (hl : pm_lh b0 b ls nL L) (kk : ∀ ls' : Array Slot, pm_lh b0 b ls' nL L' → W p l e R s m args below meth c H locs cells slots Q (F0 m pc' ls' (st'.map (pm_v b0 b)))) : W p l e R s m args below meth c H locs cells slots Q (F0 m pc ls (st.map (pm_v b0 b))) := by
  have hn : len = 1 := by simpa [pm_w] using hw
  subst hn
  simp only [pm_s1] at h
  split at h
  · cases h
    exact lv_iadd hx hb hd (kk ls hl)
  · cases h
theorem pm_q_isub (hx : p.tables.exec = Jvm.exec) (hb : c.code = cc) (hd : decode cc pc = .ok (.isub, len)) (hw : pm_w (.isub) len = true) (h : pm_s1 (.isub) pc L st = some (pc', L', st')) (hl : pm_lh b0 b ls nL L) (kk : ∀ ls' : Array Slot, pm_lh b0 b ls' nL L' → W p l e R s m args below meth c H locs cells slots Q (F0 m pc' ls' (st'.map (pm_v b0 b)))) : W p l e R s m args below meth c H locs cells slots Q (F0 m pc ls (st.map (pm_v b0 b))) := by
  have hn : len = 1 := by simpa [pm_w] using hw
  subst hn
  simp only [pm_s1] at h
  split at h
  · cases h
    exact lv_isub hx hb hd (kk ls hl)
  · cases h
theorem pm_q_imul (hx : p.tables.exec = Jvm.exec) (hb : c.code = cc) (hd : decode cc pc = .ok (.imul, len)) (hw : pm_w (.imul) len = true) (h : pm_s1 (.imul) pc L st = some (pc', L', st')) (hl : pm_lh b0 b ls nL L) (kk : ∀ ls' : Array Slot, pm_lh b0 b ls' nL L' → W p l e R s m args below meth c H locs cells slots Q (F0 m pc' ls' (st'.map (pm_v b0 b)))) : W p l e R s m args below meth c H locs cells slots Q (F0 m pc ls (st.map (pm_v b0 b))) := by
  have hn : len = 1 := by simpa [pm_w] using hw
  subst hn
  simp only [pm_s1] at h
  split at h
  · cases h
    exact lv_imul hx hb hd (kk ls hl)
  · cases h
theorem pm_q_ineg (hx : p.tables.exec = Jvm.exec) (hb : c.code = cc) (hd : decode cc pc = .ok (.ineg, len)) (hw : pm_w (.ineg) len = true) (h : pm_s1 (.ineg) pc L st = some (pc', L', st')) (hl : pm_lh b0 b ls nL L) (kk : ∀ ls' : Array Slot, pm_lh b0 b ls' nL L' → W p l e R s m args below meth c H locs cells slots Q (F0 m pc' ls' (st'.map (pm_v b0 b)))) : W p l e R s m args below meth c H locs cells slots Q (F0 m pc ls (st.map (pm_v b0 b))) := by
  have hn : len = 1 := by simpa [pm_w] using hw
  subst hn
  simp only [pm_s1] at h
  split at h
  · cases h
    exact lv_ineg hx hb hd (kk ls hl)
  · cases h
theorem pm_q_ishl (hx : p.tables.exec = Jvm.exec) (hb : c.code = cc) (hd : decode cc pc = .ok (.ishl, len)) (hw : pm_w (.ishl) len = true) (h : pm_s1 (.ishl) pc L st = some (pc', L', st')) (hl : pm_lh b0 b ls nL L) (kk : ∀ ls' : Array Slot, pm_lh b0 b ls' nL L' → W p l e R s m args below meth c H locs cells slots Q (F0 m pc' ls' (st'.map (pm_v b0 b)))) : W p l e R s m args below meth c H locs cells slots Q (F0 m pc ls (st.map (pm_v b0 b))) := by
  have hn : len = 1 := by simpa [pm_w] using hw
  subst hn
  simp only [pm_s1] at h
  split at h
  · cases h
    exact lv_ishl hx hb hd (kk ls hl)
  · cases h
theorem pm_q_ishr (hx : p.tables.exec = Jvm.exec) (hb : c.code = cc) (hd : decode cc pc = .ok (.ishr, len)) (hw : pm_w (.ishr) len = true) (h : pm_s1 (.ishr) pc L st = some (pc', L', st')) (hl : pm_lh b0 b ls nL L) (kk : ∀ ls' : Array Slot, pm_lh b0 b ls' nL L' → W p l e R s m args below meth c H locs cells slots Q (F0 m pc' ls' (st'.map (pm_v b0 b)))) : W p l e R s m args below meth c H locs cells slots Q (F0 m pc ls (st.map (pm_v b0 b))) := by
  have hn : len = 1 := by simpa [pm_w] using hw
  subst hn
  simp only [pm_s1] at h
  split at h
  · cases h
    exact lv_ishr hx hb hd (kk ls hl)
  · cases h
theorem pm_q_iand (hx : p.tables.exec = Jvm.exec) (hb : c.code = cc) (hd : decode cc pc = .ok (.iand, len)) (hw : pm_w (.iand) len = true) (h : pm_s1 (.iand) pc L st = some (pc', L', st')) (hl : pm_lh b0 b ls nL L) (kk : ∀ ls' : Array Slot, pm_lh b0 b ls' nL L' → W p l e R s m args below meth c H locs cells slots Q (F0 m pc' ls' (st'.map (pm_v b0 b)))) : W p l e R s m args below meth c H locs cells slots Q (F0 m pc ls (st.map (pm_v b0 b))) := by
  have hn : len = 1 := by simpa [pm_w] using hw
  subst hn
  simp only [pm_s1] at h
  split at h
  · cases h
    exact lv_iand hx hb hd (kk ls hl)
  · cases h
theorem pm_q_ior (hx : p.tables.exec = Jvm.exec) (hb : c.code = cc) (hd : decode cc pc = .ok (.ior, len)) (hw : pm_w (.ior) len = true) (h : pm_s1 (.ior) pc L st = some (pc', L', st')) (hl : pm_lh b0 b ls nL L) (kk : ∀ ls' : Array Slot, pm_lh b0 b ls' nL L' → W p l e R s m args below meth c H locs cells slots Q (F0 m pc' ls' (st'.map (pm_v b0 b)))) : W p l e R s m args below meth c H locs cells slots Q (F0 m pc ls (st.map (pm_v b0 b))) := by
  have hn : len = 1 := by simpa [pm_w] using hw
  subst hn
  simp only [pm_s1] at h
  split at h
  · cases h
    exact lv_ior hx hb hd (kk ls hl)
  · cases h
theorem pm_q_ixor (hx : p.tables.exec = Jvm.exec) (hb : c.code = cc) (hd : decode cc pc = .ok (.ixor, len)) (hw : pm_w (.ixor) len = true) (h : pm_s1 (.ixor) pc L st = some (pc', L', st')) (hl : pm_lh b0 b ls nL L) (kk : ∀ ls' : Array Slot, pm_lh b0 b ls' nL L' → W p l e R s m args below meth c H locs cells slots Q (F0 m pc' ls' (st'.map (pm_v b0 b)))) : W p l e R s m args below meth c H locs cells slots Q (F0 m pc ls (st.map (pm_v b0 b))) := by
  have hn : len = 1 := by simpa [pm_w] using hw
  subst hn
  simp only [pm_s1] at h
  split at h
  · cases h
    exact lv_ixor hx hb hd (kk ls hl)
  · cases h
theorem pm_q_i2d (hx : p.tables.exec = Jvm.exec) (hb : c.code = cc) (hd : decode cc pc = .ok (.i2d, len)) (hw : pm_w (.i2d) len = true) (h : pm_s1 (.i2d) pc L st = some (pc', L', st')) (hl : pm_lh b0 b ls nL L) (kk : ∀ ls' : Array Slot, pm_lh b0 b ls' nL L' → W p l e R s m args below meth c H locs cells slots Q (F0 m pc' ls' (st'.map (pm_v b0 b)))) : W p l e R s m args below meth c H locs cells slots Q (F0 m pc ls (st.map (pm_v b0 b))) := by
  have hn : len = 1 := by simpa [pm_w] using hw
  subst hn
  simp only [pm_s1] at h
  split at h
  · cases h
    exact lv_i2d hx hb hd (kk ls hl)
  · cases h
theorem pm_q_l2d (hx : p.tables.exec = Jvm.exec) (hb : c.code = cc) (hd : decode cc pc = .ok (.l2d, len)) (hw : pm_w (.l2d) len = true) (h : pm_s1 (.l2d) pc L st = some (pc', L', st')) (hl : pm_lh b0 b ls nL L) (kk : ∀ ls' : Array Slot, pm_lh b0 b ls' nL L' → W p l e R s m args below meth c H locs cells slots Q (F0 m pc' ls' (st'.map (pm_v b0 b)))) : W p l e R s m args below meth c H locs cells slots Q (F0 m pc ls (st.map (pm_v b0 b))) := by
  have hn : len = 1 := by simpa [pm_w] using hw
  subst hn
  simp only [pm_s1] at h
  split at h
  · cases h
    exact lv_l2d hx hb hd (kk ls hl)
  · cases h
theorem pm_q_d2l (hx : p.tables.exec = Jvm.exec) (hb : c.code = cc) (hd : decode cc pc = .ok (.d2l, len)) (hw : pm_w (.d2l) len = true) (h : pm_s1 (.d2l) pc L st = some (pc', L', st')) (hl : pm_lh b0 b ls nL L) (kk : ∀ ls' : Array Slot, pm_lh b0 b ls' nL L' → W p l e R s m args below meth c H locs cells slots Q (F0 m pc' ls' (st'.map (pm_v b0 b)))) : W p l e R s m args below meth c H locs cells slots Q (F0 m pc ls (st.map (pm_v b0 b))) := by
  have hn : len = 1 := by simpa [pm_w] using hw
  subst hn
  simp only [pm_s1] at h
  split at h
  · cases h
    exact lv_d2l hx hb hd (kk ls hl)
  · cases h
theorem pm_q_ladd (hx : p.tables.exec = Jvm.exec) (hb : c.code = cc) (hd : decode cc pc = .ok (.ladd, len)) (hw : pm_w (.ladd) len = true) (h : pm_s1 (.ladd) pc L st = some (pc', L', st')) (hl : pm_lh b0 b ls nL L) (kk : ∀ ls' : Array Slot, pm_lh b0 b ls' nL L' → W p l e R s m args below meth c H locs cells slots Q (F0 m pc' ls' (st'.map (pm_v b0 b)))) : W p l e R s m args below meth c H locs cells slots Q (F0 m pc ls (st.map (pm_v b0 b))) := by
  have hn : len = 1 := by simpa [pm_w] using hw
  subst hn
  simp only [pm_s1] at h
  split at h
  · cases h
    exact lv_ladd hx hb hd (kk ls hl)
  · cases h
theorem pm_q_lsub (hx : p.tables.exec = Jvm.exec) (hb : c.code = cc) (hd : decode cc pc = .ok (.lsub, len)) (hw : pm_w (.lsub) len = true) (h : pm_s1 (.lsub) pc L st = some (pc', L', st')) (hl : pm_lh b0 b ls nL L) (kk : ∀ ls' : Array Slot, pm_lh b0 b ls' nL L' → W p l e R s m args below meth c H locs cells slots Q (F0 m pc' ls' (st'.map (pm_v b0 b)))) : W p l e R s m args below meth c H locs cells slots Q (F0 m pc ls (st.map (pm_v b0 b))) := by
  have hn : len = 1 := by simpa [pm_w] using hw
  subst hn
  simp only [pm_s1] at h
  split at h
  · cases h
    exact lv_lsub hx hb hd (kk ls hl)
  · cases h
theorem pm_q_lmul (hx : p.tables.exec = Jvm.exec) (hb : c.code = cc) (hd : decode cc pc = .ok (.lmul, len)) (hw : pm_w (.lmul) len = true) (h : pm_s1 (.lmul) pc L st = some (pc', L', st')) (hl : pm_lh b0 b ls nL L) (kk : ∀ ls' : Array Slot, pm_lh b0 b ls' nL L' → W p l e R s m args below meth c H locs cells slots Q (F0 m pc' ls' (st'.map (pm_v b0 b)))) : W p l e R s m args below meth c H locs cells slots Q (F0 m pc ls (st.map (pm_v b0 b))) := by
  have hn : len = 1 := by simpa [pm_w] using hw
  subst hn
  simp only [pm_s1] at h
  split at h
  · cases h
    exact lv_lmul hx hb hd (kk ls hl)
  · cases h
theorem pm_q_land (hx : p.tables.exec = Jvm.exec) (hb : c.code = cc) (hd : decode cc pc = .ok (.land, len)) (hw : pm_w (.land) len = true) (h : pm_s1 (.land) pc L st = some (pc', L', st')) (hl : pm_lh b0 b ls nL L) (kk : ∀ ls' : Array Slot, pm_lh b0 b ls' nL L' → W p l e R s m args below meth c H locs cells slots Q (F0 m pc' ls' (st'.map (pm_v b0 b)))) : W p l e R s m args below meth c H locs cells slots Q (F0 m pc ls (st.map (pm_v b0 b))) := by
  have hn : len = 1 := by simpa [pm_w] using hw
  subst hn
  simp only [pm_s1] at h
  split at h
  · cases h
    exact lv_land hx hb hd (kk ls hl)
  · cases h
theorem pm_q_lor (hx : p.tables.exec = Jvm.exec) (hb : c.code = cc) (hd : decode cc pc = .ok (.lor, len)) (hw : pm_w (.lor) len = true) (h : pm_s1 (.lor) pc L st = some (pc', L', st')) (hl : pm_lh b0 b ls nL L) (kk : ∀ ls' : Array Slot, pm_lh b0 b ls' nL L' → W p l e R s m args below meth c H locs cells slots Q (F0 m pc' ls' (st'.map (pm_v b0 b)))) : W p l e R s m args below meth c H locs cells slots Q (F0 m pc ls (st.map (pm_v b0 b))) := by
  have hn : len = 1 := by simpa [pm_w] using hw
  subst hn
  simp only [pm_s1] at h
  split at h
  · cases h
    exact lv_lor hx hb hd (kk ls hl)
  · cases h
theorem pm_q_dneg (hx : p.tables.exec = Jvm.exec) (hb : c.code = cc) (hd : decode cc pc = .ok (.dneg, len)) (hw : pm_w (.dneg) len = true) (h : pm_s1 (.dneg) pc L st = some (pc', L', st')) (hl : pm_lh b0 b ls nL L) (kk : ∀ ls' : Array Slot, pm_lh b0 b ls' nL L' → W p l e R s m args below meth c H locs cells slots Q (F0 m pc' ls' (st'.map (pm_v b0 b)))) : W p l e R s m args below meth c H locs cells slots Q (F0 m pc ls (st.map (pm_v b0 b))) := by
  have hn : len = 1 := by simpa [pm_w] using hw
  subst hn
  simp only [pm_s1] at h
  split at h
  · cases h
    exact lv_dneg hx hb hd (kk ls hl)
  · cases h
theorem pm_q_i2l (hx : p.tables.exec = Jvm.exec) (hb : c.code = cc) (hd : decode cc pc = .ok (.i2l, len)) (hw : pm_w (.i2l) len = true) (h : pm_s1 (.i2l) pc L st = some (pc', L', st')) (hl : pm_lh b0 b ls nL L) (kk : ∀ ls' : Array Slot, pm_lh b0 b ls' nL L' → W p l e R s m args below meth c H locs cells slots Q (F0 m pc' ls' (st'.map (pm_v b0 b)))) : W p l e R s m args below meth c H locs cells slots Q (F0 m pc ls (st.map (pm_v b0 b))) := by
  have hn : len = 1 := by simpa [pm_w] using hw
  subst hn
  simp only [pm_s1] at h
  split at h
  · cases h
    exact lv_i2l hx hb hd rfl (kk ls hl)
  · cases h
theorem pm_q_l2i (hx : p.tables.exec = Jvm.exec) (hb : c.code = cc) (hd : decode cc pc = .ok (.l2i, len)) (hw : pm_w (.l2i) len = true) (h : pm_s1 (.l2i) pc L st = some (pc', L', st')) (hl : pm_lh b0 b ls nL L) (kk : ∀ ls' : Array Slot, pm_lh b0 b ls' nL L' → W p l e R s m args below meth c H locs cells slots Q (F0 m pc' ls' (st'.map (pm_v b0 b)))) : W p l e R s m args below meth c H locs cells slots Q (F0 m pc ls (st.map (pm_v b0 b))) := by
  have hn : len = 1 := by simpa [pm_w] using hw
  subst hn
  simp only [pm_s1] at h
  split at h
  · cases h
    exact lv_l2i hx hb hd rfl (kk ls hl)
  · cases h
theorem pm_q_lshl (hx : p.tables.exec = Jvm.exec) (hb : c.code = cc) (hd : decode cc pc = .ok (.lshl, len)) (hw : pm_w (.lshl) len = true) (h : pm_s1 (.lshl) pc L st = some (pc', L', st')) (hl : pm_lh b0 b ls nL L) (kk : ∀ ls' : Array Slot, pm_lh b0 b ls' nL L' → W p l e R s m args below meth c H locs cells slots Q (F0 m pc' ls' (st'.map (pm_v b0 b)))) : W p l e R s m args below meth c H locs cells slots Q (F0 m pc ls (st.map (pm_v b0 b))) := by
  have hn : len = 1 := by simpa [pm_w] using hw
  subst hn
  simp only [pm_s1] at h
  split at h
  · cases h
    exact lv_lshl hx hb hd rfl (kk ls hl)
  · cases h
theorem pm_q_lshr (hx : p.tables.exec = Jvm.exec) (hb : c.code = cc) (hd : decode cc pc = .ok (.lshr, len)) (hw : pm_w (.lshr) len = true) (h : pm_s1 (.lshr) pc L st = some (pc', L', st')) (hl : pm_lh b0 b ls nL L) (kk : ∀ ls' : Array Slot, pm_lh b0 b ls' nL L' → W p l e R s m args below meth c H locs cells slots Q (F0 m pc' ls' (st'.map (pm_v b0 b)))) : W p l e R s m args below meth c H locs cells slots Q (F0 m pc ls (st.map (pm_v b0 b))) := by
  have hn : len = 1 := by simpa [pm_w] using hw
  subst hn
  simp only [pm_s1] at h
  split at h
  · cases h
    exact lv_lshr hx hb hd rfl (kk ls hl)
  · cases h
theorem pm_q_lushr (hx : p.tables.exec = Jvm.exec) (hb : c.code = cc) (hd : decode cc pc = .ok (.lushr, len)) (hw : pm_w (.lushr) len = true) (h : pm_s1 (.lushr) pc L st = some (pc', L', st')) (hl : pm_lh b0 b ls nL L) (kk : ∀ ls' : Array Slot, pm_lh b0 b ls' nL L' → W p l e R s m args below meth c H locs cells slots Q (F0 m pc' ls' (st'.map (pm_v b0 b)))) : W p l e R s m args below meth c H locs cells slots Q (F0 m pc ls (st.map (pm_v b0 b))) := by
  have hn : len = 1 := by simpa [pm_w] using hw
  subst hn
  simp only [pm_s1] at h
  split at h
  · cases h
    exact lv_lushr hx hb hd rfl (kk ls hl)
  · cases h
theorem pm_q_lcmp (hx : p.tables.exec = Jvm.exec) (hb : c.code = cc) (hd : decode cc pc = .ok (.lcmp, len)) (hw : pm_w (.lcmp) len = true) (h : pm_s1 (.lcmp) pc L st = some (pc', L', st')) (hl : pm_lh b0 b ls nL L) (kk : ∀ ls' : Array Slot, pm_lh b0 b ls' nL L' → W p l e R s m args below meth c H locs cells slots Q (F0 m pc' ls' (st'.map (pm_v b0 b)))) : W p l e R s m args below meth c H locs cells slots Q (F0 m pc ls (st.map (pm_v b0 b))) := by
  have hn : len = 1 := by simpa [pm_w] using hw
  subst hn
  simp only [pm_s1] at h
  split at h
  · cases h
    exact W.lcmp hx hb hd (kk ls hl)
  · cases h
theorem pm_q_dcmp (hx : p.tables.exec = Jvm.exec) (hb : c.code = cc) {op : ClassFile.CmpOp} (hd : decode cc pc = .ok (.dcmp op, len)) (hw : pm_w (.dcmp op) len = true) (h : pm_s1 (.dcmp op) pc L st = some (pc', L', st')) (hl : pm_lh b0 b ls nL L) (kk : ∀ ls' : Array Slot, pm_lh b0 b ls' nL L' → W p l e R s m args below meth c H locs cells slots Q (F0 m pc' ls' (st'.map (pm_v b0 b)))) : W p l e R s m args below meth c H locs cells slots Q (F0 m pc ls (st.map (pm_v b0 b))) := by
  have hn : len = 1 := by simpa [pm_w] using hw
  subst hn
  simp only [pm_s1] at h
  split at h
  · cases h
    exact lv_dcmp hx hb hd (kk ls hl)
  · cases h
theorem pm_q_idiv (hx : p.tables.exec = Jvm.exec) (hb : c.code = cc) (hd : decode cc pc = .ok (.idiv, len)) (hw : pm_w (.idiv) len = true) (h : pm_s1 (.idiv) pc L st = some (pc', L', st')) (hl : pm_lh b0 b ls nL L) (kk : ∀ ls' : Array Slot, pm_lh b0 b ls' nL L' → W p l e R s m args below meth c H locs cells slots Q (F0 m pc' ls' (st'.map (pm_v b0 b)))) : W p l e R s m args below meth c H locs cells slots Q (F0 m pc ls (st.map (pm_v b0 b))) := by
  have hn : len = 1 := by simpa [pm_w] using hw
  subst hn
  simp only [pm_s1] at h
  split at h
  · split at h
    · cases h
    · rename_i hne
      cases h
      exact lv_idiv hx hb hd hne (kk ls hl)
  · cases h
theorem pm_q_irem (hx : p.tables.exec = Jvm.exec) (hb : c.code = cc) (hd : decode cc pc = .ok (.irem, len)) (hw : pm_w (.irem) len = true) (h : pm_s1 (.irem) pc L st = some (pc', L', st')) (hl : pm_lh b0 b ls nL L) (kk : ∀ ls' : Array Slot, pm_lh b0 b ls' nL L' → W p l e R s m args below meth c H locs cells slots Q (F0 m pc' ls' (st'.map (pm_v b0 b)))) : W p l e R s m args below meth c H locs cells slots Q (F0 m pc ls (st.map (pm_v b0 b))) := by
  have hn : len = 1 := by simpa [pm_w] using hw
  subst hn
  simp only [pm_s1] at h
  split at h
  · split at h
    · cases h
    · rename_i hne
      cases h
      exact lv_irem hx hb hd hne (kk ls hl)
  · cases h
theorem pm_q_ldiv (hx : p.tables.exec = Jvm.exec) (hb : c.code = cc) (hd : decode cc pc = .ok (.ldiv, len)) (hw : pm_w (.ldiv) len = true) (h : pm_s1 (.ldiv) pc L st = some (pc', L', st')) (hl : pm_lh b0 b ls nL L) (kk : ∀ ls' : Array Slot, pm_lh b0 b ls' nL L' → W p l e R s m args below meth c H locs cells slots Q (F0 m pc' ls' (st'.map (pm_v b0 b)))) : W p l e R s m args below meth c H locs cells slots Q (F0 m pc ls (st.map (pm_v b0 b))) := by
  have hn : len = 1 := by simpa [pm_w] using hw
  subst hn
  simp only [pm_s1] at h
  split at h
  · split at h
    · cases h
    · rename_i hne
      cases h
      exact lv_ldiv hx hb hd hne (kk ls hl)
  · cases h
theorem pm_q_dadd (hx : p.tables.exec = Jvm.exec) (hb : c.code = cc) (hd : decode cc pc = .ok (.dadd, len)) (hw : pm_w (.dadd) len = true) (h : pm_s1 (.dadd) pc L st = some (pc', L', st')) (hl : pm_lh b0 b ls nL L) (kk : ∀ ls' : Array Slot, pm_lh b0 b ls' nL L' → W p l e R s m args below meth c H locs cells slots Q (F0 m pc' ls' (st'.map (pm_v b0 b)))) : W p l e R s m args below meth c H locs cells slots Q (F0 m pc ls (st.map (pm_v b0 b))) := by
  have hn : len = 1 := by simpa [pm_w] using hw
  subst hn
  simp only [pm_s1] at h
  split at h
  · split at h
    · rename_i hne
      cases h
      exact lv_dadd hx hb hd hne (kk ls hl)
    · cases h
  · cases h
theorem pm_q_dsub (hx : p.tables.exec = Jvm.exec) (hb : c.code = cc) (hd : decode cc pc = .ok (.dsub, len)) (hw : pm_w (.dsub) len = true) (h : pm_s1 (.dsub) pc L st = some (pc', L', st')) (hl : pm_lh b0 b ls nL L) (kk : ∀ ls' : Array Slot, pm_lh b0 b ls' nL L' → W p l e R s m args below meth c H locs cells slots Q (F0 m pc' ls' (st'.map (pm_v b0 b)))) : W p l e R s m args below meth c H locs cells slots Q (F0 m pc ls (st.map (pm_v b0 b))) := by
  have hn : len = 1 := by simpa [pm_w] using hw
  subst hn
  simp only [pm_s1] at h
  split at h
  · split at h
    · rename_i hne
      cases h
      exact lv_dsub hx hb hd hne (kk ls hl)
    · cases h
  · cases h
theorem pm_q_dmul (hx : p.tables.exec = Jvm.exec) (hb : c.code = cc) (hd : decode cc pc = .ok (.dmul, len)) (hw : pm_w (.dmul) len = true) (h : pm_s1 (.dmul) pc L st = some (pc', L', st')) (hl : pm_lh b0 b ls nL L) (kk : ∀ ls' : Array Slot, pm_lh b0 b ls' nL L' → W p l e R s m args below meth c H locs cells slots Q (F0 m pc' ls' (st'.map (pm_v b0 b)))) : W p l e R s m args below meth c H locs cells slots Q (F0 m pc ls (st.map (pm_v b0 b))) := by
  have hn : len = 1 := by simpa [pm_w] using hw
  subst hn
  simp only [pm_s1] at h
  split at h
  · split at h
    · rename_i hne
      cases h
      exact lv_dmul hx hb hd hne (kk ls hl)
    · cases h
  · cases h
theorem pm_q_ddiv (hx : p.tables.exec = Jvm.exec) (hb : c.code = cc) (hd : decode cc pc = .ok (.ddiv, len)) (hw : pm_w (.ddiv) len = true) (h : pm_s1 (.ddiv) pc L st = some (pc', L', st')) (hl : pm_lh b0 b ls nL L) (kk : ∀ ls' : Array Slot, pm_lh b0 b ls' nL L' → W p l e R s m args below meth c H locs cells slots Q (F0 m pc' ls' (st'.map (pm_v b0 b)))) : W p l e R s m args below meth c H locs cells slots Q (F0 m pc ls (st.map (pm_v b0 b))) := by
  have hn : len = 1 := by simpa [pm_w] using hw
  subst hn
  simp only [pm_s1] at h
  split at h
  · split at h
    · rename_i hne
      cases h
      exact lv_ddiv hx hb hd hne (kk ls hl)
    · cases h
  · cases h
theorem pm_q_dup (hx : p.tables.exec = Jvm.exec) (hb : c.code = cc) (hd : decode cc pc = .ok (.dup, len)) (hw : pm_w (.dup) len = true) (h : pm_s1 (.dup) pc L st = some (pc', L', st')) (hl : pm_lh b0 b ls nL L) (kk : ∀ ls' : Array Slot, pm_lh b0 b ls' nL L' → W p l e R s m args below meth c H locs cells slots Q (F0 m pc' ls' (st'.map (pm_v b0 b)))) : W p l e R s m args below meth c H locs cells slots Q (F0 m pc ls (st.map (pm_v b0 b))) := by
  have hn : len = 1 := by simpa [pm_w] using hw
  subst hn
  simp only [pm_s1] at h
  split at h
  · cases h
    exact lv_dup hx hb hd rfl (kk ls hl)
  · cases h
    exact lv_dup hx hb hd rfl (kk ls hl)
  · cases h
theorem pm_q_dup2 (hx : p.tables.exec = Jvm.exec) (hb : c.code = cc) (hd : decode cc pc = .ok (.dup2, len)) (hw : pm_w (.dup2) len = true) (h : pm_s1 (.dup2) pc L st = some (pc', L', st')) (hl : pm_lh b0 b ls nL L) (kk : ∀ ls' : Array Slot, pm_lh b0 b ls' nL L' → W p l e R s m args below meth c H locs cells slots Q (F0 m pc' ls' (st'.map (pm_v b0 b)))) : W p l e R s m args below meth c H locs cells slots Q (F0 m pc ls (st.map (pm_v b0 b))) := by
  have hn : len = 1 := by simpa [pm_w] using hw
  subst hn
  simp only [pm_s1] at h
  split at h
  · cases h
    exact lv_dup2_11 hx hb hd rfl rfl (kk ls hl)
  · cases h
    exact lv_dup2_2 hx hb hd rfl (kk ls hl)
  · cases h
theorem pm_q_pop (hx : p.tables.exec = Jvm.exec) (hb : c.code = cc) (hd : decode cc pc = .ok (.pop, len)) (hw : pm_w (.pop) len = true) (h : pm_s1 (.pop) pc L st = some (pc', L', st')) (hl : pm_lh b0 b ls nL L) (kk : ∀ ls' : Array Slot, pm_lh b0 b ls' nL L' → W p l e R s m args below meth c H locs cells slots Q (F0 m pc' ls' (st'.map (pm_v b0 b)))) : W p l e R s m args below meth c H locs cells slots Q (F0 m pc ls (st.map (pm_v b0 b))) := by
  have hn : len = 1 := by simpa [pm_w] using hw
  subst hn
  simp only [pm_s1] at h
  split at h
  · cases h
    exact lv_pop hx hb hd rfl (kk ls hl)
  · cases h
theorem pm_t_eq {off : Int} {t : Nat} (h : pm_t pc off = some t) : (pc : Int) + off = (t : Int) := by
  unfold pm_t at h
  split at h
  · cases h
    omega
  · cases h
theorem pm_q_goto (hx : p.tables.exec = Jvm.exec) (hb : c.code = cc) {off : Int} (hd : decode cc pc = .ok (.goto off, len)) (hw : pm_w (.goto off) len = true) (h : pm_s1 (.goto off) pc L st = some (pc', L', st')) (hl : pm_lh b0 b ls nL L) (kk : ∀ ls' : Array Slot, pm_lh b0 b ls' nL L' → W p l e R s m args below meth c H locs cells slots Q (F0 m pc' ls' (st'.map (pm_v b0 b)))) : W p l e R s m args below meth c H locs cells slots Q (F0 m pc ls (st.map (pm_v b0 b))) := by
  have hn : len = 3 := by simpa [pm_w] using hw
  subst hn
  simp only [pm_s1] at h
  obtain ⟨t, ht, h⟩ := Option.map_eq_some_iff.mp h
  cases h
  exact lv_goto hx hb hd (pm_t_eq ht) (kk ls hl)
theorem pm_q_ifCond (hx : p.tables.exec = Jvm.exec) (hb : c.code = cc) {cd : ClassFile.Cond} {off : Int} (hd : decode cc pc = .ok (.ifCond cd off, len)) (hw : pm_w (.ifCond cd off) len = true) (h : pm_s1 (.ifCond cd off) pc L st = some (pc', L', st')) (hl : pm_lh b0 b ls nL L) (kk : ∀ ls' : Array Slot, pm_lh b0 b ls' nL L' → W p l e R s m args below meth c H locs cells slots Q (F0 m pc' ls' (st'.map (pm_v b0 b)))) : W p l e R s m args below meth c H locs cells slots Q (F0 m pc ls (st.map (pm_v b0 b))) := by
  have hn : len = 3 := by simpa [pm_w] using hw
  subst hn
  simp only [pm_s1] at h
  split at h
  · rename_i x r
    obtain ⟨t, ht, h⟩ := Option.map_eq_some_iff.mp h
    cases h
    cases cd with
    | eq =>
      refine lv_if_eq hx hb hd (pm_t_eq ht) (fun hc => ?_) (fun hc => ?_)
      · have e : pm_c .eq x 0 = true := by simp [pm_c, hc]
        simp only [e, if_true] at kk
        exact kk ls hl
      · have e : pm_c .eq x 0 = false := by simp [pm_c, hc]
        simp only [e] at kk
        exact kk ls hl
    | ne =>
      refine lv_if_ne hx hb hd (pm_t_eq ht) (fun hc => ?_) (fun hc => ?_)
      · have e : pm_c .ne x 0 = true := by simp [pm_c, hc]
        simp only [e, if_true] at kk
        exact kk ls hl
      · have e : pm_c .ne x 0 = false := by simp [pm_c, hc]
        simp only [e] at kk
        exact kk ls hl
    | lt =>
      refine lv_if_lt hx hb hd (pm_t_eq ht) (fun hc => ?_) (fun hc => ?_)
      · have e : pm_c .lt x 0 = true := by simp [pm_c, hc]
        simp only [e, if_true] at kk
        exact kk ls hl
      · have e : pm_c .lt x 0 = false := by simp [pm_c, hc]
        simp only [e] at kk
        exact kk ls hl
    | ge =>
      refine lv_if_ge hx hb hd (pm_t_eq ht) (fun hc => ?_) (fun hc => ?_)
      · have e : pm_c .ge x 0 = true := by simp [pm_c, hc]
        simp only [e, if_true] at kk
        exact kk ls hl
      · have e : pm_c .ge x 0 = false := by simp [pm_c, hc]
        simp only [e] at kk
        exact kk ls hl
    | gt =>
      refine lv_if_gt hx hb hd (pm_t_eq ht) (fun hc => ?_) (fun hc => ?_)
      · have e : pm_c .gt x 0 = true := by simp [pm_c, hc]
        simp only [e, if_true] at kk
        exact kk ls hl
      · have e : pm_c .gt x 0 = false := by simp [pm_c, hc]
        simp only [e] at kk
        exact kk ls hl
    | le =>
      refine lv_if_le hx hb hd (pm_t_eq ht) (fun hc => ?_) (fun hc => ?_)
      · have e : pm_c .le x 0 = true := by simp [pm_c, hc]
        simp only [e, if_true] at kk
        exact kk ls hl
      · have e : pm_c .le x 0 = false := by simp [pm_c, hc]
        simp only [e] at kk
        exact kk ls hl
  · cases h
theorem pm_q_if_icmp (hx : p.tables.exec = Jvm.exec) (hb : c.code = cc) {cd : ClassFile.Cond} {off : Int} (hd : decode cc pc = .ok (.if_icmp cd off, len)) (hw : pm_w (.if_icmp cd off) len = true) (h : pm_s1 (.if_icmp cd off) pc L st = some (pc', L', st')) (hl : pm_lh b0 b ls nL L) (kk : ∀ ls' : Array Slot, pm_lh b0 b ls' nL L' → W p l e R s m args below meth c H locs cells slots Q (F0 m pc' ls' (st'.map (pm_v b0 b)))) : W p l e R s m args below meth c H locs cells slots Q (F0 m pc ls (st.map (pm_v b0 b))) := by
  have hn : len = 3 := by simpa [pm_w] using hw
  subst hn
  simp only [pm_s1] at h
  split at h
  · rename_i y x r
    obtain ⟨t, ht, h⟩ := Option.map_eq_some_iff.mp h
    cases h
    cases cd with
    | eq =>
      refine lv_icmp_eq hx hb hd (pm_t_eq ht) (fun hc => ?_) (fun hc => ?_)
      · have e : pm_c .eq x y = true := by simp [pm_c, hc]
        simp only [e, if_true] at kk
        exact kk ls hl
      · have e : pm_c .eq x y = false := by simp [pm_c, hc]
        simp only [e] at kk
        exact kk ls hl
    | ne =>
      refine lv_icmp_ne hx hb hd (pm_t_eq ht) (fun hc => ?_) (fun hc => ?_)
      · have e : pm_c .ne x y = true := by simp [pm_c, hc]
        simp only [e, if_true] at kk
        exact kk ls hl
      · have e : pm_c .ne x y = false := by simp [pm_c, hc]
        simp only [e] at kk
        exact kk ls hl
    | lt =>
      refine lv_icmp_lt hx hb hd (pm_t_eq ht) (fun hc => ?_) (fun hc => ?_)
      · have e : pm_c .lt x y = true := by simp [pm_c, hc]
        simp only [e, if_true] at kk
        exact kk ls hl
      · have e : pm_c .lt x y = false := by simp [pm_c, hc]
        simp only [e] at kk
        exact kk ls hl
    | ge =>
      refine lv_icmp_ge hx hb hd (pm_t_eq ht) (fun hc => ?_) (fun hc => ?_)
      · have e : pm_c .ge x y = true := by simp [pm_c, hc]
        simp only [e, if_true] at kk
        exact kk ls hl
      · have e : pm_c .ge x y = false := by simp [pm_c, hc]
        simp only [e] at kk
        exact kk ls hl
    | gt =>
      refine lv_icmp_gt hx hb hd (pm_t_eq ht) (fun hc => ?_) (fun hc => ?_)
      · have e : pm_c .gt x y = true := by simp [pm_c, hc]
        simp only [e, if_true] at kk
        exact kk ls hl
      · have e : pm_c .gt x y = false := by simp [pm_c, hc]
        simp only [e] at kk
        exact kk ls hl
    | le =>
      refine lv_icmp_le hx hb hd (pm_t_eq ht) (fun hc => ?_) (fun hc => ?_)
      · have e : pm_c .le x y = true := by simp [pm_c, hc]
        simp only [e, if_true] at kk
        exact kk ls hl
      · have e : pm_c .le x y = false := by simp [pm_c, hc]
        simp only [e] at kk
        exact kk ls hl
  · cases h
theorem pm_q_ifnull (hx : p.tables.exec = Jvm.exec) (hb : c.code = cc) {off : Int} (hd : decode cc pc = .ok (.ifnull off, len)) (hw : pm_w (.ifnull off) len = true) (h : pm_s1 (.ifnull off) pc L st = some (pc', L', st')) (hl : pm_lh b0 b ls nL L) (kk : ∀ ls' : Array Slot, pm_lh b0 b ls' nL L' → W p l e R s m args below meth c H locs cells slots Q (F0 m pc' ls' (st'.map (pm_v b0 b)))) : W p l e R s m args below meth c H locs cells slots Q (F0 m pc ls (st.map (pm_v b0 b))) := by
  have hn : len = 3 := by simpa [pm_w] using hw
  subst hn
  simp only [pm_s1] at h
  split at h
  · cases h
    exact lv_ifnull hx hb hd (kk ls hl)
  · obtain ⟨t, ht, h⟩ := Option.map_eq_some_iff.mp h
    cases h
    exact lv_ifnullN hx hb hd (pm_t_eq ht) (kk ls hl)
  · cases h
theorem pm_q_ifnonnull (hx : p.tables.exec = Jvm.exec) (hb : c.code = cc) {off : Int} (hd : decode cc pc = .ok (.ifnonnull off, len)) (hw : pm_w (.ifnonnull off) len = true) (h : pm_s1 (.ifnonnull off) pc L st = some (pc', L', st')) (hl : pm_lh b0 b ls nL L) (kk : ∀ ls' : Array Slot, pm_lh b0 b ls' nL L' → W p l e R s m args below meth c H locs cells slots Q (F0 m pc' ls' (st'.map (pm_v b0 b)))) : W p l e R s m args below meth c H locs cells slots Q (F0 m pc ls (st.map (pm_v b0 b))) := by
  have hn : len = 3 := by simpa [pm_w] using hw
  subst hn
  simp only [pm_s1] at h
  split at h
  · obtain ⟨t, ht, h⟩ := Option.map_eq_some_iff.mp h
    cases h
    exact lv_ifnonnull hx hb hd (pm_t_eq ht) (kk ls hl)
  · cases h
    exact lv_ifnonnullN hx hb hd (kk ls hl)
  · cases h
theorem pm_q_tableswitch (hx : p.tables.exec = Jvm.exec) (hb : c.code = cc) {d lo hi : Int} {offs : Array Int} (hd : decode cc pc = .ok (.tableswitch d lo hi offs, len)) (hw : pm_w (.tableswitch d lo hi offs) len = true) (h : pm_s1 (.tableswitch d lo hi offs) pc L st = some (pc', L', st')) (hl : pm_lh b0 b ls nL L) (kk : ∀ ls' : Array Slot, pm_lh b0 b ls' nL L' → W p l e R s m args below meth c H locs cells slots Q (F0 m pc' ls' (st'.map (pm_v b0 b)))) : W p l e R s m args below meth c H locs cells slots Q (F0 m pc ls (st.map (pm_v b0 b))) := by
  simp only [pm_s1] at h
  split at h
  · obtain ⟨off, ho, h⟩ := Option.bind_eq_some_iff.mp h
    obtain ⟨t, ht, h⟩ := Option.map_eq_some_iff.mp h
    cases h
    unfold pm_sw at ho
    split at ho
    · rename_i hc
      cases ho
      exact lv_tableOut hx hb hd hc (pm_t_eq ht) (kk ls hl)
    · rename_i hc
      exact lv_tableIn hx hb hd (fun z => hc (Or.inl z)) (fun z => hc (Or.inr z)) ho (pm_t_eq ht) (kk ls hl)
  · cases h
theorem pm_q_lookupswitch (hx : p.tables.exec = Jvm.exec) (hb : c.code = cc) {d : Int} {ps : Array (Int × Int)} (hd : decode cc pc = .ok (.lookupswitch d ps, len)) (hw : pm_w (.lookupswitch d ps) len = true) (h : pm_s1 (.lookupswitch d ps) pc L st = some (pc', L', st')) (hl : pm_lh b0 b ls nL L) (kk : ∀ ls' : Array Slot, pm_lh b0 b ls' nL L' → W p l e R s m args below meth c H locs cells slots Q (F0 m pc' ls' (st'.map (pm_v b0 b)))) : W p l e R s m args below meth c H locs cells slots Q (F0 m pc ls (st.map (pm_v b0 b))) := by
  simp only [pm_s1] at h
  split at h
  · split at h
    · rename_i hp
      obtain ⟨t, ht, h⟩ := Option.map_eq_some_iff.mp h
      cases h
      exact lv_lookup hx hb hd hp rfl (pm_t_eq ht) (kk ls hl)
    · cases h
  · cases h
theorem pm_s1_sound (hx : p.tables.exec = Jvm.exec) (hb : c.code = cc) {i : ClassFile.Instr} (hd : decode cc pc = .ok (i, len)) (hw : pm_w i len = true) (h : pm_s1 i pc L st = some (pc', L', st')) (hl : pm_lh b0 b ls nL L) (kk : ∀ ls' : Array Slot, pm_lh b0 b ls' nL L' → W p l e R s m args below meth c H locs cells slots Q (F0 m pc' ls' (st'.map (pm_v b0 b)))) : W p l e R s m args below meth c H locs cells slots Q (F0 m pc ls (st.map (pm_v b0 b))) := by
  cases i
  case iconst => exact pm_q_iconst hx hb hd hw h hl kk
  case bipush => exact pm_q_bipush hx hb hd hw h hl kk
  case sipush => exact pm_q_sipush hx hb hd hw h hl kk
  case lconst => exact pm_q_lconst hx hb hd hw h hl kk
  case aconst_null => exact pm_q_aconst_null hx hb hd hw h hl kk
  case dconst => exact pm_q_dconst hx hb hd hw h hl kk
  case iload_n => exact pm_q_iload_n hx hb hd hw h hl kk
  case iload => exact pm_q_iload hx hb hd hw h hl kk
  case lload_n => exact pm_q_lload_n hx hb hd hw h hl kk
  case lload => exact pm_q_lload hx hb hd hw h hl kk
  case dload_n => exact pm_q_dload_n hx hb hd hw h hl kk
  case dload => exact pm_q_dload hx hb hd hw h hl kk
  case aload_n => exact pm_q_aload_n hx hb hd hw h hl kk
  case aload => exact pm_q_aload hx hb hd hw h hl kk
  case istore_n => exact pm_q_istore_n hx hb hd hw h hl kk
  case lstore_n => exact pm_q_lstore_n hx hb hd hw h hl kk
  case dstore_n => exact pm_q_dstore_n hx hb hd hw h hl kk
  case astore_n => exact pm_q_astore_n hx hb hd hw h hl kk
  case istore => exact pm_q_istore hx hb hd hw h hl kk
  case lstore => exact pm_q_lstore hx hb hd hw h hl kk
  case dstore => exact pm_q_dstore hx hb hd hw h hl kk
  case astore => exact pm_q_astore hx hb hd hw h hl kk
  case iinc => exact pm_q_iinc hx hb hd hw h hl kk
  case iadd => exact pm_q_iadd hx hb hd hw h hl kk
  case isub => exact pm_q_isub hx hb hd hw h hl kk
  case imul => exact pm_q_imul hx hb hd hw h hl kk
  case ineg => exact pm_q_ineg hx hb hd hw h hl kk
  case ishl => exact pm_q_ishl hx hb hd hw h hl kk
  case ishr => exact pm_q_ishr hx hb hd hw h hl kk
  case iand => exact pm_q_iand hx hb hd hw h hl kk
  case ior => exact pm_q_ior hx hb hd hw h hl kk
  case ixor => exact pm_q_ixor hx hb hd hw h hl kk
  case i2d => exact pm_q_i2d hx hb hd hw h hl kk
  case l2d => exact pm_q_l2d hx hb hd hw h hl kk
  case d2l => exact pm_q_d2l hx hb hd hw h hl kk
  case ladd => exact pm_q_ladd hx hb hd hw h hl kk
  case lsub => exact pm_q_lsub hx hb hd hw h hl kk
  case lmul => exact pm_q_lmul hx hb hd hw h hl kk
  case land => exact pm_q_land hx hb hd hw h hl kk
  case lor => exact pm_q_lor hx hb hd hw h hl kk
  case dneg => exact pm_q_dneg hx hb hd hw h hl kk
  case i2l => exact pm_q_i2l hx hb hd hw h hl kk
  case l2i => exact pm_q_l2i hx hb hd hw h hl kk
  case lshl => exact pm_q_lshl hx hb hd hw h hl kk
  case lshr => exact pm_q_lshr hx hb hd hw h hl kk
  case lushr => exact pm_q_lushr hx hb hd hw h hl kk
  case lcmp => exact pm_q_lcmp hx hb hd hw h hl kk
  case dcmp => exact pm_q_dcmp hx hb hd hw h hl kk
  case idiv => exact pm_q_idiv hx hb hd hw h hl kk
  case irem => exact pm_q_irem hx hb hd hw h hl kk
  case ldiv => exact pm_q_ldiv hx hb hd hw h hl kk
  case dadd => exact pm_q_dadd hx hb hd hw h hl kk
  case dsub => exact pm_q_dsub hx hb hd hw h hl kk
  case dmul => exact pm_q_dmul hx hb hd hw h hl kk
  case ddiv => exact pm_q_ddiv hx hb hd hw h hl kk
  case dup => exact pm_q_dup hx hb hd hw h hl kk
  case dup2 => exact pm_q_dup2 hx hb hd hw h hl kk
  case pop => exact pm_q_pop hx hb hd hw h hl kk
  case goto => exact pm_q_goto hx hb hd hw h hl kk
  case ifCond => exact pm_q_ifCond hx hb hd hw h hl kk
  case if_icmp => exact pm_q_if_icmp hx hb hd hw h hl kk
  case ifnull => exact pm_q_ifnull hx hb hd hw h hl kk
  case ifnonnull => exact pm_q_ifnonnull hx hb hd hw h hl kk
  case tableswitch => exact pm_q_tableswitch hx hb hd hw h hl kk
  case lookupswitch => exact pm_q_lookupswitch hx hb hd hw h hl kk
  all_goals (simp [pm_s1] at h)
end PMS
end
section
/-! THE PURE MACHINE IS SOUND, 2: the memory and the heap -/
def pm_cn (c : Nat) : String := match c with
  | 0 => RX1
  | 1 => RX4
  | 2 => RX5
  | 3 => RX6
  | 4 => RX7
  | _ => RX8
def pm_ct (c : Nat) : u_T := match c with
  | 0 => TX1
  | 1 => TX4
  | 2 => TX5
  | 3 => TX6
  | 4 => TX7
  | _ => TX8
def pm_cN (c : Nat) : Nat := match c with
  | 0 => 15
  | 1 => 1
  | 2 => 9
  | 3 => 9
  | 4 => 7
  | _ => 32
theorem pm_vw {c : Nat} (h : c < 6) : vwCl[c]? = some (pm_cn c, pm_ct c, pm_cN c) := by
  match c, h with
  | 0, _ => rfl
  | 1, _ => rfl
  | 2, _ => rfl
  | 3, _ => rfl
  | 4, _ => rfl
  | 5, _ => rfl
theorem pm_nm {c : Nat} (h : c < 6) : ∀ a, a < pm_cN c → ∀ b, b < pm_cN c → a ≠ b → (pm_ct c a).2.1 ≠ (pm_ct c b).2.1 := by
  match c, h with
  | 0, _ => exact nmX1
  | 1, _ => exact nmX4
  | 2, _ => exact nmX5
  | 3, _ => exact nmX6
  | 4, _ => exact nmX7
  | 5, _ => exact nmX8
theorem pm_tyok {c : Nat} (h : c < 6) : ∀ k, k < pm_cN c → parseFieldDescriptor (pm_ct c k).2.2.1 = some (pm_ty c k) := by
  match c, h with
  | 0, _ => exact tyX1_ok
  | 1, _ => exact tyX4_ok
  | 2, _ => exact tyX5_ok
  | 3, _ => exact tyX6_ok
  | 4, _ => exact tyX7_ok
  | 5, _ => exact tyX8_ok
/-- the tables' words that a call may hand on -/
def pm_T : List Cond := lw_tbl.filter goodWord
theorem pm_T_tbl {w : Cond} (h : w ∈ pm_T) : w ∈ lw_tbl := (List.mem_filter.mp h).1
theorem pm_T_good {w : Cond} (h : w ∈ pm_T) : goodWord w = true := (List.mem_filter.mp h).2
theorem pm_Ti {w : Cond} (h : w ∈ lw_tbl) (g : goodWord w = true) : w ∈ pm_T := List.mem_filter.mpr ⟨h, g⟩
theorem pm_inT {ws : List Cond} (h : ∀ w ∈ ws, w ∈ lw_tbl) (g : ws.all goodWord = true) : ∀ w ∈ ws, w ∈ pm_T := fun w hw => pm_Ti (h w hw) (List.all_eq_true.mp g w hw)
theorem pm_ws0 : ∀ w ∈ u_ws RX1 TX1 15, w ∈ pm_T := pm_inT (by decide +kernel) (by decide +kernel)
theorem pm_ws1 : ∀ w ∈ u_ws RX4 TX4 1, w ∈ pm_T := pm_inT (by decide +kernel) (by decide +kernel)
theorem pm_ws2 : ∀ w ∈ u_ws RX5 TX5 9, w ∈ pm_T := pm_inT (by decide +kernel) (by decide +kernel)
theorem pm_ws3 : ∀ w ∈ u_ws RX6 TX6 9, w ∈ pm_T := pm_inT (by decide +kernel) (by decide +kernel)
theorem pm_ws4 : ∀ w ∈ u_ws RX7 TX7 7, w ∈ pm_T := pm_inT (by decide +kernel) (by decide +kernel)
theorem pm_ws5 : ∀ w ∈ u_ws RX8 TX8 32, w ∈ pm_T := pm_inT (by decide +kernel) (by decide +kernel)
theorem pm_ws {c : Nat} (h : c < 6) : ∀ w ∈ u_ws (pm_cn c) (pm_ct c) (pm_cN c), w ∈ pm_T := by
  match c, h with
  | 0, _ => exact pm_ws0
  | 1, _ => exact pm_ws1
  | 2, _ => exact pm_ws2
  | 3, _ => exact pm_ws3
  | 4, _ => exact pm_ws4
  | 5, _ => exact pm_ws5
theorem pm_k_hi {i : Nat} (h : 162 ≤ i) : pm_k i = (99, 0) := by
  unfold pm_k
  rw [if_neg (by omega), if_neg (by omega)]
  obtain ⟨q, hq⟩ : ∃ q, i - 135 = q + 27 := ⟨i - 162, by omega⟩
  rw [hq]
  rfl
theorem pm_k_lt {i : Nat} (h : (pm_k i).1 ≠ 99) : i < 162 := by
  rcases Nat.lt_or_ge i 162 with q | q
  · exact q
  · rw [pm_k_hi q] at h
    exact absurd rfl h
theorem pm_k0 : ∀ i, i < 162 → ((pm_k i).1 = 0 ↔ (15 ≤ i ∧ i < 135 ∧ i % 2 = 1)) := by decide +kernel
theorem pm_kN : ∀ i, i < 162 → (pm_k i).1 < 10 → (pm_k i).1 < 6 ∧ (pm_k i).2 = pm_cN (pm_k i).1 := by decide +kernel
theorem pm_kA : ∀ i, i < 162 → ¬ (pm_k i).1 < 10 → (pm_k i).1 = 10 ∨ (pm_k i).1 = 11 ∨ (pm_k i).1 = 12 ∨ (pm_k i).1 = 13 := by decide +kernel
theorem pm_kS : ∀ i, i < 162 → (pm_k i).2 ≤ 480 := by decide +kernel
theorem pm_l_inj {i j s t : Nat} (hi : i < 162) (hj : j < 162) (h : pm_l i s = pm_l j t) : i = j ∧ s = t := by
  have h1 := pm_k0 i hi
  have h2 := pm_k0 j hj
  unfold pm_l at h
  by_cases a : (pm_k i).1 = 0
  · have a1 := h1.mp a
    rw [if_pos a] at h
    by_cases c : (pm_k j).1 = 0
    · have c1 := h2.mp c
      rw [if_pos c] at h
      have e1 := congrArg Prod.fst h
      have e2 := congrArg Prod.snd h
      dsimp only at e1 e2
      omega
    · rw [if_neg c] at h
      have e1 := congrArg Prod.fst h
      dsimp only at e1
      omega
  · rw [if_neg a] at h
    by_cases c : (pm_k j).1 = 0
    · rw [if_pos c] at h
      have e1 := congrArg Prod.fst h
      dsimp only at e1
      omega
    · rw [if_neg c] at h
      cases h
      exact ⟨rfl, rfl⟩
def pm_et (i s : Nat) : FieldType := if (pm_k i).1 < 10 then pm_ty (pm_k i).1 s else if (pm_k i).1 = 10 then .int else if (pm_k i).1 = 11 then .boolean else if (pm_k i).1 = 12 then .double else .object RX1
def pm_V (b0 b : Nat) (μ : pm_M) (i s : Nat) : Value := pm_v b0 b (pm_g μ i s (pm_et i s))
def pm_A (D : va_G) (cA : Nat → ClassId) (b0 b : Nat) (V : Nat → Value) (H : Heap) (i : Nat) : Prop := if (pm_k i).1 < 10 then t_OB (b0 + i) (D.1 (pm_k i).1) (pm_k i).2 (D.2 (pm_k i).1) H V else H[b0 + i]? = some (arrV (cA (pm_k i).1) (pm_k i).2 V)
/-- what isn't made yet is as at first -/
def pm_Z (μ : pm_M) : Prop := ∀ i, μ.1 ≤ i → i < 162 → ∀ s, μ.2.1 (pm_l i s).1 (pm_l i s).2 = 0 ∧ μ.2.2.1 (pm_l i s).1 (pm_l i s).2 = 0 ∧ μ.2.2.2 (pm_l i s).1 (pm_l i s).2 = none
/-- the heap holds the memory -/
def pm_H (D : va_G) (cA : Nat → ClassId) (b0 b : Nat) (μ : pm_M) (H : Heap) : Prop := H.size = b0 + μ.1 ∧ μ.1 ≤ 162 ∧ (∀ i, i < μ.1 → pm_A D cA b0 b (pm_V b0 b μ i) H i) ∧ pm_Z μ
/-- what the tables say of the classes -/
def pm_K (D : va_G) (cA : Nat → ClassId) (U : State) : Prop := va_K D vwCl [(cA 10, .int), (cA 11, .boolean), (cA 12, .double), (cA 13, .object RX1)] U
theorem pm_g_neI {μ : pm_M} {i j s t : Nat} {x : Int32} {ty : FieldType} (h : ¬ ((pm_l j t).1 = (pm_l i s).1 ∧ (pm_l j t).2 = (pm_l i s).2)) : pm_g (pm_wI μ (pm_l i s).1 (pm_l i s).2 x) j t ty = pm_g μ j t ty := by
  cases ty <;> simp [pm_g, pm_wI, pm_u, h]
theorem pm_g_neD {μ : pm_M} {i j s t : Nat} {x : UInt64} {ty : FieldType} (h : ¬ ((pm_l j t).1 = (pm_l i s).1 ∧ (pm_l j t).2 = (pm_l i s).2)) : pm_g (pm_wD μ (pm_l i s).1 (pm_l i s).2 x) j t ty = pm_g μ j t ty := by
  cases ty <;> simp [pm_g, pm_wD, pm_u, h]
theorem pm_g_neR {μ : pm_M} {i j s t : Nat} {x : Option Nat} {ty : FieldType} (h : ¬ ((pm_l j t).1 = (pm_l i s).1 ∧ (pm_l j t).2 = (pm_l i s).2)) : pm_g (pm_wR μ (pm_l i s).1 (pm_l i s).2 x) j t ty = pm_g μ j t ty := by
  cases ty <;> simp [pm_g, pm_wR, pm_u, h]
/-- what a store changes -/
def pm_St (b0 b : Nat) (μ μ' : pm_M) (i s : Nat) (w : Value) : Prop := μ'.1 = μ.1 ∧ (∀ t, pm_V b0 b μ' i t = updV (pm_V b0 b μ i) s w t) ∧ (∀ j, j < 162 → j ≠ i → ∀ t, pm_V b0 b μ' j t = pm_V b0 b μ j t) ∧ (i < μ.1 → pm_Z μ → pm_Z μ')
theorem pm_ne_l {i j s t : Nat} (hi : i < 162) (hj : j < 162) (h : ¬ (j = i ∧ t = s)) : ¬ ((pm_l j t).1 = (pm_l i s).1 ∧ (pm_l j t).2 = (pm_l i s).2) := by
  intro z
  have e : pm_l j t = pm_l i s := Prod.ext z.1 z.2
  exact h (pm_l_inj hj hi e)
theorem pm_St_of {b0 b : Nat} {μ μ' : pm_M} {i s : Nat} {v : Value} (hi : i < 162) (h1 : μ'.1 = μ.1) (hs : pm_g μ' i s (pm_et i s) = v) (hn : ∀ j t ty, ¬ ((pm_l j t).1 = (pm_l i s).1 ∧ (pm_l j t).2 = (pm_l i s).2) → pm_g μ' j t ty = pm_g μ j t ty)
    (hz : ∀ j t, ¬ ((pm_l j t).1 = (pm_l i s).1 ∧ (pm_l j t).2 = (pm_l i s).2) → μ'.2.1 (pm_l j t).1 (pm_l j t).2 = μ.2.1 (pm_l j t).1 (pm_l j t).2 ∧ μ'.2.2.1 (pm_l j t).1 (pm_l j t).2 = μ.2.2.1 (pm_l j t).1 (pm_l j t).2 ∧ μ'.2.2.2 (pm_l j t).1 (pm_l j t).2 = μ.2.2.2 (pm_l j t).1 (pm_l j t).2) : pm_St b0 b μ μ' i s (pm_v b0 b v) := by
  refine ⟨h1, fun t => ?_, fun j hj hji t => ?_, fun hlt hZ j hj1 hj2 t => ?_⟩
  · unfold updV
    by_cases e : t = s
    · subst e
      rw [if_pos rfl]
      unfold pm_V
      rw [hs]
    · rw [if_neg e]
      unfold pm_V
      rw [hn i t _ (pm_ne_l hi hi (fun z => e z.2))]
  · unfold pm_V
    rw [hn j t _ (pm_ne_l hi hj (fun z => hji z.1))]
  · rw [h1] at hj1
    have e := hz j t (pm_ne_l (s := s) hi hj2 (fun z => by omega))
    rw [e.1, e.2.1, e.2.2]
    exact hZ j hj1 hj2 t
theorem pm_St_I {b0 b : Nat} {μ : pm_M} {i s : Nat} {x : Int32} (hi : i < 162) (ht : pm_et i s = .int ∨ pm_et i s = .boolean) : pm_St b0 b μ (pm_wI μ (pm_l i s).1 (pm_l i s).2 x) i s (.int x) :=
  pm_St_of (v := .int x) hi rfl (by rcases ht with ht | ht <;> rw [ht] <;> simp [pm_g, pm_wI, pm_u]) (fun _ _ _ h => pm_g_neI h) (fun j t h => by simp [pm_wI, pm_u, h])
theorem pm_St_D {b0 b : Nat} {μ : pm_M} {i s : Nat} {x : UInt64} (hi : i < 162) (ht : pm_et i s = .double) : pm_St b0 b μ (pm_wD μ (pm_l i s).1 (pm_l i s).2 x) i s (.double x) :=
  pm_St_of (v := .double x) hi rfl (by rw [ht]; simp [pm_g, pm_wD, pm_u]) (fun _ _ _ h => pm_g_neD h) (fun j t h => by simp [pm_wD, pm_u, h])
theorem pm_St_R {b0 b : Nat} {μ : pm_M} {i s k : Nat} (hi : i < 162) (ht : (∃ q, pm_et i s = .object q) ∨ (∃ q, pm_et i s = .array q)) : pm_St b0 b μ (pm_wR μ (pm_l i s).1 (pm_l i s).2 (some k)) i s (pm_v b0 b (.ref k)) :=
  pm_St_of (v := .ref k) hi rfl (by rcases ht with ⟨q, ht⟩ | ⟨q, ht⟩ <;> rw [ht] <;> simp [pm_g, pm_wR, pm_u, pm_o]) (fun _ _ _ h => pm_g_neR h) (fun j t h => by simp [pm_wR, pm_u, h])
theorem pm_and1 (x : Int32) (h : x &&& 1 = x) : x = 0 ∨ x = 1 := by
  rw [pk_and x 1 (by decide)] at h
  rcases (by omega : x.toBitVec.toNat % 2 ^ 1 = 0 ∨ x.toBitVec.toNat % 2 ^ 1 = 1) with e | e
  · rw [e] at h
    exact Or.inl h.symm
  · rw [e] at h
    exact Or.inr h.symm
theorem pm_p_St {b0 b : Nat} {μ μ' : pm_M} {i s : Nat} {v : Value} (hi : i < 162) (h : pm_p μ i s (pm_et i s) v = some μ') : pm_St b0 b μ μ' i s (pm_v b0 b v) ∧ narrow (pm_et i s) (pm_v b0 b v) = pm_v b0 b v ∧ Jvm.fits (pm_et i s) (pm_v b0 b v) = true := by
  generalize hty : pm_et i s = ty at h ⊢
  unfold pm_p at h
  split at h
  · split at h
    · cases h
      exact ⟨pm_St_I hi (Or.inl hty), rfl, rfl⟩
    · cases h
  · split at h
    · rename_i x
      split at h
      · rename_i hx
        cases h
        refine ⟨pm_St_I hi (Or.inr hty), congrArg Value.int hx, ?_⟩
        rcases pm_and1 x hx with rfl | rfl <;> rfl
      · cases h
    · cases h
  · split at h
    · cases h
      exact ⟨pm_St_D hi hty, rfl, rfl⟩
    · cases h
  · split at h
    · cases h
      exact ⟨pm_St_R hi (Or.inl ⟨_, hty⟩), rfl, rfl⟩
    · cases h
  · split at h
    · cases h
      exact ⟨pm_St_R hi (Or.inr ⟨_, hty⟩), rfl, rfl⟩
    · cases h
  · cases h
theorem pm_A_kept {D : va_G} {cA : Nat → ClassId} {b0 b i : Nat} {V V' : Nat → Value} {H H1 : Heap} (h : pm_A D cA b0 b V H i) (hV : ∀ t, V' t = V t) (hq : H1[b0 + i]? = H[b0 + i]?) : pm_A D cA b0 b V' H1 i := by
  have e : V' = V := funext hV
  subst e
  unfold pm_A at h ⊢
  split
  · rename_i hc
    rw [if_pos hc] at h
    exact h.kept hq
  · rename_i hc
    rw [if_neg hc] at h
    rw [hq]
    exact h
theorem pm_H_upd {D : va_G} {cA : Nat → ClassId} {b0 b i s : Nat} {w : Value} {μ μ' : pm_M} {H H1 : Heap} (hH : pm_H D cA b0 b μ H) (hi : i < μ.1) (hs : pm_St b0 b μ μ' i s w) (hc : pm_A D cA b0 b (updV (pm_V b0 b μ i) s w) H1 i) (hz : H1.size = H.size) (oq : ∀ q, q ≠ b0 + i → H1[q]? = H[q]?) : pm_H D cA b0 b μ' H1 := by
  obtain ⟨h1, h2, h3, h4⟩ := hH
  obtain ⟨s1, s2, s3, s4⟩ := hs
  refine ⟨by rw [hz, s1]; exact h1, by rw [s1]; exact h2, fun j hj => ?_, s4 hi h4⟩
  rw [s1] at hj
  by_cases e : j = i
  · subst e
    exact pm_A_kept hc s2 rfl
  · exact pm_A_kept (h3 j hj) (s3 j (by omega) e) (oq _ (by omega))
end
section
/-! THE PURE MACHINE IS SOUND, 3: the instructions over the memory, by the kit's rows -/
section PMM
variable {p : Program} {l : Launch} {e : Env} {R : Room} {s : State} {m : MethodId} {args : Array Value} {below : List Frame} {meth : Method} {c : Code} {H : Heap} {locs : List Loc} {cells slots : Nat} {Q : State → Prop}
variable {cc : ByteArray} {pc nL len b0 b : Nat} {ls : Array Slot} {rest : List Value} {D : va_G} {cA : Nat → ClassId} {μ μ' : pm_M} {H0 : Heap} {i : Nat} {own : String}
theorem pm_KA (hK : pm_K D cA s) : va_K D vwCl [] s := hK.sub [] rfl
theorem pm_obj (hH : pm_H D cA b0 b μ H) (hi : i < μ.1) {k : Nat} (hk : (pm_k i).1 = k) (h6 : k < 6) : t_OB (b0 + i) (D.1 k) (pm_cN k) (D.2 k) H (pm_V b0 b μ i) := by
  have h := hH.2.2.1 i hi
  have h2 := hH.2.1
  unfold pm_A at h
  rw [if_pos (by omega)] at h
  rw [(pm_kN i (by omega) (by omega)).2, hk] at h
  exact h
theorem pm_arr (hH : pm_H D cA b0 b μ H) (hi : i < μ.1) {k : Nat} (hk : (pm_k i).1 = k) (h6 : 10 ≤ k) : H[b0 + i]? = some (arrV (cA k) (pm_k i).2 (pm_V b0 b μ i)) := by
  have h := hH.2.2.1 i hi
  unfold pm_A at h
  rw [if_neg (by omega), hk] at h
  exact h
theorem pm_lt (hH : pm_H D cA b0 b μ H) (hi : i < μ.1) : i < 162 := by have := hH.2.1; omega
theorem pm_VI {k j : Nat} (hk : (pm_k i).1 = k) (h : k = 10 ∨ k = 11) : pm_V b0 b μ i j = .int (μ.2.1 i j) := by
  unfold pm_V pm_et pm_g pm_l
  rcases h with rfl | rfl <;> simp [hk, pm_v]
theorem pm_VD {j : Nat} (hk : (pm_k i).1 = 12) : pm_V b0 b μ i j = .double (μ.2.2.1 i j) := by
  unfold pm_V pm_et pm_g pm_l
  simp [hk, pm_v]
theorem pm_VR {j : Nat} (hk : (pm_k i).1 = 13) : pm_V b0 b μ i j = pm_v b0 b (pm_o (μ.2.2.2 i j)) := by
  unfold pm_V pm_et pm_g pm_l
  simp [hk]
theorem pm_lA {k j : Nat} (hk : (pm_k i).1 = k) (h : 10 ≤ k) : pm_l i j = (i, j) := by
  unfold pm_l
  rw [if_neg (by omega)]
theorem pm_ref (i0 : i < 162) : pm_v b0 b (.ref i) = .ref (b0 + i) := by
  show Value.ref (if i = 9999 then b else b0 + i) = _
  rw [if_neg (by omega)]
theorem pm_getf (hx : p.tables.exec = Jvm.exec) (hb : c.code = cc) (hown : s.vm.findClass own = some m.cls) (hts : ∀ w ∈ pm_T, w.before args s = true) (hK : pm_K D cA s) (hH : pm_H D cA b0 b μ H) {k f index : Nat} (hk : (pm_k i).1 = k) (hi : i < μ.1) (h6 : k < 6) (hf : f < pm_cN k) (hl : Cond.fieldLink own index (pm_ct k f).1 (pm_ct k f).2.1 (pm_ct k f).2.2.1 ∈ pm_T) (hd : decode cc pc = .ok (.getfield index, 3))
    (kk : W p l e R s m args below meth c H locs cells slots Q (F0 m (pc + 3) ls (pm_v b0 b (pm_g μ i f (pm_ty k f)) :: rest))) : W p l e R s m args below meth c H locs cells slots Q (F0 m pc ls (pm_v b0 b (.ref i) :: rest)) := by
  rw [pm_ref (pm_lt hH hi)]
  have hO := pm_obj hH hi hk h6
  have hP : va_P D vwCl [(b0 + i, .inr (k, (List.range (pm_cN k)).map (pm_V b0 b μ i)))] H := by
    intro j q hq
    have hj : j < 1 := (List.getElem?_eq_some_iff.mp hq).1
    rw [show j = 0 by omega] at hq
    cases hq
    refine ⟨_, pm_vw h6, hO.to (fun t ht => ?_)⟩
    simp [vp_V, List.getD, ht]
  refine va_get (C := pm_cn k) (T := pm_ct k) (N := pm_cN k) hx hb hts (pm_ws h6) hown (pm_KA hK) hP 0 rfl (pm_vw h6) f hf (hts _ hl) (fun x hx => hx) (v := pm_v b0 b (pm_g μ i f (pm_ty k f))) ?_ hd kk
  rw [List.getElem?_map, List.getElem?_range hf]
  show some (pm_V b0 b μ i f) = _
  unfold pm_V pm_et
  rw [hk, if_pos (by omega)]
/-- a store into a field -/
theorem pm_putf (hx : p.tables.exec = Jvm.exec) (hb : c.code = cc) (hown : s.vm.findClass own = some m.cls) (hts : ∀ w ∈ pm_T, w.before args s = true) (hK : pm_K D cA s) (hH : pm_H D cA b0 b μ H) (hS : va_S (fun q => b0 ≤ q) H0 H locs) {k f index : Nat} {v : Value} (hk : (pm_k i).1 = k) (hi : i < μ.1) (h6 : k < 6) (hf : f < pm_cN k) (hl : Cond.fieldLink own index (pm_ct k f).1 (pm_ct k f).2.1 (pm_ct k f).2.2.1 ∈ pm_T) (hfin : (pm_ct k f).2.2.2 = false ∨ (meth.name = "<init>" ∧ (pm_ct k f).1 = own)) (hp : pm_p μ i f (pm_ty k f) v = some μ') (hd : decode cc pc = .ok (.putfield index, 3))
    (kk : ∀ (H1 : Heap) (locs1 : List Loc), pm_H D cA b0 b μ' H1 → va_S (fun q => b0 ≤ q) H0 H1 locs1 → W p l e R s m args below meth c H1 locs1 cells slots Q (F0 m (pc + 3) ls rest)) : W p l e R s m args below meth c H locs cells slots Q (F0 m pc ls (pm_v b0 b v :: pm_v b0 b (.ref i) :: rest)) := by
  rw [pm_ref (pm_lt hH hi)]
  have hO := pm_obj hH hi hk h6
  have het : pm_et i f = pm_ty k f := by unfold pm_et; rw [hk, if_pos (by omega)]
  rw [← het] at hp
  obtain ⟨hSt, hn, hfit⟩ := pm_p_St (b0 := b0) (b := b) (pm_lt hH hi) hp
  rw [het] at hn hfit
  have hc := pm_vw h6
  have hap := va_apart (own := own) (ci := k) hts (pm_ws h6) (pm_ty k) (pm_tyok h6) (pm_nm h6) (pm_KA hK) hc
  obtain ⟨cell, q1, q2, q3, q4⟩ := hO
  obtain ⟨hSl, hfc, kC, hkC, hkind⟩ := hK.1 k _ hc
  obtain ⟨cf, kf, fi, fd, hi2, hsl⟩ := hSl f hf
  have hst := (u_facts hfc hkC (u_lays hts (pm_ws h6) hf) hi2).1
  have fin : ∀ (H' : Heap), H'[b0 + i]? = some (cell.setSlot (D.2 k f) (pm_v b0 b v)) → H'.size = H.size → (∀ q, q ≠ b0 + i → H'[q]? = H[q]?) → pm_H D cA b0 b μ' H' := by
    intro H' e1 e2 e3
    refine pm_H_upd hH hi hSt ?_ e2 e3
    unfold pm_A
    rw [hk, if_pos (by omega), show (pm_k i).2 = pm_cN k by rw [(pm_kN i (pm_lt hH hi) (by omega)).2, hk]]
    exact ⟨_, e1, q2, q3, t_set q4 hap hf _⟩
  have hlay := hts _ (pm_ws h6 _ (u_in_lay hf))
  unfold u_lay at hlay
  rcases hfin with hfin | ⟨hin, hdecl⟩
  · rw [if_neg (by rw [hfin]; decide)] at hlay
    have h7 := u_store hfc hkC hkind hlay hi2 (pm_tyok h6 f hf) hn hfit
    refine W.putK hx hb (f := fd) ⟨hown, hts _ hl, ⟨_, _, _, hi2⟩, hst⟩ (by rw [q2]; exact h7) q1 q3 (by rw [hsl]; exact k2_hasslot (q4 f hf)) rfl rfl hd fun H' e1 e2 e3 => ?_
    rw [hsl] at e1 ⊢
    exact kk H' _ (fin H' e1 e2 e3) (hS.put e2 e3 (Nat.le_add_right _ _))
  · by_cases hfl : (pm_ct k f).2.2.2 = true
    · rw [if_pos hfl] at hlay
      have hcf : m.cls = cf := by
        obtain ⟨_, _, c', _, _, _, -, -, hf', -, -, -, hown2, -⟩ := Cond.laysFinal_spec hlay
        have e1 : c' = cf := by have := hi2.symm.trans hf'; simp at this; exact this.1.symm
        rw [hdecl] at hown2
        rw [← e1]; exact Option.some.inj (hown.symm.trans hown2)
      have h7 := u_fits hfc hkC hkind (Or.inr hlay) hi2 (pm_tyok h6 f hf) hn hfit
      refine W.putFinK hx hb hown (hts _ hl) hi2 hst hcf hin (by rw [q2]; exact h7) q1 q3 (by rw [hsl]; exact k2_hasslot (q4 f hf)) rfl rfl hd fun H' e1 e2 e3 => ?_
      rw [hsl] at e1 ⊢
      exact kk H' _ (fin H' e1 e2 e3) (hS.put e2 e3 (Nat.le_add_right _ _))
    · rw [if_neg hfl] at hlay
      have h7 := u_store hfc hkC hkind hlay hi2 (pm_tyok h6 f hf) hn hfit
      refine W.putK hx hb (f := fd) ⟨hown, hts _ hl, ⟨_, _, _, hi2⟩, hst⟩ (by rw [q2]; exact h7) q1 q3 (by rw [hsl]; exact k2_hasslot (q4 f hf)) rfl rfl hd fun H' e1 e2 e3 => ?_
      rw [hsl] at e1 ⊢
      exact kk H' _ (fin H' e1 e2 e3) (hS.put e2 e3 (Nat.le_add_right _ _))
theorem pm_sz {k n : Nat} {V : Nat → Value} {j : Int32} (hin : ¬ (j < 0 ∨ n ≤ j.toNatClampNeg)) : ¬ (j < 0 ∨ (arrV k n V).slots.size ≤ j.toNatClampNeg) := by rw [arrV_size]; exact hin
theorem pm_iald (hx : p.tables.exec = Jvm.exec) (hb : c.code = cc) (hK : pm_K D cA s) (hH : pm_H D cA b0 b μ H) {j : Int32} (hk : (pm_k i).1 = 10) (hi : i < μ.1) (hin : ¬ (j < 0 ∨ (pm_k i).2 ≤ j.toNatClampNeg)) (hd : decode cc pc = .ok (.iaload, 1))
    (kk : W p l e R s m args below meth c H locs cells slots Q (F0 m (pc + 1) ls (.int (μ.2.1 i j.toNatClampNeg) :: rest))) : W p l e R s m args below meth c H locs cells slots Q (F0 m pc ls (.int j :: pm_v b0 b (.ref i) :: rest)) := by
  rw [pm_ref (pm_lt hH hi)]
  exact W.iald hx hb (pm_arr hH hi hk (by omega)) ((hK.2 0 _ rfl).1 _ _) (fun q => by cases q) (pm_sz hin) (by rw [arrV_read _ _ (Nat.not_le.mp fun q => hin (Or.inr q)), pm_VI hk (Or.inl rfl)]) rfl rfl hd kk
theorem pm_zald (hx : p.tables.exec = Jvm.exec) (hb : c.code = cc) (hK : pm_K D cA s) (hH : pm_H D cA b0 b μ H) {j : Int32} (hk : (pm_k i).1 = 11) (hi : i < μ.1) (hin : ¬ (j < 0 ∨ (pm_k i).2 ≤ j.toNatClampNeg)) (hd : decode cc pc = .ok (.baload, 1))
    (kk : W p l e R s m args below meth c H locs cells slots Q (F0 m (pc + 1) ls (.int (μ.2.1 i j.toNatClampNeg) :: rest))) : W p l e R s m args below meth c H locs cells slots Q (F0 m pc ls (.int j :: pm_v b0 b (.ref i) :: rest)) := by
  rw [pm_ref (pm_lt hH hi)]
  exact W.zald hx hb (pm_arr hH hi hk (by omega)) ((hK.2 1 _ rfl).1 _ _) (fun q => by cases q) (pm_sz hin) (by rw [arrV_read _ _ (Nat.not_le.mp fun q => hin (Or.inr q)), pm_VI hk (Or.inr rfl)]) rfl rfl hd kk
theorem pm_dald (hx : p.tables.exec = Jvm.exec) (hb : c.code = cc) (hK : pm_K D cA s) (hH : pm_H D cA b0 b μ H) {j : Int32} (hk : (pm_k i).1 = 12) (hi : i < μ.1) (hin : ¬ (j < 0 ∨ (pm_k i).2 ≤ j.toNatClampNeg)) (hd : decode cc pc = .ok (.daload, 1))
    (kk : W p l e R s m args below meth c H locs cells slots Q (F0 m (pc + 1) ls (.double (μ.2.2.1 i j.toNatClampNeg) :: rest))) : W p l e R s m args below meth c H locs cells slots Q (F0 m pc ls (.int j :: pm_v b0 b (.ref i) :: rest)) := by
  rw [pm_ref (pm_lt hH hi)]
  exact W.dald hx hb (pm_arr hH hi hk (by omega)) ((hK.2 2 _ rfl).1 _ _) (fun q => by cases q) (pm_sz hin) (by rw [arrV_read _ _ (Nat.not_le.mp fun q => hin (Or.inr q)), pm_VD hk]) rfl rfl hd kk
theorem pm_aald (hx : p.tables.exec = Jvm.exec) (hb : c.code = cc) (hK : pm_K D cA s) (hH : pm_H D cA b0 b μ H) {j : Int32} (hk : (pm_k i).1 = 13) (hi : i < μ.1) (hin : ¬ (j < 0 ∨ (pm_k i).2 ≤ j.toNatClampNeg)) (hd : decode cc pc = .ok (.aaload, 1))
    (kk : W p l e R s m args below meth c H locs cells slots Q (F0 m (pc + 1) ls (pm_v b0 b (pm_o (μ.2.2.2 i j.toNatClampNeg)) :: rest))) : W p l e R s m args below meth c H locs cells slots Q (F0 m pc ls (.int j :: pm_v b0 b (.ref i) :: rest)) := by
  rw [pm_ref (pm_lt hH hi)]
  exact W.aald hx hb (pm_arr hH hi hk (by omega)) ((hK.2 3 _ rfl).1 _ _) rfl (fun q => by cases q) (pm_sz hin) (by rw [arrV_read _ _ (Nat.not_le.mp fun q => hin (Or.inr q)), pm_VR hk]) rfl rfl hd kk
theorem pm_fin {k : Nat} {H1 : Heap} {V : Nat → Value} (hk : (pm_k i).1 = k) (h6 : 10 ≤ k) (h : H1[b0 + i]? = some (arrV (cA k) (pm_k i).2 V)) : pm_A D cA b0 b V H1 i := by
  unfold pm_A
  rw [if_neg (by omega), hk]
  exact h
theorem pm_iast (hx : p.tables.exec = Jvm.exec) (hb : c.code = cc) (hK : pm_K D cA s) (hH : pm_H D cA b0 b μ H) (hS : va_S (fun q => b0 ≤ q) H0 H locs) {j x : Int32} (hk : (pm_k i).1 = 10) (hi : i < μ.1) (hin : ¬ (j < 0 ∨ (pm_k i).2 ≤ j.toNatClampNeg)) (hd : decode cc pc = .ok (.iastore, 1))
    (kk : ∀ (H1 : Heap) (locs1 : List Loc), pm_H D cA b0 b (pm_wI μ i j.toNatClampNeg x) H1 → va_S (fun q => b0 ≤ q) H0 H1 locs1 → W p l e R s m args below meth c H1 locs1 cells slots Q (F0 m (pc + 1) ls rest)) : W p l e R s m args below meth c H locs cells slots Q (F0 m pc ls (.int x :: .int j :: pm_v b0 b (.ref i) :: rest)) := by
  have hlt := pm_lt hH hi
  rw [pm_ref hlt]
  refine W.iast hx hb (pm_arr hH hi hk (by omega)) ((hK.2 0 _ rfl).1 _ _) (fun q => by cases q) (pm_sz hin) rfl rfl hd fun H1 e1 z oq => kk H1 _ ?_ (hS.put z oq (Nat.le_add_right _ _))
  have hSt : pm_St b0 b μ (pm_wI μ i j.toNatClampNeg x) i j.toNatClampNeg (.int x) := by
    have := pm_St_I (b0 := b0) (b := b) (μ := μ) (i := i) (s := j.toNatClampNeg) (x := x) hlt (Or.inl (by simp [pm_et, hk]))
    rwa [pm_lA hk (by omega)] at this
  exact pm_H_upd hH hi hSt (pm_fin hk (by omega) (by rw [e1, arrV_store])) z oq
theorem pm_zast (hx : p.tables.exec = Jvm.exec) (hb : c.code = cc) (hK : pm_K D cA s) (hH : pm_H D cA b0 b μ H) (hS : va_S (fun q => b0 ≤ q) H0 H locs) {j x : Int32} (hk : (pm_k i).1 = 11) (hi : i < μ.1) (hin : ¬ (j < 0 ∨ (pm_k i).2 ≤ j.toNatClampNeg)) (hd : decode cc pc = .ok (.bastore, 1))
    (kk : ∀ (H1 : Heap) (locs1 : List Loc), pm_H D cA b0 b (pm_wI μ i j.toNatClampNeg (x &&& 1)) H1 → va_S (fun q => b0 ≤ q) H0 H1 locs1 → W p l e R s m args below meth c H1 locs1 cells slots Q (F0 m (pc + 1) ls rest)) : W p l e R s m args below meth c H locs cells slots Q (F0 m pc ls (.int x :: .int j :: pm_v b0 b (.ref i) :: rest)) := by
  have hlt := pm_lt hH hi
  rw [pm_ref hlt]
  refine W.zast hx hb (pm_arr hH hi hk (by omega)) ((hK.2 1 _ rfl).1 _ _) (fun q => by cases q) (pm_sz hin) rfl rfl hd fun H1 e1 z oq => kk H1 _ ?_ (hS.put z oq (Nat.le_add_right _ _))
  have hSt : pm_St b0 b μ (pm_wI μ i j.toNatClampNeg (x &&& 1)) i j.toNatClampNeg (.int (x &&& 1)) := by
    have := pm_St_I (b0 := b0) (b := b) (μ := μ) (i := i) (s := j.toNatClampNeg) (x := x &&& 1) hlt (Or.inr (by simp [pm_et, hk]))
    rwa [pm_lA hk (by omega)] at this
  exact pm_H_upd hH hi hSt (pm_fin hk (by omega) (by rw [e1, arrV_store]; rfl)) z oq
theorem pm_dast (hx : p.tables.exec = Jvm.exec) (hb : c.code = cc) (hK : pm_K D cA s) (hH : pm_H D cA b0 b μ H) (hS : va_S (fun q => b0 ≤ q) H0 H locs) {j : Int32} {x : UInt64} (hk : (pm_k i).1 = 12) (hi : i < μ.1) (hin : ¬ (j < 0 ∨ (pm_k i).2 ≤ j.toNatClampNeg)) (hd : decode cc pc = .ok (.dastore, 1))
    (kk : ∀ (H1 : Heap) (locs1 : List Loc), pm_H D cA b0 b (pm_wD μ i j.toNatClampNeg x) H1 → va_S (fun q => b0 ≤ q) H0 H1 locs1 → W p l e R s m args below meth c H1 locs1 cells slots Q (F0 m (pc + 1) ls rest)) : W p l e R s m args below meth c H locs cells slots Q (F0 m pc ls (.double x :: .int j :: pm_v b0 b (.ref i) :: rest)) := by
  have hlt := pm_lt hH hi
  rw [pm_ref hlt]
  refine W.dast hx hb (pm_arr hH hi hk (by omega)) ((hK.2 2 _ rfl).1 _ _) (fun q => by cases q) (pm_sz hin) rfl rfl hd fun H1 e1 z oq => kk H1 _ ?_ (hS.put z oq (Nat.le_add_right _ _))
  have hSt : pm_St b0 b μ (pm_wD μ i j.toNatClampNeg x) i j.toNatClampNeg (.double x) := by
    have := pm_St_D (b0 := b0) (b := b) (μ := μ) (i := i) (s := j.toNatClampNeg) (x := x) hlt (by simp [pm_et, hk])
    rwa [pm_lA hk (by omega)] at this
  exact pm_H_upd hH hi hSt (pm_fin hk (by omega) (by rw [e1, arrV_store])) z oq
theorem pm_aast (hx : p.tables.exec = Jvm.exec) (hb : c.code = cc) (hK : pm_K D cA s) (hH : pm_H D cA b0 b μ H) (hS : va_S (fun q => b0 ≤ q) H0 H locs) {j : Int32} {v : Nat} (hk : (pm_k i).1 = 13) (hi : i < μ.1) (hv : (pm_k v).1 = 0) (hv2 : v < μ.1) (hin : ¬ (j < 0 ∨ (pm_k i).2 ≤ j.toNatClampNeg)) (hd : decode cc pc = .ok (.aastore, 1))
    (kk : ∀ (H1 : Heap) (locs1 : List Loc), pm_H D cA b0 b (pm_wR μ i j.toNatClampNeg (some v)) H1 → va_S (fun q => b0 ≤ q) H0 H1 locs1 → W p l e R s m args below meth c H1 locs1 cells slots Q (F0 m (pc + 1) ls rest)) : W p l e R s m args below meth c H locs cells slots Q (F0 m pc ls (pm_v b0 b (.ref v) :: .int j :: pm_v b0 b (.ref i) :: rest)) := by
  have hlt := pm_lt hH hi
  rw [pm_ref hlt, pm_ref (pm_lt hH hv2)]
  obtain ⟨cellV, g1, g2, g3, -⟩ := pm_obj hH hv2 hv (by omega)
  have hcls := (hK.1 0 _ (pm_vw (c := 0) (by omega))).2
  obtain ⟨kA, comp, k1, k2, k3, -⟩ := (hK.2 3 _ rfl).2
  have hcomp : comp = D.1 0 := Option.some.inj (k3.symm.trans hcls.1)
  subst hcomp
  obtain ⟨kC, hkC, -⟩ := hcls.2
  refine W.aast hx hb (pm_arr hH hi hk (by omega)) (fun q h => by cases h) (fun h => by cases h) k1 k2 rfl hkC ⟨fun q => hin (Or.inl q), by show _ < (arrV _ _ _).slots.size; rw [arrV_size]; exact Nat.not_le.mp fun q => hin (Or.inr q)⟩ g1 (fun q h => by rw [g3] at h; cases h) (by rw [g2]; exact hkC) (by rw [g2]; exact va_assign hcls) rfl rfl hd fun H1 e1 z oq => kk H1 _ ?_ (hS.put z oq (Nat.le_add_right _ _))
  have hSt : pm_St b0 b μ (pm_wR μ i j.toNatClampNeg (some v)) i j.toNatClampNeg (pm_v b0 b (.ref v)) := by
    have := pm_St_R (b0 := b0) (b := b) (μ := μ) (i := i) (s := j.toNatClampNeg) (k := v) hlt (Or.inl ⟨RX1, by simp [pm_et, hk]⟩)
    rwa [pm_lA hk (by omega)] at this
  rw [pm_ref (pm_lt hH hv2)] at hSt
  exact pm_H_upd hH hi hSt (pm_fin hk (by omega) (by rw [e1, arrV_store])) z oq
end PMM
end
section
/-! THE PURE MACHINE IS SOUND, 4: objects made, calls, the whole -/
def pm_Sz : Nat → Nat
  | 0 => 0
  | n + 1 => pm_Sz n + (pm_k n).2
theorem pm_Sz_le : ∀ (k n : Nat), pm_Sz n ≤ pm_Sz (n + k)
  | 0, _ => Nat.le_refl _
  | k + 1, n => Nat.le_trans (pm_Sz_le k n) (Nat.le_add_right _ _)
theorem pm_Sz_mono {n k : Nat} (h : n ≤ k) : pm_Sz n ≤ pm_Sz k := by
  have := pm_Sz_le (k - n) n
  rwa [show n + (k - n) = k by omega] at this
/-- a method's contract: its code does what the function says -/
def pm_Met (l : Launch) (y : MethodName) (cc : ByteArray) (maxL : Nat) (ret : Option FieldType) (fr lo : Nat) (F : pm_F) : Prop := ∀ (D : va_G) (cA : Nat → ClassId) (b0 b : Nat) (a : List Value) (μ μ' : pm_M) (r : Option Value), F a μ = some (r, μ') → μ.1 ≤ μ'.1 ∧
  Met l y (Cond.code y cc maxL ret :: pm_T) ({ frames := fr, cells := μ'.1 - μ.1, slots := pm_Sz μ'.1 - pm_Sz μ.1, locals := lo }) (va_Pc (a.map (pm_v b0 b)) (fun U => pm_H D cA b0 b μ U.heap ∧ pm_K D cA U)) (fun _ st o t => (o = .returned (r.map (pm_v b0 b)) ∧ pm_H D cA b0 b μ' t.heap) ∧ va_F (fun q => b0 ≤ q) st t) (μ'.1 - μ.1) (pm_Sz μ'.1 - pm_Sz μ.1) (fun q => b0 ≤ q)
/-- what the tables must say for a call -/
def pm_Cal (l : Launch) (fr lo : Nat) (own : String) (k : Nat) (q : Nat × Nat × Nat × pm_F) : Prop := ∃ (y : MethodName) (cc : ByteArray) (maxL : Nat) (ret : Option FieldType) (fr' lo' : Nat), pm_Met l y cc maxL ret fr' lo' q.2.2.2 ∧ fr' + 1 ≤ fr ∧ 8 + (maxL + 11) + lo' ≤ lo ∧ Cond.code y cc maxL ret ∈ pm_T ∧ Cond.initialized y.cls ∈ pm_T ∧ (y.cls ≠ "java/lang/invoke/MethodHandle" ∧ y.cls ≠ "java/lang/invoke/VarHandle") ∧ (parseMethodDescriptor y.desc).map (fun d => d.parameters.length) = some q.2.1 ∧
  (q.1 = 0 → q.2.2.1 < 6 ∧ y.cls = pm_cn q.2.2.1 ∧ Cond.methodLink own k y ∈ pm_T ∧ Cond.instanceMethod y ∈ pm_T ∧ Cond.selects (pm_cn q.2.2.1) y y ∈ pm_T) ∧
  (q.1 = 1 → Cond.methodLink own k y ∈ pm_T ∧ Cond.static y ∈ pm_T) ∧
  (q.1 = 2 → y.name = "<init>" ∧ ret = none ∧ Cond.instanceMethod y ∈ pm_T ∧ (Cond.methodLink own k y ∈ pm_T ∨ ∃ host, Cond.methodLinkNest own k y host ∈ pm_T))
def pm_l2d : MethodName := ⟨"java/lang/Double", "longBitsToDouble", "(J)D"⟩
def pm_d2l : MethodName := ⟨"java/lang/Double", "doubleToRawLongBits", "(D)J"⟩
def pm_Fok (own : String) (k : Nat) (q : Nat × Nat) : Prop := q.1 < 6 ∧ q.2 < pm_cN q.1 ∧ Cond.fieldLink own k (pm_ct q.1 q.2).1 (pm_ct q.1 q.2).2.1 (pm_ct q.1 q.2).2.2.1 ∈ pm_T
def pm_Kok (own : String) (k : Nat) (v : Value) : Prop := match v with
  | .int x => Cond.constant own k x ∈ pm_T
  | .long x => Cond.constantLong own k x ∈ pm_T
  | .double x => Cond.constantDouble own k x ∈ pm_T
  | _ => True
def pm_Oko (own : String) (k c : Nat) : Prop := (c < 6 → Cond.classLink own k (pm_cn c) ∈ pm_T ∧ Cond.instantiable (pm_cn c) (pm_cN c) ∈ pm_T ∧ Cond.initialized (pm_cn c) ∈ pm_T) ∧ (c = 13 → Cond.classLink own k RX1 ∈ pm_T ∧ Cond.arrayOver (.object RX1) ∈ pm_T)
def pm_Nok (own : String) (k n : Nat) : Prop := (n = 0 → Cond.methodLink own k pm_l2d ∈ pm_T ∧ Cond.native pm_l2d ∈ pm_T ∧ Cond.static pm_l2d ∈ pm_T ∧ Cond.initialized "java/lang/Double" ∈ pm_T) ∧ (n = 1 → Cond.methodLink own k pm_d2l ∈ pm_T ∧ Cond.native pm_d2l ∈ pm_T ∧ Cond.static pm_d2l ∈ pm_T ∧ Cond.initialized "java/lang/Double" ∈ pm_T) ∧
  (n = 2 → Cond.methodLink own k objectInit ∈ pm_T ∧ Cond.instanceMethod objectInit ∈ pm_T ∧ Cond.code objectInit ⟨#[0xb1]⟩ 1 none ∈ pm_T)
/-- the tables hold all that the code is read with -/
def pm_Ok (l : Launch) (fr lo : Nat) (own : String) (ini : Bool) (E : pm_E) : Prop := (∀ k q, pm_Eg E k = some q → pm_Fok own k q) ∧ (∀ k q, pm_Ep E k = some q → pm_Fok own k q ∧ ((pm_ct q.1 q.2).2.2.2 = false ∨ (ini = true ∧ (pm_ct q.1 q.2).1 = own))) ∧
  (∀ k v, pm_Ek E k = some v → pm_Kok own k v) ∧ (∀ k q, pm_Ef E k = some q → pm_Cal l fr lo own k q) ∧ (∀ k c, pm_Eo E k = some c → pm_Oko own k c) ∧ (∀ k n, pm_En E k = some n → pm_Nok own k n) ∧ (1 ≤ fr ∧ 27 ≤ lo)
theorem pm_goodIn {ws : List Cond} (h : ∀ w ∈ ws, w ∈ pm_T) : GoodIn pm_T ws := fun w hw => ⟨h w hw, good_of_word (pm_T_good (h w hw))⟩
def pm_tin (ty : FieldType) : Prop := ty = .int ∨ ty = .boolean ∨ ty = .double ∨ (∃ q, ty = .object q) ∨ (∃ q, ty = .array q)
theorem pm_ty_in : ∀ (c t : Nat), pm_tin (pm_ty c t)
  | 0, t => by show pm_tin (tyX1 t); unfold tyX1; split <;> simp [pm_tin]
  | 1, t => by show pm_tin (tyX4 t); unfold tyX4; simp [pm_tin]
  | 2, t => by show pm_tin (tyX5 t); unfold tyX5; split <;> simp [pm_tin]
  | 3, t => by show pm_tin (tyX6 t); unfold tyX6; split <;> simp [pm_tin]
  | 4, t => by show pm_tin (tyX7 t); unfold tyX7; split <;> simp [pm_tin]
  | _ + 5, t => by show pm_tin (tyX8 t); unfold tyX8; split <;> simp [pm_tin]
theorem pm_et_in (i t : Nat) : pm_tin (pm_et i t) := by
  unfold pm_et
  split
  · exact pm_ty_in _ t
  · split
    · simp [pm_tin]
    · split
      · simp [pm_tin]
      · split <;> simp [pm_tin]
theorem pm_p_one {μ μ' : pm_M} {i s : Nat} {ty : FieldType} {v : Value} (h : pm_p μ i s ty v = some μ') : μ'.1 = μ.1 := by
  unfold pm_p at h
  split at h
  · split at h
    · cases h; rfl
    · cases h
  · split at h
    · split at h
      · cases h; rfl
      · cases h
    · cases h
  · split at h
    · cases h; rfl
    · cases h
  · split at h
    · cases h; rfl
    · cases h
  · split at h
    · cases h; rfl
    · cases h
  · cases h
theorem pm_alloc {D : va_G} {cA : Nat → ClassId} {b0 b : Nat} {μ : pm_M} {H H1 : Heap} (hH : pm_H D cA b0 b μ H) (hlt : μ.1 < 162) (hz : H1.size = H.size + 1) (oq : ∀ q, q < H.size → H1[q]? = H[q]?) (hc : pm_A D cA b0 b (fun t => defaultValue (pm_et μ.1 t)) H1 μ.1) : pm_H D cA b0 b (μ.1 + 1, μ.2) H1 := by
  obtain ⟨h1, h2, h3, h4⟩ := hH
  refine ⟨by rw [hz, h1]; rfl, hlt, fun i hi => ?_, fun i hi hi2 t => h4 i (by dsimp only at hi; omega) hi2 t⟩
  dsimp only at hi
  by_cases e : i = μ.1
  · subst e
    refine pm_A_kept hc (fun t => ?_) rfl
    show pm_v b0 b (pm_g μ μ.1 t (pm_et μ.1 t)) = _
    obtain ⟨z1, z2, z3⟩ := h4 μ.1 (Nat.le_refl _) hlt t
    rcases pm_et_in μ.1 t with h | h | h | ⟨q, h⟩ | ⟨q, h⟩ <;> rw [h] <;> simp [pm_g, z1, z2, z3, pm_o, pm_v, defaultValue]
  · exact pm_A_kept (h3 i (by omega)) (fun t => rfl) (oq _ (by omega))
theorem pm_cats (l : List Value) (h : l.length ≤ 4) : (l.map fun v => v.category).sum ≤ 8 := by
  have : ∀ (l : List Value), (l.map fun v => v.category).sum ≤ 2 * l.length := by
    intro l
    induction l with
    | nil => simp
    | cons a l ih =>
      simp only [List.map_cons, List.sum_cons, List.length_cons]
      rcases pm_cat12 a with e | e <;> omega
  have := this l
  omega
theorem pm_catsV (b0 b : Nat) (l : List Value) (h : l.length ≤ 4) : ((l.map (pm_v b0 b)).map fun v => v.category).sum ≤ 8 := pm_cats _ (by rw [List.length_map]; exact h)
section PMC
variable {p : Program} {l : Launch} {e : Env} {R : Room} {s : State} {m : MethodId} {args : Array Value} {below : List Frame} {meth : Method} {c : Code} {H : Heap} {locs : List Loc} {cells slots : Nat} {Q : State → Prop}
variable {cc : ByteArray} {pc pc' nL len b0 b : Nat} {ls : Array Slot} {rest : List Value} {D : va_G} {cA : Nat → ClassId} {μ μ' : pm_M} {i n0 : Nat} {own : String}
/-- behind a call -/
theorem pm_call {mc ms : Nat} {st0 : List Value} {a : Array Value} {r : Option Value} (hr : va_Run p l e R s m args below meth c H locs cells slots mc ms (F0 m pc ls st0) rest ((fun (_ : Array Value) (st : State) (o : Outcome) (t : State) => (o = .returned (r.map (pm_v b0 b)) ∧ pm_H D cA b0 b μ' t.heap) ∧ va_F (fun q => b0 ≤ q) st t) a) (fun q => b0 ≤ q)) (hS : va_S (fun q => b0 ≤ q) s.heap H locs)
    (kk : ∀ (H1 : Heap) (locs1 : List Loc), pm_H D cA b0 b μ' H1 → va_S (fun q => b0 ≤ q) s.heap H1 locs1 → W p l e R s m args below meth c H1 locs1 (cells + mc) (slots + ms) Q (F0 m (pc + 3) ls ((r.map (pm_v b0 b)).toList ++ rest))) : W p l e R s m args below meth c H locs cells slots Q (F0 m pc ls st0) := by
  intro T hT X
  obtain ⟨v, st₀, t, T', L, h0, X', hL, e1, e2, ⟨⟨hv, hh⟩, hz, hk⟩, st⟩ := hr T hT X
  cases hv
  rw [h0] at hz hk
  obtain ⟨t2, a1, b1⟩ := kk T'.heap (locs ++ L) (by rw [e1]; exact hh)
    ⟨Nat.le_trans hS.1 (by rw [e1]; exact hz), fun q h1 h2 => by rw [e1, hk q (Nat.lt_of_lt_of_le h1 hS.1) h2]; exact hS.2.1 q h1 h2, fun q hq => by
      rcases List.mem_append.mp hq with h | h
      · exact hS.2.2 q h
      · exact hL q h⟩ T' rfl X'
  exact ⟨t2, st t2 a1, b1⟩
theorem pm_blind {av : List Value} : FrameBlind (va_Pc av (fun U => pm_H D cA b0 b μ U.heap ∧ pm_K D cA U)) := fun a U g mk q => ⟨q.1, q.2.1, va_K.moved (u := U) (U := U.calling g mk a) (Vm.Alike.refl U.vm) q.2.2⟩
theorem pm_newobj (hx : p.tables.exec = Jvm.exec) (hb : c.code = cc) (hown : s.vm.findClass own = some m.cls) (hts : ∀ w ∈ pm_T, w.before args s = true) (hK : pm_K D cA s) (hH : pm_H D cA b0 b μ H) (hS : va_S (fun q => b0 ≤ q) s.heap H locs) {k index : Nat} (h6 : k < 6) (hk : (pm_k μ.1).1 = k) (ho : pm_Oko own index k) (hcells : cells + 1 ≤ R.cells) (hslots : slots + (pm_k μ.1).2 ≤ R.slots) (hd : decode cc pc = .ok (.new index, 3))
    (kk : ∀ (H1 : Heap), pm_H D cA b0 b (μ.1 + 1, μ.2) H1 → va_S (fun q => b0 ≤ q) s.heap H1 locs → W p l e R s m args below meth c H1 locs (cells + 1) (slots + (pm_k μ.1).2) Q (F0 m (pc + 3) ls (pm_v b0 b (.ref μ.1) :: rest))) : W p l e R s m args below meth c H locs cells slots Q (F0 m pc ls rest) := by
  have hlt : μ.1 < 162 := pm_k_lt (by omega)
  have hN := pm_kN μ.1 hlt (by omega)
  rw [hk] at hN
  obtain ⟨o1, o2, o3⟩ := ho.1 h6
  have hKn := hK.1 k _ (pm_vw h6)
  rw [hN.2] at hslots kk
  refine W.newcK hx hb hown (hts _ o1) (hts _ o2) (hts _ o3) rfl hd hcells hslots hKn.2.1 rfl fun H1 kC hkC e1 z1 oq => ?_
  rw [pm_ref hlt] at kk
  rw [hH.1] at e1
  have g := kk H1 (pm_alloc hH hlt z1 oq ?_) ⟨by rw [z1]; exact Nat.le_succ_of_le hS.1, fun q h1 h2 => (oq q (Nat.lt_of_lt_of_le h1 hS.1)).trans (hS.2.1 q h1 h2), hS.2.2⟩
  · rw [hH.1]; exact g
  · have hB := u_born (pm_ty k) hts (pm_ws h6) hKn hkC e1 (pm_tyok h6)
    unfold pm_A
    rw [hk, if_pos (by omega), hN.2]
    refine hB.to (fun t ht => ?_)
    unfold pm_et
    rw [hk, if_pos (by omega)]
theorem pm_newarr (hx : p.tables.exec = Jvm.exec) (hb : c.code = cc) {atype : ClassFile.ArrayType} {ty : FieldType} (hty : Op.newarray.typeOf atype = ty) (hts : (Cond.arrayClass ty).before args s = true) (hH : pm_H D cA b0 b μ H) (hS : va_S (fun q => b0 ≤ q) s.heap H locs) {k : Nat} {n : Int32} (h10 : 10 ≤ k) (hRA : s.vm.findClass ("[" ++ ty.toString) = some (cA k)) (het : ∀ t, pm_et μ.1 t = ty) (hbyt : componentBytes ty ≤ 8) (hk : (pm_k μ.1).1 = k) (h99 : k ≠ 99) (hn : ¬ n < 0) (hn2 : n.toNatClampNeg = (pm_k μ.1).2) (hcells : cells + 1 ≤ R.cells) (hslots : slots + (pm_k μ.1).2 ≤ R.slots) (hd : decode cc pc = .ok (.newarray atype, 2))
    (kk : ∀ (H1 : Heap), pm_H D cA b0 b (μ.1 + 1, μ.2) H1 → va_S (fun q => b0 ≤ q) s.heap H1 locs → W p l e R s m args below meth c H1 locs (cells + 1) (slots + (pm_k μ.1).2) Q (F0 m (pc + 2) ls (pm_v b0 b (.ref μ.1) :: rest))) : W p l e R s m args below meth c H locs cells slots Q (F0 m pc ls (.int n :: rest)) := by
  have hlt : μ.1 < 162 := pm_k_lt (by omega)
  have hS2 := pm_kS μ.1 hlt
  subst hty
  refine va_newaK hx hb hts rfl hd rfl hn hn2 ?_ hcells hslots rfl fun H1 cA' e1 z1 oq hAr hNm => ?_
  · have : (pm_k μ.1).2 * componentBytes (Op.newarray.typeOf atype) ≤ 480 * 8 := Nat.mul_le_mul hS2 hbyt
    omega
  have hcA : cA' = cA k := Option.some.inj (hNm.symm.trans hRA)
  subst hcA
  rw [pm_ref hlt] at kk
  rw [hH.1] at e1
  have g := kk H1 (pm_alloc hH hlt z1 oq ?_) ⟨by rw [z1]; exact Nat.le_succ_of_le hS.1, fun q h1 h2 => (oq q (Nat.lt_of_lt_of_le h1 hS.1)).trans (hS.2.1 q h1 h2), hS.2.2⟩
  · rw [hH.1]; exact g
  · refine pm_fin hk h10 ?_
    rw [e1]
    simp only [het]
theorem pm_newrefs (hx : p.tables.exec = Jvm.exec) (hb : c.code = cc) (hown : s.vm.findClass own = some m.cls) (hts : ∀ w ∈ pm_T, w.before args s = true) (hK : pm_K D cA s) (hH : pm_H D cA b0 b μ H) (hS : va_S (fun q => b0 ≤ q) s.heap H locs) {index : Nat} {n : Int32} (ho : pm_Oko own index 13) (hk : (pm_k μ.1).1 = 13) (hn : ¬ n < 0) (hn2 : n.toNatClampNeg = (pm_k μ.1).2) (hcells : cells + 1 ≤ R.cells) (hslots : slots + (pm_k μ.1).2 ≤ R.slots) (hd : decode cc pc = .ok (.anewarray index, 3))
    (kk : ∀ (H1 : Heap), pm_H D cA b0 b (μ.1 + 1, μ.2) H1 → va_S (fun q => b0 ≤ q) s.heap H1 locs → W p l e R s m args below meth c H1 locs (cells + 1) (slots + (pm_k μ.1).2) Q (F0 m (pc + 3) ls (pm_v b0 b (.ref μ.1) :: rest))) : W p l e R s m args below meth c H locs cells slots Q (F0 m pc ls (.int n :: rest)) := by
  have hlt : μ.1 < 162 := pm_k_lt (by omega)
  have hS2 := pm_kS μ.1 hlt
  obtain ⟨o1, o2⟩ := ho.2 rfl
  rw [← hn2] at hslots kk
  refine W.anew hx hb hown (hts _ o1) (hts _ o2) rfl hd rfl hn (by omega) hcells hslots fun cA' kA comp f1 f2 f3 f4 => ?_
  generalize hH1 : H.push ({ cls := cA', slots := Array.replicate n.toNatClampNeg .null, vm := .none } : Cell) = H1
  have z1 : H1.size = H.size + 1 := by rw [← hH1, Array.size_push]
  have e1 : H1[H.size]? = some (arrV cA' n.toNatClampNeg (fun _ => .null)) := by rw [← hH1, Array.getElem?_push_size, ← arrV_new]
  have oq : ∀ q : Nat, q < H.size → H1[q]? = H[q]? := fun q hq => by rw [← hH1, Array.getElem?_push, if_neg (Nat.ne_of_lt hq)]
  have hRA := (hK.2 3 _ rfl).2
  obtain ⟨kA2, comp2, g1, g2, g3, g4⟩ := hRA
  have hcA : cA' = cA 13 := Option.some.inj (f1.symm.trans g4)
  subst hcA
  rw [pm_ref hlt] at kk
  rw [hH.1] at e1
  have g := kk H1 (pm_alloc hH hlt z1 oq ?_) ⟨by rw [z1]; exact Nat.le_succ_of_le hS.1, fun q h1 h2 => (oq q (Nat.lt_of_lt_of_le h1 hS.1)).trans (hS.2.1 q h1 h2), hS.2.2⟩
  · rw [hH.1]; exact g
  · refine pm_fin hk (by omega) ?_
    rw [e1, hn2]
    simp [pm_et, hk, defaultValue]
end PMC
end
section
/-! THE PURE MACHINE IS SOUND, 5: every instruction, every run, every method -/
theorem pm_s2_mono {E : pm_E} {i : ClassFile.Instr} {pc : Nat} {L st : List Value} {μ : pm_M} {t : pm_S} (hF : ∀ k q, pm_Ef E k = some q → ∀ a μ r, q.2.2.2 a μ = some r → μ.1 ≤ r.2.1) (h : pm_s2 E i pc L st μ = some t) : μ.1 ≤ t.2.2.2.1 := by
  unfold pm_s2 at h
  split at h
  all_goals (repeat' split at h)
  all_goals first
    | (cases h; done)
    | (cases h; exact Nat.le_refl _)
    | (cases h; exact Nat.le_succ _)
    | (obtain ⟨r, hr, e⟩ := Option.map_eq_some_iff.mp h; cases e; first | exact hF _ _ (by assumption) _ _ _ hr | exact Nat.le_of_eq (pm_p_one hr).symm)
theorem pm_acI : Cond.arrayClass .int ∈ pm_T := pm_Ti (by decide +kernel) rfl
theorem pm_acZ : Cond.arrayClass .boolean ∈ pm_T := pm_Ti (by decide +kernel) rfl
theorem pm_acD : Cond.arrayClass .double ∈ pm_T := pm_Ti (by decide +kernel) rfl
/-- what a walk stands on -/
def pm_X (p : Program) (l : Launch) (R : Room) (s : State) (m : MethodId) (args : Array Value) (meth : Method) (c : Code) (own : String) (E : pm_E) (D : va_G) (cA : Nat → ClassId) (b0 b : Nat) (ini : Bool) (nL : Nat) : Prop :=
  p.tables.exec = Jvm.exec ∧ c.code = pm_Ec E ∧ c.maxLocals = nL ∧ s.vm.findClass own = some m.cls ∧ (∀ w ∈ pm_T, w.before args s = true) ∧ pm_K D cA s ∧ pm_Ok l R.frames R.locals own ini E ∧ (ini = true → meth.name = "<init>") ∧ (∀ q, pm_Ex E = some q → va_X b q.1 q.2 s s.heap ∧ b < s.heap.size ∧ b < b0)
section PMW
variable {p : Program} {l : Launch} {e : Env} {R : Room} {s : State} {m : MethodId} {args : Array Value} {below : List Frame} {meth : Method} {c : Code} {H : Heap} {locs : List Loc} {Q : State → Prop}
variable {pc pc' nL len b0 b : Nat} {ls : Array Slot} {D : va_G} {cA : Nat → ClassId} {μ μ1 : pm_M} {n0 : Nat} {own : String} {E : pm_E} {ini : Bool} {L L' st st' : List Value}
theorem pm_y_ldc {k : Nat} (hX : pm_X p l R s m args meth c own E D cA b0 b ini nL) (hH : pm_H D cA b0 b μ H) (hS : va_S (fun q => b0 ≤ q) s.heap H locs) (hls : ls.size = nL) (hd : decode (pm_Ec E) pc = .ok (.ldc k, len)) (hw : pm_w (.ldc k) len = true) (h : pm_s2 E (.ldc k) pc L st μ = some (pc', L', st', μ1)) (hn0 : n0 ≤ μ.1) (hR : μ1.1 - n0 ≤ R.cells ∧ pm_Sz μ1.1 - pm_Sz n0 ≤ R.slots)
    (kk : L' = L → ∀ (H1 : Heap) (locs1 : List Loc), pm_H D cA b0 b μ1 H1 → va_S (fun q => b0 ≤ q) s.heap H1 locs1 → W p l e R s m args below meth c H1 locs1 (μ1.1 - n0) (pm_Sz μ1.1 - pm_Sz n0) Q (F0 m pc' ls (st'.map (pm_v b0 b)))) : W p l e R s m args below meth c H locs (μ.1 - n0) (pm_Sz μ.1 - pm_Sz n0) Q (F0 m pc ls (st.map (pm_v b0 b))) := by
  obtain ⟨hx, hb, hml, hown, hts, hK, hE, hin, hscr⟩ := hX
  have hn : len = 2 := by simpa [pm_w] using hw
  subst hn
  simp only [pm_s2] at h
  split at h
  · rename_i x hk
    cases h
    exact lv_ldc hx hb hown (hts _ (hE.2.2.1 _ _ hk)) hd (kk rfl H locs hH hS)
  · cases h
theorem pm_y_ldc2_w {k : Nat} (hX : pm_X p l R s m args meth c own E D cA b0 b ini nL) (hH : pm_H D cA b0 b μ H) (hS : va_S (fun q => b0 ≤ q) s.heap H locs) (hls : ls.size = nL) (hd : decode (pm_Ec E) pc = .ok (.ldc2_w k, len)) (hw : pm_w (.ldc2_w k) len = true) (h : pm_s2 E (.ldc2_w k) pc L st μ = some (pc', L', st', μ1)) (hn0 : n0 ≤ μ.1) (hR : μ1.1 - n0 ≤ R.cells ∧ pm_Sz μ1.1 - pm_Sz n0 ≤ R.slots)
    (kk : L' = L → ∀ (H1 : Heap) (locs1 : List Loc), pm_H D cA b0 b μ1 H1 → va_S (fun q => b0 ≤ q) s.heap H1 locs1 → W p l e R s m args below meth c H1 locs1 (μ1.1 - n0) (pm_Sz μ1.1 - pm_Sz n0) Q (F0 m pc' ls (st'.map (pm_v b0 b)))) : W p l e R s m args below meth c H locs (μ.1 - n0) (pm_Sz μ.1 - pm_Sz n0) Q (F0 m pc ls (st.map (pm_v b0 b))) := by
  obtain ⟨hx, hb, hml, hown, hts, hK, hE, hin, hscr⟩ := hX
  have hn : len = 3 := by simpa [pm_w] using hw
  subst hn
  simp only [pm_s2] at h
  split at h
  · rename_i x hk
    cases h
    exact lv_ldc2 hx hb hown (hts _ (hE.2.2.1 _ _ hk)) hd (kk rfl H locs hH hS)
  · rename_i x hk
    cases h
    exact lv_ldc2d hx hb hown (hts _ (hE.2.2.1 _ _ hk)) hd (kk rfl H locs hH hS)
  · cases h
theorem pm_y_getfield {k : Nat} (hX : pm_X p l R s m args meth c own E D cA b0 b ini nL) (hH : pm_H D cA b0 b μ H) (hS : va_S (fun q => b0 ≤ q) s.heap H locs) (hls : ls.size = nL) (hd : decode (pm_Ec E) pc = .ok (.getfield k, len)) (hw : pm_w (.getfield k) len = true) (h : pm_s2 E (.getfield k) pc L st μ = some (pc', L', st', μ1)) (hn0 : n0 ≤ μ.1) (hR : μ1.1 - n0 ≤ R.cells ∧ pm_Sz μ1.1 - pm_Sz n0 ≤ R.slots)
    (kk : L' = L → ∀ (H1 : Heap) (locs1 : List Loc), pm_H D cA b0 b μ1 H1 → va_S (fun q => b0 ≤ q) s.heap H1 locs1 → W p l e R s m args below meth c H1 locs1 (μ1.1 - n0) (pm_Sz μ1.1 - pm_Sz n0) Q (F0 m pc' ls (st'.map (pm_v b0 b)))) : W p l e R s m args below meth c H locs (μ.1 - n0) (pm_Sz μ.1 - pm_Sz n0) Q (F0 m pc ls (st.map (pm_v b0 b))) := by
  obtain ⟨hx, hb, hml, hown, hts, hK, hE, hin, hscr⟩ := hX
  have hn : len = 3 := by simpa [pm_w] using hw
  subst hn
  simp only [pm_s2] at h
  split at h
  · rename_i i st0 q hk
    split at h
    · rename_i hc
      cases h
      obtain ⟨f1, f2, f3⟩ := hE.1 _ _ hk
      exact pm_getf hx hb hown hts hK hH hc.1 hc.2 f1 f2 f3 hd (kk rfl H locs hH hS)
    · cases h
  · cases h
theorem pm_y_putfield {k : Nat} (hX : pm_X p l R s m args meth c own E D cA b0 b ini nL) (hH : pm_H D cA b0 b μ H) (hS : va_S (fun q => b0 ≤ q) s.heap H locs) (hls : ls.size = nL) (hd : decode (pm_Ec E) pc = .ok (.putfield k, len)) (hw : pm_w (.putfield k) len = true) (h : pm_s2 E (.putfield k) pc L st μ = some (pc', L', st', μ1)) (hn0 : n0 ≤ μ.1) (hR : μ1.1 - n0 ≤ R.cells ∧ pm_Sz μ1.1 - pm_Sz n0 ≤ R.slots)
    (kk : L' = L → ∀ (H1 : Heap) (locs1 : List Loc), pm_H D cA b0 b μ1 H1 → va_S (fun q => b0 ≤ q) s.heap H1 locs1 → W p l e R s m args below meth c H1 locs1 (μ1.1 - n0) (pm_Sz μ1.1 - pm_Sz n0) Q (F0 m pc' ls (st'.map (pm_v b0 b)))) : W p l e R s m args below meth c H locs (μ.1 - n0) (pm_Sz μ.1 - pm_Sz n0) Q (F0 m pc ls (st.map (pm_v b0 b))) := by
  obtain ⟨hx, hb, hml, hown, hts, hK, hE, hin, hscr⟩ := hX
  have hn : len = 3 := by simpa [pm_w] using hw
  subst hn
  simp only [pm_s2] at h
  split at h
  · rename_i v i st0 q hk
    split at h
    · rename_i hc
      obtain ⟨μ2, hp, e1⟩ := Option.map_eq_some_iff.mp h
      cases e1
      obtain ⟨⟨f1, f2, f3⟩, f4⟩ := hE.2.1 _ _ hk
      have e2 := pm_p_one hp
      rw [e2] at kk
      exact pm_putf hx hb hown hts hK hH hS hc.1 hc.2 f1 f2 f3 (f4.imp id (fun z => ⟨hin z.1, z.2⟩)) hp hd (kk rfl)
    · cases h
  · cases h
theorem pm_y_iaload (hX : pm_X p l R s m args meth c own E D cA b0 b ini nL) (hH : pm_H D cA b0 b μ H) (hS : va_S (fun q => b0 ≤ q) s.heap H locs) (hls : ls.size = nL) (hd : decode (pm_Ec E) pc = .ok (.iaload, len)) (hw : pm_w (.iaload) len = true) (h : pm_s2 E (.iaload) pc L st μ = some (pc', L', st', μ1)) (hn0 : n0 ≤ μ.1) (hR : μ1.1 - n0 ≤ R.cells ∧ pm_Sz μ1.1 - pm_Sz n0 ≤ R.slots)
    (kk : L' = L → ∀ (H1 : Heap) (locs1 : List Loc), pm_H D cA b0 b μ1 H1 → va_S (fun q => b0 ≤ q) s.heap H1 locs1 → W p l e R s m args below meth c H1 locs1 (μ1.1 - n0) (pm_Sz μ1.1 - pm_Sz n0) Q (F0 m pc' ls (st'.map (pm_v b0 b)))) : W p l e R s m args below meth c H locs (μ.1 - n0) (pm_Sz μ.1 - pm_Sz n0) Q (F0 m pc ls (st.map (pm_v b0 b))) := by
  obtain ⟨hx, hb, hml, hown, hts, hK, hE, hin, hscr⟩ := hX
  have hn : len = 1 := by simpa [pm_w] using hw
  subst hn
  simp only [pm_s2] at h
  split at h
  · split at h
    · rename_i j i st0 hi
      subst hi
      split at h
      · rename_i q hq
        split at h
        · cases h
        · rename_i hin2
          cases h
          obtain ⟨x1, x2, x3⟩ := hscr _ hq
          exact va_sld hx hb x1 x2 (Nat.not_le.mpr x3) hS hin2 hd (kk rfl H locs hH hS)
      · cases h
    · split at h
      · rename_i hc
        split at h
        · cases h
        · rename_i hin2
          cases h
          exact pm_iald hx hb hK hH hc.1 hc.2 hin2 hd (kk rfl H locs hH hS)
      · cases h
  · cases h
theorem pm_y_baload (hX : pm_X p l R s m args meth c own E D cA b0 b ini nL) (hH : pm_H D cA b0 b μ H) (hS : va_S (fun q => b0 ≤ q) s.heap H locs) (hls : ls.size = nL) (hd : decode (pm_Ec E) pc = .ok (.baload, len)) (hw : pm_w (.baload) len = true) (h : pm_s2 E (.baload) pc L st μ = some (pc', L', st', μ1)) (hn0 : n0 ≤ μ.1) (hR : μ1.1 - n0 ≤ R.cells ∧ pm_Sz μ1.1 - pm_Sz n0 ≤ R.slots)
    (kk : L' = L → ∀ (H1 : Heap) (locs1 : List Loc), pm_H D cA b0 b μ1 H1 → va_S (fun q => b0 ≤ q) s.heap H1 locs1 → W p l e R s m args below meth c H1 locs1 (μ1.1 - n0) (pm_Sz μ1.1 - pm_Sz n0) Q (F0 m pc' ls (st'.map (pm_v b0 b)))) : W p l e R s m args below meth c H locs (μ.1 - n0) (pm_Sz μ.1 - pm_Sz n0) Q (F0 m pc ls (st.map (pm_v b0 b))) := by
  obtain ⟨hx, hb, hml, hown, hts, hK, hE, hin, hscr⟩ := hX
  have hn : len = 1 := by simpa [pm_w] using hw
  subst hn
  simp only [pm_s2] at h
  split at h
  · split at h
    · rename_i hc
      split at h
      · cases h
      · rename_i hin2
        cases h
        exact pm_zald hx hb hK hH hc.1 hc.2 hin2 hd (kk rfl H locs hH hS)
    · cases h
  · cases h
theorem pm_y_daload (hX : pm_X p l R s m args meth c own E D cA b0 b ini nL) (hH : pm_H D cA b0 b μ H) (hS : va_S (fun q => b0 ≤ q) s.heap H locs) (hls : ls.size = nL) (hd : decode (pm_Ec E) pc = .ok (.daload, len)) (hw : pm_w (.daload) len = true) (h : pm_s2 E (.daload) pc L st μ = some (pc', L', st', μ1)) (hn0 : n0 ≤ μ.1) (hR : μ1.1 - n0 ≤ R.cells ∧ pm_Sz μ1.1 - pm_Sz n0 ≤ R.slots)
    (kk : L' = L → ∀ (H1 : Heap) (locs1 : List Loc), pm_H D cA b0 b μ1 H1 → va_S (fun q => b0 ≤ q) s.heap H1 locs1 → W p l e R s m args below meth c H1 locs1 (μ1.1 - n0) (pm_Sz μ1.1 - pm_Sz n0) Q (F0 m pc' ls (st'.map (pm_v b0 b)))) : W p l e R s m args below meth c H locs (μ.1 - n0) (pm_Sz μ.1 - pm_Sz n0) Q (F0 m pc ls (st.map (pm_v b0 b))) := by
  obtain ⟨hx, hb, hml, hown, hts, hK, hE, hin, hscr⟩ := hX
  have hn : len = 1 := by simpa [pm_w] using hw
  subst hn
  simp only [pm_s2] at h
  split at h
  · split at h
    · rename_i hc
      split at h
      · cases h
      · rename_i hin2
        cases h
        exact pm_dald hx hb hK hH hc.1 hc.2 hin2 hd (kk rfl H locs hH hS)
    · cases h
  · cases h
theorem pm_y_aaload (hX : pm_X p l R s m args meth c own E D cA b0 b ini nL) (hH : pm_H D cA b0 b μ H) (hS : va_S (fun q => b0 ≤ q) s.heap H locs) (hls : ls.size = nL) (hd : decode (pm_Ec E) pc = .ok (.aaload, len)) (hw : pm_w (.aaload) len = true) (h : pm_s2 E (.aaload) pc L st μ = some (pc', L', st', μ1)) (hn0 : n0 ≤ μ.1) (hR : μ1.1 - n0 ≤ R.cells ∧ pm_Sz μ1.1 - pm_Sz n0 ≤ R.slots)
    (kk : L' = L → ∀ (H1 : Heap) (locs1 : List Loc), pm_H D cA b0 b μ1 H1 → va_S (fun q => b0 ≤ q) s.heap H1 locs1 → W p l e R s m args below meth c H1 locs1 (μ1.1 - n0) (pm_Sz μ1.1 - pm_Sz n0) Q (F0 m pc' ls (st'.map (pm_v b0 b)))) : W p l e R s m args below meth c H locs (μ.1 - n0) (pm_Sz μ.1 - pm_Sz n0) Q (F0 m pc ls (st.map (pm_v b0 b))) := by
  obtain ⟨hx, hb, hml, hown, hts, hK, hE, hin, hscr⟩ := hX
  have hn : len = 1 := by simpa [pm_w] using hw
  subst hn
  simp only [pm_s2] at h
  split at h
  · split at h
    · rename_i hc
      split at h
      · cases h
      · rename_i hin2
        cases h
        exact pm_aald hx hb hK hH hc.1 hc.2 hin2 hd (kk rfl H locs hH hS)
    · cases h
  · cases h
theorem pm_y_iastore (hX : pm_X p l R s m args meth c own E D cA b0 b ini nL) (hH : pm_H D cA b0 b μ H) (hS : va_S (fun q => b0 ≤ q) s.heap H locs) (hls : ls.size = nL) (hd : decode (pm_Ec E) pc = .ok (.iastore, len)) (hw : pm_w (.iastore) len = true) (h : pm_s2 E (.iastore) pc L st μ = some (pc', L', st', μ1)) (hn0 : n0 ≤ μ.1) (hR : μ1.1 - n0 ≤ R.cells ∧ pm_Sz μ1.1 - pm_Sz n0 ≤ R.slots)
    (kk : L' = L → ∀ (H1 : Heap) (locs1 : List Loc), pm_H D cA b0 b μ1 H1 → va_S (fun q => b0 ≤ q) s.heap H1 locs1 → W p l e R s m args below meth c H1 locs1 (μ1.1 - n0) (pm_Sz μ1.1 - pm_Sz n0) Q (F0 m pc' ls (st'.map (pm_v b0 b)))) : W p l e R s m args below meth c H locs (μ.1 - n0) (pm_Sz μ.1 - pm_Sz n0) Q (F0 m pc ls (st.map (pm_v b0 b))) := by
  obtain ⟨hx, hb, hml, hown, hts, hK, hE, hin, hscr⟩ := hX
  have hn : len = 1 := by simpa [pm_w] using hw
  subst hn
  simp only [pm_s2] at h
  split at h
  · split at h
    · rename_i hc
      split at h
      · cases h
      · rename_i hin2
        cases h
        exact pm_iast hx hb hK hH hS hc.1 hc.2 hin2 hd (kk rfl)
    · cases h
  · cases h
theorem pm_y_bastore (hX : pm_X p l R s m args meth c own E D cA b0 b ini nL) (hH : pm_H D cA b0 b μ H) (hS : va_S (fun q => b0 ≤ q) s.heap H locs) (hls : ls.size = nL) (hd : decode (pm_Ec E) pc = .ok (.bastore, len)) (hw : pm_w (.bastore) len = true) (h : pm_s2 E (.bastore) pc L st μ = some (pc', L', st', μ1)) (hn0 : n0 ≤ μ.1) (hR : μ1.1 - n0 ≤ R.cells ∧ pm_Sz μ1.1 - pm_Sz n0 ≤ R.slots)
    (kk : L' = L → ∀ (H1 : Heap) (locs1 : List Loc), pm_H D cA b0 b μ1 H1 → va_S (fun q => b0 ≤ q) s.heap H1 locs1 → W p l e R s m args below meth c H1 locs1 (μ1.1 - n0) (pm_Sz μ1.1 - pm_Sz n0) Q (F0 m pc' ls (st'.map (pm_v b0 b)))) : W p l e R s m args below meth c H locs (μ.1 - n0) (pm_Sz μ.1 - pm_Sz n0) Q (F0 m pc ls (st.map (pm_v b0 b))) := by
  obtain ⟨hx, hb, hml, hown, hts, hK, hE, hin, hscr⟩ := hX
  have hn : len = 1 := by simpa [pm_w] using hw
  subst hn
  simp only [pm_s2] at h
  split at h
  · split at h
    · rename_i hc
      split at h
      · cases h
      · rename_i hin2
        cases h
        exact pm_zast hx hb hK hH hS hc.1 hc.2 hin2 hd (kk rfl)
    · cases h
  · cases h
theorem pm_y_dastore (hX : pm_X p l R s m args meth c own E D cA b0 b ini nL) (hH : pm_H D cA b0 b μ H) (hS : va_S (fun q => b0 ≤ q) s.heap H locs) (hls : ls.size = nL) (hd : decode (pm_Ec E) pc = .ok (.dastore, len)) (hw : pm_w (.dastore) len = true) (h : pm_s2 E (.dastore) pc L st μ = some (pc', L', st', μ1)) (hn0 : n0 ≤ μ.1) (hR : μ1.1 - n0 ≤ R.cells ∧ pm_Sz μ1.1 - pm_Sz n0 ≤ R.slots)
    (kk : L' = L → ∀ (H1 : Heap) (locs1 : List Loc), pm_H D cA b0 b μ1 H1 → va_S (fun q => b0 ≤ q) s.heap H1 locs1 → W p l e R s m args below meth c H1 locs1 (μ1.1 - n0) (pm_Sz μ1.1 - pm_Sz n0) Q (F0 m pc' ls (st'.map (pm_v b0 b)))) : W p l e R s m args below meth c H locs (μ.1 - n0) (pm_Sz μ.1 - pm_Sz n0) Q (F0 m pc ls (st.map (pm_v b0 b))) := by
  obtain ⟨hx, hb, hml, hown, hts, hK, hE, hin, hscr⟩ := hX
  have hn : len = 1 := by simpa [pm_w] using hw
  subst hn
  simp only [pm_s2] at h
  split at h
  · split at h
    · rename_i hc
      split at h
      · cases h
      · rename_i hin2
        cases h
        exact pm_dast hx hb hK hH hS hc.1 hc.2 hin2 hd (kk rfl)
    · cases h
  · cases h
theorem pm_y_aastore (hX : pm_X p l R s m args meth c own E D cA b0 b ini nL) (hH : pm_H D cA b0 b μ H) (hS : va_S (fun q => b0 ≤ q) s.heap H locs) (hls : ls.size = nL) (hd : decode (pm_Ec E) pc = .ok (.aastore, len)) (hw : pm_w (.aastore) len = true) (h : pm_s2 E (.aastore) pc L st μ = some (pc', L', st', μ1)) (hn0 : n0 ≤ μ.1) (hR : μ1.1 - n0 ≤ R.cells ∧ pm_Sz μ1.1 - pm_Sz n0 ≤ R.slots)
    (kk : L' = L → ∀ (H1 : Heap) (locs1 : List Loc), pm_H D cA b0 b μ1 H1 → va_S (fun q => b0 ≤ q) s.heap H1 locs1 → W p l e R s m args below meth c H1 locs1 (μ1.1 - n0) (pm_Sz μ1.1 - pm_Sz n0) Q (F0 m pc' ls (st'.map (pm_v b0 b)))) : W p l e R s m args below meth c H locs (μ.1 - n0) (pm_Sz μ.1 - pm_Sz n0) Q (F0 m pc ls (st.map (pm_v b0 b))) := by
  obtain ⟨hx, hb, hml, hown, hts, hK, hE, hin, hscr⟩ := hX
  have hn : len = 1 := by simpa [pm_w] using hw
  subst hn
  simp only [pm_s2] at h
  split at h
  · split at h
    · rename_i hc
      split at h
      · cases h
      · rename_i hin2
        cases h
        exact pm_aast hx hb hK hH hS hc.1.1 hc.1.2 hc.2.1 hc.2.2 hin2 hd (kk rfl)
    · cases h
  · cases h
theorem pm_y_arraylength (hX : pm_X p l R s m args meth c own E D cA b0 b ini nL) (hH : pm_H D cA b0 b μ H) (hS : va_S (fun q => b0 ≤ q) s.heap H locs) (hls : ls.size = nL) (hd : decode (pm_Ec E) pc = .ok (.arraylength, len)) (hw : pm_w (.arraylength) len = true) (h : pm_s2 E (.arraylength) pc L st μ = some (pc', L', st', μ1)) (hn0 : n0 ≤ μ.1) (hR : μ1.1 - n0 ≤ R.cells ∧ pm_Sz μ1.1 - pm_Sz n0 ≤ R.slots)
    (kk : L' = L → ∀ (H1 : Heap) (locs1 : List Loc), pm_H D cA b0 b μ1 H1 → va_S (fun q => b0 ≤ q) s.heap H1 locs1 → W p l e R s m args below meth c H1 locs1 (μ1.1 - n0) (pm_Sz μ1.1 - pm_Sz n0) Q (F0 m pc' ls (st'.map (pm_v b0 b)))) : W p l e R s m args below meth c H locs (μ.1 - n0) (pm_Sz μ.1 - pm_Sz n0) Q (F0 m pc ls (st.map (pm_v b0 b))) := by
  obtain ⟨hx, hb, hml, hown, hts, hK, hE, hin, hscr⟩ := hX
  have hn : len = 1 := by simpa [pm_w] using hw
  subst hn
  simp only [pm_s2] at h
  split at h
  · split at h
    · rename_i i st0 hi
      subst hi
      split at h
      · rename_i q hq
        cases h
        obtain ⟨x1, x2, x3⟩ := hscr _ hq
        exact va_slen hx hb x1 x2 (Nat.not_le.mpr x3) hS hd (kk rfl H locs hH hS)
      · cases h
    · cases h
  · cases h
theorem pm_y_new {k : Nat} (hX : pm_X p l R s m args meth c own E D cA b0 b ini nL) (hH : pm_H D cA b0 b μ H) (hS : va_S (fun q => b0 ≤ q) s.heap H locs) (hls : ls.size = nL) (hd : decode (pm_Ec E) pc = .ok (.new k, len)) (hw : pm_w (.new k) len = true) (h : pm_s2 E (.new k) pc L st μ = some (pc', L', st', μ1)) (hn0 : n0 ≤ μ.1) (hR : μ1.1 - n0 ≤ R.cells ∧ pm_Sz μ1.1 - pm_Sz n0 ≤ R.slots)
    (kk : L' = L → ∀ (H1 : Heap) (locs1 : List Loc), pm_H D cA b0 b μ1 H1 → va_S (fun q => b0 ≤ q) s.heap H1 locs1 → W p l e R s m args below meth c H1 locs1 (μ1.1 - n0) (pm_Sz μ1.1 - pm_Sz n0) Q (F0 m pc' ls (st'.map (pm_v b0 b)))) : W p l e R s m args below meth c H locs (μ.1 - n0) (pm_Sz μ.1 - pm_Sz n0) Q (F0 m pc ls (st.map (pm_v b0 b))) := by
  obtain ⟨hx, hb, hml, hown, hts, hK, hE, hin, hscr⟩ := hX
  have hn : len = 3 := by simpa [pm_w] using hw
  subst hn
  simp only [pm_s2] at h
  split at h
  · rename_i cc hk
    split at h
    · rename_i hc
      cases h
      have hSz : pm_Sz (μ.1 + 1) = pm_Sz μ.1 + (pm_k μ.1).2 := rfl
      have hm := pm_Sz_mono hn0
      have ec : μ.1 - n0 + 1 = μ.1 + 1 - n0 := by omega
      have es : pm_Sz μ.1 - pm_Sz n0 + (pm_k μ.1).2 = pm_Sz (μ.1 + 1) - pm_Sz n0 := by omega
      exact pm_newobj hx hb hown hts hK hH hS hc.1 hc.2 (hE.2.2.2.2.1 _ _ hk) (by rw [ec]; exact hR.1) (by rw [es]; exact hR.2) hd (fun H1 g1 g2 => by rw [ec, es]; exact kk rfl H1 locs g1 g2)
    · cases h
  · cases h
theorem pm_y_newarray {t : ClassFile.ArrayType} (hX : pm_X p l R s m args meth c own E D cA b0 b ini nL) (hH : pm_H D cA b0 b μ H) (hS : va_S (fun q => b0 ≤ q) s.heap H locs) (hls : ls.size = nL) (hd : decode (pm_Ec E) pc = .ok (.newarray t, len)) (hw : pm_w (.newarray t) len = true) (h : pm_s2 E (.newarray t) pc L st μ = some (pc', L', st', μ1)) (hn0 : n0 ≤ μ.1) (hR : μ1.1 - n0 ≤ R.cells ∧ pm_Sz μ1.1 - pm_Sz n0 ≤ R.slots)
    (kk : L' = L → ∀ (H1 : Heap) (locs1 : List Loc), pm_H D cA b0 b μ1 H1 → va_S (fun q => b0 ≤ q) s.heap H1 locs1 → W p l e R s m args below meth c H1 locs1 (μ1.1 - n0) (pm_Sz μ1.1 - pm_Sz n0) Q (F0 m pc' ls (st'.map (pm_v b0 b)))) : W p l e R s m args below meth c H locs (μ.1 - n0) (pm_Sz μ.1 - pm_Sz n0) Q (F0 m pc ls (st.map (pm_v b0 b))) := by
  obtain ⟨hx, hb, hml, hown, hts, hK, hE, hin, hscr⟩ := hX
  have hn : len = 2 := by simpa [pm_w] using hw
  subst hn
  simp only [pm_s2] at h
  split at h
  · rename_i n st0
    split at h
    · rename_i hc
      cases h
      have hSz : pm_Sz (μ.1 + 1) = pm_Sz μ.1 + (pm_k μ.1).2 := rfl
      have hm := pm_Sz_mono hn0
      have ec : μ.1 - n0 + 1 = μ.1 + 1 - n0 := by omega
      have es : pm_Sz μ.1 - pm_Sz n0 + (pm_k μ.1).2 = pm_Sz (μ.1 + 1) - pm_Sz n0 := by omega
      rcases hc.1 with ⟨rfl, h2⟩ | ⟨rfl, h2⟩ | ⟨rfl, h2⟩
      · exact pm_newarr (k := 10) (ty := .int) (atype := .int) hx hb rfl (hts _ pm_acI) hH hS (by omega) (hK.2 0 _ rfl).2 (fun t => by simp [pm_et, h2, Op.newarray.typeOf]) (by decide) h2 (by omega) hc.2.1 hc.2.2 (by rw [ec]; exact hR.1) (by rw [es]; exact hR.2) hd (fun H1 g1 g2 => by rw [ec, es]; exact kk rfl H1 locs g1 g2)
      · exact pm_newarr (k := 11) (ty := .boolean) (atype := .boolean) hx hb rfl (hts _ pm_acZ) hH hS (by omega) (hK.2 1 _ rfl).2 (fun t => by simp [pm_et, h2, Op.newarray.typeOf]) (by decide) h2 (by omega) hc.2.1 hc.2.2 (by rw [ec]; exact hR.1) (by rw [es]; exact hR.2) hd (fun H1 g1 g2 => by rw [ec, es]; exact kk rfl H1 locs g1 g2)
      · exact pm_newarr (k := 12) (ty := .double) (atype := .double) hx hb rfl (hts _ pm_acD) hH hS (by omega) (hK.2 2 _ rfl).2 (fun t => by simp [pm_et, h2, Op.newarray.typeOf]) (by decide) h2 (by omega) hc.2.1 hc.2.2 (by rw [ec]; exact hR.1) (by rw [es]; exact hR.2) hd (fun H1 g1 g2 => by rw [ec, es]; exact kk rfl H1 locs g1 g2)
    · cases h
  · cases h
theorem pm_y_anewarray {k : Nat} (hX : pm_X p l R s m args meth c own E D cA b0 b ini nL) (hH : pm_H D cA b0 b μ H) (hS : va_S (fun q => b0 ≤ q) s.heap H locs) (hls : ls.size = nL) (hd : decode (pm_Ec E) pc = .ok (.anewarray k, len)) (hw : pm_w (.anewarray k) len = true) (h : pm_s2 E (.anewarray k) pc L st μ = some (pc', L', st', μ1)) (hn0 : n0 ≤ μ.1) (hR : μ1.1 - n0 ≤ R.cells ∧ pm_Sz μ1.1 - pm_Sz n0 ≤ R.slots)
    (kk : L' = L → ∀ (H1 : Heap) (locs1 : List Loc), pm_H D cA b0 b μ1 H1 → va_S (fun q => b0 ≤ q) s.heap H1 locs1 → W p l e R s m args below meth c H1 locs1 (μ1.1 - n0) (pm_Sz μ1.1 - pm_Sz n0) Q (F0 m pc' ls (st'.map (pm_v b0 b)))) : W p l e R s m args below meth c H locs (μ.1 - n0) (pm_Sz μ.1 - pm_Sz n0) Q (F0 m pc ls (st.map (pm_v b0 b))) := by
  obtain ⟨hx, hb, hml, hown, hts, hK, hE, hin, hscr⟩ := hX
  have hn : len = 3 := by simpa [pm_w] using hw
  subst hn
  simp only [pm_s2] at h
  split at h
  · rename_i n st0 cc hk
    split at h
    · rename_i hc
      cases h
      obtain ⟨rfl, hc⟩ := hc
      have hSz : pm_Sz (μ.1 + 1) = pm_Sz μ.1 + (pm_k μ.1).2 := rfl
      have hm := pm_Sz_mono hn0
      have ec : μ.1 - n0 + 1 = μ.1 + 1 - n0 := by omega
      have es : pm_Sz μ.1 - pm_Sz n0 + (pm_k μ.1).2 = pm_Sz (μ.1 + 1) - pm_Sz n0 := by omega
      exact pm_newrefs hx hb hown hts hK hH hS (hE.2.2.2.2.1 _ _ hk) hc.1 hc.2.1 hc.2.2 (by rw [ec]; exact hR.1) (by rw [es]; exact hR.2) hd (fun H1 g1 g2 => by rw [ec, es]; exact kk rfl H1 locs g1 g2)
    · cases h
  · cases h
theorem pm_y_invokevirtual {k : Nat} (hX : pm_X p l R s m args meth c own E D cA b0 b ini nL) (hH : pm_H D cA b0 b μ H) (hS : va_S (fun q => b0 ≤ q) s.heap H locs) (hls : ls.size = nL) (hd : decode (pm_Ec E) pc = .ok (.invokevirtual k, len)) (hw : pm_w (.invokevirtual k) len = true) (h : pm_s2 E (.invokevirtual k) pc L st μ = some (pc', L', st', μ1)) (hn0 : n0 ≤ μ.1) (hR : μ1.1 - n0 ≤ R.cells ∧ pm_Sz μ1.1 - pm_Sz n0 ≤ R.slots)
    (kk : L' = L → ∀ (H1 : Heap) (locs1 : List Loc), pm_H D cA b0 b μ1 H1 → va_S (fun q => b0 ≤ q) s.heap H1 locs1 → W p l e R s m args below meth c H1 locs1 (μ1.1 - n0) (pm_Sz μ1.1 - pm_Sz n0) Q (F0 m pc' ls (st'.map (pm_v b0 b)))) : W p l e R s m args below meth c H locs (μ.1 - n0) (pm_Sz μ.1 - pm_Sz n0) Q (F0 m pc ls (st.map (pm_v b0 b))) := by
  obtain ⟨hx, hb, hml, hown, hts, hK, hE, hin, hscr⟩ := hX
  have hn : len = 3 := by simpa [pm_w] using hw
  subst hn
  simp only [pm_s2] at h
  split at h
  · rename_i q hk
    split at h
    · rename_i htag
      split at h
      · rename_i i rest hst
        split at h
        · rename_i hc
          obtain ⟨⟨r, μ2⟩, hr, e1⟩ := Option.map_eq_some_iff.mp h
          cases e1
          obtain ⟨y, cb, maxL, ret, fr2, lo2, hM, c1, c2, c3, c4, c5, c6, c7, c8, c9⟩ := hE.2.2.2.1 _ _ hk
          obtain ⟨hmon, hMet⟩ := hM D cA b0 b _ _ _ _ hr
          have hm := pm_Sz_mono hn0
          have hm2 := pm_Sz_mono hmon
          have ec : μ.1 - n0 + (μ2.1 - μ.1) = μ2.1 - n0 := by omega
          have es : pm_Sz μ.1 - pm_Sz n0 + (pm_Sz μ2.1 - pm_Sz μ.1) = pm_Sz μ2.1 - pm_Sz n0 := by omega
          obtain ⟨v1, v2, v3, v4, v5⟩ := c7 htag
          have hlt := pm_lt hH hc.1.2
          have hlen : (st.take q.2.1).length = q.2.1 := by
            rw [List.length_take]
            have : (st.drop q.2.1).length ≠ 0 := by rw [hst]; simp
            rw [List.length_drop] at this
            omega
          have hsplit : st = st.take q.2.1 ++ .ref i :: rest := by rw [← hst, List.take_append_drop]
          have hmap : st.map (pm_v b0 b) = ((st.take q.2.1).reverse.map (pm_v b0 b)).reverse ++ .ref (b0 + i) :: rest.map (pm_v b0 b) := by
            conv => lhs; rw [hsplit]
            rw [List.map_append, List.map_cons, pm_ref hlt, List.map_reverse, List.reverse_reverse]
          obtain ⟨cellV, o1, o2, o3, -⟩ := pm_obj hH hc.1.2 hc.1.1 v1
          have hws : ∀ w ∈ wsV own k (pm_cn q.2.2.1) y (Cond.code y cb maxL ret :: pm_T), w ∈ pm_T := by
            intro w hw
            rcases List.mem_append.mp hw with hw | hw
            · simp only [List.mem_cons, List.not_mem_nil, or_false] at hw
              rcases hw with rfl | rfl | rfl | rfl
              · exact v3
              · exact v4
              · exact v5
              · rw [← v2]; exact c4
            · rcases List.mem_cons.mp hw with rfl | hw
              · exact c3
              · exact hw
          have hrun := va_runV (R := R) (meth := meth) (below := below) (e := e) (locs := locs) (cells := μ.1 - n0) (slots := pm_Sz μ.1 - pm_Sz n0) (H := H) (b := b0 + i) (As := (st.take q.2.1).reverse.map (pm_v b0 b)) (rest := rest.map (pm_v b0 b)) (g := F0 m pc ls (st.map (pm_v b0 b))) ⟨hx, hb, hml, hown, hts⟩ hMet (cwV q.2.1 hts (pm_goodIn hws) rfl rfl rfl ⟨v2, c5.1, c5.2, c6⟩ ⟨c1, c2⟩) ⟨pm_blind, ⟨cellV, o1, by rw [o3]; rfl, by rw [o2]; exact (hK.1 _ _ (pm_vw v1)).2.1⟩, fun U hU hW => ⟨by rw [List.map_cons, pm_ref hlt], by rw [hU]; exact hH, va_K.moved hW.alike hK⟩⟩ rfl (by rw [List.length_map, List.length_reverse, hlen]) hls hmap (lv_room (pm_catsV _ _ _ hc.2)) hd ⟨by rw [ec]; exact hR.1, by rw [es]; exact hR.2⟩
          refine pm_call (a := #[]) hrun hS (fun H1 locs1 g1 g2 => ?_)
          rw [ec, es]
          have g := kk rfl H1 locs1 g1 g2
          rw [List.map_append] at g
          rw [show (Option.map (pm_v b0 b) r).toList = List.map (pm_v b0 b) r.toList by cases r <;> rfl]
          exact g
        · cases h
      · cases h
    · cases h
  · cases h
theorem pm_y_invokestatic {k : Nat} (hX : pm_X p l R s m args meth c own E D cA b0 b ini nL) (hH : pm_H D cA b0 b μ H) (hS : va_S (fun q => b0 ≤ q) s.heap H locs) (hls : ls.size = nL) (hd : decode (pm_Ec E) pc = .ok (.invokestatic k, len)) (hw : pm_w (.invokestatic k) len = true) (h : pm_s2 E (.invokestatic k) pc L st μ = some (pc', L', st', μ1)) (hn0 : n0 ≤ μ.1) (hR : μ1.1 - n0 ≤ R.cells ∧ pm_Sz μ1.1 - pm_Sz n0 ≤ R.slots)
    (kk : L' = L → ∀ (H1 : Heap) (locs1 : List Loc), pm_H D cA b0 b μ1 H1 → va_S (fun q => b0 ≤ q) s.heap H1 locs1 → W p l e R s m args below meth c H1 locs1 (μ1.1 - n0) (pm_Sz μ1.1 - pm_Sz n0) Q (F0 m pc' ls (st'.map (pm_v b0 b)))) : W p l e R s m args below meth c H locs (μ.1 - n0) (pm_Sz μ.1 - pm_Sz n0) Q (F0 m pc ls (st.map (pm_v b0 b))) := by
  obtain ⟨hx, hb, hml, hown, hts, hK, hE, hin, hscr⟩ := hX
  have hn : len = 3 := by simpa [pm_w] using hw
  subst hn
  simp only [pm_s2] at h
  have hrl : (7 : Nat) + 8 ≤ R.locals := by have := hE.2.2.2.2.2.2.2; omega
  split at h
  · rename_i hk
    obtain ⟨k1, k2, k3, k4⟩ := (hE.2.2.2.2.2.1 _ _ hk).1 rfl
    split at h
    · rename_i x rest
      split at h
      · rename_i hc
        cases h
        have h8 := pm_catsV b0 b rest hc.1
        exact vn_l2d hx hb (hml.trans hls.symm) hown (hts _ k1) (hts _ k2) (hts _ k3) (hts _ k4) hc.2 hE.2.2.2.2.2.2.1 (by have := hE.2.2.2.2.2.2.2; omega) hd (kk rfl H locs hH hS)
      · cases h
    · cases h
  · rename_i hk
    obtain ⟨k1, k2, k3, k4⟩ := (hE.2.2.2.2.2.1 _ _ hk).2.1 rfl
    split at h
    · rename_i x rest
      split at h
      · rename_i hc
        cases h
        have h8 := pm_catsV b0 b rest hc
        exact vn_d2l hx hb (hml.trans hls.symm) hown (hts _ k1) (hts _ k2) (hts _ k3) (hts _ k4) hE.2.2.2.2.2.2.1 (by have := hE.2.2.2.2.2.2.2; omega) hd (kk rfl H locs hH hS)
      · cases h
    · cases h
  · cases h
  · split at h
    · rename_i q hk
      split at h
      · rename_i hc
        obtain ⟨⟨r, μ2⟩, hr, e1⟩ := Option.map_eq_some_iff.mp h
        cases e1
        obtain ⟨y, cb, maxL, ret, fr2, lo2, hM, c1, c2, c3, c4, c5, c6, c7, c8, c9⟩ := hE.2.2.2.1 _ _ hk
        obtain ⟨hmon, hMet⟩ := hM D cA b0 b _ _ _ _ hr
        have hm := pm_Sz_mono hn0
        have hm2 := pm_Sz_mono hmon
        have ec : μ.1 - n0 + (μ2.1 - μ.1) = μ2.1 - n0 := by omega
        have es : pm_Sz μ.1 - pm_Sz n0 + (pm_Sz μ2.1 - pm_Sz μ.1) = pm_Sz μ2.1 - pm_Sz n0 := by omega
        obtain ⟨v3, v4⟩ := c8 hc.1
        have hlen : (st.take q.2.1).length = q.2.1 := by
          rw [List.length_take]
          have := hc.2.1
          omega
        have hmap : st.map (pm_v b0 b) = ((st.take q.2.1).reverse.map (pm_v b0 b)).reverse ++ (st.drop q.2.1).map (pm_v b0 b) := by
          rw [List.map_reverse, List.reverse_reverse, ← List.map_append, List.take_append_drop]
        have hws : ∀ w ∈ va_wsS own k y (Cond.code y cb maxL ret :: pm_T), w ∈ pm_T := by
          intro w hw
          rcases List.mem_append.mp hw with hw | hw
          · simp only [List.mem_cons, List.not_mem_nil, or_false] at hw
            rcases hw with rfl | rfl | rfl
            · exact v3
            · exact v4
            · exact c4
          · rcases List.mem_cons.mp hw with rfl | hw
            · exact c3
            · exact hw
        have hrun := va_runS (R := R) (meth := meth) (below := below) (e := e) (locs := locs) (cells := μ.1 - n0) (slots := pm_Sz μ.1 - pm_Sz n0) (H := H) (As := (st.take q.2.1).reverse.map (pm_v b0 b)) (rest := (st.drop q.2.1).map (pm_v b0 b)) (g := F0 m pc ls (st.map (pm_v b0 b))) ⟨hx, hb, hml, hown, hts⟩ hMet (va_cwS q.2.1 hts (pm_goodIn hws) rfl rfl rfl ⟨c5.1, c5.2, c6⟩ ⟨c1, c2⟩) ⟨pm_blind, fun U hU hW => ⟨rfl, by rw [hU]; exact hH, va_K.moved hW.alike hK⟩⟩ rfl (by rw [List.length_map, List.length_reverse, hlen]) hls hmap (lv_room (pm_catsV _ _ _ hc.2.2)) hd ⟨by rw [ec]; exact hR.1, by rw [es]; exact hR.2⟩
        refine pm_call (a := #[]) hrun hS (fun H1 locs1 g1 g2 => ?_)
        rw [ec, es]
        have g := kk rfl H1 locs1 g1 g2
        rw [List.map_append] at g
        rw [show (Option.map (pm_v b0 b) r).toList = List.map (pm_v b0 b) r.toList by cases r <;> rfl]
        exact g
      · cases h
    · cases h
theorem pm_y_invokespecial {k : Nat} (hX : pm_X p l R s m args meth c own E D cA b0 b ini nL) (hH : pm_H D cA b0 b μ H) (hS : va_S (fun q => b0 ≤ q) s.heap H locs) (hls : ls.size = nL) (hd : decode (pm_Ec E) pc = .ok (.invokespecial k, len)) (hw : pm_w (.invokespecial k) len = true) (h : pm_s2 E (.invokespecial k) pc L st μ = some (pc', L', st', μ1)) (hn0 : n0 ≤ μ.1) (hR : μ1.1 - n0 ≤ R.cells ∧ pm_Sz μ1.1 - pm_Sz n0 ≤ R.slots)
    (kk : L' = L → ∀ (H1 : Heap) (locs1 : List Loc), pm_H D cA b0 b μ1 H1 → va_S (fun q => b0 ≤ q) s.heap H1 locs1 → W p l e R s m args below meth c H1 locs1 (μ1.1 - n0) (pm_Sz μ1.1 - pm_Sz n0) Q (F0 m pc' ls (st'.map (pm_v b0 b)))) : W p l e R s m args below meth c H locs (μ.1 - n0) (pm_Sz μ.1 - pm_Sz n0) Q (F0 m pc ls (st.map (pm_v b0 b))) := by
  obtain ⟨hx, hb, hml, hown, hts, hK, hE, hin, hscr⟩ := hX
  have hn : len = 3 := by simpa [pm_w] using hw
  subst hn
  simp only [pm_s2] at h
  split at h
  · rename_i hk
    obtain ⟨k1, k2, k3⟩ := (hE.2.2.2.2.2.1 _ _ hk).2.2 rfl
    split at h
    · rename_i i rest
      split at h
      · rename_i hc
        cases h
        have h8 := pm_catsV b0 b st' hc
        refine W.objInit hx hb hown (hts _ k1) (hts _ k2) (hts _ k3) rfl (by rw [hml]; exact hls) rfl hd hE.2.2.2.2.2.2.1 ?_ (kk rfl H locs hH hS)
        have := hE.2.2.2.2.2.2.2
        show 2 * 0 + _ + 12 ≤ _
        omega
      · cases h
    · cases h
  · cases h
  · split at h
    · rename_i q hk
      split at h
      · rename_i htag
        split at h
        · rename_i i rest hst
          split at h
          · rename_i hc
            obtain ⟨⟨r, μ2⟩, hr, e1⟩ := Option.map_eq_some_iff.mp h
            cases e1
            obtain ⟨y, cb, maxL, ret, fr2, lo2, hM, c1, c2, c3, c4, c5, c6, c7, c8, c9⟩ := hE.2.2.2.1 _ _ hk
            obtain ⟨hmon, hMet⟩ := hM D cA b0 b _ _ _ _ hr
            have hm := pm_Sz_mono hn0
            have hm2 := pm_Sz_mono hmon
            have ec : μ.1 - n0 + (μ2.1 - μ.1) = μ2.1 - n0 := by omega
            have es : pm_Sz μ.1 - pm_Sz n0 + (pm_Sz μ2.1 - pm_Sz μ.1) = pm_Sz μ2.1 - pm_Sz n0 := by omega
            obtain ⟨v1, v2, v4, v3⟩ := c9 htag
            subst v2
            have hlt := pm_lt hH hc.1
            have hlen : (st.take q.2.1).length = q.2.1 := by
              rw [List.length_take]
              have : (st.drop q.2.1).length ≠ 0 := by rw [hst]; simp
              rw [List.length_drop] at this
              omega
            have hsplit : st = st.take q.2.1 ++ .ref i :: rest := by rw [← hst, List.take_append_drop]
            have hmap : st.map (pm_v b0 b) = ((st.take q.2.1).reverse.map (pm_v b0 b)).reverse ++ .ref (b0 + i) :: rest.map (pm_v b0 b) := by
              conv => lhs; rw [hsplit]
              rw [List.map_append, List.map_cons, pm_ref hlt, List.map_reverse, List.reverse_reverse]
            have hG : GoodIn pm_T (Cond.code y cb maxL none :: pm_T) := pm_goodIn (fun w hw => by
              rcases List.mem_cons.mp hw with rfl | hw
              · exact c3
              · exact hw)
            rcases v3 with v3 | ⟨host, v3⟩
            · have hrun := va_runI (R := R) (meth := meth) (below := below) (e := e) (locs := locs) (cells := μ.1 - n0) (slots := pm_Sz μ.1 - pm_Sz n0) (H := H) (b := b0 + i) (As := (st.take q.2.1).reverse.map (pm_v b0 b)) (rest := rest.map (pm_v b0 b)) (g := F0 m pc ls (st.map (pm_v b0 b))) ⟨hx, hb, hml, hown, hts⟩ hMet (cwI q.2.1 hts hG rfl rfl rfl (hts _ c4) (hts _ v3) (hts _ v4) v1 ⟨c5.1, c5.2, c6⟩ ⟨c1, c2⟩) ⟨pm_blind, fun U hU hW => ⟨by rw [List.map_cons, pm_ref hlt], by rw [hU]; exact hH, va_K.moved hW.alike hK⟩⟩ rfl (by rw [List.length_map, List.length_reverse, hlen]) hls hmap (lv_room (pm_catsV _ _ _ hc.2)) hd ⟨by rw [ec]; exact hR.1, by rw [es]; exact hR.2⟩
              refine pm_call (a := #[]) hrun hS (fun H1 locs1 g1 g2 => ?_)
              rw [ec, es]
              have g := kk rfl H1 locs1 g1 g2
              rw [List.map_append] at g
              rw [show (Option.map (pm_v b0 b) r).toList = List.map (pm_v b0 b) r.toList by cases r <;> rfl]
              exact g
            · have hrun := va_runIN (host := host) (R := R) (meth := meth) (below := below) (e := e) (locs := locs) (cells := μ.1 - n0) (slots := pm_Sz μ.1 - pm_Sz n0) (H := H) (b := b0 + i) (As := (st.take q.2.1).reverse.map (pm_v b0 b)) (rest := rest.map (pm_v b0 b)) (g := F0 m pc ls (st.map (pm_v b0 b))) ⟨hx, hb, hml, hown, hts⟩ hMet ⟨va_cnB q.2.1 hts hG rfl rfl rfl (va_Nw.of rfl (hts _ v3)) (hts _ c4) ⟨c5.1, c5.2, c6⟩ ⟨c1, c2⟩, v1, hts _ v4⟩ ⟨pm_blind, fun U hU hW => ⟨by rw [List.map_cons, pm_ref hlt], by rw [hU]; exact hH, va_K.moved hW.alike hK⟩⟩ rfl (by rw [List.length_map, List.length_reverse, hlen]) hls hmap (lv_room (pm_catsV _ _ _ hc.2)) hd ⟨by rw [ec]; exact hR.1, by rw [es]; exact hR.2⟩
              refine pm_call (a := #[]) hrun hS (fun H1 locs1 g1 g2 => ?_)
              rw [ec, es]
              have g := kk rfl H1 locs1 g1 g2
              rw [List.map_append] at g
              rw [show (Option.map (pm_v b0 b) r).toList = List.map (pm_v b0 b) r.toList by cases r <;> rfl]
              exact g
          · cases h
        · cases h
      · cases h
    · cases h
theorem pm_s2_sound {i : ClassFile.Instr} (hX : pm_X p l R s m args meth c own E D cA b0 b ini nL) (hH : pm_H D cA b0 b μ H) (hS : va_S (fun q => b0 ≤ q) s.heap H locs) (hls : ls.size = nL) (hd : decode (pm_Ec E) pc = .ok (i, len)) (hw : pm_w (i) len = true) (h : pm_s2 E (i) pc L st μ = some (pc', L', st', μ1)) (hn0 : n0 ≤ μ.1) (hR : μ1.1 - n0 ≤ R.cells ∧ pm_Sz μ1.1 - pm_Sz n0 ≤ R.slots)
    (kk : L' = L → ∀ (H1 : Heap) (locs1 : List Loc), pm_H D cA b0 b μ1 H1 → va_S (fun q => b0 ≤ q) s.heap H1 locs1 → W p l e R s m args below meth c H1 locs1 (μ1.1 - n0) (pm_Sz μ1.1 - pm_Sz n0) Q (F0 m pc' ls (st'.map (pm_v b0 b)))) : W p l e R s m args below meth c H locs (μ.1 - n0) (pm_Sz μ.1 - pm_Sz n0) Q (F0 m pc ls (st.map (pm_v b0 b))) := by
  cases i
  case ldc => exact pm_y_ldc hX hH hS hls hd hw h hn0 hR kk
  case ldc2_w => exact pm_y_ldc2_w hX hH hS hls hd hw h hn0 hR kk
  case getfield => exact pm_y_getfield hX hH hS hls hd hw h hn0 hR kk
  case putfield => exact pm_y_putfield hX hH hS hls hd hw h hn0 hR kk
  case iaload => exact pm_y_iaload hX hH hS hls hd hw h hn0 hR kk
  case baload => exact pm_y_baload hX hH hS hls hd hw h hn0 hR kk
  case daload => exact pm_y_daload hX hH hS hls hd hw h hn0 hR kk
  case aaload => exact pm_y_aaload hX hH hS hls hd hw h hn0 hR kk
  case iastore => exact pm_y_iastore hX hH hS hls hd hw h hn0 hR kk
  case bastore => exact pm_y_bastore hX hH hS hls hd hw h hn0 hR kk
  case dastore => exact pm_y_dastore hX hH hS hls hd hw h hn0 hR kk
  case aastore => exact pm_y_aastore hX hH hS hls hd hw h hn0 hR kk
  case arraylength => exact pm_y_arraylength hX hH hS hls hd hw h hn0 hR kk
  case new => exact pm_y_new hX hH hS hls hd hw h hn0 hR kk
  case newarray => exact pm_y_newarray hX hH hS hls hd hw h hn0 hR kk
  case anewarray => exact pm_y_anewarray hX hH hS hls hd hw h hn0 hR kk
  case invokevirtual => exact pm_y_invokevirtual hX hH hS hls hd hw h hn0 hR kk
  case invokestatic => exact pm_y_invokestatic hX hH hS hls hd hw h hn0 hR kk
  case invokespecial => exact pm_y_invokespecial hX hH hS hls hd hw h hn0 hR kk
  all_goals (simp [pm_s2] at h)
end PMW
end
section
/-! THE PURE MACHINE IS SOUND, 6: a run, a method -/
theorem pm_callmono {l : Launch} {fr lo : Nat} {own : String} {ini : Bool} {E : pm_E} (hE : pm_Ok l fr lo own ini E) : ∀ k q, pm_Ef E k = some q → ∀ a μ r, q.2.2.2 a μ = some r → μ.1 ≤ r.2.1 := by
  intro k q hk a μ r hr
  obtain ⟨y, cc, maxL, ret, fr', lo', hM, -⟩ := hE.2.2.2.1 k q hk
  exact (hM (fun _ => 0, fun _ _ => 0) (fun _ => 0) 0 0 a μ r.2 r.1 hr).1
theorem pm_s_mono {E : pm_E} {i : ClassFile.Instr} {pc : Nat} {L st : List Value} {μ : pm_M} {t : pm_S} (hF : ∀ k q, pm_Ef E k = some q → ∀ a μ r, q.2.2.2 a μ = some r → μ.1 ≤ r.2.1) (h : pm_s E i pc L st μ = some t) : μ.1 ≤ t.2.2.2.1 := by
  unfold pm_s at h
  split at h
  · cases h
    exact Nat.le_refl _
  · exact pm_s2_mono hF h
theorem pm_x_mono {E : pm_E} (hF : ∀ k q, pm_Ef E k = some q → ∀ a μ r, q.2.2.2 a μ = some r → μ.1 ≤ r.2.1) : ∀ (n pc : Nat) (L st : List Value) (μ : pm_M) (r : Option Value × pm_M), pm_x E n pc L st μ = some r → μ.1 ≤ r.2.1 := by
  intro n
  induction n with
  | zero => intro pc L st μ r h; cases h
  | succ n ih =>
    intro pc L st μ r h
    unfold pm_x at h
    split at h
    · split at h
      · split at h
        · cases h
          exact Nat.le_refl _
        · split at h
          · rename_i t ht
            exact Nat.le_trans (pm_s_mono hF ht) (ih _ _ _ _ _ h)
          · cases h
      · cases h
    · cases h
section PMR
variable {p : Program} {l : Launch} {e : Env} {R : Room} {s : State} {m : MethodId} {args : Array Value} {below : List Frame} {meth : Method} {c : Code} {Q : State → Prop}
variable {nL b0 b : Nat} {D : va_G} {cA : Nat → ClassId} {μ' : pm_M} {n0 : Nat} {own : String} {E : pm_E} {ini : Bool}
theorem pm_sound (hX : pm_X p l R s m args meth c own E D cA b0 b ini nL) {r : Option Value} (hR : μ'.1 - n0 ≤ R.cells ∧ pm_Sz μ'.1 - pm_Sz n0 ≤ R.slots)
    (hret : ∀ (pc len : Nat) (i : ClassFile.Instr) (st : List Value) (H : Heap) (locs : List Loc) (ls : Array Slot), decode (pm_Ec E) pc = .ok (i, len) → pm_w i len = true → pm_r E i st = some r → pm_H D cA b0 b μ' H → va_S (fun q => b0 ≤ q) s.heap H locs → W p l e R s m args below meth c H locs (μ'.1 - n0) (pm_Sz μ'.1 - pm_Sz n0) Q (F0 m pc ls (st.map (pm_v b0 b)))) :
    ∀ (n pc : Nat) (L st : List Value) (μ : pm_M) (H : Heap) (locs : List Loc) (ls : Array Slot), pm_x E n pc L st μ = some (r, μ') → pm_H D cA b0 b μ H → va_S (fun q => b0 ≤ q) s.heap H locs → pm_lh b0 b ls nL L → n0 ≤ μ.1 → W p l e R s m args below meth c H locs (μ.1 - n0) (pm_Sz μ.1 - pm_Sz n0) Q (F0 m pc ls (st.map (pm_v b0 b))) := by
  have hF := pm_callmono hX.2.2.2.2.2.2.1
  intro n
  induction n with
  | zero => intro pc L st μ H locs ls h; cases h
  | succ n ih =>
    intro pc L st μ H locs ls h hH hS hl hn0
    unfold pm_x at h
    split at h
    · rename_i q hd
      obtain ⟨i, len⟩ := q
      split at h
      · rename_i hw
        split at h
        · rename_i r2 hr2
          cases h
          exact hret pc len i st H locs ls hd hw hr2 hH hS
        · split at h
          · rename_i t ht
            unfold pm_s at ht
            split at ht
            · rename_i q2 hq2
              cases ht
              exact pm_s1_sound hX.1 hX.2.1 hd hw hq2 hl (fun ls' hl' => ih _ _ _ _ H locs ls' h hH hS hl' hn0)
            · obtain ⟨pc1, L1, st1, μ1⟩ := t
              have h1 := pm_s2_mono hF ht
              have h2 := pm_x_mono hF _ _ _ _ _ _ h
              dsimp only at h1 h2 h
              have h3 := pm_Sz_mono h2
              exact pm_s2_sound hX hH hS hl.1 hd hw ht hn0 ⟨by omega, by omega⟩ (fun eL H1 locs1 g1 g2 => by
                subst eL
                exact ih _ _ _ _ H1 locs1 ls h g1 g2 hl (Nat.le_trans hn0 h1))
          · cases h
      · cases h
    · cases h
end PMR
theorem pm_e_len (b0 b : Nat) : ∀ a : List Value, (pm_e a).length = (lg_sl (a.map (pm_v b0 b))).length
  | [] => rfl
  | v :: vs => by
    have ih := pm_e_len b0 b vs
    cases v <;> simp [pm_e, lg_sl, pm_v, Value.category] at ih ⊢ <;> omega
theorem pm_e_at (b0 b : Nat) : ∀ (a : List Value) (i : Nat) (v : Value), (pm_e a)[i]? = some v → (∀ k, v ≠ .retAddr k) → (lg_sl (a.map (pm_v b0 b)))[i]? = some (.val (pm_v b0 b v))
  | [], i, v, h, _ => by simp [pm_e] at h
  | w :: vs, i, v, h, hv => by
    have ih := pm_e_at b0 b vs
    by_cases hc : w.category = 2
    · have e1 : pm_e (w :: vs) = w :: .retAddr 1 :: pm_e vs := by cases w <;> simp [Value.category] at hc <;> rfl
      have e2 : lg_sl ((w :: vs).map (pm_v b0 b)) = .val (pm_v b0 b w) :: .second :: lg_sl (vs.map (pm_v b0 b)) := by
        simp [lg_sl, pm_v_cat, hc]
      rw [e1] at h
      rw [e2]
      match i, h with
      | 0, h => simp at h ⊢; rw [h]
      | 1, h => simp at h; exact absurd h.symm (hv 1)
      | i + 2, h => simp at h ⊢; exact ih i v h hv
    · have e1 : pm_e (w :: vs) = w :: pm_e vs := by cases w <;> simp [Value.category] at hc <;> rfl
      have e2 : lg_sl ((w :: vs).map (pm_v b0 b)) = .val (pm_v b0 b w) :: lg_sl (vs.map (pm_v b0 b)) := by
        simp [lg_sl, pm_v_cat, hc]
      rw [e1] at h
      rw [e2]
      match i, h with
      | 0, h => simp at h ⊢; rw [h]
      | i + 1, h => simp at h ⊢; exact ih i v h hv
theorem pm_entry (b0 b : Nat) (a : List Value) {n : Nat} (h : (pm_e a).length ≤ n) : pm_lh b0 b ((lg_sl (a.map (pm_v b0 b)) ++ List.replicate (n - (lg_sl (a.map (pm_v b0 b))).length) Slot.unset).toArray) n (pm_e a ++ List.replicate (n - (pm_e a).length) (.retAddr 0)) := by
  have hlen := pm_e_len b0 b a
  have hL := lv_entry (a.map (pm_v b0 b)) (n := n) (by omega)
  refine ⟨hL.1, by simp; omega, hL.2.1, fun i v hi hv hc => ?_⟩
  by_cases hlt : i < (pm_e a).length
  · rw [List.getElem?_append_left hlt] at hi
    have := pm_e_at b0 b a i v hi hv
    rw [List.getElem?_toArray, List.getElem?_append_left (by omega)]
    exact this
  · rw [List.getElem?_append_right (by omega)] at hi
    have := List.eq_of_mem_replicate (List.mem_of_getElem? hi)
    exact absurd this (hv 0)
set_option maxHeartbeats 1000000 in
/-- a method does what its function says -/
theorem pm_met {l : Launch} {y : MethodName} {maxL fr lo : Nat} {own : String} {E : pm_E} {ini : Bool} (hy : plainName y.cls = true) (hyo : y.cls = own) (hE : pm_Ok l fr lo own ini E) (hx0 : pm_Ex E = none) (hini : ini = true → y.name = "<init>") : pm_Met l y (pm_Ec E) maxL (pm_Er E) fr lo (pm_fn E maxL) := by
  intro D cA b0 b a μ μ' r hF
  unfold pm_fn at hF
  split at hF
  · rename_i hlen
    obtain ⟨n, hF⟩ := pm_run_iff.mp hF
    have hmono := pm_x_mono (pm_callmono hE) _ _ _ _ _ _ hF
    refine ⟨hmono, ?_⟩
    refine Met.ofW (cc := pm_Ec E) (maxL := maxL) (ret := pm_Er E) hy rfl ?_
    intro p e s m args below meth c s₁ B hml hv
    obtain ⟨rfl, hH, hK⟩ := hv
    have hts0 := atoms_spec (ws := Cond.code y (pm_Ec E) maxL (pm_Er E) :: pm_T) B.pre
    have hts : ∀ w ∈ pm_T, w.before _ s = true := fun w h => hts0 w (List.mem_cons_of_mem _ h)
    have hown : s.vm.findClass own = some m.cls := hyo ▸ findClass_of_methodNamed B.named
    have hlocks := B.notSynchronized
    have hname := (name_of_methodNamed B.named B.method).1
    have hr := B.returns
    have hX : pm_X p l ({ frames := fr, cells := μ'.1 - μ.1, slots := pm_Sz μ'.1 - pm_Sz μ.1, locals := lo }) s m (a.map (pm_v b0 b)).toArray meth c own E D cA b0 b ini maxL :=
      ⟨B.exec, B.bytes, hml, hown, hts, hK, hE, fun h => hname.trans (hini h), fun q hq => by rw [hx0] at hq; cases hq⟩
    rw [lg_entry_eq]
    have hS : va_S (fun q => b0 ≤ q) s.heap s.heap [] := va_S.rf
    have K := pm_sound (Q := MQ below (fun (_ : Array Value) (st : State) (o : Outcome) (t : State) => (o = .returned (r.map (pm_v b0 b)) ∧ pm_H D cA b0 b μ' t.heap) ∧ va_F (fun q => b0 ≤ q) st t) (a.map (pm_v b0 b)).toArray s (μ'.1 - μ.1) (pm_Sz μ'.1 - pm_Sz μ.1) (fun q => b0 ≤ q)) (e := e) (below := below) (n0 := μ.1) (r := r) hX ⟨Nat.le_refl _, Nat.le_refl _⟩ ?_ n 0 _ [] μ s.heap [] _ hF hH hS (pm_entry b0 b a hlen) (Nat.le_refl _)
    · rw [Nat.sub_self, Nat.sub_self] at K
      exact K
    · intro pc len i st H locs ls hd hw hr2 hH2 hS2
      have fin : ∀ t : State, t.heap = H → s.WarmedH t.vm → (Outcome.returned (r.map (pm_v b0 b)) = .returned (r.map (pm_v b0 b)) ∧ pm_H D cA b0 b μ' t.heap) ∧ va_F (fun q => b0 ≤ q) s t := fun t ht _ => ⟨⟨rfl, by rw [ht]; exact hH2⟩, hS2.F ht⟩
      unfold pm_r at hr2
      split at hr2
      · have hn : len = 1 := by simpa [pm_w] using hw
        subst hn
        split at hr2
        · rename_i he
          cases hr2
          exact W.vret B.exec B.bytes (hr.trans he) fin hS2.2.2 hd
        · cases hr2
      · have hn : len = 1 := by simpa [pm_w] using hw
        subst hn
        split at hr2
        · rename_i he
          cases hr2
          exact W.iret B.exec B.bytes (hr.trans he) fin hS2.2.2 hd
        · rename_i x he
          split at hr2
          · rename_i hb1
            cases hr2
            exact W.zret B.exec B.bytes (hr.trans he) (congrArg Value.int hb1) fin hS2.2.2 hd
          · cases hr2
        · cases hr2
      · have hn : len = 1 := by simpa [pm_w] using hw
        subst hn
        split at hr2
        · rename_i he
          cases hr2
          exact W.lret B.exec B.bytes (hr.trans he) fin hS2.2.2 hd
        · cases hr2
      · have hn : len = 1 := by simpa [pm_w] using hw
        subst hn
        split at hr2
        · rename_i he
          cases hr2
          exact W.dret B.exec B.bytes (hr.trans he) fin hS2.2.2 hd
        · cases hr2
      · cases hr2
  · cases hF
end
section
/-! RUNS, instruction by instruction: rewriting rules -/
/-- a truth as an int -/
def pb (c : Prop) [Decidable c] : Int32 := if c then 1 else 0
theorem pb_t {c : Prop} [Decidable c] (h : c) : pb c = 1 := if_pos h
theorem pb_f {c : Prop} [Decidable c] (h : ¬ c) : pb c = 0 := if_neg h
theorem pb_and (c : Prop) [Decidable c] : pb c &&& 1 = pb c := by
  unfold pb
  split <;> rfl
theorem pb_eq0 (c : Prop) [Decidable c] : (pb c = 0) = ¬ c := by
  unfold pb
  split <;> simp [*]
theorem pb_ne0 (c : Prop) [Decidable c] : (¬ pb c = 0) = c := by
  unfold pb
  split <;> simp [*]
def pm_fo (k : Nat) : Nat := 15 + 2 * k
def pm_po (k : Nat) : Nat := 16 + 2 * k
theorem pm_k_fo : ∀ k, k < 60 → pm_k (pm_fo k) = (0, 15) := by decide +kernel
theorem pm_k_po : ∀ k, k < 60 → pm_k (pm_po k) = (13, 8) := by decide +kernel
theorem pm_l_fo {k s : Nat} (h : k < 60) : pm_l (pm_fo k) s = (200 + s, k) := by
  unfold pm_l
  rw [pm_k_fo k h, if_pos rfl]
  unfold pm_fo
  have : (15 + 2 * k - 15) / 2 = k := by omega
  rw [this]
/-- the references as they stay: P k j is part j of Formula k -/
def pm_R0 (i j : Nat) : Option Nat := match i with
  | 0 => (match j with
    | 0 => some 1
    | 1 => some 11
    | 2 => some 14
    | 4 => some 135
    | 5 => some 136
    | 6 => some 137
    | _ => none)
  | 1 => if j < 9 then some (2 + j) else none
  | 11 => (match j with
    | 6 => some 1
    | 7 => some 12
    | 8 => some 13
    | _ => none)
  | 14 => if j < 60 then some (pm_fo j) else none
  | _ => none
def pm_R1 (j : Nat) : Option Nat := if j < 5 then some (139 + j) else if 6 ≤ j ∧ j ≤ 20 then some (138 + j) else if 29 ≤ j ∧ j ≤ 31 then some (130 + j) else none
def pm_R (P : Nat → Nat → Option Nat) (i j : Nat) : Option Nat := if i < 15 then pm_R0 i j else if i < 135 then (if i % 2 = 0 then P ((i - 16) / 2) j else none) else if i = 138 then pm_R1 j else if i = 206 then (if j < 60 then some (pm_po j) else none) else none
section RULES
variable {E : pm_E} {pc len : Nat} {L st : List Value} {μ : pm_M}
theorem pr_1 {i : ClassFile.Instr} {pc' : Nat} {L' st' : List Value} (hd : decode (pm_Ec E) pc = .ok (i, len)) (hw : pm_w i len = true) (hr : pm_r E i st = none) (h : pm_s1 i pc L st = some (pc', L', st')) : pm_run E pc L st μ = pm_run E pc' L' st' μ := by
  refine pm_run_step hd hw hr (t := (pc', L', st', μ)) ?_
  unfold pm_s
  rw [h]
theorem pr_2 {i : ClassFile.Instr} {t : pm_S} (hd : decode (pm_Ec E) pc = .ok (i, len)) (hw : pm_w i len = true) (hr : pm_r E i st = none) (h1 : pm_s1 i pc L st = none) (h : pm_s2 E i pc L st μ = some t) : pm_run E pc L st μ = pm_run E t.1 t.2.1 t.2.2.1 t.2.2.2 := by
  refine pm_run_step hd hw hr (t := t) ?_
  unfold pm_s
  rw [h1]
  exact h
theorem pr_if {i : ClassFile.Instr} {t : Nat} {st' : List Value} {P : Prop} [Decidable P] {bo : Bool} (hd : decode (pm_Ec E) pc = .ok (i, len)) (hw : pm_w i len = true) (hr : pm_r E i st = none) (h : pm_s1 i pc L st = some (if bo = true then t else pc + 3, L, st')) (hP : bo = decide P) : pm_run E pc L st μ = if P then pm_run E t L st' μ else pm_run E (pc + 3) L st' μ := by
  rw [pr_1 hd hw hr h]
  subst hP
  by_cases hp : P
  · simp [hp]
  · simp [hp]
theorem pr_ifn {i : ClassFile.Instr} {t : Nat} {st' : List Value} {P : Prop} [Decidable P] {bo : Bool} (hd : decode (pm_Ec E) pc = .ok (i, len)) (hw : pm_w i len = true) (hr : pm_r E i st = none) (h : pm_s1 i pc L st = some (if bo = true then t else pc + 3, L, st')) (hP : bo = !decide P) : pm_run E pc L st μ = if P then pm_run E (pc + 3) L st' μ else pm_run E t L st' μ := by
  rw [pr_1 hd hw hr h]
  subst hP
  by_cases hp : P
  · simp [hp]
  · simp [hp]
theorem pr_ret {i : ClassFile.Instr} {r : Option Value} (hd : decode (pm_Ec E) pc = .ok (i, len)) (hw : pm_w i len = true) (hr : pm_r E i st = some r) : pm_run E pc L st μ = some (r, μ) := pm_run_ret hd hw hr
theorem pr_zret {x : Int32} (hd : decode (pm_Ec E) pc = .ok (.ireturn, 1)) (hE : pm_Er E = some .boolean) (hx : x &&& 1 = x) : pm_run E pc L [.int x] μ = some (some (.int x), μ) := by
  refine pm_run_ret hd rfl ?_
  unfold pm_r
  simp only [hE, hx, if_true]
theorem pr_get {k i c f : Nat} {v : Value} (hd : decode (pm_Ec E) pc = .ok (.getfield k, 3)) (hg : pm_Eg E k = some (c, f)) (hk : (pm_k i).1 = c) (hi : i < μ.1) (hv : pm_g μ i f (pm_ty c f) = v) : pm_run E pc L (.ref i :: st) μ = pm_run E (pc + 3) L (v :: st) μ := by
  subst hv
  exact pr_2 hd rfl rfl rfl (t := (pc + 3, L, _ :: st, μ)) (by simp only [pm_s2, hg, hk, hi, and_self, if_true])
theorem pr_put {k i c f : Nat} {v : Value} {μ' : pm_M} (hd : decode (pm_Ec E) pc = .ok (.putfield k, 3)) (hg : pm_Ep E k = some (c, f)) (hk : (pm_k i).1 = c) (hi : i < μ.1) (hv : pm_p μ i f (pm_ty c f) v = some μ') : pm_run E pc L (v :: .ref i :: st) μ = pm_run E (pc + 3) L st μ' := by
  exact pr_2 hd rfl rfl rfl (t := (pc + 3, L, st, μ')) (by simp only [pm_s2, hg, hk, hi, and_self, if_true, hv, Option.map_some])
theorem pr_V {k n c i : Nat} {F : pm_F} {as rest : List Value} (hd : decode (pm_Ec E) pc = .ok (.invokevirtual k, 3)) (hf : pm_Ef E k = some (0, n, c, F)) (hs : st.drop n = .ref i :: rest) (ha : (st.take n).reverse = as) (hk : (pm_k i).1 = c) (hi : i < μ.1) (hr : rest.length ≤ 4) : pm_run E pc L st μ = (F (.ref i :: as) μ).bind fun r => pm_run E (pc + 3) L (r.1.toList ++ rest) r.2 := by
  subst ha
  cases hF : F (.ref i :: (st.take n).reverse) μ with
  | none => exact pm_run_none hd rfl rfl (by simp only [pm_s, pm_s1, pm_s2, hf, hs, hk, hi, hr, and_self, if_true, hF, Option.map_none])
  | some r => exact pr_2 hd rfl rfl rfl (t := (pc + 3, L, r.1.toList ++ rest, r.2)) (by simp only [pm_s2, hf, hs, hk, hi, hr, and_self, if_true, hF, Option.map_some])
theorem pr_S {k n c : Nat} {F : pm_F} {as rest : List Value} (hd : decode (pm_Ec E) pc = .ok (.invokestatic k, 3)) (hn : pm_En E k = none) (hf : pm_Ef E k = some (1, n, c, F)) (hs : st.drop n = rest) (ha : (st.take n).reverse = as) (hl : n ≤ st.length) (hr : rest.length ≤ 4) : pm_run E pc L st μ = (F as μ).bind fun r => pm_run E (pc + 3) L (r.1.toList ++ rest) r.2 := by
  subst ha
  subst hs
  cases hF : F (st.take n).reverse μ with
  | none => exact pm_run_none hd rfl rfl (by simp only [pm_s, pm_s1, pm_s2, hf, hn, hl, hr, and_self, if_true, hF, Option.map_none])
  | some r => exact pr_2 hd rfl rfl rfl (t := (pc + 3, L, r.1.toList ++ st.drop n, r.2)) (by simp only [pm_s2, hf, hn, hl, hr, and_self, if_true, hF, Option.map_some])
theorem pr_I {k n c i : Nat} {F : pm_F} {as rest : List Value} (hd : decode (pm_Ec E) pc = .ok (.invokespecial k, 3)) (hn : pm_En E k = none) (hf : pm_Ef E k = some (2, n, c, F)) (hs : st.drop n = .ref i :: rest) (ha : (st.take n).reverse = as) (hi : i < μ.1) (hr : rest.length ≤ 4) : pm_run E pc L st μ = (F (.ref i :: as) μ).bind fun r => pm_run E (pc + 3) L (r.1.toList ++ rest) r.2 := by
  subst ha
  cases hF : F (.ref i :: (st.take n).reverse) μ with
  | none => exact pm_run_none hd rfl rfl (by simp only [pm_s, pm_s1, pm_s2, hf, hn, hs, hi, hr, and_self, if_true, hF, Option.map_none])
  | some r => exact pr_2 hd rfl rfl rfl (t := (pc + 3, L, r.1.toList ++ rest, r.2)) (by simp only [pm_s2, hf, hn, hs, hi, hr, and_self, if_true, hF, Option.map_some])
end RULES
end
