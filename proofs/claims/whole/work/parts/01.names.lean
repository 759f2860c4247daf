-- ===== PART A: goes FIRST, ahead of the names: the tables' words, and 'selects' of the private methods out of them =====
/-- a private method of a class that the tables say can be made, by its rows of tables_1 -/
def lw_okq (q : MethodName × Nat) : Prop := (q.1.cls ≠ "java/lang/invoke/MethodHandle" ∧ q.1.cls ≠ "java/lang/invoke/VarHandle") ∧ Cond.instantiable q.1.cls q.2 ∈ tables_1 ∧ Cond.privateMethod q.1 ∈ tables_1 ∧ Cond.instanceMethod q.1 ∈ tables_1
theorem lw_p0 : lw_okq (⟨"ScoreFormulas", "placesAreRight", "(III)Z"⟩, 7) := ⟨⟨by decide +kernel, by decide +kernel⟩, List.mem_of_getElem? (i := 12) (by decide +kernel), List.mem_of_getElem? (i := 302) (by decide +kernel), List.mem_of_getElem? (i := 303) (by decide +kernel)⟩
theorem lw_p1 : lw_okq (⟨"ScoreFormulas", "isFormula", "(I)Z"⟩, 7) := ⟨⟨by decide +kernel, by decide +kernel⟩, List.mem_of_getElem? (i := 12) (by decide +kernel), List.mem_of_getElem? (i := 309) (by decide +kernel), List.mem_of_getElem? (i := 310) (by decide +kernel)⟩
theorem lw_p2 : lw_okq (⟨"ScoreFormulas$Formula", "prove", "()V"⟩, 15) := ⟨⟨by decide +kernel, by decide +kernel⟩, List.mem_of_getElem? (i := 107) (by decide +kernel), List.mem_of_getElem? (i := 340) (by decide +kernel), List.mem_of_getElem? (i := 341) (by decide +kernel)⟩
theorem lw_p3 : lw_okq (⟨"ScoreFormulas$Formula", "isSafe", "()Z"⟩, 15) := ⟨⟨by decide +kernel, by decide +kernel⟩, List.mem_of_getElem? (i := 107) (by decide +kernel), List.mem_of_getElem? (i := 344) (by decide +kernel), List.mem_of_getElem? (i := 345) (by decide +kernel)⟩
theorem lw_p4 : lw_okq (⟨"ScoreFormulas$Formula", "risesByKind", "()I"⟩, 15) := ⟨⟨by decide +kernel, by decide +kernel⟩, List.mem_of_getElem? (i := 107) (by decide +kernel), List.mem_of_getElem? (i := 348) (by decide +kernel), List.mem_of_getElem? (i := 349) (by decide +kernel)⟩
theorem lw_p5 : lw_okq (⟨"ScoreFormulas$Scorer", "ask", "(LScoreFormulas$Formula;I)D"⟩, 9) := ⟨⟨by decide +kernel, by decide +kernel⟩, List.mem_of_getElem? (i := 57) (by decide +kernel), List.mem_of_getElem? (i := 371) (by decide +kernel), List.mem_of_getElem? (i := 372) (by decide +kernel)⟩
theorem lw_p6 : lw_okq (⟨"ScoreFormulas$Scorer", "fail", "(LScoreFormulas$Formula;I)D"⟩, 9) := ⟨⟨by decide +kernel, by decide +kernel⟩, List.mem_of_getElem? (i := 57) (by decide +kernel), List.mem_of_getElem? (i := 375) (by decide +kernel), List.mem_of_getElem? (i := 376) (by decide +kernel)⟩
theorem lw_p7 : lw_okq (⟨"ScoreFormulas$Scorer", "askElse", "(LScoreFormulas$Formula;I)D"⟩, 9) := ⟨⟨by decide +kernel, by decide +kernel⟩, List.mem_of_getElem? (i := 57) (by decide +kernel), List.mem_of_getElem? (i := 379) (by decide +kernel), List.mem_of_getElem? (i := 380) (by decide +kernel)⟩
theorem lw_p8 : lw_okq (⟨"ScoreFormulas$Scorer", "workAlone", "(LScoreFormulas$Formula;)D"⟩, 9) := ⟨⟨by decide +kernel, by decide +kernel⟩, List.mem_of_getElem? (i := 57) (by decide +kernel), List.mem_of_getElem? (i := 387) (by decide +kernel), List.mem_of_getElem? (i := 388) (by decide +kernel)⟩
theorem lw_p9 : lw_okq (⟨"ScoreFormulas$Scorer", "saturated", "(DD)D"⟩, 9) := ⟨⟨by decide +kernel, by decide +kernel⟩, List.mem_of_getElem? (i := 57) (by decide +kernel), List.mem_of_getElem? (i := 403) (by decide +kernel), List.mem_of_getElem? (i := 404) (by decide +kernel)⟩
theorem lw_p10 : lw_okq (⟨"ScoreFormulas$Scorer", "normed", "(LScoreFormulas$Formula;)D"⟩, 9) := ⟨⟨by decide +kernel, by decide +kernel⟩, List.mem_of_getElem? (i := 57) (by decide +kernel), List.mem_of_getElem? (i := 417) (by decide +kernel), List.mem_of_getElem? (i := 418) (by decide +kernel)⟩
theorem lw_p11 : lw_okq (⟨"ScoreFormulas$Scorer", "filled", "(I)D"⟩, 9) := ⟨⟨by decide +kernel, by decide +kernel⟩, List.mem_of_getElem? (i := 57) (by decide +kernel), List.mem_of_getElem? (i := 435) (by decide +kernel), List.mem_of_getElem? (i := 436) (by decide +kernel)⟩
theorem lw_p12 : lw_okq (⟨"ScoreFormulas$Scorer", "workParts", "(LScoreFormulas$Formula;I)D"⟩, 9) := ⟨⟨by decide +kernel, by decide +kernel⟩, List.mem_of_getElem? (i := 57) (by decide +kernel), List.mem_of_getElem? (i := 447) (by decide +kernel), List.mem_of_getElem? (i := 448) (by decide +kernel)⟩
theorem lw_p13 : lw_okq (⟨"ScoreFormulas$Scorer", "sum", "(II)D"⟩, 9) := ⟨⟨by decide +kernel, by decide +kernel⟩, List.mem_of_getElem? (i := 57) (by decide +kernel), List.mem_of_getElem? (i := 451) (by decide +kernel), List.mem_of_getElem? (i := 452) (by decide +kernel)⟩
theorem lw_p14 : lw_okq (⟨"ScoreFormulas$Scorer", "product", "(II)D"⟩, 9) := ⟨⟨by decide +kernel, by decide +kernel⟩, List.mem_of_getElem? (i := 57) (by decide +kernel), List.mem_of_getElem? (i := 455) (by decide +kernel), List.mem_of_getElem? (i := 456) (by decide +kernel)⟩
theorem lw_p15 : lw_okq (⟨"ScoreFormulas$Scorer", "best", "(IID)D"⟩, 9) := ⟨⟨by decide +kernel, by decide +kernel⟩, List.mem_of_getElem? (i := 57) (by decide +kernel), List.mem_of_getElem? (i := 459) (by decide +kernel), List.mem_of_getElem? (i := 460) (by decide +kernel)⟩
def lw_privs_1 : List (MethodName × Nat) := [(⟨"ScoreFormulas", "placesAreRight", "(III)Z"⟩, 7), (⟨"ScoreFormulas", "isFormula", "(I)Z"⟩, 7), (⟨"ScoreFormulas$Formula", "prove", "()V"⟩, 15), (⟨"ScoreFormulas$Formula", "isSafe", "()Z"⟩, 15), (⟨"ScoreFormulas$Formula", "risesByKind", "()I"⟩, 15), (⟨"ScoreFormulas$Scorer", "ask", "(LScoreFormulas$Formula;I)D"⟩, 9), (⟨"ScoreFormulas$Scorer", "fail", "(LScoreFormulas$Formula;I)D"⟩, 9), (⟨"ScoreFormulas$Scorer", "askElse", "(LScoreFormulas$Formula;I)D"⟩, 9), (⟨"ScoreFormulas$Scorer", "workAlone", "(LScoreFormulas$Formula;)D"⟩, 9), (⟨"ScoreFormulas$Scorer", "saturated", "(DD)D"⟩, 9), (⟨"ScoreFormulas$Scorer", "normed", "(LScoreFormulas$Formula;)D"⟩, 9), (⟨"ScoreFormulas$Scorer", "filled", "(I)D"⟩, 9), (⟨"ScoreFormulas$Scorer", "workParts", "(LScoreFormulas$Formula;I)D"⟩, 9), (⟨"ScoreFormulas$Scorer", "sum", "(II)D"⟩, 9), (⟨"ScoreFormulas$Scorer", "product", "(II)D"⟩, 9), (⟨"ScoreFormulas$Scorer", "best", "(IID)D"⟩, 9)]
theorem lw_r1 : ∀ q ∈ lw_privs_1, lw_okq q := List.forall_mem_cons.mpr ⟨lw_p0, List.forall_mem_cons.mpr ⟨lw_p1, List.forall_mem_cons.mpr ⟨lw_p2, List.forall_mem_cons.mpr ⟨lw_p3, List.forall_mem_cons.mpr ⟨lw_p4, List.forall_mem_cons.mpr ⟨lw_p5, List.forall_mem_cons.mpr ⟨lw_p6, List.forall_mem_cons.mpr ⟨lw_p7, List.forall_mem_cons.mpr ⟨lw_p8, List.forall_mem_cons.mpr ⟨lw_p9, List.forall_mem_cons.mpr ⟨lw_p10, List.forall_mem_cons.mpr ⟨lw_p11, List.forall_mem_cons.mpr ⟨lw_p12, List.forall_mem_cons.mpr ⟨lw_p13, List.forall_mem_cons.mpr ⟨lw_p14, List.forall_mem_cons.mpr ⟨lw_p15, fun _ h => absurd h List.not_mem_nil⟩⟩⟩⟩⟩⟩⟩⟩⟩⟩⟩⟩⟩⟩⟩⟩
theorem lw_p16 : lw_okq (⟨"ScoreFormulas$Scorer", "decay", "(DDD)D"⟩, 9) := ⟨⟨by decide +kernel, by decide +kernel⟩, List.mem_of_getElem? (i := 57) (by decide +kernel), List.mem_of_getElem? (i := 466) (by decide +kernel), List.mem_of_getElem? (i := 467) (by decide +kernel)⟩
theorem lw_p17 : lw_okq (⟨"ScoreFormulas$Scorer", "near", "(DDD)D"⟩, 9) := ⟨⟨by decide +kernel, by decide +kernel⟩, List.mem_of_getElem? (i := 57) (by decide +kernel), List.mem_of_getElem? (i := 471) (by decide +kernel), List.mem_of_getElem? (i := 472) (by decide +kernel)⟩
theorem lw_p18 : lw_okq (⟨"ScoreFormulas$Scorer", "judge", "(LScoreFormulas$Formula;D)D"⟩, 9) := ⟨⟨by decide +kernel, by decide +kernel⟩, List.mem_of_getElem? (i := 57) (by decide +kernel), List.mem_of_getElem? (i := 479) (by decide +kernel), List.mem_of_getElem? (i := 480) (by decide +kernel)⟩
theorem lw_p19 : lw_okq (⟨"ScoreFormulas", "howManyAheadOf", "(I)I"⟩, 7) := ⟨⟨by decide +kernel, by decide +kernel⟩, List.mem_of_getElem? (i := 12) (by decide +kernel), List.mem_of_getElem? (i := 506) (by decide +kernel), List.mem_of_getElem? (i := 507) (by decide +kernel)⟩
theorem lw_p20 : lw_okq (⟨"ScoreFormulas", "goesAhead", "(II)Z"⟩, 7) := ⟨⟨by decide +kernel, by decide +kernel⟩, List.mem_of_getElem? (i := 12) (by decide +kernel), List.mem_of_getElem? (i := 510) (by decide +kernel), List.mem_of_getElem? (i := 511) (by decide +kernel)⟩
theorem lw_p21 : lw_okq (⟨"ScoreFormulasModel", "averageOf", "(I)D"⟩, 32) := ⟨⟨by decide +kernel, by decide +kernel⟩, List.mem_of_getElem? (i := 530) (by decide +kernel), List.mem_of_getElem? (i := 680) (by decide +kernel), List.mem_of_getElem? (i := 681) (by decide +kernel)⟩
theorem lw_p22 : lw_okq (⟨"ScoreFormulasModel", "isFormula", "(I)Z"⟩, 32) := ⟨⟨by decide +kernel, by decide +kernel⟩, List.mem_of_getElem? (i := 530) (by decide +kernel), List.mem_of_getElem? (i := 709) (by decide +kernel), List.mem_of_getElem? (i := 710) (by decide +kernel)⟩
theorem lw_p23 : lw_okq (⟨"ScoreFormulasModel", "judge", "(I)V"⟩, 32) := ⟨⟨by decide +kernel, by decide +kernel⟩, List.mem_of_getElem? (i := 530) (by decide +kernel), List.mem_of_getElem? (i := 713) (by decide +kernel), List.mem_of_getElem? (i := 714) (by decide +kernel)⟩
theorem lw_p24 : lw_okq (⟨"ScoreFormulasModel", "work", "(II)V"⟩, 32) := ⟨⟨by decide +kernel, by decide +kernel⟩, List.mem_of_getElem? (i := 530) (by decide +kernel), List.mem_of_getElem? (i := 725) (by decide +kernel), List.mem_of_getElem? (i := 726) (by decide +kernel)⟩
theorem lw_p25 : lw_okq (⟨"ScoreFormulasModel", "begin", "(I)V"⟩, 32) := ⟨⟨by decide +kernel, by decide +kernel⟩, List.mem_of_getElem? (i := 530) (by decide +kernel), List.mem_of_getElem? (i := 729) (by decide +kernel), List.mem_of_getElem? (i := 730) (by decide +kernel)⟩
theorem lw_p26 : lw_okq (⟨"ScoreFormulasModel", "worked", "(IIDD)D"⟩, 32) := ⟨⟨by decide +kernel, by decide +kernel⟩, List.mem_of_getElem? (i := 530) (by decide +kernel), List.mem_of_getElem? (i := 733) (by decide +kernel), List.mem_of_getElem? (i := 734) (by decide +kernel)⟩
theorem lw_p27 : lw_okq (⟨"ScoreFormulasModel", "fail", "(I)V"⟩, 32) := ⟨⟨by decide +kernel, by decide +kernel⟩, List.mem_of_getElem? (i := 530) (by decide +kernel), List.mem_of_getElem? (i := 761) (by decide +kernel), List.mem_of_getElem? (i := 762) (by decide +kernel)⟩
theorem lw_p28 : lw_okq (⟨"ScoreFormulasModel", "give", "(D)V"⟩, 32) := ⟨⟨by decide +kernel, by decide +kernel⟩, List.mem_of_getElem? (i := 530) (by decide +kernel), List.mem_of_getElem? (i := 765) (by decide +kernel), List.mem_of_getElem? (i := 766) (by decide +kernel)⟩
def lw_privs_2 : List (MethodName × Nat) := [(⟨"ScoreFormulas$Scorer", "decay", "(DDD)D"⟩, 9), (⟨"ScoreFormulas$Scorer", "near", "(DDD)D"⟩, 9), (⟨"ScoreFormulas$Scorer", "judge", "(LScoreFormulas$Formula;D)D"⟩, 9), (⟨"ScoreFormulas", "howManyAheadOf", "(I)I"⟩, 7), (⟨"ScoreFormulas", "goesAhead", "(II)Z"⟩, 7), (⟨"ScoreFormulasModel", "averageOf", "(I)D"⟩, 32), (⟨"ScoreFormulasModel", "isFormula", "(I)Z"⟩, 32), (⟨"ScoreFormulasModel", "judge", "(I)V"⟩, 32), (⟨"ScoreFormulasModel", "work", "(II)V"⟩, 32), (⟨"ScoreFormulasModel", "begin", "(I)V"⟩, 32), (⟨"ScoreFormulasModel", "worked", "(IIDD)D"⟩, 32), (⟨"ScoreFormulasModel", "fail", "(I)V"⟩, 32), (⟨"ScoreFormulasModel", "give", "(D)V"⟩, 32)]
theorem lw_r2 : ∀ q ∈ lw_privs_2, lw_okq q := List.forall_mem_cons.mpr ⟨lw_p16, List.forall_mem_cons.mpr ⟨lw_p17, List.forall_mem_cons.mpr ⟨lw_p18, List.forall_mem_cons.mpr ⟨lw_p19, List.forall_mem_cons.mpr ⟨lw_p20, List.forall_mem_cons.mpr ⟨lw_p21, List.forall_mem_cons.mpr ⟨lw_p22, List.forall_mem_cons.mpr ⟨lw_p23, List.forall_mem_cons.mpr ⟨lw_p24, List.forall_mem_cons.mpr ⟨lw_p25, List.forall_mem_cons.mpr ⟨lw_p26, List.forall_mem_cons.mpr ⟨lw_p27, List.forall_mem_cons.mpr ⟨lw_p28, fun _ h => absurd h List.not_mem_nil⟩⟩⟩⟩⟩⟩⟩⟩⟩⟩⟩⟩⟩
def lw_privs : List (MethodName × Nat) := lw_privs_1 ++ (lw_privs_2)
def lw_tbl : List Cond := k2_sels lw_privs ++ tables_1
theorem lw_privs_ok : ∀ q ∈ lw_privs, lw_okq q := by
  show ∀ q ∈ lw_privs_1 ++ (lw_privs_2), lw_okq q
  exact List.forall_mem_append.mpr ⟨lw_r1, lw_r2⟩
/-- the streams that the claim lets the run draw from -/
abbrev lw_cs : List Choice := [Jvm.Choice.named "NaN.bits", Jvm.Choice.named "NaN.copy"]
theorem lw_bits : nanBits ∈ lw_cs := by first | decide | exact List.mem_cons_self | simp [lw_cs, nanBits]
def RX0 : String := "ScoreFormulas$Doubles"
def TX0 : u_T := fun k => match k with
  | _ => ("", "", "", false)
def tyX0 : Nat → FieldType := fun k => match k with
  | _ => .int
theorem nmX0 : ∀ a, a < 0 → ∀ b, b < 0 → a ≠ b → (TX0 a).2.1 ≠ (TX0 b).2.1 := by decide +kernel
theorem tyX0_ok : ∀ k, k < 0 → parseFieldDescriptor (TX0 k).2.2.1 = some (tyX0 k) := by decide +kernel
abbrev cX0_isNumber : ByteArray := prog_2_method_2_code
def yX0_isNumber : MethodName := ⟨RX0, "isNumber", "(J)Z"⟩
abbrev cX0_fromBits : ByteArray := prog_2_method_3_code
def yX0_fromBits : MethodName := ⟨RX0, "fromBits", "(J)D"⟩
abbrev cX0_toBits : ByteArray := prog_2_method_4_code
def yX0_toBits : MethodName := ⟨RX0, "toBits", "(D)J"⟩
abbrev cX0_bitsOfSize : ByteArray := prog_2_method_5_code
def yX0_bitsOfSize : MethodName := ⟨RX0, "bitsOfSize", "(D)J"⟩
abbrev cX0_powerOfTwo : ByteArray := prog_2_method_6_code
def yX0_powerOfTwo : MethodName := ⟨RX0, "powerOfTwo", "(I)D"⟩
abbrev cX0_isEndless : ByteArray := prog_2_method_7_code
def yX0_isEndless : MethodName := ⟨RX0, "isEndless", "(D)Z"⟩
abbrev cX0_isNegativeZero : ByteArray := prog_2_method_8_code
def yX0_isNegativeZero : MethodName := ⟨RX0, "isNegativeZero", "(D)Z"⟩
abbrev cX0_sizeOf : ByteArray := prog_2_method_9_code
def yX0_sizeOf : MethodName := ⟨RX0, "sizeOf", "(D)D"⟩
abbrev cX0_greaterOf : ByteArray := prog_2_method_10_code
def yX0_greaterOf : MethodName := ⟨RX0, "greaterOf", "(DD)D"⟩
abbrev cX0_floorOf : ByteArray := prog_2_method_11_code
def yX0_floorOf : MethodName := ⟨RX0, "floorOf", "(D)D"⟩
abbrev cX0_rootOf : ByteArray := prog_2_method_12_code
def yX0_rootOf : MethodName := ⟨RX0, "rootOf", "(I)D"⟩
def RX1 : String := "ScoreFormulas$Formula"
def TX1 : u_T := fun k => match k with
  | 0 => ("ScoreFormulas$Formula", "number", "I", true)
  | 1 => ("ScoreFormulas$Formula", "kind", "I", false)
  | 2 => ("ScoreFormulas$Formula", "place", "I", false)
  | 3 => ("ScoreFormulas$Formula", "pIsNumber", "Z", false)
  | 4 => ("ScoreFormulas$Formula", "p", "D", false)
  | 5 => ("ScoreFormulas$Formula", "q", "D", false)
  | 6 => ("ScoreFormulas$Formula", "parts", "[LScoreFormulas$Formula;", true)
  | 7 => ("ScoreFormulas$Formula", "partCount", "I", false)
  | 8 => ("ScoreFormulas$Formula", "isPart", "Z", false)
  | 9 => ("ScoreFormulas$Formula", "size", "I", false)
  | 10 => ("ScoreFormulas$Formula", "safe", "Z", false)
  | 11 => ("ScoreFormulas$Formula", "leans", "I", false)
  | 12 => ("ScoreFormulas$Formula", "rises", "I", false)
  | 13 => ("ScoreFormulas$Formula", "partsSafe", "Z", false)
  | _ => ("ScoreFormulas$Formula", "partsRise", "I", false)
def tyX1 : Nat → FieldType := fun k => match k with
  | 0 => .int
  | 1 => .int
  | 2 => .int
  | 3 => .boolean
  | 4 => .double
  | 5 => .double
  | 6 => .array (.object "ScoreFormulas$Formula")
  | 7 => .int
  | 8 => .boolean
  | 9 => .int
  | 10 => .boolean
  | 11 => .int
  | 12 => .int
  | 13 => .boolean
  | _ => .int
theorem nmX1 : ∀ a, a < 15 → ∀ b, b < 15 → a ≠ b → (TX1 a).2.1 ≠ (TX1 b).2.1 := by decide +kernel
theorem tyX1_ok : ∀ k, k < 15 → parseFieldDescriptor (TX1 k).2.2.1 = some (tyX1 k) := by decide +kernel
abbrev cX1_init : ByteArray := prog_3_method_1_code
def yX1_init : MethodName := ⟨RX1, "<init>", "(I)V"⟩
abbrev cX1_begin : ByteArray := prog_3_method_2_code
def yX1_begin : MethodName := ⟨RX1, "begin", "(IIJJ)V"⟩
abbrev cX1_addPart : ByteArray := prog_3_method_3_code
def yX1_addPart : MethodName := ⟨RX1, "addPart", "(LScoreFormulas$Formula;)V"⟩
abbrev cX1_prove : ByteArray := prog_3_method_4_code
def yX1_prove : MethodName := ⟨RX1, "prove", "()V"⟩
abbrev cX1_isSafe : ByteArray := prog_3_method_5_code
def yX1_isSafe : MethodName := ⟨RX1, "isSafe", "()Z"⟩
abbrev cX1_risesByKind : ByteArray := prog_3_method_6_code
def yX1_risesByKind : MethodName := ⟨RX1, "risesByKind", "()I"⟩
def RX2 : String := "ScoreFormulas$Kinds"
def TX2 : u_T := fun k => match k with
  | _ => ("", "", "", false)
def tyX2 : Nat → FieldType := fun k => match k with
  | _ => .int
theorem nmX2 : ∀ a, a < 0 → ∀ b, b < 0 → a ≠ b → (TX2 a).2.1 ≠ (TX2 b).2.1 := by decide +kernel
theorem tyX2_ok : ∀ k, k < 0 → parseFieldDescriptor (TX2 k).2.2.1 = some (tyX2 k) := by decide +kernel
abbrev cX2_hasField : ByteArray := prog_4_method_2_code
def yX2_hasField : MethodName := ⟨RX2, "hasField", "(I)Z"⟩
abbrev cX2_gathers : ByteArray := prog_4_method_3_code
def yX2_gathers : MethodName := ⟨RX2, "gathers", "(I)Z"⟩
abbrev cX2_hasX : ByteArray := prog_4_method_4_code
def yX2_hasX : MethodName := ⟨RX2, "hasX", "(I)Z"⟩
abbrev cX2_failsBelow : ByteArray := prog_4_method_5_code
def yX2_failsBelow : MethodName := ⟨RX2, "failsBelow", "(I)Z"⟩
abbrev cX2_takes : ByteArray := prog_4_method_6_code
def yX2_takes : MethodName := ⟨RX2, "takes", "(IJJ)Z"⟩
abbrev cX2_isNotBelow : ByteArray := prog_4_method_7_code
def yX2_isNotBelow : MethodName := ⟨RX2, "isNotBelow", "(J)Z"⟩
abbrev cX2_isShare : ByteArray := prog_4_method_8_code
def yX2_isShare : MethodName := ⟨RX2, "isShare", "(J)Z"⟩
abbrev cX2_isAbove : ByteArray := prog_4_method_9_code
def yX2_isAbove : MethodName := ⟨RX2, "isAbove", "(J)Z"⟩
def RX3 : String := "ScoreFormulas$Packing"
def TX3 : u_T := fun k => match k with
  | _ => ("", "", "", false)
def tyX3 : Nat → FieldType := fun k => match k with
  | _ => .int
theorem nmX3 : ∀ a, a < 0 → ∀ b, b < 0 → a ≠ b → (TX3 a).2.1 ≠ (TX3 b).2.1 := by decide +kernel
theorem tyX3_ok : ∀ k, k < 0 → parseFieldDescriptor (TX3 k).2.2.1 = some (tyX3 k) := by decide +kernel
abbrev cX3_valueOf : ByteArray := prog_5_method_2_code
def yX3_valueOf : MethodName := ⟨RX3, "valueOf", "(I)I"⟩
abbrev cX3_codeOf : ByteArray := prog_5_method_3_code
def yX3_codeOf : MethodName := ⟨RX3, "codeOf", "(I)I"⟩
def RX4 : String := "ScoreFormulas$Reckoner"
def TX4 : u_T := fun k => match k with
  | _ => ("ScoreFormulas$Reckoner", "lost", "Z", false)
def tyX4 : Nat → FieldType := fun k => match k with
  | _ => .boolean
theorem nmX4 : ∀ a, a < 1 → ∀ b, b < 1 → a ≠ b → (TX4 a).2.1 ≠ (TX4 b).2.1 := by decide +kernel
theorem tyX4_ok : ∀ k, k < 1 → parseFieldDescriptor (TX4 k).2.2.1 = some (tyX4 k) := by decide +kernel
abbrev cX4_init : ByteArray := prog_6_method_1_code
def yX4_init : MethodName := ⟨RX4, "<init>", "()V"⟩
abbrev cX4_begin : ByteArray := prog_6_method_2_code
def yX4_begin : MethodName := ⟨RX4, "begin", "()V"⟩
abbrev cX4_isLost : ByteArray := prog_6_method_3_code
def yX4_isLost : MethodName := ⟨RX4, "isLost", "()Z"⟩
abbrev cX4_lose : ByteArray := prog_6_method_4_code
def yX4_lose : MethodName := ⟨RX4, "lose", "()D"⟩
abbrev cX4_plus : ByteArray := prog_6_method_5_code
def yX4_plus : MethodName := ⟨RX4, "plus", "(DD)D"⟩
abbrev cX4_minus : ByteArray := prog_6_method_6_code
def yX4_minus : MethodName := ⟨RX4, "minus", "(DD)D"⟩
abbrev cX4_times : ByteArray := prog_6_method_7_code
def yX4_times : MethodName := ⟨RX4, "times", "(DD)D"⟩
abbrev cX4_over : ByteArray := prog_6_method_8_code
def yX4_over : MethodName := ⟨RX4, "over", "(DD)D"⟩
def RX5 : String := "ScoreFormulas$Scorer"
def TX5 : u_T := fun k => match k with
  | 0 => ("ScoreFormulas$Scorer", "failure", "I", false)
  | 1 => ("ScoreFormulas$Scorer", "culprit", "I", false)
  | 2 => ("ScoreFormulas$Scorer", "asked", "I", false)
  | 3 => ("ScoreFormulas$Scorer", "caught", "I", false)
  | 4 => ("ScoreFormulas$Scorer", "deepest", "I", false)
  | 5 => ("ScoreFormulas$Scorer", "object", "I", false)
  | 6 => ("ScoreFormulas$Scorer", "shelf", "LScoreFormulas$Shelf;", true)
  | 7 => ("ScoreFormulas$Scorer", "reckoner", "LScoreFormulas$Reckoner;", true)
  | _ => ("ScoreFormulas$Scorer", "partValues", "[D", true)
def tyX5 : Nat → FieldType := fun k => match k with
  | 0 => .int
  | 1 => .int
  | 2 => .int
  | 3 => .int
  | 4 => .int
  | 5 => .int
  | 6 => .object "ScoreFormulas$Shelf"
  | 7 => .object "ScoreFormulas$Reckoner"
  | _ => .array .double
theorem nmX5 : ∀ a, a < 9 → ∀ b, b < 9 → a ≠ b → (TX5 a).2.1 ≠ (TX5 b).2.1 := by decide +kernel
theorem tyX5_ok : ∀ k, k < 9 → parseFieldDescriptor (TX5 k).2.2.1 = some (tyX5 k) := by decide +kernel
abbrev cX5_init : ByteArray := prog_7_method_1_code
def yX5_init : MethodName := ⟨RX5, "<init>", "(LScoreFormulas$Shelf;)V"⟩
abbrev cX5_valueOf : ByteArray := prog_7_method_2_code
def yX5_valueOf : MethodName := ⟨RX5, "valueOf", "(LScoreFormulas$Formula;I)D"⟩
abbrev cX5_ask : ByteArray := prog_7_method_3_code
def yX5_ask : MethodName := ⟨RX5, "ask", "(LScoreFormulas$Formula;I)D"⟩
abbrev cX5_askElse : ByteArray := prog_7_method_4_code
def yX5_askElse : MethodName := ⟨RX5, "askElse", "(LScoreFormulas$Formula;I)D"⟩
abbrev cX5_fail : ByteArray := prog_7_method_5_code
def yX5_fail : MethodName := ⟨RX5, "fail", "(LScoreFormulas$Formula;I)D"⟩
abbrev cX5_judge : ByteArray := prog_7_method_6_code
def yX5_judge : MethodName := ⟨RX5, "judge", "(LScoreFormulas$Formula;D)D"⟩
abbrev cX5_workAlone : ByteArray := prog_7_method_7_code
def yX5_workAlone : MethodName := ⟨RX5, "workAlone", "(LScoreFormulas$Formula;)D"⟩
abbrev cX5_workParts : ByteArray := prog_7_method_8_code
def yX5_workParts : MethodName := ⟨RX5, "workParts", "(LScoreFormulas$Formula;I)D"⟩
abbrev cX5_filled : ByteArray := prog_7_method_9_code
def yX5_filled : MethodName := ⟨RX5, "filled", "(I)D"⟩
abbrev cX5_saturated : ByteArray := prog_7_method_10_code
def yX5_saturated : MethodName := ⟨RX5, "saturated", "(DD)D"⟩
abbrev cX5_normed : ByteArray := prog_7_method_11_code
def yX5_normed : MethodName := ⟨RX5, "normed", "(LScoreFormulas$Formula;)D"⟩
abbrev cX5_sum : ByteArray := prog_7_method_12_code
def yX5_sum : MethodName := ⟨RX5, "sum", "(II)D"⟩
abbrev cX5_product : ByteArray := prog_7_method_13_code
def yX5_product : MethodName := ⟨RX5, "product", "(II)D"⟩
abbrev cX5_best : ByteArray := prog_7_method_14_code
def yX5_best : MethodName := ⟨RX5, "best", "(IID)D"⟩
abbrev cX5_decay : ByteArray := prog_7_method_15_code
def yX5_decay : MethodName := ⟨RX5, "decay", "(DDD)D"⟩
abbrev cX5_near : ByteArray := prog_7_method_16_code
def yX5_near : MethodName := ⟨RX5, "near", "(DDD)D"⟩
def RX6 : String := "ScoreFormulas$Shelf"
def TX6 : u_T := fun k => match k with
  | 0 => ("ScoreFormulas$Shelf", "counts", "[I", true)
  | 1 => ("ScoreFormulas$Shelf", "roots", "[D", true)
  | 2 => ("ScoreFormulas$Shelf", "lengths", "[I", true)
  | 3 => ("ScoreFormulas$Shelf", "lengthSums", "[I", true)
  | 4 => ("ScoreFormulas$Shelf", "lengthsNotZero", "[I", true)
  | 5 => ("ScoreFormulas$Shelf", "columnFilled", "[Z", true)
  | 6 => ("ScoreFormulas$Shelf", "columns", "[D", true)
  | 7 => ("ScoreFormulas$Shelf", "averageGiven", "[Z", true)
  | _ => ("ScoreFormulas$Shelf", "averages", "[D", true)
def tyX6 : Nat → FieldType := fun k => match k with
  | 0 => .array .int
  | 1 => .array .double
  | 2 => .array .int
  | 3 => .array .int
  | 4 => .array .int
  | 5 => .array .boolean
  | 6 => .array .double
  | 7 => .array .boolean
  | _ => .array .double
theorem nmX6 : ∀ a, a < 9 → ∀ b, b < 9 → a ≠ b → (TX6 a).2.1 ≠ (TX6 b).2.1 := by decide +kernel
theorem tyX6_ok : ∀ k, k < 9 → parseFieldDescriptor (TX6 k).2.2.1 = some (tyX6 k) := by decide +kernel
abbrev cX6_init : ByteArray := prog_8_method_1_code
def yX6_init : MethodName := ⟨RX6, "<init>", "()V"⟩
abbrev cX6_put : ByteArray := prog_8_method_2_code
def yX6_put : MethodName := ⟨RX6, "put", "(IIII)V"⟩
abbrev cX6_countOf : ByteArray := prog_8_method_3_code
def yX6_countOf : MethodName := ⟨RX6, "countOf", "(II)D"⟩
abbrev cX6_rootOfCount : ByteArray := prog_8_method_4_code
def yX6_rootOfCount : MethodName := ⟨RX6, "rootOfCount", "(II)D"⟩
abbrev cX6_lengthOf : ByteArray := prog_8_method_5_code
def yX6_lengthOf : MethodName := ⟨RX6, "lengthOf", "(II)D"⟩
abbrev cX6_fillColumn : ByteArray := prog_8_method_6_code
def yX6_fillColumn : MethodName := ⟨RX6, "fillColumn", "(IIJ)V"⟩
abbrev cX6_hasColumn : ByteArray := prog_8_method_7_code
def yX6_hasColumn : MethodName := ⟨RX6, "hasColumn", "(II)Z"⟩
abbrev cX6_columnOf : ByteArray := prog_8_method_8_code
def yX6_columnOf : MethodName := ⟨RX6, "columnOf", "(II)D"⟩
abbrev cX6_giveAverage : ByteArray := prog_8_method_9_code
def yX6_giveAverage : MethodName := ⟨RX6, "giveAverage", "(ID)V"⟩
abbrev cX6_giveNoAverage : ByteArray := prog_8_method_10_code
def yX6_giveNoAverage : MethodName := ⟨RX6, "giveNoAverage", "(I)V"⟩
abbrev cX6_hasAverage : ByteArray := prog_8_method_11_code
def yX6_hasAverage : MethodName := ⟨RX6, "hasAverage", "(I)Z"⟩
abbrev cX6_averageOf : ByteArray := prog_8_method_12_code
def yX6_averageOf : MethodName := ⟨RX6, "averageOf", "(I)D"⟩
abbrev cX6_reset : ByteArray := prog_8_method_13_code
def yX6_reset : MethodName := ⟨RX6, "reset", "()V"⟩
def RX7 : String := "ScoreFormulas"
def TX7 : u_T := fun k => match k with
  | 0 => ("ScoreFormulas", "shelf", "LScoreFormulas$Shelf;", true)
  | 1 => ("ScoreFormulas", "scorer", "LScoreFormulas$Scorer;", true)
  | 2 => ("ScoreFormulas", "formulas", "[LScoreFormulas$Formula;", true)
  | 3 => ("ScoreFormulas", "formulaCount", "I", false)
  | 4 => ("ScoreFormulas", "lastScore", "[I", true)
  | 5 => ("ScoreFormulas", "ranked", "[D", true)
  | _ => ("ScoreFormulas", "rankFails", "[Z", true)
def tyX7 : Nat → FieldType := fun k => match k with
  | 0 => .object "ScoreFormulas$Shelf"
  | 1 => .object "ScoreFormulas$Scorer"
  | 2 => .array (.object "ScoreFormulas$Formula")
  | 3 => .int
  | 4 => .array .int
  | 5 => .array .double
  | _ => .array .boolean
theorem nmX7 : ∀ a, a < 7 → ∀ b, b < 7 → a ≠ b → (TX7 a).2.1 ≠ (TX7 b).2.1 := by decide +kernel
theorem tyX7_ok : ∀ k, k < 7 → parseFieldDescriptor (TX7 k).2.2.1 = some (tyX7 k) := by decide +kernel
abbrev cX7_init : ByteArray := prog_1_method_1_code
def yX7_init : MethodName := ⟨RX7, "<init>", "()V"⟩
abbrev cX7_tell : ByteArray := prog_1_method_2_code
def yX7_tell : MethodName := ⟨RX7, "tell", "(IIII)I"⟩
abbrev cX7_column : ByteArray := prog_1_method_3_code
def yX7_column : MethodName := ⟨RX7, "column", "(IIJ)I"⟩
abbrev cX7_given : ByteArray := prog_1_method_4_code
def yX7_given : MethodName := ⟨RX7, "given", "(IJ)I"⟩
abbrev cX7_average : ByteArray := prog_1_method_5_code
def yX7_average : MethodName := ⟨RX7, "average", "(I)J"⟩
abbrev cX7_packed : ByteArray := prog_1_method_6_code
def yX7_packed : MethodName := ⟨RX7, "packed", "(II)I"⟩
abbrev cX7_formula : ByteArray := prog_1_method_7_code
def yX7_formula : MethodName := ⟨RX7, "formula", "(IIIJJ)I"⟩
abbrev cX7_part : ByteArray := prog_1_method_8_code
def yX7_part : MethodName := ⟨RX7, "part", "(II)I"⟩
abbrev cX7_score : ByteArray := prog_1_method_9_code
def yX7_score : MethodName := ⟨RX7, "score", "(II)J"⟩
abbrev cX7_told : ByteArray := prog_1_method_10_code
def yX7_told : MethodName := ⟨RX7, "told", "(I)I"⟩
abbrev cX7_about : ByteArray := prog_1_method_11_code
def yX7_about : MethodName := ⟨RX7, "about", "(II)I"⟩
abbrev cX7_partOf : ByteArray := prog_1_method_12_code
def yX7_partOf : MethodName := ⟨RX7, "partOf", "(II)I"⟩
abbrev cX7_top : ByteArray := prog_1_method_13_code
def yX7_top : MethodName := ⟨RX7, "top", "(II)I"⟩
abbrev cX7_clear : ByteArray := prog_1_method_14_code
def yX7_clear : MethodName := ⟨RX7, "clear", "()I"⟩
abbrev cX7_forget : ByteArray := prog_1_method_15_code
def yX7_forget : MethodName := ⟨RX7, "forget", "()I"⟩
abbrev cX7_isIn : ByteArray := prog_1_method_16_code
def yX7_isIn : MethodName := ⟨RX7, "isIn", "(II)Z"⟩
abbrev cX7_isFormula : ByteArray := prog_1_method_17_code
def yX7_isFormula : MethodName := ⟨RX7, "isFormula", "(I)Z"⟩
abbrev cX7_placesAreRight : ByteArray := prog_1_method_18_code
def yX7_placesAreRight : MethodName := ⟨RX7, "placesAreRight", "(III)Z"⟩
abbrev cX7_sizeOf : ByteArray := prog_1_method_19_code
def yX7_sizeOf : MethodName := ⟨RX7, "sizeOf", "(LScoreFormulas$Formula;)I"⟩
abbrev cX7_howManyAheadOf : ByteArray := prog_1_method_20_code
def yX7_howManyAheadOf : MethodName := ⟨RX7, "howManyAheadOf", "(I)I"⟩
abbrev cX7_goesAhead : ByteArray := prog_1_method_21_code
def yX7_goesAhead : MethodName := ⟨RX7, "goesAhead", "(II)Z"⟩
def RX8 : String := "ScoreFormulasModel"
def TX8 : u_T := fun k => match k with
  | 0 => ("ScoreFormulasModel", "counts", "[I", true)
  | 1 => ("ScoreFormulasModel", "lengths", "[I", true)
  | 2 => ("ScoreFormulasModel", "cols", "[D", true)
  | 3 => ("ScoreFormulasModel", "averages", "[D", true)
  | 4 => ("ScoreFormulasModel", "isGiven", "[Z", true)
  | 5 => ("ScoreFormulasModel", "formulas", "I", false)
  | 6 => ("ScoreFormulasModel", "kinds", "[I", true)
  | 7 => ("ScoreFormulasModel", "fields", "[I", true)
  | 8 => ("ScoreFormulasModel", "ps", "[D", true)
  | 9 => ("ScoreFormulasModel", "qs", "[D", true)
  | 10 => ("ScoreFormulasModel", "many", "[I", true)
  | 11 => ("ScoreFormulasModel", "parts", "[I", true)
  | 12 => ("ScoreFormulasModel", "isPart", "[Z", true)
  | 13 => ("ScoreFormulasModel", "sizes", "[I", true)
  | 14 => ("ScoreFormulasModel", "leans", "[I", true)
  | 15 => ("ScoreFormulasModel", "rises", "[I", true)
  | 16 => ("ScoreFormulasModel", "safe", "[Z", true)
  | 17 => ("ScoreFormulasModel", "begun", "[I", true)
  | 18 => ("ScoreFormulasModel", "done", "[I", true)
  | 19 => ("ScoreFormulasModel", "all", "[D", true)
  | 20 => ("ScoreFormulasModel", "best", "[D", true)
  | 21 => ("ScoreFormulasModel", "deep", "I", false)
  | 22 => ("ScoreFormulasModel", "failure", "I", false)
  | 23 => ("ScoreFormulasModel", "failed", "I", false)
  | 24 => ("ScoreFormulasModel", "asked", "I", false)
  | 25 => ("ScoreFormulasModel", "caught", "I", false)
  | 26 => ("ScoreFormulasModel", "deepest", "I", false)
  | 27 => ("ScoreFormulasModel", "was", "Z", false)
  | 28 => ("ScoreFormulasModel", "result", "D", false)
  | 29 => ("ScoreFormulasModel", "kept", "[I", true)
  | 30 => ("ScoreFormulasModel", "fails", "[Z", true)
  | _ => ("ScoreFormulasModel", "values", "[D", true)
def tyX8 : Nat → FieldType := fun k => match k with
  | 0 => .array .int
  | 1 => .array .int
  | 2 => .array .double
  | 3 => .array .double
  | 4 => .array .boolean
  | 5 => .int
  | 6 => .array .int
  | 7 => .array .int
  | 8 => .array .double
  | 9 => .array .double
  | 10 => .array .int
  | 11 => .array .int
  | 12 => .array .boolean
  | 13 => .array .int
  | 14 => .array .int
  | 15 => .array .int
  | 16 => .array .boolean
  | 17 => .array .int
  | 18 => .array .int
  | 19 => .array .double
  | 20 => .array .double
  | 21 => .int
  | 22 => .int
  | 23 => .int
  | 24 => .int
  | 25 => .int
  | 26 => .int
  | 27 => .boolean
  | 28 => .double
  | 29 => .array .int
  | 30 => .array .boolean
  | _ => .array .double
theorem nmX8 : ∀ a, a < 32 → ∀ b, b < 32 → a ≠ b → (TX8 a).2.1 ≠ (TX8 b).2.1 := by decide +kernel
theorem tyX8_ok : ∀ k, k < 32 → parseFieldDescriptor (TX8 k).2.2.1 = some (tyX8 k) := by decide +kernel
abbrev cX8_init : ByteArray := prog_10_method_1_code
def yX8_init : MethodName := ⟨RX8, "<init>", "()V"⟩
abbrev cX8_clear : ByteArray := prog_10_method_2_code
def yX8_clear : MethodName := ⟨RX8, "clear", "()I"⟩
abbrev cX8_in : ByteArray := prog_10_method_3_code
def yX8_in : MethodName := ⟨RX8, "in", "(III)Z"⟩
abbrev cX8_tell : ByteArray := prog_10_method_4_code
def yX8_tell : MethodName := ⟨RX8, "tell", "(IIII)I"⟩
abbrev cX8_column : ByteArray := prog_10_method_5_code
def yX8_column : MethodName := ⟨RX8, "column", "(IIJ)I"⟩
abbrev cX8_given : ByteArray := prog_10_method_6_code
def yX8_given : MethodName := ⟨RX8, "given", "(IJ)I"⟩
abbrev cX8_valueOf : ByteArray := prog_10_method_7_code
def yX8_valueOf : MethodName := ⟨RX8, "valueOf", "(I)I"⟩
abbrev cX8_byteOf : ByteArray := prog_10_method_8_code
def yX8_byteOf : MethodName := ⟨RX8, "byteOf", "(I)I"⟩
abbrev cX8_packed : ByteArray := prog_10_method_9_code
def yX8_packed : MethodName := ⟨RX8, "packed", "(II)I"⟩
abbrev cX8_averageOf : ByteArray := prog_10_method_10_code
def yX8_averageOf : MethodName := ⟨RX8, "averageOf", "(I)D"⟩
abbrev cX8_average : ByteArray := prog_10_method_11_code
def yX8_average : MethodName := ⟨RX8, "average", "(I)J"⟩
abbrev cX8_isFormula : ByteArray := prog_10_method_12_code
def yX8_isFormula : MethodName := ⟨RX8, "isFormula", "(I)Z"⟩
abbrev cX8_isRight : ByteArray := prog_10_method_13_code
def yX8_isRight : MethodName := ⟨RX8, "isRight", "(IDD)Z"⟩
abbrev cX8_formula : ByteArray := prog_10_method_14_code
def yX8_formula : MethodName := ⟨RX8, "formula", "(IIIJJ)I"⟩
abbrev cX8_judge : ByteArray := prog_10_method_15_code
def yX8_judge : MethodName := ⟨RX8, "judge", "(I)V"⟩
abbrev cX8_part : ByteArray := prog_10_method_16_code
def yX8_part : MethodName := ⟨RX8, "part", "(II)I"⟩
abbrev cX8_noReal : ByteArray := prog_10_method_17_code
def yX8_noReal : MethodName := ⟨RX8, "noReal", "()D"⟩
abbrev cX8_realOfBits : ByteArray := prog_10_method_18_code
def yX8_realOfBits : MethodName := ⟨RX8, "realOfBits", "(J)D"⟩
abbrev cX8_isEndlessReal : ByteArray := prog_10_method_19_code
def yX8_isEndlessReal : MethodName := ⟨RX8, "isEndlessReal", "(D)Z"⟩
abbrev cX8_realPlus : ByteArray := prog_10_method_20_code
def yX8_realPlus : MethodName := ⟨RX8, "realPlus", "(DD)D"⟩
abbrev cX8_realLess : ByteArray := prog_10_method_21_code
def yX8_realLess : MethodName := ⟨RX8, "realLess", "(DD)D"⟩
abbrev cX8_realTimes : ByteArray := prog_10_method_22_code
def yX8_realTimes : MethodName := ⟨RX8, "realTimes", "(DD)D"⟩
abbrev cX8_realOver : ByteArray := prog_10_method_23_code
def yX8_realOver : MethodName := ⟨RX8, "realOver", "(DD)D"⟩
abbrev cX8_greater : ByteArray := prog_10_method_24_code
def yX8_greater : MethodName := ⟨RX8, "greater", "(DD)D"⟩
abbrev cX8_down : ByteArray := prog_10_method_25_code
def yX8_down : MethodName := ⟨RX8, "down", "(D)D"⟩
abbrev cX8_root : ByteArray := prog_10_method_26_code
def yX8_root : MethodName := ⟨RX8, "root", "(D)D"⟩
abbrev cX8_begin : ByteArray := prog_10_method_27_code
def yX8_begin : MethodName := ⟨RX8, "begin", "(I)V"⟩
abbrev cX8_worked : ByteArray := prog_10_method_28_code
def yX8_worked : MethodName := ⟨RX8, "worked", "(IIDD)D"⟩
abbrev cX8_give : ByteArray := prog_10_method_29_code
def yX8_give : MethodName := ⟨RX8, "give", "(D)V"⟩
abbrev cX8_fail : ByteArray := prog_10_method_30_code
def yX8_fail : MethodName := ⟨RX8, "fail", "(I)V"⟩
abbrev cX8_work : ByteArray := prog_10_method_31_code
def yX8_work : MethodName := ⟨RX8, "work", "(II)V"⟩
abbrev cX8_score : ByteArray := prog_10_method_32_code
def yX8_score : MethodName := ⟨RX8, "score", "(II)J"⟩
abbrev cX8_told : ByteArray := prog_10_method_33_code
def yX8_told : MethodName := ⟨RX8, "told", "(I)I"⟩
abbrev cX8_about : ByteArray := prog_10_method_34_code
def yX8_about : MethodName := ⟨RX8, "about", "(II)I"⟩
abbrev cX8_partOf : ByteArray := prog_10_method_35_code
def yX8_partOf : MethodName := ⟨RX8, "partOf", "(II)I"⟩
abbrev cX8_top : ByteArray := prog_10_method_36_code
def yX8_top : MethodName := ⟨RX8, "top", "(II)I"⟩
abbrev cX8_forget : ByteArray := prog_10_method_37_code
def yX8_forget : MethodName := ⟨RX8, "forget", "()I"⟩
def RJxe99ae : String := "java/lang/Double"
abbrev cJxe99ae_isNaN_b9ae7 : ByteArray := prog_11_method_6_code
def yJxe99ae_isNaN_b9ae7 : MethodName := ⟨RJxe99ae, "isNaN", "(D)Z"⟩
abbrev cJxe99ae_doubleToLongBits_ccdee : ByteArray := prog_11_method_23_code
def yJxe99ae_doubleToLongBits_ccdee : MethodName := ⟨RJxe99ae, "doubleToLongBits", "(D)J"⟩
def RL : String := "ScoreFormulasLaw"
abbrev cL_law : ByteArray := code
def yL_law : MethodName := ⟨RL, "law", "([I)Z"⟩
abbrev vwCl : List vw_C := [(RX1, TX1, 15), (RX4, TX4, 1), (RX5, TX5, 9), (RX6, TX6, 9), (RX7, TX7, 7), (RX8, TX8, 32)]
