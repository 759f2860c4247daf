/-! how a method begins -/
theorem en_X0_isNumber {x1 : Int64} {μ : pm_M} : mF_X0_isNumber [.long x1] μ = pm_run mE_X0_isNumber 0 [.long x1, .retAddr 1] [] μ := rfl
theorem en_X0_powerOfTwo {x1 : Int32} {μ : pm_M} : mF_X0_powerOfTwo [.int x1] μ = pm_run mE_X0_powerOfTwo 0 [.int x1, .retAddr 0, .retAddr 0, .retAddr 0, .retAddr 0, .retAddr 0] [] μ := rfl
theorem en_X0_fromBits {x1 : Int64} {μ : pm_M} : mF_X0_fromBits [.long x1] μ = pm_run mE_X0_fromBits 0 [.long x1, .retAddr 1, .retAddr 0, .retAddr 0, .retAddr 0, .retAddr 0, .retAddr 0] [] μ := rfl
theorem en_X0_isNegativeZero {x1 : UInt64} {μ : pm_M} : mF_X0_isNegativeZero [.double x1] μ = pm_run mE_X0_isNegativeZero 0 [.double x1, .retAddr 1] [] μ := rfl
theorem en_X0_isEndless {x1 : UInt64} {μ : pm_M} : mF_X0_isEndless [.double x1] μ = pm_run mE_X0_isEndless 0 [.double x1, .retAddr 1] [] μ := rfl
theorem en_X0_sizeOf {x1 : UInt64} {μ : pm_M} : mF_X0_sizeOf [.double x1] μ = pm_run mE_X0_sizeOf 0 [.double x1, .retAddr 1] [] μ := rfl
theorem en_X0_bitsOfSize {x1 : UInt64} {μ : pm_M} : mF_X0_bitsOfSize [.double x1] μ = pm_run mE_X0_bitsOfSize 0 [.double x1, .retAddr 1, .retAddr 0, .retAddr 0, .retAddr 0, .retAddr 0, .retAddr 0] [] μ := rfl
theorem en_X0_toBits {x1 : UInt64} {μ : pm_M} : mF_X0_toBits [.double x1] μ = pm_run mE_X0_toBits 0 [.double x1, .retAddr 1, .retAddr 0, .retAddr 0] [] μ := rfl
theorem en_X0_greaterOf {x1 : UInt64} {x2 : UInt64} {μ : pm_M} : mF_X0_greaterOf [.double x1, .double x2] μ = pm_run mE_X0_greaterOf 0 [.double x1, .retAddr 1, .double x2, .retAddr 1] [] μ := rfl
theorem en_X0_floorOf {x1 : UInt64} {μ : pm_M} : mF_X0_floorOf [.double x1] μ = pm_run mE_X0_floorOf 0 [.double x1, .retAddr 1, .retAddr 0, .retAddr 0] [] μ := rfl
theorem en_X0_rootOf {x1 : Int32} {μ : pm_M} : mF_X0_rootOf [.int x1] μ = pm_run mE_X0_rootOf 0 [.int x1, .retAddr 0, .retAddr 0, .retAddr 0, .retAddr 0, .retAddr 0, .retAddr 0, .retAddr 0, .retAddr 0, .retAddr 0] [] μ := rfl
theorem en_X1_init {o : Nat} {x1 : Int32} {μ : pm_M} : mF_X1_init [.ref o, .int x1] μ = pm_run mE_X1_init 0 [.ref o, .int x1] [] μ := rfl
theorem en_X2_hasField {x1 : Int32} {μ : pm_M} : mF_X2_hasField [.int x1] μ = pm_run mE_X2_hasField 0 [.int x1] [] μ := rfl
theorem en_X1_isSafe {o : Nat} {μ : pm_M} : mF_X1_isSafe [.ref o] μ = pm_run mE_X1_isSafe 0 [.ref o] [] μ := rfl
theorem en_X1_risesByKind {o : Nat} {μ : pm_M} : mF_X1_risesByKind [.ref o] μ = pm_run mE_X1_risesByKind 0 [.ref o] [] μ := rfl
theorem en_X1_prove {o : Nat} {μ : pm_M} : mF_X1_prove [.ref o] μ = pm_run mE_X1_prove 0 [.ref o] [] μ := rfl
theorem en_X1_begin {o : Nat} {x1 : Int32} {x2 : Int32} {x3 : Int64} {x4 : Int64} {μ : pm_M} : mF_X1_begin [.ref o, .int x1, .int x2, .long x3, .long x4] μ = pm_run mE_X1_begin 0 [.ref o, .int x1, .int x2, .long x3, .retAddr 1, .long x4, .retAddr 1] [] μ := rfl
theorem en_X1_addPart {o : Nat} {x1 : Nat} {μ : pm_M} : mF_X1_addPart [.ref o, .ref x1] μ = pm_run mE_X1_addPart 0 [.ref o, .ref x1] [] μ := rfl
theorem en_X2_gathers {x1 : Int32} {μ : pm_M} : mF_X2_gathers [.int x1] μ = pm_run mE_X2_gathers 0 [.int x1] [] μ := rfl
theorem en_X2_hasX {x1 : Int32} {μ : pm_M} : mF_X2_hasX [.int x1] μ = pm_run mE_X2_hasX 0 [.int x1] [] μ := rfl
theorem en_X2_failsBelow {x1 : Int32} {μ : pm_M} : mF_X2_failsBelow [.int x1] μ = pm_run mE_X2_failsBelow 0 [.int x1] [] μ := rfl
theorem en_X2_isNotBelow {x1 : Int64} {μ : pm_M} : mF_X2_isNotBelow [.long x1] μ = pm_run mE_X2_isNotBelow 0 [.long x1, .retAddr 1] [] μ := rfl
theorem en_X2_isShare {x1 : Int64} {μ : pm_M} : mF_X2_isShare [.long x1] μ = pm_run mE_X2_isShare 0 [.long x1, .retAddr 1] [] μ := rfl
theorem en_X2_isAbove {x1 : Int64} {μ : pm_M} : mF_X2_isAbove [.long x1] μ = pm_run mE_X2_isAbove 0 [.long x1, .retAddr 1] [] μ := rfl
theorem en_X2_takes {x1 : Int32} {x2 : Int64} {x3 : Int64} {μ : pm_M} : mF_X2_takes [.int x1, .long x2, .long x3] μ = pm_run mE_X2_takes 0 [.int x1, .long x2, .retAddr 1, .long x3, .retAddr 1] [] μ := rfl
theorem en_X3_valueOf {x1 : Int32} {μ : pm_M} : mF_X3_valueOf [.int x1] μ = pm_run mE_X3_valueOf 0 [.int x1] [] μ := rfl
theorem en_X3_codeOf {x1 : Int32} {μ : pm_M} : mF_X3_codeOf [.int x1] μ = pm_run mE_X3_codeOf 0 [.int x1, .retAddr 0, .retAddr 0] [] μ := rfl
theorem en_X4_init {o : Nat} {μ : pm_M} : mF_X4_init [.ref o] μ = pm_run mE_X4_init 0 [.ref o] [] μ := rfl
theorem en_X4_begin {o : Nat} {μ : pm_M} : mF_X4_begin [.ref o] μ = pm_run mE_X4_begin 0 [.ref o] [] μ := rfl
theorem en_X4_isLost {o : Nat} {μ : pm_M} : mF_X4_isLost [.ref o] μ = pm_run mE_X4_isLost 0 [.ref o] [] μ := rfl
theorem en_X4_lose {o : Nat} {μ : pm_M} : mF_X4_lose [.ref o] μ = pm_run mE_X4_lose 0 [.ref o] [] μ := rfl
theorem en_X4_plus {o : Nat} {x1 : UInt64} {x2 : UInt64} {μ : pm_M} : mF_X4_plus [.ref o, .double x1, .double x2] μ = pm_run mE_X4_plus 0 [.ref o, .double x1, .retAddr 1, .double x2, .retAddr 1] [] μ := rfl
theorem en_X4_minus {o : Nat} {x1 : UInt64} {x2 : UInt64} {μ : pm_M} : mF_X4_minus [.ref o, .double x1, .double x2] μ = pm_run mE_X4_minus 0 [.ref o, .double x1, .retAddr 1, .double x2, .retAddr 1] [] μ := rfl
theorem en_X4_times {o : Nat} {x1 : UInt64} {x2 : UInt64} {μ : pm_M} : mF_X4_times [.ref o, .double x1, .double x2] μ = pm_run mE_X4_times 0 [.ref o, .double x1, .retAddr 1, .double x2, .retAddr 1] [] μ := rfl
theorem en_X4_over {o : Nat} {x1 : UInt64} {x2 : UInt64} {μ : pm_M} : mF_X4_over [.ref o, .double x1, .double x2] μ = pm_run mE_X4_over 0 [.ref o, .double x1, .retAddr 1, .double x2, .retAddr 1] [] μ := rfl
theorem en_X5_init {o : Nat} {x1 : Nat} {μ : pm_M} : mF_X5_init [.ref o, .ref x1] μ = pm_run mE_X5_init 0 [.ref o, .ref x1] [] μ := rfl
theorem en_X5_fail {o : Nat} {x1 : Nat} {x2 : Int32} {μ : pm_M} : mF_X5_fail [.ref o, .ref x1, .int x2] μ = pm_run mE_X5_fail 0 [.ref o, .ref x1, .int x2] [] μ := rfl
theorem en_X6_countOf {o : Nat} {x1 : Int32} {x2 : Int32} {μ : pm_M} : mF_X6_countOf [.ref o, .int x1, .int x2] μ = pm_run mE_X6_countOf 0 [.ref o, .int x1, .int x2] [] μ := rfl
theorem en_X6_rootOfCount {o : Nat} {x1 : Int32} {x2 : Int32} {μ : pm_M} : mF_X6_rootOfCount [.ref o, .int x1, .int x2] μ = pm_run mE_X6_rootOfCount 0 [.ref o, .int x1, .int x2] [] μ := rfl
theorem en_X5_saturated {o : Nat} {x1 : UInt64} {x2 : UInt64} {μ : pm_M} : mF_X5_saturated [.ref o, .double x1, .double x2] μ = pm_run mE_X5_saturated 0 [.ref o, .double x1, .retAddr 1, .double x2, .retAddr 1] [] μ := rfl
theorem en_X6_hasAverage {o : Nat} {x1 : Int32} {μ : pm_M} : mF_X6_hasAverage [.ref o, .int x1] μ = pm_run mE_X6_hasAverage 0 [.ref o, .int x1] [] μ := rfl
theorem en_X6_lengthOf {o : Nat} {x1 : Int32} {x2 : Int32} {μ : pm_M} : mF_X6_lengthOf [.ref o, .int x1, .int x2] μ = pm_run mE_X6_lengthOf 0 [.ref o, .int x1, .int x2] [] μ := rfl
theorem en_X6_averageOf {o : Nat} {x1 : Int32} {μ : pm_M} : mF_X6_averageOf [.ref o, .int x1] μ = pm_run mE_X6_averageOf 0 [.ref o, .int x1, .retAddr 0] [] μ := rfl
theorem en_X5_normed {o : Nat} {x1 : Nat} {μ : pm_M} : mF_X5_normed [.ref o, .ref x1] μ = pm_run mE_X5_normed 0 [.ref o, .ref x1, .retAddr 0, .retAddr 0, .retAddr 0, .retAddr 0, .retAddr 0, .retAddr 0, .retAddr 0, .retAddr 0, .retAddr 0, .retAddr 0, .retAddr 0, .retAddr 0, .retAddr 0] [] μ := rfl
theorem en_X6_hasColumn {o : Nat} {x1 : Int32} {x2 : Int32} {μ : pm_M} : mF_X6_hasColumn [.ref o, .int x1, .int x2] μ = pm_run mE_X6_hasColumn 0 [.ref o, .int x1, .int x2] [] μ := rfl
theorem en_X6_columnOf {o : Nat} {x1 : Int32} {x2 : Int32} {μ : pm_M} : mF_X6_columnOf [.ref o, .int x1, .int x2] μ = pm_run mE_X6_columnOf 0 [.ref o, .int x1, .int x2] [] μ := rfl
theorem en_X5_filled {o : Nat} {x1 : Int32} {μ : pm_M} : mF_X5_filled [.ref o, .int x1] μ = pm_run mE_X5_filled 0 [.ref o, .int x1] [] μ := rfl
theorem en_X5_workAlone {o : Nat} {x1 : Nat} {μ : pm_M} : mF_X5_workAlone [.ref o, .ref x1] μ = pm_run mE_X5_workAlone 0 [.ref o, .ref x1] [] μ := rfl
theorem en_X5_sum {o : Nat} {x1 : Int32} {x2 : Int32} {μ : pm_M} : mF_X5_sum [.ref o, .int x1, .int x2] μ = pm_run mE_X5_sum 0 [.ref o, .int x1, .int x2, .retAddr 0, .retAddr 0, .retAddr 0] [] μ := rfl
theorem en_X5_product {o : Nat} {x1 : Int32} {x2 : Int32} {μ : pm_M} : mF_X5_product [.ref o, .int x1, .int x2] μ = pm_run mE_X5_product 0 [.ref o, .int x1, .int x2, .retAddr 0, .retAddr 0, .retAddr 0] [] μ := rfl
theorem en_X5_best {o : Nat} {x1 : Int32} {x2 : Int32} {x3 : UInt64} {μ : pm_M} : mF_X5_best [.ref o, .int x1, .int x2, .double x3] μ = pm_run mE_X5_best 0 [.ref o, .int x1, .int x2, .double x3, .retAddr 1, .retAddr 0, .retAddr 0, .retAddr 0, .retAddr 0, .retAddr 0] [] μ := rfl
theorem en_X5_decay {o : Nat} {x1 : UInt64} {x2 : UInt64} {x3 : UInt64} {μ : pm_M} : mF_X5_decay [.ref o, .double x1, .double x2, .double x3] μ = pm_run mE_X5_decay 0 [.ref o, .double x1, .retAddr 1, .double x2, .retAddr 1, .double x3, .retAddr 1, .retAddr 0, .retAddr 0, .retAddr 0, .retAddr 0] [] μ := rfl
theorem en_X5_near {o : Nat} {x1 : UInt64} {x2 : UInt64} {x3 : UInt64} {μ : pm_M} : mF_X5_near [.ref o, .double x1, .double x2, .double x3] μ = pm_run mE_X5_near 0 [.ref o, .double x1, .retAddr 1, .double x2, .retAddr 1, .double x3, .retAddr 1, .retAddr 0, .retAddr 0] [] μ := rfl
theorem en_X5_workParts {o : Nat} {x1 : Nat} {x2 : Int32} {μ : pm_M} : mF_X5_workParts [.ref o, .ref x1, .int x2] μ = pm_run mE_X5_workParts 0 [.ref o, .ref x1, .int x2, .retAddr 0, .retAddr 0] [] μ := rfl
theorem en_X5_judge {o : Nat} {x1 : Nat} {x2 : UInt64} {μ : pm_M} : mF_X5_judge [.ref o, .ref x1, .double x2] μ = pm_run mE_X5_judge 0 [.ref o, .ref x1, .double x2, .retAddr 1] [] μ := rfl
theorem en_X6_init {o : Nat} {μ : pm_M} : mF_X6_init [.ref o] μ = pm_run mE_X6_init 0 [.ref o] [] μ := rfl
theorem en_X6_put {o : Nat} {x1 : Int32} {x2 : Int32} {x3 : Int32} {x4 : Int32} {μ : pm_M} : mF_X6_put [.ref o, .int x1, .int x2, .int x3, .int x4] μ = pm_run mE_X6_put 0 [.ref o, .int x1, .int x2, .int x3, .int x4, .retAddr 0, .retAddr 0] [] μ := rfl
theorem en_X6_fillColumn {o : Nat} {x1 : Int32} {x2 : Int32} {x3 : Int64} {μ : pm_M} : mF_X6_fillColumn [.ref o, .int x1, .int x2, .long x3] μ = pm_run mE_X6_fillColumn 0 [.ref o, .int x1, .int x2, .long x3, .retAddr 1, .retAddr 0] [] μ := rfl
theorem en_X6_giveAverage {o : Nat} {x1 : Int32} {x2 : UInt64} {μ : pm_M} : mF_X6_giveAverage [.ref o, .int x1, .double x2] μ = pm_run mE_X6_giveAverage 0 [.ref o, .int x1, .double x2, .retAddr 1] [] μ := rfl
theorem en_X6_giveNoAverage {o : Nat} {x1 : Int32} {μ : pm_M} : mF_X6_giveNoAverage [.ref o, .int x1] μ = pm_run mE_X6_giveNoAverage 0 [.ref o, .int x1] [] μ := rfl
theorem en_X6_reset {o : Nat} {μ : pm_M} : mF_X6_reset [.ref o] μ = pm_run mE_X6_reset 0 [.ref o, .retAddr 0, .retAddr 0] [] μ := rfl
theorem en_X7_init {o : Nat} {μ : pm_M} : mF_X7_init [.ref o] μ = pm_run mE_X7_init 0 [.ref o, .retAddr 0] [] μ := rfl
theorem en_X7_isIn {x1 : Int32} {x2 : Int32} {μ : pm_M} : mF_X7_isIn [.int x1, .int x2] μ = pm_run mE_X7_isIn 0 [.int x1, .int x2] [] μ := rfl
theorem en_X7_tell {o : Nat} {x1 : Int32} {x2 : Int32} {x3 : Int32} {x4 : Int32} {μ : pm_M} : mF_X7_tell [.ref o, .int x1, .int x2, .int x3, .int x4] μ = pm_run mE_X7_tell 0 [.ref o, .int x1, .int x2, .int x3, .int x4] [] μ := rfl
theorem en_X7_column {o : Nat} {x1 : Int32} {x2 : Int32} {x3 : Int64} {μ : pm_M} : mF_X7_column [.ref o, .int x1, .int x2, .long x3] μ = pm_run mE_X7_column 0 [.ref o, .int x1, .int x2, .long x3, .retAddr 1] [] μ := rfl
theorem en_X7_given {o : Nat} {x1 : Int32} {x2 : Int64} {μ : pm_M} : mF_X7_given [.ref o, .int x1, .long x2] μ = pm_run mE_X7_given 0 [.ref o, .int x1, .long x2, .retAddr 1, .retAddr 0, .retAddr 0] [] μ := rfl
theorem en_X7_average {o : Nat} {x1 : Int32} {μ : pm_M} : mF_X7_average [.ref o, .int x1] μ = pm_run mE_X7_average 0 [.ref o, .int x1] [] μ := rfl
theorem en_X7_packed {o : Nat} {x1 : Int32} {x2 : Int32} {μ : pm_M} : mF_X7_packed [.ref o, .int x1, .int x2] μ = pm_run mE_X7_packed 0 [.ref o, .int x1, .int x2, .retAddr 0] [] μ := rfl
theorem en_X7_isFormula {o : Nat} {x1 : Int32} {μ : pm_M} : mF_X7_isFormula [.ref o, .int x1] μ = pm_run mE_X7_isFormula 0 [.ref o, .int x1] [] μ := rfl
theorem en_X7_placesAreRight {o : Nat} {x1 : Int32} {x2 : Int32} {x3 : Int32} {μ : pm_M} : mF_X7_placesAreRight [.ref o, .int x1, .int x2, .int x3] μ = pm_run mE_X7_placesAreRight 0 [.ref o, .int x1, .int x2, .int x3] [] μ := rfl
theorem en_X7_sizeOf {x1 : Nat} {μ : pm_M} : mF_X7_sizeOf [.ref x1] μ = pm_run mE_X7_sizeOf 0 [.ref x1] [] μ := rfl
theorem en_X7_formula {o : Nat} {x1 : Int32} {x2 : Int32} {x3 : Int32} {x4 : Int64} {x5 : Int64} {μ : pm_M} : mF_X7_formula [.ref o, .int x1, .int x2, .int x3, .long x4, .long x5] μ = pm_run mE_X7_formula 0 [.ref o, .int x1, .int x2, .int x3, .long x4, .retAddr 1, .long x5, .retAddr 1, .retAddr 0, .retAddr 0, .retAddr 0] [] μ := rfl
theorem en_X7_part {o : Nat} {x1 : Int32} {x2 : Int32} {μ : pm_M} : mF_X7_part [.ref o, .int x1, .int x2] μ = pm_run mE_X7_part 0 [.ref o, .int x1, .int x2, .retAddr 0, .retAddr 0] [] μ := rfl
theorem en_X7_told {o : Nat} {x1 : Int32} {μ : pm_M} : mF_X7_told [.ref o, .int x1] μ = pm_run mE_X7_told 0 [.ref o, .int x1] [] μ := rfl
theorem en_X7_about {o : Nat} {x1 : Int32} {x2 : Int32} {μ : pm_M} : mF_X7_about [.ref o, .int x1, .int x2] μ = pm_run mE_X7_about 0 [.ref o, .int x1, .int x2, .retAddr 0] [] μ := rfl
theorem en_X7_partOf {o : Nat} {x1 : Int32} {x2 : Int32} {μ : pm_M} : mF_X7_partOf [.ref o, .int x1, .int x2] μ = pm_run mE_X7_partOf 0 [.ref o, .int x1, .int x2] [] μ := rfl
theorem en_X7_goesAhead {o : Nat} {x1 : Int32} {x2 : Int32} {μ : pm_M} : mF_X7_goesAhead [.ref o, .int x1, .int x2] μ = pm_run mE_X7_goesAhead 0 [.ref o, .int x1, .int x2] [] μ := rfl
theorem en_X7_howManyAheadOf {o : Nat} {x1 : Int32} {μ : pm_M} : mF_X7_howManyAheadOf [.ref o, .int x1] μ = pm_run mE_X7_howManyAheadOf 0 [.ref o, .int x1, .retAddr 0, .retAddr 0] [] μ := rfl
theorem en_X7_clear {o : Nat} {μ : pm_M} : mF_X7_clear [.ref o] μ = pm_run mE_X7_clear 0 [.ref o] [] μ := rfl
theorem en_X7_forget {o : Nat} {μ : pm_M} : mF_X7_forget [.ref o] μ = pm_run mE_X7_forget 0 [.ref o, .retAddr 0] [] μ := rfl
theorem en_X8_noReal  {μ : pm_M} : mF_X8_noReal [] μ = pm_run mE_X8_noReal 0 [] [] μ := rfl
theorem en_X8_clear {o : Nat} {μ : pm_M} : mF_X8_clear [.ref o] μ = pm_run mE_X8_clear 0 [.ref o, .retAddr 0] [] μ := rfl
theorem en_X8_init {o : Nat} {μ : pm_M} : mF_X8_init [.ref o] μ = pm_run mE_X8_init 0 [.ref o] [] μ := rfl
theorem en_X8_in {x1 : Int32} {x2 : Int32} {x3 : Int32} {μ : pm_M} : mF_X8_in [.int x1, .int x2, .int x3] μ = pm_run mE_X8_in 0 [.int x1, .int x2, .int x3] [] μ := rfl
theorem en_X8_tell {o : Nat} {x1 : Int32} {x2 : Int32} {x3 : Int32} {x4 : Int32} {μ : pm_M} : mF_X8_tell [.ref o, .int x1, .int x2, .int x3, .int x4] μ = pm_run mE_X8_tell 0 [.ref o, .int x1, .int x2, .int x3, .int x4] [] μ := rfl
theorem en_X8_realOfBits {x1 : Int64} {μ : pm_M} : mF_X8_realOfBits [.long x1] μ = pm_run mE_X8_realOfBits 0 [.long x1, .retAddr 1] [] μ := rfl
theorem en_X8_column {o : Nat} {x1 : Int32} {x2 : Int32} {x3 : Int64} {μ : pm_M} : mF_X8_column [.ref o, .int x1, .int x2, .long x3] μ = pm_run mE_X8_column 0 [.ref o, .int x1, .int x2, .long x3, .retAddr 1] [] μ := rfl
theorem en_X8_given {o : Nat} {x1 : Int32} {x2 : Int64} {μ : pm_M} : mF_X8_given [.ref o, .int x1, .long x2] μ = pm_run mE_X8_given 0 [.ref o, .int x1, .long x2, .retAddr 1, .retAddr 0, .retAddr 0] [] μ := rfl
theorem en_X8_valueOf {x1 : Int32} {μ : pm_M} : mF_X8_valueOf [.int x1] μ = pm_run mE_X8_valueOf 0 [.int x1] [] μ := rfl
theorem en_X8_byteOf {x1 : Int32} {μ : pm_M} : mF_X8_byteOf [.int x1] μ = pm_run mE_X8_byteOf 0 [.int x1, .retAddr 0] [] μ := rfl
theorem en_X8_packed {o : Nat} {x1 : Int32} {x2 : Int32} {μ : pm_M} : mF_X8_packed [.ref o, .int x1, .int x2] μ = pm_run mE_X8_packed 0 [.ref o, .int x1, .int x2] [] μ := rfl
theorem en_X8_isEndlessReal {x1 : UInt64} {μ : pm_M} : mF_X8_isEndlessReal [.double x1] μ = pm_run mE_X8_isEndlessReal 0 [.double x1, .retAddr 1] [] μ := rfl
theorem en_X8_realOver {x1 : UInt64} {x2 : UInt64} {μ : pm_M} : mF_X8_realOver [.double x1, .double x2] μ = pm_run mE_X8_realOver 0 [.double x1, .retAddr 1, .double x2, .retAddr 1] [] μ := rfl
theorem en_X8_averageOf {o : Nat} {x1 : Int32} {μ : pm_M} : mF_X8_averageOf [.ref o, .int x1] μ = pm_run mE_X8_averageOf 0 [.ref o, .int x1, .retAddr 0, .retAddr 0, .retAddr 0, .retAddr 0] [] μ := rfl
theorem en_Jxe99ae_isNaN_b9ae7 {x1 : UInt64} {μ : pm_M} : mF_Jxe99ae_isNaN_b9ae7 [.double x1] μ = pm_run mE_Jxe99ae_isNaN_b9ae7 0 [.double x1, .retAddr 1] [] μ := rfl
theorem en_Jxe99ae_doubleToLongBits_ccdee {x1 : UInt64} {μ : pm_M} : mF_Jxe99ae_doubleToLongBits_ccdee [.double x1] μ = pm_run mE_Jxe99ae_doubleToLongBits_ccdee 0 [.double x1, .retAddr 1] [] μ := rfl
theorem en_X8_average {o : Nat} {x1 : Int32} {μ : pm_M} : mF_X8_average [.ref o, .int x1] μ = pm_run mE_X8_average 0 [.ref o, .int x1] [] μ := rfl
theorem en_X8_isFormula {o : Nat} {x1 : Int32} {μ : pm_M} : mF_X8_isFormula [.ref o, .int x1] μ = pm_run mE_X8_isFormula 0 [.ref o, .int x1] [] μ := rfl
theorem en_X8_isRight {x1 : Int32} {x2 : UInt64} {x3 : UInt64} {μ : pm_M} : mF_X8_isRight [.int x1, .double x2, .double x3] μ = pm_run mE_X8_isRight 0 [.int x1, .double x2, .retAddr 1, .double x3, .retAddr 1] [] μ := rfl
theorem en_X8_judge {o : Nat} {x1 : Int32} {μ : pm_M} : mF_X8_judge [.ref o, .int x1] μ = pm_run mE_X8_judge 0 [.ref o, .int x1, .retAddr 0, .retAddr 0, .retAddr 0, .retAddr 0, .retAddr 0, .retAddr 0, .retAddr 0] [] μ := rfl
theorem en_X8_formula {o : Nat} {x1 : Int32} {x2 : Int32} {x3 : Int32} {x4 : Int64} {x5 : Int64} {μ : pm_M} : mF_X8_formula [.ref o, .int x1, .int x2, .int x3, .long x4, .long x5] μ = pm_run mE_X8_formula 0 [.ref o, .int x1, .int x2, .int x3, .long x4, .retAddr 1, .long x5, .retAddr 1, .retAddr 0, .retAddr 0, .retAddr 0, .retAddr 0, .retAddr 0, .retAddr 0, .retAddr 0] [] μ := rfl
theorem en_X8_part {o : Nat} {x1 : Int32} {x2 : Int32} {μ : pm_M} : mF_X8_part [.ref o, .int x1, .int x2] μ = pm_run mE_X8_part 0 [.ref o, .int x1, .int x2] [] μ := rfl
theorem en_X8_realPlus {x1 : UInt64} {x2 : UInt64} {μ : pm_M} : mF_X8_realPlus [.double x1, .double x2] μ = pm_run mE_X8_realPlus 0 [.double x1, .retAddr 1, .double x2, .retAddr 1] [] μ := rfl
theorem en_X8_realLess {x1 : UInt64} {x2 : UInt64} {μ : pm_M} : mF_X8_realLess [.double x1, .double x2] μ = pm_run mE_X8_realLess 0 [.double x1, .retAddr 1, .double x2, .retAddr 1] [] μ := rfl
theorem en_X8_realTimes {x1 : UInt64} {x2 : UInt64} {μ : pm_M} : mF_X8_realTimes [.double x1, .double x2] μ = pm_run mE_X8_realTimes 0 [.double x1, .retAddr 1, .double x2, .retAddr 1] [] μ := rfl
theorem en_X8_greater {x1 : UInt64} {x2 : UInt64} {μ : pm_M} : mF_X8_greater [.double x1, .double x2] μ = pm_run mE_X8_greater 0 [.double x1, .retAddr 1, .double x2, .retAddr 1] [] μ := rfl
theorem en_X8_down {x1 : UInt64} {μ : pm_M} : mF_X8_down [.double x1] μ = pm_run mE_X8_down 0 [.double x1, .retAddr 1, .retAddr 0, .retAddr 0] [] μ := rfl
theorem en_X8_root {x1 : UInt64} {μ : pm_M} : mF_X8_root [.double x1] μ = pm_run mE_X8_root 0 [.double x1, .retAddr 1, .retAddr 0, .retAddr 0, .retAddr 0, .retAddr 0, .retAddr 0, .retAddr 0, .retAddr 0, .retAddr 0, .retAddr 0, .retAddr 0, .retAddr 0, .retAddr 0, .retAddr 0] [] μ := rfl
theorem en_X8_begin {o : Nat} {x1 : Int32} {μ : pm_M} : mF_X8_begin [.ref o, .int x1] μ = pm_run mE_X8_begin 0 [.ref o, .int x1] [] μ := rfl
theorem en_X8_worked {o : Nat} {x1 : Int32} {x2 : Int32} {x3 : UInt64} {x4 : UInt64} {μ : pm_M} : mF_X8_worked [.ref o, .int x1, .int x2, .double x3, .double x4] μ = pm_run mE_X8_worked 0 [.ref o, .int x1, .int x2, .double x3, .retAddr 1, .double x4, .retAddr 1, .retAddr 0, .retAddr 0, .retAddr 0, .retAddr 0, .retAddr 0, .retAddr 0, .retAddr 0, .retAddr 0, .retAddr 0, .retAddr 0, .retAddr 0, .retAddr 0] [] μ := rfl
theorem en_X8_give {o : Nat} {x1 : UInt64} {μ : pm_M} : mF_X8_give [.ref o, .double x1] μ = pm_run mE_X8_give 0 [.ref o, .double x1, .retAddr 1, .retAddr 0, .retAddr 0] [] μ := rfl
theorem en_X8_fail {o : Nat} {x1 : Int32} {μ : pm_M} : mF_X8_fail [.ref o, .int x1] μ = pm_run mE_X8_fail 0 [.ref o, .int x1] [] μ := rfl
theorem en_X8_work {o : Nat} {x1 : Int32} {x2 : Int32} {μ : pm_M} : mF_X8_work [.ref o, .int x1, .int x2] μ = pm_run mE_X8_work 0 [.ref o, .int x1, .int x2, .retAddr 0, .retAddr 0, .retAddr 0, .retAddr 0] [] μ := rfl
theorem en_X8_score {o : Nat} {x1 : Int32} {x2 : Int32} {μ : pm_M} : mF_X8_score [.ref o, .int x1, .int x2] μ = pm_run mE_X8_score 0 [.ref o, .int x1, .int x2] [] μ := rfl
theorem en_X8_told {o : Nat} {x1 : Int32} {μ : pm_M} : mF_X8_told [.ref o, .int x1] μ = pm_run mE_X8_told 0 [.ref o, .int x1] [] μ := rfl
theorem en_X8_about {o : Nat} {x1 : Int32} {x2 : Int32} {μ : pm_M} : mF_X8_about [.ref o, .int x1, .int x2] μ = pm_run mE_X8_about 0 [.ref o, .int x1, .int x2] [] μ := rfl
theorem en_X8_partOf {o : Nat} {x1 : Int32} {x2 : Int32} {μ : pm_M} : mF_X8_partOf [.ref o, .int x1, .int x2] μ = pm_run mE_X8_partOf 0 [.ref o, .int x1, .int x2] [] μ := rfl
theorem en_X8_top {o : Nat} {x1 : Int32} {x2 : Int32} {μ : pm_M} : mF_X8_top [.ref o, .int x1, .int x2] μ = pm_run mE_X8_top 0 [.ref o, .int x1, .int x2, .retAddr 0, .retAddr 0, .retAddr 0, .retAddr 0, .retAddr 0] [] μ := rfl
theorem en_X8_forget {o : Nat} {μ : pm_M} : mF_X8_forget [.ref o] μ = pm_run mE_X8_forget 0 [.ref o, .retAddr 0] [] μ := rfl
theorem en_X5_valueOf {o : Nat} {x1 : Nat} {x2 : Int32} {μ : pm_M} : mF_X5_valueOf [.ref o, .ref x1, .int x2] μ = pm_run mE_X5_valueOf 0 [.ref o, .ref x1, .int x2] [] μ := rfl
theorem en_X7_score {o : Nat} {x1 : Int32} {x2 : Int32} {μ : pm_M} : mF_X7_score [.ref o, .int x1, .int x2] μ = pm_run mE_X7_score 0 [.ref o, .int x1, .int x2, .retAddr 0, .retAddr 0] [] μ := rfl
theorem en_X7_top {o : Nat} {x1 : Int32} {x2 : Int32} {μ : pm_M} : mF_X7_top [.ref o, .int x1, .int x2] μ = pm_run mE_X7_top 0 [.ref o, .int x1, .int x2, .retAddr 0] [] μ := rfl
theorem en_X5_ask {d o x1 : Nat} {x2 : Int32} {μ : pm_M} : (mA (d + 1)).1 [.ref o, .ref x1, .int x2] μ = pm_run (mE_X5_ask (mA d).1 (mA d).2) 0 [.ref o, .ref x1, .int x2, .retAddr 0, .retAddr 0] [] μ := rfl
theorem en_X5_askElse {d o x1 : Nat} {x2 : Int32} {μ : pm_M} : (mA (d + 1)).2 [.ref o, .ref x1, .int x2] μ = pm_run (mE_X5_askElse (mA d).1) 0 [.ref o, .ref x1, .int x2, .retAddr 0, .retAddr 0] [] μ := rfl
