/-! DOUBLES, 4: signs, the greater, floors -/
def nz : UInt64 := 9223372036854775808
theorem key_inj {a b : UInt64} (h : FP.Core.dkey a = FP.Core.dkey b) (h0 : FP.Core.dkey a ≠ 0) : a = b := by
  apply UInt64.toNat_inj.mp
  unfold FP.Core.dkey at h h0
  split at h <;> split at h <;> omega
theorem toI_neg (a : UInt64) : (a.toInt64 < 0) = (2 ^ 63 ≤ a.toNat) := by
  apply propext
  rw [Int64.lt_iff_toInt_lt]
  have h := a.toNat_lt
  have e : a.toInt64.toInt = a.toBitVec.toInt := rfl
  have e2 : (0 : Int64).toInt = 0 := rfl
  rw [e, e2, BitVec.toInt_eq_toNat_cond]
  have e3 : a.toBitVec.toNat = a.toNat := rfl
  rw [e3]
  split <;> constructor <;> intro z <;> omega
section MORE
variable {μ : pm_M} {x y : Option UInt64}
theorem sJ_isNaN (hx : Vo x) : mF_Jxe99ae_isNaN_b9ae7 [.double (mo x)] μ = some (some (.int (pb (x = none))), μ) := by
  rw [en_Jxe99ae_isNaN_b9ae7]
  cases x with
  | none => simp only [mo, Option.getD_none, x_Jxe99ae_isNaN_b9ae7_0, x_Jxe99ae_isNaN_b9ae7_1, x_Jxe99ae_isNaN_b9ae7_2, x_Jxe99ae_isNaN_b9ae7_3, x_Jxe99ae_isNaN_b9ae7_6, x_Jxe99ae_isNaN_b9ae7_7, x_Jxe99ae_isNaN_b9ae7_10, x_Jxe99ae_isNaN_b9ae7_11a, x_Jxe99ae_isNaN_b9ae7_11b, x_Jxe99ae_isNaN_b9ae7_11, cl_eq, dc_nan_l, reduceCtorEq, if_false]; rfl
  | some a => simp only [mo, Option.getD_some, x_Jxe99ae_isNaN_b9ae7_0, x_Jxe99ae_isNaN_b9ae7_1, x_Jxe99ae_isNaN_b9ae7_2, x_Jxe99ae_isNaN_b9ae7_3, x_Jxe99ae_isNaN_b9ae7_6, x_Jxe99ae_isNaN_b9ae7_7, x_Jxe99ae_isNaN_b9ae7_10, x_Jxe99ae_isNaN_b9ae7_11a, x_Jxe99ae_isNaN_b9ae7_11b, x_Jxe99ae_isNaN_b9ae7_11, cl_eq, feq_nn (hx a rfl), if_true]; simp [pb]; rfl
theorem sJ_d2lb (hx : Vo x) : mF_Jxe99ae_doubleToLongBits_ccdee [.double (mo x)] μ = some (some (.long (mo x).toInt64), μ) := by
  rw [en_Jxe99ae_doubleToLongBits_ccdee]
  simp only [x_Jxe99ae_doubleToLongBits_ccdee_0, x_Jxe99ae_doubleToLongBits_ccdee_1, x_Jxe99ae_doubleToLongBits_ccdee_4, x_Jxe99ae_doubleToLongBits_ccdee_7, x_Jxe99ae_doubleToLongBits_ccdee_8, x_Jxe99ae_doubleToLongBits_ccdee_11, x_Jxe99ae_doubleToLongBits_ccdee_12, x_Jxe99ae_doubleToLongBits_ccdee_15, sJ_isNaN hx, Option.bind_some, Option.toList, List.cons_append, List.nil_append, pb_eq0]
  cases x with
  | none => simp only [not_true_eq_false, if_false]; rfl
  | some a => simp only [reduceCtorEq, not_false_eq_true, if_true]
theorem mo_some (a : UInt64) : mo (some a) = a := rfl
theorem sJ_d2lb1 {a : UInt64} (ha : vf_n64 a) : mF_Jxe99ae_doubleToLongBits_ccdee [.double a] μ = some (some (.long a.toInt64), μ) := sJ_d2lb (x := some a) (fun b hb => by cases hb; exact ha)
def sp_gr (a b : UInt64) : UInt64 := if FP.dcmp a b = some .eq then (if a = nz then b else a) else if FP.dcmp a b = some .gt then a else b
theorem sp_gr_fn {a b : UInt64} (ha : vf_n64 a) (hb : vf_n64 b) : vf_n64 (sp_gr a b) := by
  unfold sp_gr
  split
  · split <;> assumption
  · split <;> assumption
theorem sX8_greater (hx : Vo x) (hy : Vo y) : mF_X8_greater [.double (mo x), .double (mo y)] μ = some (some (.double (mo (sm2 (fun a b => some (sp_gr a b)) x y))), μ) := by
  rw [en_X8_greater]
  cases x with
  | none => simp only [mo, sm2, Option.getD_none, Option.bind_none, x_X8_greater_0, x_X8_greater_1, x_X8_greater_2, x_X8_greater_3, x_X8_greater_6, x_X8_greater_7, x_X8_greater_8, x_X8_greater_9, x_X8_greater_12, x_X8_greater_15, x_X8_greater_16, x_X8_greater_17, x_X8_greater_18, x_X8_greater_19, x_X8_greater_22, x_X8_greater_23, x_X8_greater_26, x_X8_greater_27, x_X8_greater_28, x_X8_greater_31, x_X8_greater_32, x_X8_greater_35, x_X8_greater_36, x_X8_greater_37, x_X8_greater_38, x_X8_greater_39, x_X8_greater_40, x_X8_greater_43, x_X8_greater_44, x_X8_greater_47, x_X8_greater_48, cl_eq, dc_nan_l, reduceCtorEq, if_false, if_true, not_false_eq_true, sX8_noReal, Option.bind_some, Option.toList, List.cons_append, List.nil_append]
  | some a =>
    have ha := hx a rfl
    cases y with
    | none => simp only [mo, sm2, Option.getD_none, Option.getD_some, Option.bind_none, Option.bind_some, x_X8_greater_0, x_X8_greater_1, x_X8_greater_2, x_X8_greater_3, x_X8_greater_6, x_X8_greater_7, x_X8_greater_8, x_X8_greater_9, x_X8_greater_12, x_X8_greater_15, x_X8_greater_16, x_X8_greater_17, x_X8_greater_18, x_X8_greater_19, x_X8_greater_22, x_X8_greater_23, x_X8_greater_26, x_X8_greater_27, x_X8_greater_28, x_X8_greater_31, x_X8_greater_32, x_X8_greater_35, x_X8_greater_36, x_X8_greater_37, x_X8_greater_38, x_X8_greater_39, x_X8_greater_40, x_X8_greater_43, x_X8_greater_44, x_X8_greater_47, x_X8_greater_48, cl_eq, feq_nn ha, dc_nan_l, reduceCtorEq, if_false, if_true, not_false_eq_true, not_true_eq_false, sX8_noReal, Option.toList, List.cons_append, List.nil_append]
    | some b =>
      have hb := hy b rfl
      simp only [mo, sm2, Option.getD_none, Option.getD_some, Option.bind_some, x_X8_greater_0, x_X8_greater_1, x_X8_greater_2, x_X8_greater_3, x_X8_greater_6, x_X8_greater_7, x_X8_greater_8, x_X8_greater_9, x_X8_greater_12, x_X8_greater_15, x_X8_greater_16, x_X8_greater_17, x_X8_greater_18, x_X8_greater_19, x_X8_greater_22, x_X8_greater_23, x_X8_greater_26, x_X8_greater_27, x_X8_greater_28, x_X8_greater_31, x_X8_greater_32, x_X8_greater_35, x_X8_greater_36, x_X8_greater_37, x_X8_greater_38, x_X8_greater_39, x_X8_greater_40, x_X8_greater_43, x_X8_greater_44, x_X8_greater_47, x_X8_greater_48, cl_eq, cl_le, cl_gt, lc_ge, lc_lt, feq_nn ha, feq_nn hb, if_false, if_true, not_false_eq_true, not_true_eq_false, sJ_d2lb1 ha, Option.toList, List.cons_append, List.nil_append, ite_not]
      unfold sp_gr
      by_cases c1 : feq a b
      · simp only [eq_true c1, if_true]
        by_cases c2 : a = nz
        · subst c2
          have : ¬ (0 : Int64) ≤ nz.toInt64 := by decide
          simp only [this, if_false, if_true]
        · simp only [c2, if_false]
          by_cases c3 : (0 : Int64) ≤ a.toInt64
          · simp only [c3, if_true]
          · simp only [c3, if_false]
            have c4 : a.toInt64 < 0 := Int64.not_le.mp c3
            rw [toI_neg] at c4
            have hk := (feq_key ha hb).mp c1
            have h0 : FP.Core.dkey a ≠ 0 := by
              intro z
              apply c2
              apply UInt64.toNat_inj.mp
              show a.toNat = 9223372036854775808
              unfold FP.Core.dkey at z
              split at z <;> omega
            have e := key_inj hk h0
            rw [e]
      · simp only [eq_false c1, if_false]
        by_cases c2 : FP.dcmp a b = some .gt
        · simp only [eq_true c2, if_true]
        · simp only [eq_false c2, if_false]
theorem feq0_cases {a : UInt64} (h : feq a 0) : a = 0 ∨ a = nz := FP.Core.zero_bits h
theorem sX0_isNegativeZero {a : UInt64} (ha : vf_n64 a) : mF_X0_isNegativeZero [.double a] μ = some (some (.int (pb (a = nz))), μ) := by
  rw [en_X0_isNegativeZero]
  by_cases h : feq a 0
  · rcases feq0_cases h with rfl | rfl
    · have e1 : vf_n64 (FP.ddiv 4607182418800017408 0) := by unfold vf_n64; decide +kernel
      have e2 : ¬ FP.dcmp (FP.ddiv 4607182418800017408 0) 0 = some .lt := by decide +kernel
      simp (disch := exact e1) only [x_X0_isNegativeZero_0, x_X0_isNegativeZero_1, x_X0_isNegativeZero_2, x_X0_isNegativeZero_3, x_X0_isNegativeZero_6, x_X0_isNegativeZero_7, x_X0_isNegativeZero_8, x_X0_isNegativeZero_9, x_X0_isNegativeZero_10, x_X0_isNegativeZero_11, x_X0_isNegativeZero_14, x_X0_isNegativeZero_15, x_X0_isNegativeZero_18, x_X0_isNegativeZero_19a, x_X0_isNegativeZero_19b, x_X0_isNegativeZero_19, cl_eq, cg_ge, h, if_true, e2, not_false_eq_true]
      have : ¬ (0 : UInt64) = nz := by decide
      simp only [pb, this, if_false]
      rfl
    · have e1 : vf_n64 (FP.ddiv 4607182418800017408 nz) := by unfold vf_n64; decide +kernel
      have e2 : FP.dcmp (FP.ddiv 4607182418800017408 nz) 0 = some .lt := by decide +kernel
      simp (disch := exact e1) only [x_X0_isNegativeZero_0, x_X0_isNegativeZero_1, x_X0_isNegativeZero_2, x_X0_isNegativeZero_3, x_X0_isNegativeZero_6, x_X0_isNegativeZero_7, x_X0_isNegativeZero_8, x_X0_isNegativeZero_9, x_X0_isNegativeZero_10, x_X0_isNegativeZero_11, x_X0_isNegativeZero_14, x_X0_isNegativeZero_15, x_X0_isNegativeZero_18, x_X0_isNegativeZero_19a, x_X0_isNegativeZero_19b, x_X0_isNegativeZero_19, cl_eq, cg_ge, h, if_true, e2, not_true_eq_false, if_false]
      simp [pb]
      rfl
  · have h2 : ¬ a = nz := by
      rintro rfl
      exact h (by show FP.dcmp nz 0 = some .eq; decide +kernel)
    simp only [x_X0_isNegativeZero_0, x_X0_isNegativeZero_1, x_X0_isNegativeZero_2, x_X0_isNegativeZero_3, x_X0_isNegativeZero_6, x_X0_isNegativeZero_7, x_X0_isNegativeZero_8, x_X0_isNegativeZero_9, x_X0_isNegativeZero_10, x_X0_isNegativeZero_11, x_X0_isNegativeZero_14, x_X0_isNegativeZero_15, x_X0_isNegativeZero_18, x_X0_isNegativeZero_19a, x_X0_isNegativeZero_19b, x_X0_isNegativeZero_19, cl_eq, cg_ge, h, if_false, pb, h2]
    rfl
theorem sX0_sizeOf {a : UInt64} : mF_X0_sizeOf [.double a] μ = some (some (.double (if FP.dcmp a 0 = some .lt then FP.dneg a else a)), μ) := by
  rw [en_X0_sizeOf]
  simp only [x_X0_sizeOf_0, x_X0_sizeOf_1, x_X0_sizeOf_2, x_X0_sizeOf_3, x_X0_sizeOf_6, x_X0_sizeOf_7, x_X0_sizeOf_8, x_X0_sizeOf_11, x_X0_sizeOf_12, cg_ge, ite_not]
  split <;> rfl
theorem sX0_greaterOf {a b : UInt64} (ha : vf_n64 a) (hb : vf_n64 b) : mF_X0_greaterOf [.double a, .double b] μ = some (some (.double (sp_gr a b)), μ) := by
  rw [en_X0_greaterOf]
  simp only [x_X0_greaterOf_0, x_X0_greaterOf_1, x_X0_greaterOf_2, x_X0_greaterOf_3, x_X0_greaterOf_6, x_X0_greaterOf_7, x_X0_greaterOf_10, x_X0_greaterOf_13, x_X0_greaterOf_14, x_X0_greaterOf_17, x_X0_greaterOf_18, x_X0_greaterOf_19, x_X0_greaterOf_20, x_X0_greaterOf_21, x_X0_greaterOf_22, x_X0_greaterOf_25, x_X0_greaterOf_26, x_X0_greaterOf_29, x_X0_greaterOf_30, cl_eq, cl_le, sX0_isNegativeZero ha, Option.bind_some, Option.toList, List.cons_append, List.nil_append, pb_eq0, ite_not]
  unfold sp_gr
  by_cases c1 : feq a b
  · simp only [eq_true c1, if_true]
    by_cases c2 : a = nz
    · simp only [eq_true c2, if_true]
    · simp only [eq_false c2, if_false]
  · simp only [eq_false c1, if_false]
    by_cases c2 : FP.dcmp a b = some .gt
    · simp only [eq_true c2, if_true]
    · simp only [eq_false c2, if_false]
def c52 : UInt64 := 4841369599423283200
def m52 : UInt64 := 14064741636278059008
def sp_fl (a : UInt64) : UInt64 := if FP.dcmp a 0 = some .eq ∨ FP.Core.dkey c52 ≤ FP.Core.dkey a ∨ FP.Core.dkey a ≤ FP.Core.dkey m52 then a else if FP.dcmp (FP.l2d (FP.d2l a)) a = some .gt then FP.dsub (FP.l2d (FP.d2l a)) 4607182418800017408 else FP.l2d (FP.d2l a)
theorem fl_sub (x : Int64) : vf_n64 (FP.dsub (FP.l2d x) 4607182418800017408) := by
  refine fn_sub (fn_l2d x) fn_1 (fun h => ?_)
  have h2 := (feq_key (fn_l2d x) fn_1).mp h.2
  rcases h.1 with e | e
  · rw [e] at h2
    exact absurd h2 (by decide)
  · rw [e] at h2
    exact absurd h2 (by decide)
theorem sp_fl_fn {a : UInt64} (ha : vf_n64 a) : vf_n64 (sp_fl a) := by
  unfold sp_fl
  split
  · exact ha
  · split
    · exact fl_sub _
    · exact fn_l2d _
theorem fn_52 : vf_n64 c52 := by unfold vf_n64; decide
theorem fn_m52 : vf_n64 m52 := by unfold vf_n64; decide
theorem ge_key {a b : UInt64} (ha : vf_n64 a) (hb : vf_n64 b) : (FP.dcmp a b = some .gt ∨ FP.dcmp a b = some .eq) = (FP.Core.dkey b ≤ FP.Core.dkey a) := by
  apply propext
  rw [fgt_key ha hb]
  have := feq_key ha hb
  rw [show (FP.dcmp a b = some .eq) = (FP.Core.dkey a = FP.Core.dkey b) from propext this]
  omega
theorem le_key {a b : UInt64} (ha : vf_n64 a) (hb : vf_n64 b) : (FP.dcmp a b = some .lt ∨ FP.dcmp a b = some .eq) = (FP.Core.dkey a ≤ FP.Core.dkey b) := by
  apply propext
  rw [flt_key ha hb]
  have := feq_key ha hb
  rw [show (FP.dcmp a b = some .eq) = (FP.Core.dkey a = FP.Core.dkey b) from propext this]
  omega
theorem sX8_down (hx : Vo x) : mF_X8_down [.double (mo x)] μ = some (some (.double (mo (x.map sp_fl))), μ) := by
  rw [en_X8_down]
  cases x with
  | none => simp only [mo, Option.getD_none, Option.map_none, x_X8_down_0, x_X8_down_1, x_X8_down_2, x_X8_down_3, x_X8_down_6, x_X8_down_7, x_X8_down_10, x_X8_down_11, x_X8_down_14, x_X8_down_15, x_X8_down_18, x_X8_down_19, x_X8_down_22, x_X8_down_23, x_X8_down_24, x_X8_down_25, x_X8_down_28, x_X8_down_29, x_X8_down_30, x_X8_down_31, x_X8_down_32, x_X8_down_33, x_X8_down_34, x_X8_down_35, x_X8_down_36, x_X8_down_37, x_X8_down_40, x_X8_down_41, x_X8_down_42, x_X8_down_43, x_X8_down_46, x_X8_down_47, cl_eq, dc_nan_l, reduceCtorEq, if_false, if_true, not_false_eq_true]
  | some a =>
    have ha := hx a rfl
    have hs := fl_sub (FP.d2l a)
    simp (disch := exact hs) only [mo, Option.getD_some, Option.map_some, x_X8_down_0, x_X8_down_1, x_X8_down_2, x_X8_down_3, x_X8_down_6, x_X8_down_7, x_X8_down_10, x_X8_down_11, x_X8_down_14, x_X8_down_15, x_X8_down_18, x_X8_down_19, x_X8_down_22, x_X8_down_23, x_X8_down_24, x_X8_down_25, x_X8_down_28, x_X8_down_29, x_X8_down_30, x_X8_down_31, x_X8_down_32, x_X8_down_33, x_X8_down_34, x_X8_down_35, x_X8_down_36, x_X8_down_37, x_X8_down_40, x_X8_down_41, x_X8_down_42, x_X8_down_43, x_X8_down_46, x_X8_down_47, cl_eq, cl_lt, cl_ge, cg_gt, cg_le, cl_le, cl_gt, feq_nn ha, if_true, show (4841369599423283200 : UInt64) = c52 from rfl, show (14064741636278059008 : UInt64) = m52 from rfl, ge_key ha fn_52, le_key ha fn_m52, ite_not]
    unfold sp_fl
    by_cases c1 : FP.Core.dkey c52 ≤ FP.Core.dkey a
    · simp only [c1, if_true, true_or, or_true]
    · by_cases c2 : FP.Core.dkey a ≤ FP.Core.dkey m52
      · simp only [c1, c2, if_true, if_false, or_true]
      · by_cases c3 : feq a 0
        · simp only [c1, c2, eq_true c3, if_true, if_false, true_or]
        · simp only [c1, c2, eq_false c3, if_false, or_self]
          by_cases c4 : FP.dcmp (FP.l2d (FP.d2l a)) a = some .gt
          · simp only [eq_true c4, if_true]
          · simp only [eq_false c4, if_false]
theorem key_neg (a : UInt64) : FP.Core.dkey (FP.dneg a) = - FP.Core.dkey a := by
  have : ∀ b : UInt64, (FP.dneg b).toNat = if 2 ^ 63 ≤ b.toNat then b.toNat - 2 ^ 63 else b.toNat + 2 ^ 63 := by
    intro b
    have hb := b.toNat_lt
    have e : (FP.dneg b).toNat = b.toNat ^^^ 2 ^ 63 := by
      unfold FP.dneg
      rw [UInt64.toNat_xor]
      rfl
    rw [e]
    split
    · rename_i h
      apply Nat.eq_of_testBit_eq
      intro i
      rw [Nat.testBit_xor, Nat.testBit_two_pow]
      by_cases h63 : i = 63
      · subst h63
        have h1 : b.toNat.testBit 63 = true := by
          rw [Nat.testBit_eq_decide_div_mod_eq]
          have : b.toNat / 2 ^ 63 = 1 := by omega
          rw [this]; rfl
        have h2 : (b.toNat - 2 ^ 63).testBit 63 = false := Nat.testBit_lt_two_pow (by omega)
        rw [h1, h2]; rfl
      · have h3 : (b.toNat - 2 ^ 63 + 2 ^ 63).testBit i = (b.toNat - 2 ^ 63).testBit i := by
          rw [Nat.add_comm]
          by_cases hi : i < 63
          · exact Nat.testBit_two_pow_add_gt hi _
          · rw [Nat.testBit_lt_two_pow (show b.toNat - 2 ^ 63 < 2 ^ i from Nat.lt_of_lt_of_le (by omega : b.toNat - 2 ^ 63 < 2 ^ 63) (Nat.pow_le_pow_right (by decide) (by omega))), Nat.testBit_lt_two_pow]
            exact Nat.lt_of_lt_of_le (by omega : 2 ^ 63 + (b.toNat - 2 ^ 63) < 2 ^ 64) (Nat.pow_le_pow_right (by decide) (by omega))
        rw [show b.toNat - 2 ^ 63 + 2 ^ 63 = b.toNat by omega] at h3
        rw [h3]
        have : decide (63 = i) = false := by simp; omega
        rw [this]; simp
    · rename_i h
      apply Nat.eq_of_testBit_eq
      intro i
      rw [Nat.testBit_xor, Nat.testBit_two_pow]
      by_cases h63 : i = 63
      · subst h63
        have h1 : b.toNat.testBit 63 = false := Nat.testBit_lt_two_pow (by omega)
        have h2 : (b.toNat + 2 ^ 63).testBit 63 = true := by
          rw [Nat.testBit_eq_decide_div_mod_eq]
          have : (b.toNat + 2 ^ 63) / 2 ^ 63 = 1 := by omega
          rw [this]; rfl
        rw [h1, h2]; rfl
      · have h3 : (b.toNat + 2 ^ 63).testBit i = b.toNat.testBit i := by
          rw [Nat.add_comm]
          by_cases hi : i < 63
          · exact Nat.testBit_two_pow_add_gt hi _
          · rw [Nat.testBit_lt_two_pow (show b.toNat < 2 ^ i from Nat.lt_of_lt_of_le (by omega : b.toNat < 2 ^ 63) (Nat.pow_le_pow_right (by decide) (by omega))), Nat.testBit_lt_two_pow]
            exact Nat.lt_of_lt_of_le (by omega : 2 ^ 63 + b.toNat < 2 ^ 64) (Nat.pow_le_pow_right (by decide) (by omega))
        rw [h3]
        have : decide (63 = i) = false := by simp; omega
        rw [this]; simp
  have ha := a.toNat_lt
  have e := this a
  unfold FP.Core.dkey
  rw [e]
  by_cases h : 2 ^ 63 ≤ a.toNat
  · simp only [h, if_true]
    rw [if_neg (by omega)]
    omega
  · simp only [h, if_false]
    rw [if_pos (by omega)]
    omega
theorem sX0_floorOf {a : UInt64} (ha : vf_n64 a) : mF_X0_floorOf [.double a] μ = some (some (.double (sp_fl a)), μ) := by
  rw [en_X0_floorOf]
  have hs := fl_sub (FP.d2l a)
  have hk : (FP.Core.dkey c52 ≤ FP.Core.dkey (if FP.dcmp a 0 = some .lt then FP.dneg a else a)) = (FP.Core.dkey c52 ≤ FP.Core.dkey a ∨ FP.Core.dkey a ≤ FP.Core.dkey m52) := by
    apply propext
    have e1 : FP.Core.dkey c52 = 4841369599423283200 := by decide
    have e2 : FP.Core.dkey m52 = -4841369599423283200 := by decide
    rw [e1, e2]
    have hl := flt_key ha fn_0
    rw [key0] at hl
    by_cases c : FP.dcmp a 0 = some .lt
    · have := hl.mp c
      rw [if_pos c, key_neg]
      omega
    · have : ¬ FP.Core.dkey a < 0 := fun z => c (hl.mpr z)
      rw [if_neg c]
      omega
  have hfn : vf_n64 (if FP.dcmp a 0 = some .lt then FP.dneg a else a) := by
    split
    · exact fn_neg ha
    · exact ha
  simp (disch := exact hs) only [x_X0_floorOf_0, x_X0_floorOf_1, x_X0_floorOf_2, x_X0_floorOf_3, x_X0_floorOf_6, x_X0_floorOf_7, x_X0_floorOf_10, x_X0_floorOf_13, x_X0_floorOf_14, x_X0_floorOf_17, x_X0_floorOf_18, x_X0_floorOf_19, x_X0_floorOf_20, x_X0_floorOf_21, x_X0_floorOf_22, x_X0_floorOf_23, x_X0_floorOf_24, x_X0_floorOf_25, x_X0_floorOf_26, x_X0_floorOf_29, x_X0_floorOf_30, x_X0_floorOf_31, x_X0_floorOf_32, x_X0_floorOf_35, x_X0_floorOf_36, cl_eq, cl_lt, cl_ge, cl_le, sX0_sizeOf, Option.bind_some, Option.toList, List.cons_append, List.nil_append, show (4841369599423283200 : UInt64) = c52 from rfl, ge_key hfn fn_52, hk, ite_not]
  unfold sp_fl
  by_cases c3 : feq a 0
  · simp only [eq_true c3, if_true, true_or]
  · by_cases c1 : FP.Core.dkey c52 ≤ FP.Core.dkey a ∨ FP.Core.dkey a ≤ FP.Core.dkey m52
    · simp only [c1, eq_false c3, if_true, if_false, or_true]
    · simp only [c1, eq_false c3, if_false, or_self]
      by_cases c4 : FP.dcmp (FP.l2d (FP.d2l a)) a = some .gt
      · simp only [eq_true c4, if_true]
      · simp only [eq_false c4, if_false]
end MORE
