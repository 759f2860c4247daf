/-! DOUBLES, 3: the model's operations, and the class's others -/
def nN : UInt64 := 9221120237041090560
def mo (x : Option UInt64) : UInt64 := x.getD nN
def Vo (x : Option UInt64) : Prop := ∀ a, x = some a → vf_n64 a
theorem nN_val : FP.Core.val64 nN = .nan := by decide +kernel
theorem nN_not : ¬ vf_n64 nN := by
  intro h
  exact (fn_iff nN).mp h nN_val
theorem dc_nan_l (y : UInt64) : FP.dcmp nN y = none := by
  show FP.Core.order (FP.Core.val64 nN) (FP.Core.val64 y) = none
  rw [nN_val]
  rfl
theorem dc_nan_r (y : UInt64) : FP.dcmp y nN = none := by
  show FP.Core.order (FP.Core.val64 y) (FP.Core.val64 nN) = none
  rw [nN_val]
  cases FP.Core.val64 y <;> rfl
theorem dc_key {a b : UInt64} (ha : vf_n64 a) (hb : vf_n64 b) : FP.dcmp a b = some (compare (FP.Core.dkey a) (FP.Core.dkey b)) := FP.Core.dcmp_key ((fn_iff a).mp ha) ((fn_iff b).mp hb)
theorem feq_refl {a : UInt64} (ha : vf_n64 a) : feq a a := by
  show FP.dcmp a a = some .eq
  rw [dc_key ha ha, Option.some.injEq, FP.Core.compare_eq_iff]
theorem feq_key {a b : UInt64} (ha : vf_n64 a) (hb : vf_n64 b) : feq a b ↔ FP.Core.dkey a = FP.Core.dkey b := by
  show FP.dcmp a b = some .eq ↔ _
  rw [dc_key ha hb, Option.some.injEq, FP.Core.compare_eq_iff]
theorem flt_key {a b : UInt64} (ha : vf_n64 a) (hb : vf_n64 b) : FP.dcmp a b = some .lt ↔ FP.Core.dkey a < FP.Core.dkey b := by
  rw [dc_key ha hb, Option.some.injEq, FP.Core.compare_lt_iff]
theorem fgt_key {a b : UInt64} (ha : vf_n64 a) (hb : vf_n64 b) : FP.dcmp a b = some .gt ↔ FP.Core.dkey b < FP.Core.dkey a := by
  rw [dc_key ha hb, Option.some.injEq, FP.Core.compare_gt_iff]
theorem key0 : FP.Core.dkey 0 = 0 := by decide
theorem feq_nn {a : UInt64} (ha : vf_n64 a) : (FP.dcmp a a = some .eq) = True := eq_true (feq_refl ha)
theorem sX8_noReal {μ : pm_M} : mF_X8_noReal [] μ = some (some (.double nN), μ) := by
  rw [en_X8_noReal]
  simp (disch := decide) only [x_X8_noReal_0, x_X8_noReal_3, x_X8_noReal_6]
  rfl
def sm2 (f : UInt64 → UInt64 → Option UInt64) (x y : Option UInt64) : Option UInt64 := x.bind fun a => y.bind fun b => f a b
section MOD
variable {μ : pm_M} {x y : Option UInt64}
theorem sX8_realPlus (hx : Vo x) (hy : Vo y) : mF_X8_realPlus [.double (mo x), .double (mo y)] μ = some (some (.double (mo (sm2 sp_plus x y))), μ) := by
  rw [en_X8_realPlus]
  cases x with
  | none => simp only [mo, sm2, Option.getD_none, Option.bind_none, x_X8_realPlus_0, x_X8_realPlus_1, x_X8_realPlus_2, x_X8_realPlus_3, x_X8_realPlus_6, x_X8_realPlus_7, x_X8_realPlus_8, x_X8_realPlus_9, x_X8_realPlus_12, x_X8_realPlus_13, x_X8_realPlus_16, x_X8_realPlus_19, x_X8_realPlus_20, x_X8_realPlus_23, x_X8_realPlus_26, x_X8_realPlus_27, x_X8_realPlus_28, x_X8_realPlus_29, x_X8_realPlus_32, x_X8_realPlus_35, x_X8_realPlus_38, x_X8_realPlus_39, x_X8_realPlus_40, x_X8_realPlus_41, cl_eq, dc_nan_l, reduceCtorEq, if_false, if_true, not_false_eq_true, sX8_noReal, Option.bind_some, Option.toList, List.cons_append, List.nil_append]
  | some a =>
    have ha := hx a rfl
    cases y with
    | none => simp only [mo, sm2, Option.getD_none, Option.getD_some, Option.bind_none, Option.bind_some, x_X8_realPlus_0, x_X8_realPlus_1, x_X8_realPlus_2, x_X8_realPlus_3, x_X8_realPlus_6, x_X8_realPlus_7, x_X8_realPlus_8, x_X8_realPlus_9, x_X8_realPlus_12, x_X8_realPlus_13, x_X8_realPlus_16, x_X8_realPlus_19, x_X8_realPlus_20, x_X8_realPlus_23, x_X8_realPlus_26, x_X8_realPlus_27, x_X8_realPlus_28, x_X8_realPlus_29, x_X8_realPlus_32, x_X8_realPlus_35, x_X8_realPlus_38, x_X8_realPlus_39, x_X8_realPlus_40, x_X8_realPlus_41, cl_eq, feq_nn ha, dc_nan_l, reduceCtorEq, if_false, if_true, not_false_eq_true, not_true_eq_false, sX8_noReal, Option.toList, List.cons_append, List.nil_append]
    | some b =>
      have hb := hy b rfl
      by_cases h : fInf a ∧ fInf b ∧ ¬ feq a b
      · have e : sp_plus a b = none := if_pos h
        obtain ⟨c1, c2, c3⟩ := h
        simp only [mo, sm2, e, Option.getD_none, Option.getD_some, Option.bind_some, x_X8_realPlus_0, x_X8_realPlus_1, x_X8_realPlus_2, x_X8_realPlus_3, x_X8_realPlus_6, x_X8_realPlus_7, x_X8_realPlus_8, x_X8_realPlus_9, x_X8_realPlus_12, x_X8_realPlus_13, x_X8_realPlus_16, x_X8_realPlus_19, x_X8_realPlus_20, x_X8_realPlus_23, x_X8_realPlus_26, x_X8_realPlus_27, x_X8_realPlus_28, x_X8_realPlus_29, x_X8_realPlus_32, x_X8_realPlus_35, x_X8_realPlus_38, x_X8_realPlus_39, x_X8_realPlus_40, x_X8_realPlus_41, cl_eq, feq_nn ha, feq_nn hb, c1, c2, c3, sX8_isEndlessReal ha, sX8_isEndlessReal hb, pb_eq0, if_false, if_true, not_false_eq_true, not_true_eq_false, sX8_noReal, Option.toList, List.cons_append, List.nil_append]
      · have e : sp_plus a b = some (FP.dadd a b) := if_neg h
        have hn := fn_add ha hb h
        simp (disch := exact hn) only [mo, sm2, e, Option.getD_none, Option.getD_some, Option.bind_some, x_X8_realPlus_0, x_X8_realPlus_1, x_X8_realPlus_2, x_X8_realPlus_3, x_X8_realPlus_6, x_X8_realPlus_7, x_X8_realPlus_8, x_X8_realPlus_9, x_X8_realPlus_12, x_X8_realPlus_13, x_X8_realPlus_16, x_X8_realPlus_19, x_X8_realPlus_20, x_X8_realPlus_23, x_X8_realPlus_26, x_X8_realPlus_27, x_X8_realPlus_28, x_X8_realPlus_29, x_X8_realPlus_32, x_X8_realPlus_35, x_X8_realPlus_38, x_X8_realPlus_39, x_X8_realPlus_40, x_X8_realPlus_41, cl_eq, feq_nn ha, feq_nn hb, sX8_isEndlessReal ha, sX8_isEndlessReal hb, pb_eq0, if_false, if_true, not_false_eq_true, not_true_eq_false, sX8_noReal, Option.toList, List.cons_append, List.nil_append, ite_not]
        by_cases c1 : fInf a
        · by_cases c2 : fInf b
          · have c3 : feq a b := Classical.byContradiction fun z => h ⟨c1, c2, z⟩
            simp only [c1, c2, c3, if_true]
          · simp only [c1, c2, if_true, if_false]
        · simp only [c1, if_false]
theorem sX8_realLess (hx : Vo x) (hy : Vo y) : mF_X8_realLess [.double (mo x), .double (mo y)] μ = some (some (.double (mo (sm2 sp_minus x y))), μ) := by
  rw [en_X8_realLess]
  cases x with
  | none => simp only [mo, sm2, Option.getD_none, Option.bind_none, x_X8_realLess_0, x_X8_realLess_1, x_X8_realLess_2, x_X8_realLess_3, x_X8_realLess_6, x_X8_realLess_7, x_X8_realLess_8, x_X8_realLess_9, x_X8_realLess_12, x_X8_realLess_13, x_X8_realLess_16, x_X8_realLess_19, x_X8_realLess_20, x_X8_realLess_23, x_X8_realLess_26, x_X8_realLess_27, x_X8_realLess_28, x_X8_realLess_29, x_X8_realLess_32, x_X8_realLess_35, x_X8_realLess_38, x_X8_realLess_39, x_X8_realLess_40, x_X8_realLess_41, cl_eq, dc_nan_l, reduceCtorEq, if_false, if_true, not_false_eq_true, sX8_noReal, Option.bind_some, Option.toList, List.cons_append, List.nil_append]
  | some a =>
    have ha := hx a rfl
    cases y with
    | none => simp only [mo, sm2, Option.getD_none, Option.getD_some, Option.bind_none, Option.bind_some, x_X8_realLess_0, x_X8_realLess_1, x_X8_realLess_2, x_X8_realLess_3, x_X8_realLess_6, x_X8_realLess_7, x_X8_realLess_8, x_X8_realLess_9, x_X8_realLess_12, x_X8_realLess_13, x_X8_realLess_16, x_X8_realLess_19, x_X8_realLess_20, x_X8_realLess_23, x_X8_realLess_26, x_X8_realLess_27, x_X8_realLess_28, x_X8_realLess_29, x_X8_realLess_32, x_X8_realLess_35, x_X8_realLess_38, x_X8_realLess_39, x_X8_realLess_40, x_X8_realLess_41, cl_eq, feq_nn ha, dc_nan_l, reduceCtorEq, if_false, if_true, not_false_eq_true, not_true_eq_false, sX8_noReal, Option.toList, List.cons_append, List.nil_append]
    | some b =>
      have hb := hy b rfl
      by_cases h : fInf a ∧ feq a b
      · have e : sp_minus a b = none := if_pos h
        obtain ⟨c1, c3⟩ := h
        have c2 : fInf b := by
          have k := (feq_key ha hb).mp c3
          rcases c1 with rfl | rfl
          · have := (fn_iff b).mp hb
            rw [FP.Core.ne_nan] at this
            have e1 : FP.Core.dkey 9218868437227405312 = 9218868437227405312 := by decide
            rw [e1] at k
            left
            apply UInt64.toNat_inj.mp
            show b.toNat = 9218868437227405312
            have := b.toNat_lt
            unfold FP.Core.dkey at k
            split at k <;> omega
          · have := (fn_iff b).mp hb
            rw [FP.Core.ne_nan] at this
            have e1 : FP.Core.dkey 18442240474082181120 = -9218868437227405312 := by decide
            rw [e1] at k
            right
            apply UInt64.toNat_inj.mp
            show b.toNat = 18442240474082181120
            have := b.toNat_lt
            unfold FP.Core.dkey at k
            split at k <;> omega
        simp only [mo, sm2, e, Option.getD_none, Option.getD_some, Option.bind_some, x_X8_realLess_0, x_X8_realLess_1, x_X8_realLess_2, x_X8_realLess_3, x_X8_realLess_6, x_X8_realLess_7, x_X8_realLess_8, x_X8_realLess_9, x_X8_realLess_12, x_X8_realLess_13, x_X8_realLess_16, x_X8_realLess_19, x_X8_realLess_20, x_X8_realLess_23, x_X8_realLess_26, x_X8_realLess_27, x_X8_realLess_28, x_X8_realLess_29, x_X8_realLess_32, x_X8_realLess_35, x_X8_realLess_38, x_X8_realLess_39, x_X8_realLess_40, x_X8_realLess_41, cl_eq, feq_nn ha, feq_nn hb, c1, c2, c3, sX8_isEndlessReal ha, sX8_isEndlessReal hb, pb_eq0, if_false, if_true, not_false_eq_true, not_true_eq_false, sX8_noReal, Option.toList, List.cons_append, List.nil_append]
      · have e : sp_minus a b = some (FP.dsub a b) := if_neg h
        have hn := fn_sub ha hb h
        simp (disch := exact hn) only [mo, sm2, e, Option.getD_none, Option.getD_some, Option.bind_some, x_X8_realLess_0, x_X8_realLess_1, x_X8_realLess_2, x_X8_realLess_3, x_X8_realLess_6, x_X8_realLess_7, x_X8_realLess_8, x_X8_realLess_9, x_X8_realLess_12, x_X8_realLess_13, x_X8_realLess_16, x_X8_realLess_19, x_X8_realLess_20, x_X8_realLess_23, x_X8_realLess_26, x_X8_realLess_27, x_X8_realLess_28, x_X8_realLess_29, x_X8_realLess_32, x_X8_realLess_35, x_X8_realLess_38, x_X8_realLess_39, x_X8_realLess_40, x_X8_realLess_41, cl_eq, feq_nn ha, feq_nn hb, sX8_isEndlessReal ha, sX8_isEndlessReal hb, pb_eq0, if_false, if_true, not_false_eq_true, not_true_eq_false, sX8_noReal, Option.toList, List.cons_append, List.nil_append, ite_not]
        by_cases c1 : fInf a
        · have c3 : ¬ feq a b := fun z => h ⟨c1, z⟩
          by_cases c2 : fInf b
          · simp only [c1, c2, c3, if_true, if_false]
          · simp only [c1, c2, if_true, if_false]
        · simp only [c1, if_false]
theorem sX8_realTimes (hx : Vo x) (hy : Vo y) : mF_X8_realTimes [.double (mo x), .double (mo y)] μ = some (some (.double (mo (sm2 sp_times x y))), μ) := by
  rw [en_X8_realTimes]
  cases x with
  | none => simp only [mo, sm2, Option.getD_none, Option.bind_none, x_X8_realTimes_0, x_X8_realTimes_1, x_X8_realTimes_2, x_X8_realTimes_3, x_X8_realTimes_6, x_X8_realTimes_7, x_X8_realTimes_8, x_X8_realTimes_9, x_X8_realTimes_12, x_X8_realTimes_13, x_X8_realTimes_16, x_X8_realTimes_19, x_X8_realTimes_20, x_X8_realTimes_21, x_X8_realTimes_22, x_X8_realTimes_25, x_X8_realTimes_26, x_X8_realTimes_29, x_X8_realTimes_32, x_X8_realTimes_33, x_X8_realTimes_34, x_X8_realTimes_35, x_X8_realTimes_38, x_X8_realTimes_41, x_X8_realTimes_44, x_X8_realTimes_45, x_X8_realTimes_46, x_X8_realTimes_47, cl_eq, dc_nan_l, reduceCtorEq, if_false, if_true, not_false_eq_true, sX8_noReal, Option.bind_some, Option.toList, List.cons_append, List.nil_append]
  | some a =>
    have ha := hx a rfl
    cases y with
    | none => simp only [mo, sm2, Option.getD_none, Option.getD_some, Option.bind_none, Option.bind_some, x_X8_realTimes_0, x_X8_realTimes_1, x_X8_realTimes_2, x_X8_realTimes_3, x_X8_realTimes_6, x_X8_realTimes_7, x_X8_realTimes_8, x_X8_realTimes_9, x_X8_realTimes_12, x_X8_realTimes_13, x_X8_realTimes_16, x_X8_realTimes_19, x_X8_realTimes_20, x_X8_realTimes_21, x_X8_realTimes_22, x_X8_realTimes_25, x_X8_realTimes_26, x_X8_realTimes_29, x_X8_realTimes_32, x_X8_realTimes_33, x_X8_realTimes_34, x_X8_realTimes_35, x_X8_realTimes_38, x_X8_realTimes_41, x_X8_realTimes_44, x_X8_realTimes_45, x_X8_realTimes_46, x_X8_realTimes_47, cl_eq, feq_nn ha, dc_nan_l, reduceCtorEq, if_false, if_true, not_false_eq_true, not_true_eq_false, sX8_noReal, Option.toList, List.cons_append, List.nil_append]
    | some b =>
      have hb := hy b rfl
      by_cases h : (feq a 0 ∧ fInf b) ∨ (feq b 0 ∧ fInf a)
      · have e : sp_times a b = none := if_pos h
        simp only [mo, sm2, e, Option.getD_none, Option.getD_some, Option.bind_some, x_X8_realTimes_0, x_X8_realTimes_1, x_X8_realTimes_2, x_X8_realTimes_3, x_X8_realTimes_6, x_X8_realTimes_7, x_X8_realTimes_8, x_X8_realTimes_9, x_X8_realTimes_12, x_X8_realTimes_13, x_X8_realTimes_16, x_X8_realTimes_19, x_X8_realTimes_20, x_X8_realTimes_21, x_X8_realTimes_22, x_X8_realTimes_25, x_X8_realTimes_26, x_X8_realTimes_29, x_X8_realTimes_32, x_X8_realTimes_33, x_X8_realTimes_34, x_X8_realTimes_35, x_X8_realTimes_38, x_X8_realTimes_41, x_X8_realTimes_44, x_X8_realTimes_45, x_X8_realTimes_46, x_X8_realTimes_47, cl_eq, feq_nn ha, feq_nn hb, sX8_isEndlessReal ha, sX8_isEndlessReal hb, pb_eq0, if_false, if_true, not_false_eq_true, not_true_eq_false, sX8_noReal, Option.toList, List.cons_append, List.nil_append, ite_not]
        rcases h with ⟨c1, c2⟩ | ⟨c1, c2⟩
        · by_cases c3 : fInf a
          · by_cases c4 : feq b 0
            · simp only [c1, c2, c3, c4, if_true]
            · simp only [c1, c2, c3, c4, if_true, if_false]
          · simp only [c1, c2, c3, if_true, if_false]
        · simp only [c1, c2, if_true]
      · have e : sp_times a b = some (FP.dmul a b) := if_neg h
        have hn := fn_mul ha hb (fun z => h (Or.inl z)) (fun z => h (Or.inr z))
        simp (disch := exact hn) only [mo, sm2, e, Option.getD_none, Option.getD_some, Option.bind_some, x_X8_realTimes_0, x_X8_realTimes_1, x_X8_realTimes_2, x_X8_realTimes_3, x_X8_realTimes_6, x_X8_realTimes_7, x_X8_realTimes_8, x_X8_realTimes_9, x_X8_realTimes_12, x_X8_realTimes_13, x_X8_realTimes_16, x_X8_realTimes_19, x_X8_realTimes_20, x_X8_realTimes_21, x_X8_realTimes_22, x_X8_realTimes_25, x_X8_realTimes_26, x_X8_realTimes_29, x_X8_realTimes_32, x_X8_realTimes_33, x_X8_realTimes_34, x_X8_realTimes_35, x_X8_realTimes_38, x_X8_realTimes_41, x_X8_realTimes_44, x_X8_realTimes_45, x_X8_realTimes_46, x_X8_realTimes_47, cl_eq, feq_nn ha, feq_nn hb, sX8_isEndlessReal ha, sX8_isEndlessReal hb, pb_eq0, if_false, if_true, not_false_eq_true, not_true_eq_false, sX8_noReal, Option.toList, List.cons_append, List.nil_append, ite_not]
        by_cases c1 : fInf a
        · have c3 : ¬ feq b 0 := fun z => h (Or.inr ⟨z, c1⟩)
          by_cases c2 : fInf b
          · have c4 : ¬ feq a 0 := fun z => h (Or.inl ⟨z, c2⟩)
            simp only [c1, c2, c3, c4, if_true, if_false]
          · simp only [c1, c2, c3, if_true, if_false]
        · by_cases c2 : fInf b
          · have c4 : ¬ feq a 0 := fun z => h (Or.inl ⟨z, c2⟩)
            simp only [c1, c2, c4, if_true, if_false]
          · simp only [c1, c2, if_false]
theorem sX8_realOver (hx : Vo x) (hy : Vo y) : mF_X8_realOver [.double (mo x), .double (mo y)] μ = some (some (.double (mo (sm2 sp_over x y))), μ) := by
  rw [en_X8_realOver]
  cases x with
  | none => simp only [mo, sm2, Option.getD_none, Option.bind_none, x_X8_realOver_0, x_X8_realOver_1, x_X8_realOver_2, x_X8_realOver_3, x_X8_realOver_6, x_X8_realOver_7, x_X8_realOver_8, x_X8_realOver_9, x_X8_realOver_12, x_X8_realOver_13, x_X8_realOver_16, x_X8_realOver_19, x_X8_realOver_20, x_X8_realOver_23, x_X8_realOver_26, x_X8_realOver_27, x_X8_realOver_28, x_X8_realOver_29, x_X8_realOver_32, x_X8_realOver_33, x_X8_realOver_34, x_X8_realOver_35, x_X8_realOver_38, x_X8_realOver_41, x_X8_realOver_44, x_X8_realOver_45, x_X8_realOver_46, x_X8_realOver_47, cl_eq, dc_nan_l, reduceCtorEq, if_false, if_true, not_false_eq_true, sX8_noReal, Option.bind_some, Option.toList, List.cons_append, List.nil_append]
  | some a =>
    have ha := hx a rfl
    cases y with
    | none => simp only [mo, sm2, Option.getD_none, Option.getD_some, Option.bind_none, Option.bind_some, x_X8_realOver_0, x_X8_realOver_1, x_X8_realOver_2, x_X8_realOver_3, x_X8_realOver_6, x_X8_realOver_7, x_X8_realOver_8, x_X8_realOver_9, x_X8_realOver_12, x_X8_realOver_13, x_X8_realOver_16, x_X8_realOver_19, x_X8_realOver_20, x_X8_realOver_23, x_X8_realOver_26, x_X8_realOver_27, x_X8_realOver_28, x_X8_realOver_29, x_X8_realOver_32, x_X8_realOver_33, x_X8_realOver_34, x_X8_realOver_35, x_X8_realOver_38, x_X8_realOver_41, x_X8_realOver_44, x_X8_realOver_45, x_X8_realOver_46, x_X8_realOver_47, cl_eq, feq_nn ha, dc_nan_l, reduceCtorEq, if_false, if_true, not_false_eq_true, not_true_eq_false, sX8_noReal, Option.toList, List.cons_append, List.nil_append]
    | some b =>
      have hb := hy b rfl
      by_cases h : (feq a 0 ∧ feq b 0) ∨ (fInf a ∧ fInf b)
      · have e : sp_over a b = none := if_pos h
        simp only [mo, sm2, e, Option.getD_none, Option.getD_some, Option.bind_some, x_X8_realOver_0, x_X8_realOver_1, x_X8_realOver_2, x_X8_realOver_3, x_X8_realOver_6, x_X8_realOver_7, x_X8_realOver_8, x_X8_realOver_9, x_X8_realOver_12, x_X8_realOver_13, x_X8_realOver_16, x_X8_realOver_19, x_X8_realOver_20, x_X8_realOver_23, x_X8_realOver_26, x_X8_realOver_27, x_X8_realOver_28, x_X8_realOver_29, x_X8_realOver_32, x_X8_realOver_33, x_X8_realOver_34, x_X8_realOver_35, x_X8_realOver_38, x_X8_realOver_41, x_X8_realOver_44, x_X8_realOver_45, x_X8_realOver_46, x_X8_realOver_47, cl_eq, feq_nn ha, feq_nn hb, sX8_isEndlessReal ha, sX8_isEndlessReal hb, pb_eq0, if_false, if_true, not_false_eq_true, not_true_eq_false, sX8_noReal, Option.toList, List.cons_append, List.nil_append, ite_not]
        rcases h with ⟨c1, c2⟩ | ⟨c1, c2⟩
        · by_cases c3 : fInf a
          · by_cases c4 : fInf b
            · simp only [c3, c4, if_true]
            · simp only [c1, c2, c3, c4, if_true, if_false]
          · simp only [c1, c2, c3, if_true, if_false]
        · simp only [c1, c2, if_true]
      · have e : sp_over a b = some (FP.ddiv a b) := if_neg h
        have hn := fn_div ha hb (fun z => h (Or.inl z)) (fun z => h (Or.inr z))
        simp (disch := exact hn) only [mo, sm2, e, Option.getD_none, Option.getD_some, Option.bind_some, x_X8_realOver_0, x_X8_realOver_1, x_X8_realOver_2, x_X8_realOver_3, x_X8_realOver_6, x_X8_realOver_7, x_X8_realOver_8, x_X8_realOver_9, x_X8_realOver_12, x_X8_realOver_13, x_X8_realOver_16, x_X8_realOver_19, x_X8_realOver_20, x_X8_realOver_23, x_X8_realOver_26, x_X8_realOver_27, x_X8_realOver_28, x_X8_realOver_29, x_X8_realOver_32, x_X8_realOver_33, x_X8_realOver_34, x_X8_realOver_35, x_X8_realOver_38, x_X8_realOver_41, x_X8_realOver_44, x_X8_realOver_45, x_X8_realOver_46, x_X8_realOver_47, cl_eq, feq_nn ha, feq_nn hb, sX8_isEndlessReal ha, sX8_isEndlessReal hb, pb_eq0, if_false, if_true, not_false_eq_true, not_true_eq_false, sX8_noReal, Option.toList, List.cons_append, List.nil_append, ite_not]
        by_cases c3 : fInf a
        · have c4 : ¬ fInf b := fun z => h (Or.inr ⟨c3, z⟩)
          by_cases c1 : feq a 0
          · have c2 : ¬ feq b 0 := fun z => h (Or.inl ⟨c1, z⟩)
            simp only [c1, c2, c3, c4, if_true, if_false]
          · simp only [c1, c3, c4, if_true, if_false]
        · by_cases c1 : feq a 0
          · have c2 : ¬ feq b 0 := fun z => h (Or.inl ⟨c1, z⟩)
            simp only [c1, c2, c3, if_true, if_false]
          · simp only [c1, c3, if_false]
end MOD
