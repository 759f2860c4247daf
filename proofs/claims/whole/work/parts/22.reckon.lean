/-! DOUBLES, 2: the reckoner, and the model's operations -/
def fb (b : Bool) : Int32 := if b = true then nI 1 else nI 0
theorem pm_uu {α : Type} (f : Nat → Nat → α) (a b : Nat) (v w : α) : pm_u (pm_u f a b v) a b w = pm_u f a b w := by
  funext i j
  simp only [pm_u]
  split <;> rfl
theorem pm_us {α : Type} (f : Nat → Nat → α) (a b : Nat) (v : α) : pm_u f a b v a b = v := by simp [pm_u]
theorem pm_un {α : Type} (f : Nat → Nat → α) {a b i j : Nat} (v : α) (h : ¬ (i = a ∧ j = b)) : pm_u f a b v i j = f i j := if_neg h
theorem gt_max {d : UInt64} (h : vf_n64 d) : (FP.dcmp d 9218868437227405311 = some .gt) = (d = 9218868437227405312) := by
  apply propext
  have h2 : FP.Core.val64 d ≠ .nan := (fn_iff d).mp h
  rw [show FP.dcmp d 9218868437227405311 = FP.Core.dcmp d 9218868437227405311 from rfl, FP.Core.dcmp_key h2 (by decide +kernel)]
  rw [FP.Core.ne_nan] at h2
  rw [Option.some.injEq, FP.Core.compare_gt_iff]
  have e : FP.Core.dkey 9218868437227405311 = 9218868437227405311 := by decide +kernel
  rw [e]
  have hd := d.toNat_lt
  constructor
  · intro z
    apply UInt64.toNat_inj.mp
    show d.toNat = 9218868437227405312
    unfold FP.Core.dkey at z
    split at z <;> omega
  · rintro rfl
    decide +kernel
theorem lt_max {d : UInt64} (h : vf_n64 d) : (FP.dcmp d 18442240474082181119 = some .lt) = (d = 18442240474082181120) := by
  apply propext
  have h2 : FP.Core.val64 d ≠ .nan := (fn_iff d).mp h
  rw [show FP.dcmp d 18442240474082181119 = FP.Core.dcmp d 18442240474082181119 from rfl, FP.Core.dcmp_key h2 (by decide +kernel)]
  rw [FP.Core.ne_nan] at h2
  rw [Option.some.injEq, FP.Core.compare_lt_iff]
  have e : FP.Core.dkey 18442240474082181119 = -9218868437227405311 := by decide +kernel
  rw [e]
  have hd := d.toNat_lt
  constructor
  · intro z
    apply UInt64.toNat_inj.mp
    show d.toNat = 18442240474082181120
    unfold FP.Core.dkey at z
    split at z <;> omega
  · rintro rfl
    decide +kernel
theorem sX0_isEndless {d : UInt64} (h : vf_n64 d) {μ : pm_M} : mF_X0_isEndless [.double d] μ = some (some (.int (pb (fInf d))), μ) := by
  rw [en_X0_isEndless]
  simp only [x_X0_isEndless_0, x_X0_isEndless_1, x_X0_isEndless_4, x_X0_isEndless_5, x_X0_isEndless_8, x_X0_isEndless_9, x_X0_isEndless_12, x_X0_isEndless_13, x_X0_isEndless_16, x_X0_isEndless_17, x_X0_isEndless_20, x_X0_isEndless_21a, x_X0_isEndless_21b, x_X0_isEndless_21, cl_gt, cl_le, cg_lt, cg_ge, gt_max h, lt_max h]
  unfold pb fInf
  by_cases c1 : d = 9218868437227405312
  · simp [c1]
    rfl
  · by_cases c2 : d = 18442240474082181120
    · simp [c2]
      rfl
    · simp [c1, c2]
      rfl
theorem sX8_isEndlessReal {d : UInt64} (h : vf_n64 d) {μ : pm_M} : mF_X8_isEndlessReal [.double d] μ = some (some (.int (pb (fInf d))), μ) := by
  rw [en_X8_isEndlessReal]
  simp only [x_X8_isEndlessReal_0, x_X8_isEndlessReal_1, x_X8_isEndlessReal_4, x_X8_isEndlessReal_5, x_X8_isEndlessReal_8, x_X8_isEndlessReal_9, x_X8_isEndlessReal_12, x_X8_isEndlessReal_13, x_X8_isEndlessReal_16, x_X8_isEndlessReal_17, x_X8_isEndlessReal_20, x_X8_isEndlessReal_21a, x_X8_isEndlessReal_21b, x_X8_isEndlessReal_21, cl_gt, cl_le, cg_lt, cg_ge, gt_max h, lt_max h]
  unfold pb fInf
  by_cases c1 : d = 9218868437227405312
  · simp [c1]
    rfl
  · by_cases c2 : d = 18442240474082181120
    · simp [c2]
      rfl
    · simp [c1, c2]
      rfl
def sp_plus (a b : UInt64) : Option UInt64 := if fInf a ∧ fInf b ∧ ¬ feq a b then none else some (FP.dadd a b)
def sp_minus (a b : UInt64) : Option UInt64 := if fInf a ∧ feq a b then none else some (FP.dsub a b)
def sp_times (a b : UInt64) : Option UInt64 := if (feq a 0 ∧ fInf b) ∨ (feq b 0 ∧ fInf a) then none else some (FP.dmul a b)
def sp_over (a b : UInt64) : Option UInt64 := if (feq a 0 ∧ feq b 0) ∨ (fInf a ∧ fInf b) then none else some (FP.ddiv a b)
def gd (x : Option UInt64) : UInt64 := x.getD 0
theorem fn_0 : vf_n64 0 := by unfold vf_n64; decide
theorem fn_1 : vf_n64 4607182418800017408 := by unfold vf_n64; decide
theorem sp_plus_fn {a b : UInt64} (ha : vf_n64 a) (hb : vf_n64 b) : vf_n64 (gd (sp_plus a b)) := by
  unfold sp_plus
  split
  · exact fn_0
  · rename_i h
    exact fn_add ha hb h
theorem sp_minus_fn {a b : UInt64} (ha : vf_n64 a) (hb : vf_n64 b) : vf_n64 (gd (sp_minus a b)) := by
  unfold sp_minus
  split
  · exact fn_0
  · rename_i h
    exact fn_sub ha hb h
theorem sp_times_fn {a b : UInt64} (ha : vf_n64 a) (hb : vf_n64 b) : vf_n64 (gd (sp_times a b)) := by
  unfold sp_times
  split
  · exact fn_0
  · rename_i h
    exact fn_mul ha hb (fun z => h (Or.inl z)) (fun z => h (Or.inr z))
theorem sp_over_fn {a b : UInt64} (ha : vf_n64 a) (hb : vf_n64 b) : vf_n64 (gd (sp_over a b)) := by
  unfold sp_over
  split
  · exact fn_0
  · rename_i h
    exact fn_div ha hb (fun z => h (Or.inl z)) (fun z => h (Or.inr z))
section REK
variable {I : Nat → Nat → Int32} {D : Nat → Nat → UInt64} {P : Nat → Nat → Option Nat} {b : Bool}
theorem sX4_begin {x : Int32} : mF_X4_begin [.ref 12] (162, pm_u I 12 0 x, D, pm_R P) = some (none, (162, pm_u I 12 0 (fb false), D, pm_R P)) := by
  rw [en_X4_begin]
  simp (disch := decide) only [x_X4_begin_0, x_X4_begin_1, x_X4_begin_2, x_X4_begin_5, pm_uu]
  rfl
theorem sX4_begin0 : mF_X4_begin [.ref 12] (162, I, D, pm_R P) = some (none, (162, pm_u I 12 0 (fb false), D, pm_R P)) := by
  rw [en_X4_begin]
  simp (disch := decide) only [x_X4_begin_0, x_X4_begin_1, x_X4_begin_2, x_X4_begin_5, pm_uu]
  rfl
theorem fb_and (b : Bool) : fb b &&& 1 = fb b := by cases b <;> rfl
theorem sX4_isLost : mF_X4_isLost [.ref 12] (162, pm_u I 12 0 (fb b), D, pm_R P) = some (some (.int (fb b)), (162, pm_u I 12 0 (fb b), D, pm_R P)) := by
  rw [en_X4_isLost]
  simp (disch := exact fb_and b) only [x_X4_isLost_0, x_X4_isLost_1, x_X4_isLost_4a, x_X4_isLost_4b, x_X4_isLost_4, pm_us]
theorem sX4_lose : mF_X4_lose [.ref 12] (162, pm_u I 12 0 (fb b), D, pm_R P) = some (some (.double 0), (162, pm_u I 12 0 (fb true), D, pm_R P)) := by
  rw [en_X4_lose]
  simp (disch := decide) only [x_X4_lose_0, x_X4_lose_1, x_X4_lose_2, x_X4_lose_5, x_X4_lose_6, pm_uu]
  rfl
theorem fbT : fb true = nI 1 := rfl
theorem sX4_plus {x y : UInt64} (hx : vf_n64 x) (hy : vf_n64 y) : mF_X4_plus [.ref 12, .double x, .double y] (162, pm_u I 12 0 (fb b), D, pm_R P) = some (some (.double (gd (sp_plus x y))), (162, pm_u I 12 0 (fb (b || (sp_plus x y).isNone)), D, pm_R P)) := by
  rw [en_X4_plus]
  by_cases h : fInf x ∧ fInf y ∧ ¬ feq x y
  · have e : sp_plus x y = none := if_pos h
    obtain ⟨c1, c2, c3⟩ := h
    simp only [x_X4_plus_0, x_X4_plus_1, x_X4_plus_4, x_X4_plus_7, x_X4_plus_8, x_X4_plus_11, x_X4_plus_14, x_X4_plus_15, x_X4_plus_16, x_X4_plus_17, x_X4_plus_20, x_X4_plus_21, x_X4_plus_24, x_X4_plus_25, x_X4_plus_26, x_X4_plus_27, x_X4_plus_28, sX0_isEndless hx, sX0_isEndless hy, Option.bind_some, Option.toList, List.cons_append, List.nil_append, pb_eq0, cl_eq, sX4_lose, c1, c2, c3, not_true_eq_false, if_false, e, gd, Option.getD_none, Option.isNone_none, Bool.or_true]
  · have e : sp_plus x y = some (FP.dadd x y) := if_neg h
    have hn := fn_add hx hy h
    simp (disch := exact hn) only [x_X4_plus_0, x_X4_plus_1, x_X4_plus_4, x_X4_plus_7, x_X4_plus_8, x_X4_plus_11, x_X4_plus_14, x_X4_plus_15, x_X4_plus_16, x_X4_plus_17, x_X4_plus_20, x_X4_plus_21, x_X4_plus_24, x_X4_plus_25, x_X4_plus_26, x_X4_plus_27, x_X4_plus_28, sX0_isEndless hx, sX0_isEndless hy, Option.bind_some, Option.toList, List.cons_append, List.nil_append, pb_eq0, cl_eq, sX4_lose, e, gd, Option.getD_some, Option.isNone_some, Bool.or_false, ite_not]
    by_cases c1 : fInf x
    · by_cases c2 : fInf y
      · have c3 : feq x y := Classical.byContradiction fun z => h ⟨c1, c2, z⟩
        simp only [c1, c2, c3, if_true]
      · simp only [c1, c2, if_true, if_false]
    · simp only [c1, if_false]
theorem sX4_minus {x y : UInt64} (hx : vf_n64 x) (hy : vf_n64 y) : mF_X4_minus [.ref 12, .double x, .double y] (162, pm_u I 12 0 (fb b), D, pm_R P) = some (some (.double (gd (sp_minus x y))), (162, pm_u I 12 0 (fb (b || (sp_minus x y).isNone)), D, pm_R P)) := by
  rw [en_X4_minus]
  by_cases h : fInf x ∧ feq x y
  · have e : sp_minus x y = none := if_pos h
    obtain ⟨c1, c2⟩ := h
    simp only [x_X4_minus_0, x_X4_minus_1, x_X4_minus_4, x_X4_minus_7, x_X4_minus_8, x_X4_minus_9, x_X4_minus_10, x_X4_minus_13, x_X4_minus_14, x_X4_minus_17, x_X4_minus_18, x_X4_minus_19, x_X4_minus_20, x_X4_minus_21, sX0_isEndless hx, sX0_isEndless hy, Option.bind_some, Option.toList, List.cons_append, List.nil_append, pb_eq0, cl_eq, sX4_lose, c1, c2, not_true_eq_false, if_true, if_false, e, gd, Option.getD_none, Option.isNone_none, Bool.or_true]
  · have e : sp_minus x y = some (FP.dsub x y) := if_neg h
    have hn := fn_sub hx hy h
    simp (disch := exact hn) only [x_X4_minus_0, x_X4_minus_1, x_X4_minus_4, x_X4_minus_7, x_X4_minus_8, x_X4_minus_9, x_X4_minus_10, x_X4_minus_13, x_X4_minus_14, x_X4_minus_17, x_X4_minus_18, x_X4_minus_19, x_X4_minus_20, x_X4_minus_21, sX0_isEndless hx, sX0_isEndless hy, Option.bind_some, Option.toList, List.cons_append, List.nil_append, pb_eq0, cl_eq, sX4_lose, e, gd, Option.getD_some, Option.isNone_some, Bool.or_false, ite_not]
    by_cases c1 : fInf x
    · have c3 : ¬ feq x y := fun z => h ⟨c1, z⟩
      simp only [c1, c3, if_true, if_false]
    · simp only [c1, if_false]
theorem sX4_times {x y : UInt64} (hx : vf_n64 x) (hy : vf_n64 y) : mF_X4_times [.ref 12, .double x, .double y] (162, pm_u I 12 0 (fb b), D, pm_R P) = some (some (.double (gd (sp_times x y))), (162, pm_u I 12 0 (fb (b || (sp_times x y).isNone)), D, pm_R P)) := by
  rw [en_X4_times]
  by_cases h1 : feq x 0 ∧ fInf y
  · have e : sp_times x y = none := if_pos (Or.inl h1)
    obtain ⟨c1, c2⟩ := h1
    simp only [x_X4_times_0, x_X4_times_1, x_X4_times_2, x_X4_times_3, x_X4_times_6, x_X4_times_7, x_X4_times_10, x_X4_times_13, x_X4_times_14, x_X4_times_15, x_X4_times_16, x_X4_times_19, x_X4_times_20, x_X4_times_23, x_X4_times_26, x_X4_times_27, x_X4_times_30, x_X4_times_31, x_X4_times_32, x_X4_times_33, x_X4_times_34, sX0_isEndless hx, sX0_isEndless hy, Option.bind_some, Option.toList, List.cons_append, List.nil_append, pb_eq0, cl_eq, sX4_lose, c1, c2, not_true_eq_false, if_true, if_false, e, gd, Option.getD_none, Option.isNone_none, Bool.or_true]
  · by_cases h2 : feq y 0 ∧ fInf x
    · have e : sp_times x y = none := if_pos (Or.inr h2)
      obtain ⟨c1, c2⟩ := h2
      simp only [x_X4_times_0, x_X4_times_1, x_X4_times_2, x_X4_times_3, x_X4_times_6, x_X4_times_7, x_X4_times_10, x_X4_times_13, x_X4_times_14, x_X4_times_15, x_X4_times_16, x_X4_times_19, x_X4_times_20, x_X4_times_23, x_X4_times_26, x_X4_times_27, x_X4_times_30, x_X4_times_31, x_X4_times_32, x_X4_times_33, x_X4_times_34, sX0_isEndless hx, sX0_isEndless hy, Option.bind_some, Option.toList, List.cons_append, List.nil_append, pb_eq0, cl_eq, sX4_lose, c1, c2, not_true_eq_false, if_true, if_false, e, gd, Option.getD_none, Option.isNone_none, Bool.or_true]
      by_cases c3 : feq x 0
      · have c4 : ¬ fInf y := fun z => h1 ⟨c3, z⟩
        simp only [c3, c4, if_true, not_false_eq_true]
      · simp only [c3, if_false]
    · have e : sp_times x y = some (FP.dmul x y) := if_neg (fun z => z.elim h1 h2)
      have hn := fn_mul hx hy h1 h2
      simp (disch := exact hn) only [x_X4_times_0, x_X4_times_1, x_X4_times_2, x_X4_times_3, x_X4_times_6, x_X4_times_7, x_X4_times_10, x_X4_times_13, x_X4_times_14, x_X4_times_15, x_X4_times_16, x_X4_times_19, x_X4_times_20, x_X4_times_23, x_X4_times_26, x_X4_times_27, x_X4_times_30, x_X4_times_31, x_X4_times_32, x_X4_times_33, x_X4_times_34, sX0_isEndless hx, sX0_isEndless hy, Option.bind_some, Option.toList, List.cons_append, List.nil_append, pb_eq0, cl_eq, sX4_lose, e, gd, Option.getD_some, Option.isNone_some, Bool.or_false, ite_not]
      by_cases c3 : feq x 0
      · have c4 : ¬ fInf y := fun z => h1 ⟨c3, z⟩
        by_cases c5 : feq y 0
        · have c6 : ¬ fInf x := fun z => h2 ⟨c5, z⟩
          simp only [c3, c4, c5, c6, if_true, if_false]
        · simp only [c3, c4, c5, if_true, if_false]
      · by_cases c5 : feq y 0
        · have c6 : ¬ fInf x := fun z => h2 ⟨c5, z⟩
          simp only [c3, c5, c6, if_true, if_false]
        · simp only [c3, c5, if_false]
theorem sX4_over {x y : UInt64} (hx : vf_n64 x) (hy : vf_n64 y) : mF_X4_over [.ref 12, .double x, .double y] (162, pm_u I 12 0 (fb b), D, pm_R P) = some (some (.double (gd (sp_over x y))), (162, pm_u I 12 0 (fb (b || (sp_over x y).isNone)), D, pm_R P)) := by
  rw [en_X4_over]
  by_cases h1 : feq x 0 ∧ feq y 0
  · have e : sp_over x y = none := if_pos (Or.inl h1)
    obtain ⟨c1, c2⟩ := h1
    simp only [x_X4_over_0, x_X4_over_1, x_X4_over_2, x_X4_over_3, x_X4_over_6, x_X4_over_7, x_X4_over_8, x_X4_over_9, x_X4_over_12, x_X4_over_13, x_X4_over_16, x_X4_over_19, x_X4_over_20, x_X4_over_23, x_X4_over_26, x_X4_over_27, x_X4_over_30, x_X4_over_31, x_X4_over_32, x_X4_over_33, x_X4_over_34, sX0_isEndless hx, sX0_isEndless hy, Option.bind_some, Option.toList, List.cons_append, List.nil_append, pb_eq0, cl_eq, sX4_lose, c1, c2, not_true_eq_false, if_true, if_false, e, gd, Option.getD_none, Option.isNone_none, Bool.or_true]
  · by_cases h2 : fInf x ∧ fInf y
    · have e : sp_over x y = none := if_pos (Or.inr h2)
      obtain ⟨c1, c2⟩ := h2
      simp only [x_X4_over_0, x_X4_over_1, x_X4_over_2, x_X4_over_3, x_X4_over_6, x_X4_over_7, x_X4_over_8, x_X4_over_9, x_X4_over_12, x_X4_over_13, x_X4_over_16, x_X4_over_19, x_X4_over_20, x_X4_over_23, x_X4_over_26, x_X4_over_27, x_X4_over_30, x_X4_over_31, x_X4_over_32, x_X4_over_33, x_X4_over_34, sX0_isEndless hx, sX0_isEndless hy, Option.bind_some, Option.toList, List.cons_append, List.nil_append, pb_eq0, cl_eq, sX4_lose, c1, c2, not_true_eq_false, if_true, if_false, e, gd, Option.getD_none, Option.isNone_none, Bool.or_true]
      by_cases c3 : feq x 0
      · have c4 : ¬ feq y 0 := fun z => h1 ⟨c3, z⟩
        simp only [c3, c4, if_true, if_false]
      · simp only [c3, if_false]
    · have e : sp_over x y = some (FP.ddiv x y) := if_neg (fun z => z.elim h1 h2)
      have hn := fn_div hx hy h1 h2
      simp (disch := exact hn) only [x_X4_over_0, x_X4_over_1, x_X4_over_2, x_X4_over_3, x_X4_over_6, x_X4_over_7, x_X4_over_8, x_X4_over_9, x_X4_over_12, x_X4_over_13, x_X4_over_16, x_X4_over_19, x_X4_over_20, x_X4_over_23, x_X4_over_26, x_X4_over_27, x_X4_over_30, x_X4_over_31, x_X4_over_32, x_X4_over_33, x_X4_over_34, sX0_isEndless hx, sX0_isEndless hy, Option.bind_some, Option.toList, List.cons_append, List.nil_append, pb_eq0, cl_eq, sX4_lose, e, gd, Option.getD_some, Option.isNone_some, Bool.or_false, ite_not]
      by_cases c3 : feq x 0
      · have c4 : ¬ feq y 0 := fun z => h1 ⟨c3, z⟩
        by_cases c5 : fInf x
        · have c6 : ¬ fInf y := fun z => h2 ⟨c5, z⟩
          simp only [c3, c4, c5, c6, if_true, if_false]
        · simp only [c3, c4, c5, if_true, if_false]
      · by_cases c5 : fInf x
        · have c6 : ¬ fInf y := fun z => h2 ⟨c5, z⟩
          simp only [c3, c5, c6, if_true, if_false]
        · simp only [c3, c5, if_false]
end REK
