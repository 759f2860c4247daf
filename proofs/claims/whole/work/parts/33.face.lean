/-! OBJECTS, 3: the face's calls on the shelf, and the model's -/
section FACE
variable {I : Nat → Nat → Int32} {D : Nat → Nat → UInt64} {P : Nat → Nat → Option Nat} {g : gO} {μ : pm_M}
theorem sX7_tell (hC : CO I D g) {o f c l : Nat} (ho : o < 40) (hf : f < 4) (hc : c ≤ 1000) (hl : l ≤ 100000) : ∃ I' D', mF_X7_tell [.ref 0, .int (nI o), .int (nI f), .int (nI c), .int (nI l)] (162, I, D, pm_R P) = some (some (.int (nI 0)), (162, I', D', pm_R P)) ∧ CO I' D' (ud g.1 (o * 4 + f) c, ud g.2.1 (o * 4 + f) l, g.2.2) ∧ FS I I' D D' := by
  obtain ⟨I', D', e, h1, h2⟩ := sX6_put (P := P) hC ho hf hc hl
  refine ⟨I', D', ?_, h1, h2⟩
  rw [en_X7_tell]
  have p1 : pb (inr (nI o) 40) = 1 := pb_t (inr_of (by decide) ho)
  have p2' : pb (inr (nI f) 4) = 1 := pb_t (inr_of (by decide) hf)
  have p3 : pb (inr (nI c) 1001) = 1 := pb_t (inr_of (by decide) (by omega))
  have p4 : pb (inr (nI l) 100001) = 1 := pb_t (inr_of (by decide) (by omega))
  simp only [x_X7_tell_0, x_X7_tell_1, x_X7_tell_3, x_X7_tell_6, x_X7_tell_9, x_X7_tell_10, x_X7_tell_11, x_X7_tell_14, x_X7_tell_17, x_X7_tell_18, x_X7_tell_19, x_X7_tell_20, x_X7_tell_23, x_X7_tell_26, x_X7_tell_29, x_X7_tell_31, x_X7_tell_33, x_X7_tell_36, x_X7_tell_39, x_X7_tell_40, x_X7_tell_41, x_X7_tell_42, x_X7_tell_45, x_X7_tell_46, x_X7_tell_47, x_X7_tell_48, x_X7_tell_50, x_X7_tell_53, x_X7_tell_54, sX7_isIn, p1, p2', p3, p4, Option.bind_some, Option.toList, List.cons_append, List.nil_append, show ¬ (1 : Int32) = 0 by decide, if_false, e]
theorem sX7_tell_bad {x y z w : Int32} (h : ¬ (inr x 40 ∧ inr y 4 ∧ inr z 1001 ∧ inr w 100001)) : mF_X7_tell [.ref 0, .int x, .int y, .int z, .int w] μ = some (some (.int (-1)), μ) := by
  rw [en_X7_tell]
  simp only [x_X7_tell_0, x_X7_tell_1, x_X7_tell_3, x_X7_tell_6, x_X7_tell_9, x_X7_tell_10, x_X7_tell_11, x_X7_tell_14, x_X7_tell_17, x_X7_tell_18, x_X7_tell_19, x_X7_tell_20, x_X7_tell_23, x_X7_tell_26, x_X7_tell_29, x_X7_tell_31, x_X7_tell_33, x_X7_tell_36, x_X7_tell_39, x_X7_tell_40, sX7_isIn, Option.bind_some, Option.toList, List.cons_append, List.nil_append, pb_eq0, ite_not]
  by_cases c1 : inr x 40
  · by_cases c2 : inr y 4
    · by_cases c3 : inr z 1001
      · by_cases c4 : inr w 100001
        · exact absurd ⟨c1, c2, c3, c4⟩ h
        · rw [if_pos c1, if_pos c2, if_pos c3, if_neg c4]
      · rw [if_pos c1, if_pos c2, if_neg c3]
    · rw [if_pos c1, if_neg c2]
  · rw [if_neg c1]
theorem sX7_column (hC : CO I D g) {o c : Nat} {d : UInt64} (ho : o < 40) (hc : c < 4) : ∃ I' D', mF_X7_column [.ref 0, .int (nI o), .int (nI c), .long d.toInt64] (162, I, D, pm_R P) = some (some (.int (nI 0)), (162, I', D', pm_R P)) ∧ CO I' D' (g.1, g.2.1, ud g.2.2.1 (o * 4 + c) (ob d), g.2.2.2) ∧ FS I I' D D' := by
  obtain ⟨I', D', e, h1, h2⟩ := sX6_fillColumn (P := P) (d := d) hC ho hc
  refine ⟨I', D', ?_, h1, h2⟩
  rw [en_X7_column]
  have p1 : pb (inr (nI o) 40) = 1 := pb_t (inr_of (by decide) ho)
  have p2' : pb (inr (nI c) 4) = 1 := pb_t (inr_of (by decide) hc)
  simp only [x_X7_column_0, x_X7_column_1, x_X7_column_3, x_X7_column_6, x_X7_column_9, x_X7_column_10, x_X7_column_11, x_X7_column_14, x_X7_column_17, x_X7_column_18, x_X7_column_19, x_X7_column_20, x_X7_column_23, x_X7_column_24, x_X7_column_25, x_X7_column_26, x_X7_column_29, x_X7_column_30, sX7_isIn, p1, p2', Option.bind_some, Option.toList, List.cons_append, List.nil_append, show ¬ (1 : Int32) = 0 by decide, if_false, e]
theorem sX7_column_bad {x y : Int32} {b : Int64} (h : ¬ (inr x 40 ∧ inr y 4)) : mF_X7_column [.ref 0, .int x, .int y, .long b] μ = some (some (.int (-1)), μ) := by
  rw [en_X7_column]
  simp only [x_X7_column_0, x_X7_column_1, x_X7_column_3, x_X7_column_6, x_X7_column_9, x_X7_column_10, x_X7_column_11, x_X7_column_14, x_X7_column_17, x_X7_column_18, sX7_isIn, Option.bind_some, Option.toList, List.cons_append, List.nil_append, pb_eq0, ite_not]
  by_cases c1 : inr x 40
  · by_cases c2 : inr y 4
    · exact absurd ⟨c1, c2⟩ h
    · rw [if_pos c1, if_neg c2]
  · rw [if_neg c1]
/-- what given may take: a double above zero, or NaN -/
abbrev gvok (d : UInt64) : Prop := ¬ fnn d ∨ FP.dcmp d 0 = some .gt
theorem sX7_given (hC : CO I D g) {f : Nat} {d : UInt64} (hf : f < 4) (hd : gvok d) : ∃ I' D', mF_X7_given [.ref 0, .int (nI f), .long d.toInt64] (162, I, D, pm_R P) = some (some (.int (nI 0)), (162, I', D', pm_R P)) ∧ CO I' D' (g.1, g.2.1, g.2.2.1, ud g.2.2.2 f (ob d)) ∧ FS I I' D D' := by
  have p1 : pb (inr (nI f) 4) = 1 := pb_t (inr_of (by decide) hf)
  by_cases c1 : fnn d
  · have c2 : FP.dcmp d 0 = some .gt := hd.resolve_left (fun z => z c1)
    obtain ⟨I', D', e, h1, h2⟩ := sX6_giveAverage (P := P) hC hf c1 c2
    have e2 : ob d = some d := if_pos c1
    rw [e2]
    refine ⟨I', D', ?_, h1, h2⟩
    rw [en_X7_given]
    have q : ¬ pb (fnn d) = 0 := by rw [pb_eq0]; exact not_not_intro c1
    simp only [x_X7_given_0, x_X7_given_1, x_X7_given_2, x_X7_given_5, x_X7_given_8, x_X7_given_9, x_X7_given_10, x_X7_given_11, x_X7_given_14, x_X7_given_17, x_X7_given_18, x_X7_given_21, x_X7_given_22, x_X7_given_25, x_X7_given_26, x_X7_given_27, x_X7_given_28, x_X7_given_31, x_X7_given_33, x_X7_given_35, x_X7_given_36, x_X7_given_37, x_X7_given_40, x_X7_given_41, x_X7_given_42, x_X7_given_43, x_X7_given_46, x_X7_given_47, x_X7_given_49, x_X7_given_52, x_X7_given_53, sX7_isIn, p1, sX0_isNumber, q, sX0_fromBits c1, cl_gt, cl_le, eq_true c2, Option.bind_some, Option.toList, List.cons_append, List.nil_append, show ¬ (1 : Int32) = 0 by decide, if_false, if_true, e]
  · obtain ⟨I', D', e, h1, h2⟩ := sX6_giveNoAverage (P := P) hC hf
    have e2 : ob d = none := if_neg c1
    rw [e2]
    refine ⟨I', D', ?_, h1, h2⟩
    rw [en_X7_given]
    have q : pb (fnn d) = 0 := by rw [pb_eq0]; exact c1
    simp only [x_X7_given_0, x_X7_given_1, x_X7_given_2, x_X7_given_5, x_X7_given_8, x_X7_given_9, x_X7_given_10, x_X7_given_11, x_X7_given_14, x_X7_given_17, x_X7_given_18, x_X7_given_21, x_X7_given_22, x_X7_given_25, x_X7_given_26, x_X7_given_27, x_X7_given_28, x_X7_given_31, x_X7_given_33, x_X7_given_35, x_X7_given_36, x_X7_given_37, x_X7_given_40, x_X7_given_41, x_X7_given_42, x_X7_given_43, x_X7_given_46, x_X7_given_47, x_X7_given_49, x_X7_given_52, x_X7_given_53, sX7_isIn, p1, sX0_isNumber, q, Option.bind_some, Option.toList, List.cons_append, List.nil_append, show ¬ (1 : Int32) = 0 by decide, if_false, if_true, e]
theorem sX7_given_bad {x : Int32} {d : UInt64} (h : ¬ (inr x 4 ∧ gvok d)) : mF_X7_given [.ref 0, .int x, .long d.toInt64] μ = some (some (.int (-1)), μ) := by
  rw [en_X7_given]
  by_cases c1 : inr x 4
  · have c2 : ¬ gvok d := fun z => h ⟨c1, z⟩
    have c3 : fnn d := Classical.byContradiction fun z => c2 (Or.inl z)
    have c4 : ¬ FP.dcmp d 0 = some .gt := fun z => c2 (Or.inr z)
    have p1 : pb (inr x 4) = 1 := pb_t c1
    have q : ¬ pb (fnn d) = 0 := by rw [pb_eq0]; exact not_not_intro c3
    simp only [x_X7_given_0, x_X7_given_1, x_X7_given_2, x_X7_given_5, x_X7_given_8, x_X7_given_9, x_X7_given_10, x_X7_given_11, x_X7_given_14, x_X7_given_17, x_X7_given_18, x_X7_given_21, x_X7_given_22, x_X7_given_25, x_X7_given_26, x_X7_given_27, x_X7_given_28, x_X7_given_31, x_X7_given_33, x_X7_given_35, x_X7_given_36, x_X7_given_37, x_X7_given_40, x_X7_given_41, x_X7_given_42, x_X7_given_43, x_X7_given_46, x_X7_given_47, x_X7_given_49, x_X7_given_52, x_X7_given_53, sX7_isIn, p1, sX0_isNumber, q, sX0_fromBits c3, cl_gt, cl_le, eq_false c4, Option.bind_some, Option.toList, List.cons_append, List.nil_append, show ¬ (1 : Int32) = 0 by decide, if_false]
  · have p1 : pb (inr x 4) = 0 := pb_f c1
    simp only [x_X7_given_0, x_X7_given_1, x_X7_given_2, x_X7_given_5, x_X7_given_8, x_X7_given_9, sX7_isIn, p1, Option.bind_some, Option.toList, List.cons_append, List.nil_append, if_true]
theorem sX7_average (hC : CO I D g) {f : Nat} (hf : f < 4) : mF_X7_average [.ref 0, .int (nI f)] (162, I, D, pm_R P) = some (some (.long (mo (av g f)).toInt64), (162, I, D, pm_R P)) := by
  rw [en_X7_average]
  have p1 : pb (inr (nI f) 4) = 1 := pb_t (inr_of (by decide) hf)
  cases ha : av g f with
  | none => simp only [x_X7_average_0, x_X7_average_1, x_X7_average_2, x_X7_average_5, x_X7_average_8, x_X7_average_9, x_X7_average_10, x_X7_average_11, x_X7_average_14, x_X7_average_15, x_X7_average_18, x_X7_average_21, x_X7_average_22, x_X7_average_25, x_X7_average_26, x_X7_average_29, x_X7_average_32, x_X7_average_35, x_X7_average_38, sX7_isIn, p1, sX6_hasAverage hC hf, ha, Option.isSome_none, fb_eq0, Option.bind_some, Option.toList, List.cons_append, List.nil_append, show ¬ (1 : Int32) = 0 by decide, if_false, if_true]; rfl
  | some a =>
    have hv := av_Vo hC.1 f a ha
    simp only [x_X7_average_0, x_X7_average_1, x_X7_average_2, x_X7_average_5, x_X7_average_8, x_X7_average_9, x_X7_average_10, x_X7_average_11, x_X7_average_14, x_X7_average_15, x_X7_average_18, x_X7_average_21, x_X7_average_22, x_X7_average_25, x_X7_average_26, x_X7_average_29, x_X7_average_32, x_X7_average_35, x_X7_average_38, sX7_isIn, p1, sX6_hasAverage hC hf, ha, sX6_averageOf hC hf ha, sX0_toBits hv, Option.isSome_some, fb_eq0, Option.bind_some, Option.toList, List.cons_append, List.nil_append, show ¬ (1 : Int32) = 0 by decide, reduceCtorEq, if_false, if_true, mo_some]
theorem sX7_average_bad {x : Int32} (h : ¬ inr x 4) : mF_X7_average [.ref 0, .int x] μ = some (some (.long 0), μ) := by
  rw [en_X7_average]
  have p1 : pb (inr x 4) = 0 := pb_f h
  simp only [x_X7_average_0, x_X7_average_1, x_X7_average_2, x_X7_average_5, x_X7_average_8, x_X7_average_9, sX7_isIn, p1, Option.bind_some, Option.toList, List.cons_append, List.nil_append, if_true]
/-- packed's answer -/
def pk_a (l w : Nat) : Nat := if w = 0 then bc l else lv l
theorem sX7_packed {l w : Nat} (hl : l ≤ 100000) (hw : w < 2) : mF_X7_packed [.ref 0, .int (nI l), .int (nI w)] μ = some (some (.int (nI (pk_a l w))), μ) := by
  rw [en_X7_packed]
  have p1 : pb (inr (nI l) 100001) = 1 := pb_t (inr_of (by decide) (by omega))
  have p2' : pb (inr (nI w) 2) = 1 := pb_t (inr_of (by decide) hw)
  have hb := bc_le l
  have z : (nI w = 0) = (w = 0) := propext (nI_c (by omega))
  simp only [x_X7_packed_0, x_X7_packed_1, x_X7_packed_3, x_X7_packed_6, x_X7_packed_9, x_X7_packed_10, x_X7_packed_11, x_X7_packed_14, x_X7_packed_17, x_X7_packed_18, x_X7_packed_19, x_X7_packed_20, x_X7_packed_23, x_X7_packed_24, x_X7_packed_25, x_X7_packed_28, x_X7_packed_29, x_X7_packed_32, x_X7_packed_33, x_X7_packed_36, sX7_isIn, p1, p2', sX3_codeOf hl, sX3_valueOf (show bc l < 256 by omega), z, Option.bind_some, Option.toList, List.cons_append, List.nil_append, show ¬ (1 : Int32) = 0 by decide, if_false]
  unfold pk_a
  by_cases c : w = 0
  · rw [if_pos c, if_pos c]
  · rw [if_neg c, if_neg c]; rfl
theorem sX7_packed_bad {x y : Int32} (h : ¬ (inr x 100001 ∧ inr y 2)) : mF_X7_packed [.ref 0, .int x, .int y] μ = some (some (.int (-1)), μ) := by
  rw [en_X7_packed]
  simp only [x_X7_packed_0, x_X7_packed_1, x_X7_packed_3, x_X7_packed_6, x_X7_packed_9, x_X7_packed_10, x_X7_packed_11, x_X7_packed_14, x_X7_packed_17, x_X7_packed_18, x_X7_packed_19, x_X7_packed_20, x_X7_packed_23, x_X7_packed_24, x_X7_packed_25, x_X7_packed_28, x_X7_packed_29, x_X7_packed_32, x_X7_packed_33, x_X7_packed_36, sX7_isIn, Option.bind_some, Option.toList, List.cons_append, List.nil_append, pb_eq0, ite_not]
  by_cases c1 : inr x 100001
  · by_cases c2 : inr y 2
    · exact absurd ⟨c1, c2⟩ h
    · rw [if_pos c1, if_neg c2]
  · rw [if_neg c1]
end FACE
