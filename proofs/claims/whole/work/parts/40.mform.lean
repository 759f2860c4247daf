/-! FORMULAS, 5: the model's isRight, isFormula, judge -/
theorem nbl_mo (p : UInt64) : (FP.dcmp (mo (ob p)) 0 = some .gt ∨ FP.dcmp (mo (ob p)) 0 = some .eq) = nbl p := by
  unfold ob
  by_cases c : fnn p
  · rw [if_pos c, mo_some]
    exact propext ⟨fun z => ⟨c, z⟩, fun z => z.2⟩
  · rw [if_neg c, show mo none = nN from rfl, dc_nan_l]
    exact propext ⟨(fun z => by rcases z with z | z <;> cases z), fun z => absurd z.1 c⟩
theorem shr_mo {p : UInt64} (h : nbl p) : (FP.dcmp (mo (ob p)) c1d = some .lt ∨ FP.dcmp (mo (ob p)) c1d = some .eq) = shr p := by
  unfold ob
  rw [if_pos h.1, mo_some]
  exact propext ⟨fun z => ⟨h, z⟩, fun z => z.2⟩
theorem abv_mo (p : UInt64) : (FP.dcmp (mo (ob p)) 0 = some .gt) = abv p := by
  unfold ob
  by_cases c : fnn p
  · rw [if_pos c, mo_some]
    exact propext ⟨fun z => ⟨c, z⟩, fun z => z.2⟩
  · rw [if_neg c, show mo none = nN from rfl, dc_nan_l]
    exact propext ⟨(fun z => by cases z), fun z => absurd z.1 c⟩
theorem fnn_mo (p : UInt64) : (FP.dcmp (mo (ob p)) (mo (ob p)) = some .eq) = fnn p := by
  unfold ob
  by_cases c : fnn p
  · rw [if_pos c, mo_some]
    exact propext ⟨fun z => c, fun z => feq_refl c⟩
  · rw [if_neg c, show mo none = nN from rfl, dc_nan_l]
    exact propext ⟨(fun z => by cases z), fun z => absurd z c⟩
section FOR5
variable {I : Nat → Nat → Int32} {D : Nat → Nat → UInt64} {P : Nat → Nat → Option Nat} {n kd : Nat} {rec : Nat → zR} {x y : Int32} {p q : UInt64} {μ : pm_M}
theorem sX8_isRight (hk : kd < 14) : mF_X8_isRight [.int (nI kd), .double (mo (ob p)), .double (mo (ob q))] μ = some (some (.int (pb (tk kd p q))), μ) := by
  have hb : kd < 2 ^ 31 := by omega
  have e3 := nI_eq (a := kd) (b := 3) hb (by decide)
  have e4 := nI_eq (a := kd) (b := 4) hb (by decide)
  have e8 := nI_eq (a := kd) (b := 8) hb (by decide)
  have e9 := nI_eq (a := kd) (b := 9) hb (by decide)
  have e10 := nI_eq (a := kd) (b := 10) hb (by decide)
  have e11 := nI_eq (a := kd) (b := 11) hb (by decide)
  have r11 : pm_run mE_X8_isRight 11 [.int (nI kd), .double (mo (ob p)), .retAddr 1, .double (mo (ob q)), .retAddr 1] [] μ = some (some (.int (pb (nbl p))), μ) := by
    simp only [x_X8_isRight_11, x_X8_isRight_12, x_X8_isRight_13, x_X8_isRight_14, cl_lt, nbl_mo]
    by_cases c : nbl p
    · rw [if_neg (not_not_intro c), pb_t c]
      simp only [x_X8_isRight_17, x_X8_isRight_18, x_X8_isRight_21, x_X8_isRight_22a, x_X8_isRight_22b, x_X8_isRight_22]
      rfl
    · rw [if_pos c, pb_f c]
      simp only [x_X8_isRight_21, x_X8_isRight_22a, x_X8_isRight_22b, x_X8_isRight_22]
      rfl
  rw [en_X8_isRight]
  simp only [x_X8_isRight_0, x_X8_isRight_1, x_X8_isRight_2, x_X8_isRight_5, x_X8_isRight_6, x_X8_isRight_8, e3, e9, r11]
  by_cases c3 : kd = 3
  · rw [if_pos c3]
    have : tk kd p q = nbl p := by subst c3; simp [tk]
    simp only [this]
  · rw [if_neg c3]
    by_cases c9 : kd = 9
    · rw [if_pos c9]
      have : tk kd p q = nbl p := by subst c9; simp [tk]
      simp only [this]
    · rw [if_neg c9]
      simp only [x_X8_isRight_23, x_X8_isRight_24, x_X8_isRight_25, e4]
      by_cases c4 : kd = 4
      · rw [if_pos c4]
        have : tk kd p q = (nbl p ∧ shr q) := by subst c4; simp [tk]
        simp only [this]
        simp only [x_X8_isRight_28, x_X8_isRight_29, x_X8_isRight_30, x_X8_isRight_31, x_X8_isRight_34, x_X8_isRight_35, x_X8_isRight_36, x_X8_isRight_37, x_X8_isRight_40, x_X8_isRight_41, x_X8_isRight_42, x_X8_isRight_43, cl_lt, cg_gt, nbl_mo, show (4607182418800017408 : UInt64) = c1d from rfl]
        have r0 : pm_run mE_X8_isRight 50 [.int (nI kd), .double (mo (ob p)), .retAddr 1, .double (mo (ob q)), .retAddr 1] [] μ = some (some (.int 0), μ) := by
          simp only [x_X8_isRight_50, x_X8_isRight_51a, x_X8_isRight_51b, x_X8_isRight_51]
          rfl
        by_cases d1 : nbl p
        · rw [if_neg (not_not_intro d1)]
          by_cases d2 : nbl q
          · rw [if_neg (not_not_intro d2)]
            simp only [shr_mo d2]
            by_cases d3 : shr q
            · rw [if_neg (not_not_intro d3), pb_t ⟨d1, d3⟩]
              simp only [x_X8_isRight_46, x_X8_isRight_47, x_X8_isRight_50, x_X8_isRight_51a, x_X8_isRight_51b, x_X8_isRight_51]
              rfl
            · rw [if_pos d3, pb_f (fun z => d3 z.2), r0]
          · rw [if_pos d2, pb_f (fun z => d2 z.2.1), r0]
        · rw [if_pos d1, pb_f (fun z => d1 z.1), r0]
      · rw [if_neg c4]
        simp only [x_X8_isRight_52, x_X8_isRight_53, x_X8_isRight_55, e8]
        by_cases c8 : kd = 8
        · rw [if_pos c8]
          have : tk kd p q = shr p := by subst c8; simp [tk]
          simp only [this]
          simp only [x_X8_isRight_58, x_X8_isRight_59, x_X8_isRight_60, x_X8_isRight_61, x_X8_isRight_64, x_X8_isRight_65, x_X8_isRight_66, x_X8_isRight_67, cl_lt, cg_gt, nbl_mo, show (4607182418800017408 : UInt64) = c1d from rfl]
          have r0 : pm_run mE_X8_isRight 74 [.int (nI kd), .double (mo (ob p)), .retAddr 1, .double (mo (ob q)), .retAddr 1] [] μ = some (some (.int 0), μ) := by
            simp only [x_X8_isRight_74, x_X8_isRight_75a, x_X8_isRight_75b, x_X8_isRight_75]
            rfl
          by_cases d2 : nbl p
          · rw [if_neg (not_not_intro d2)]
            simp only [shr_mo d2]
            by_cases d3 : shr p
            · rw [if_neg (not_not_intro d3), pb_t d3]
              simp only [x_X8_isRight_70, x_X8_isRight_71, x_X8_isRight_74, x_X8_isRight_75a, x_X8_isRight_75b, x_X8_isRight_75]
              rfl
            · rw [if_pos d3, pb_f d3, r0]
          · rw [if_pos d2, pb_f (fun z => d2 z.1), r0]
        · rw [if_neg c8]
          have r1 : pm_run mE_X8_isRight 100 [.int (nI kd), .double (mo (ob p)), .retAddr 1, .double (mo (ob q)), .retAddr 1] [] μ = some (some (.int 1), μ) := by
            simp only [x_X8_isRight_100, x_X8_isRight_101, x_X8_isRight_104, x_X8_isRight_105a, x_X8_isRight_105b, x_X8_isRight_105]
            rfl
          have r0 : pm_run mE_X8_isRight 104 [.int (nI kd), .double (mo (ob p)), .retAddr 1, .double (mo (ob q)), .retAddr 1] [] μ = some (some (.int 0), μ) := by
            simp only [x_X8_isRight_104, x_X8_isRight_105a, x_X8_isRight_105b, x_X8_isRight_105]
            rfl
          have r88 : pm_run mE_X8_isRight 88 [.int (nI kd), .double (mo (ob p)), .retAddr 1, .double (mo (ob q)), .retAddr 1] [] μ = some (some (.int (pb (fnn p ∧ abv q))), μ) := by
            simp only [x_X8_isRight_88, x_X8_isRight_89, x_X8_isRight_90, x_X8_isRight_91, x_X8_isRight_94, x_X8_isRight_95, x_X8_isRight_96, x_X8_isRight_97, cl_eq, cl_le, fnn_mo, abv_mo, r0, r1]
            by_cases d1 : fnn p
            · rw [if_pos d1]
              by_cases d2 : abv q
              · rw [if_neg (not_not_intro d2), pb_t ⟨d1, d2⟩]
              · rw [if_pos d2, pb_f (fun z => d2 z.2)]
            · rw [if_neg d1, pb_f (fun z => d1 z.1)]
          simp only [x_X8_isRight_76, x_X8_isRight_77, x_X8_isRight_79, x_X8_isRight_82, x_X8_isRight_83, x_X8_isRight_85, e10, e11, r88, r1]
          by_cases c10 : kd = 10 ∨ kd = 11
          · have e : tk kd p q = (fnn p ∧ abv q) := by simp [tk, c3, c4, c8, c9, c10]
            simp only [e]
            rcases c10 with c | c
            · rw [if_pos c]
            · rw [if_neg (by omega), if_pos c]
          · have e : tk kd p q := by simp [tk, c3, c4, c8, c9, c10]
            rw [if_neg (fun z => c10 (Or.inl z)), if_neg (fun z => c10 (Or.inr z)), pb_t e]
theorem sX8_isFormula (h : I 138 5 = nI n) (hn : n ≤ 60) : mF_X8_isFormula [.ref 138, .int x] (162, I, D, pm_R P) = some (some (.int (pb (inr x n))), (162, I, D, pm_R P)) := by
  rw [en_X8_isFormula]
  simp (disch := exact pb_and _) only [x_X8_isFormula_0, x_X8_isFormula_1, x_X8_isFormula_2, x_X8_isFormula_3, x_X8_isFormula_6, x_X8_isFormula_7, x_X8_isFormula_8, x_X8_isFormula_11a, x_X8_isFormula_11b, x_X8_isFormula_11, h, sX8_in, Option.bind_some, Option.toList, List.cons_append, List.nil_append]
  have : (nI 0 ≤ x ∧ x ≤ nI n - nI 1) = inr x n := by
    cases n with
    | zero =>
      apply propext
      constructor
      · intro z
        exfalso
        have h1 : (nI 0).toInt ≤ x.toInt := Int32.le_iff_toInt_le.mp z.1
        have h2 : x.toInt ≤ (nI 0 - nI 1).toInt := Int32.le_iff_toInt_le.mp z.2
        rw [show (nI 0).toInt = 0 by decide] at h1
        rw [show (nI 0 - nI 1).toInt = -1 by decide] at h2
        omega
      · intro z
        obtain ⟨o, ho, -⟩ := inr_nat (by decide) z
        omega
    | succ m =>
      rw [nI_sub (by omega)]
      exact inr_le (by omega)
  simp only [this]
theorem sIn2 {k a b : Nat} (hk : k < 2 ^ 31) (ha : a < 2 ^ 31) (hb : b < 2 ^ 31) : mF_X8_in [.int (nI k), .int (nI a), .int (nI b)] μ = some (some (.int (pb (a ≤ k ∧ k ≤ b))), μ) := by
  rw [sX8_in]
  simp only [nI_leI ha hk, nI_leI hk hb]
def zfold (rec : Nat → zR) (pt : Nat → Nat) (a0 : zA4) : Nat → zA4
  | 0 => a0
  | m + 1 => zacS (zfold rec pt a0 m) (rec (pt m))
/-- what judge reads of the parts -/
def jPt (I : Nat → Nat → Int32) (rec : Nat → zR) (f : Nat) (pt : Nat → Nat) (m : Nat) : Prop := ∀ j, j < m → I 149 (8 * f + j) = nI (pt j) ∧ pt j < 60 ∧ I 151 (pt j) = (zA (rec (pt j))).1 ∧ I 152 (pt j) = (zA (rec (pt j))).2.1 ∧ I 153 (pt j) = zrs (rec (pt j)) ∧ I 154 (pt j) = fb (zsf (rec (pt j)))
theorem jg_loop {f m : Nat} {pt : Nat → Nat} {a0 : zA4} (hf : f < 60) (hm : m ≤ 8) (h1 : I 148 f = nI m) (hp : jPt I rec f pt m) : ∀ c i v, i + c = m → ∃ v', pm_run mE_X8_judge 42 [.ref 138, .int (nI f), .int (nI kd), .int (zfold rec pt a0 i).1, .int (zfold rec pt a0 i).2.1, .int (fb (zfold rec pt a0 i).2.2.1), .int (zfold rec pt a0 i).2.2.2, .int (nI i), v] [] (162, I, D, pm_R P) = pm_run mE_X8_judge 129 [.ref 138, .int (nI f), .int (nI kd), .int (zfold rec pt a0 m).1, .int (zfold rec pt a0 m).2.1, .int (fb (zfold rec pt a0 m).2.2.1), .int (zfold rec pt a0 m).2.2.2, .int (nI m), v'] [] (162, I, D, pm_R P) := by
  intro c
  induction c with
  | zero =>
    intro i v hi
    have : i = m := by omega
    subst this
    refine ⟨v, ?_⟩
    simp (disch := assumption) only [x_X8_judge_42, x_X8_judge_44, x_X8_judge_45, x_X8_judge_48, x_X8_judge_49, x_X8_judge_50, h1, show nI i ≤ nI i from Int32.le_refl _, if_true]
  | succ c ih =>
    intro i v hi
    have hge : ¬ nI m ≤ nI i := nI_ge (by omega) (by omega)
    obtain ⟨g1, g2, g3, g4, g5, g6⟩ := hp i (by omega)
    obtain ⟨v', e⟩ := ih (i + 1) (.int (nI (pt i))) (by omega)
    refine ⟨v', ?_⟩
    rw [← e, x_X8_judge_42]
    have h480 : 8 * f + i < 480 := by omega
    simp (disch := assumption) only [x_X8_judge_44, x_X8_judge_45, x_X8_judge_48, x_X8_judge_49, x_X8_judge_50, x_X8_judge_53, x_X8_judge_54, x_X8_judge_57, x_X8_judge_59, x_X8_judge_60, x_X8_judge_61, x_X8_judge_63, x_X8_judge_64, x_X8_judge_65, x_X8_judge_67, x_X8_judge_68, x_X8_judge_69, x_X8_judge_72, x_X8_judge_74, x_X8_judge_75, x_X8_judge_76, x_X8_judge_77, x_X8_judge_79, x_X8_judge_80, x_X8_judge_83, x_X8_judge_85, x_X8_judge_86, x_X8_judge_87, x_X8_judge_89, x_X8_judge_91, h1, hge, if_false, pk_mul, nI_add, g1, g3, g4, fb_eq0]
    have z1 : zfold rec pt a0 (i + 1) = zacS (zfold rec pt a0 i) (rec (pt i)) := rfl
    rw [z1]
    cases hS : (zfold rec pt a0 i).2.2.1 with
    | false =>
      simp (disch := assumption) only [if_true, x_X8_judge_108, x_X8_judge_109, x_X8_judge_111, x_X8_judge_113, x_X8_judge_114, x_X8_judge_117, x_X8_judge_119, x_X8_judge_120, x_X8_judge_121, x_X8_judge_123, x_X8_judge_126, g5, nI_add]
      simp only [zacS, hS, Bool.false_and]
      rfl
    | true =>
      simp (disch := assumption) only [reduceCtorEq, if_false, x_X8_judge_94, x_X8_judge_95, x_X8_judge_98, x_X8_judge_100, x_X8_judge_101, g6, fb_eq0]
      cases hT : zsf (rec (pt i)) with
      | false =>
        simp (disch := assumption) only [if_true, x_X8_judge_108, x_X8_judge_109, x_X8_judge_111, x_X8_judge_113, x_X8_judge_114, x_X8_judge_117, x_X8_judge_119, x_X8_judge_120, x_X8_judge_121, x_X8_judge_123, x_X8_judge_126, g5, nI_add]
        simp only [zacS, hS, hT, Bool.true_and]
        rfl
      | true =>
        simp (disch := assumption) only [reduceCtorEq, if_false, x_X8_judge_104, x_X8_judge_105, x_X8_judge_109, x_X8_judge_111, x_X8_judge_113, x_X8_judge_114, x_X8_judge_117, x_X8_judge_119, x_X8_judge_120, x_X8_judge_121, x_X8_judge_123, x_X8_judge_126, g5, nI_add]
        simp only [zacS, hS, hT, Bool.true_and]
        rfl
end FOR5
