/-! FORMULAS, 7: the model's formula, part, about, partOf, forget -/
def mR (I : Nat → Nat → Int32) (D : Nat → Nat → UInt64) (k : Nat) (r : zR) : Prop := I 144 k = nI (zK r) ∧ I 145 k = zL r ∧ D 146 k = mo (zP r) ∧ D 147 k = mo (zQ r) ∧ I 148 k = nI (zM r) ∧ I 150 k = fb (zI r) ∧ I 151 k = (zA r).1 ∧ I 152 k = (zA r).2.1 ∧ I 153 k = zrs r ∧ I 154 k = fb (zsf r) ∧ ∀ j, j < zM r → I 149 (8 * k + j) = nI (zT r j)
def mFo (I : Nat → Nat → Int32) (D : Nat → Nat → UInt64) (m : Nat) (rec : Nat → zR) : Prop := ∀ k, k < m → mR I D k (rec k)
/-- the model's formulas' rows (and their number) alone change -/
def FN (I I' : Nat → Nat → Int32) (D D' : Nat → Nat → UInt64) : Prop := ∀ a b, (a < 144 ∨ 154 < a) → ¬ (a = 138 ∧ b = 5) → I' a b = I a b ∧ D' a b = D a b
theorem FN_rf {I : Nat → Nat → Int32} {D : Nat → Nat → UInt64} : FN I I D D := fun _ _ _ _ => ⟨rfl, rfl⟩
section FOR7
variable {I : Nat → Nat → Int32} {D : Nat → Nat → UInt64} {P : Nat → Nat → Option Nat} {n kd xn yn : Nat} {rec : Nat → zR} {x y w : Int32} {p q : UInt64} {μ : pm_M}
theorem sIn3 {k : Nat} (hk : k ≤ 60) : mF_X8_in [.int x, .int (nI 0), .int (nI k - nI 1)] μ = some (some (.int (pb (inr x k))), μ) := by
  rw [sX8_in]
  have : (nI 0 ≤ x ∧ x ≤ nI k - nI 1) = inr x k := by
    cases k with
    | zero =>
      apply propext
      constructor
      · intro z
        exfalso
        have h1 : (nI 0).toInt ≤ x.toInt := Int32.le_iff_toInt_le.mp z.1
        have h2 : x.toInt ≤ (nI 0 - nI 1).toInt := Int32.le_iff_toInt_le.mp z.2
        rw [show (nI 0).toInt = 0 by decide] at h1
        rw [show (nI 0 - nI 1).toInt = -1 by decide] at h2
        omega
      · intro z
        obtain ⟨o, ho, -⟩ := inr_nat (by decide) z
        omega
    | succ m =>
      rw [nI_sub (by omega)]
      exact inr_le (by omega)
  simp only [this]
def nnk (kd : Nat) : Nat := if kd < 9 then 0 else if kd = 13 then 2 else 1
theorem mfo_1 (h : I 138 5 = nI n) (hn : n ≤ 60) (hk : kd < 14) : pm_run mE_X8_formula 0 [.ref 138, .int (nI kd), .int x, .int y, .long p.toInt64, .retAddr 1, .long q.toInt64, .retAddr 1, .retAddr 0, .retAddr 0, .retAddr 0, .retAddr 0, .retAddr 0, .retAddr 0, .retAddr 0] [] (162, I, D, pm_R P) = if tk kd p q then (if plc n kd x y then pm_run mE_X8_formula 107 [.ref 138, .int (nI kd), .int x, .int y, .long p.toInt64, .retAddr 1, .long q.toInt64, .retAddr 1, .double (mo (ob p)), .retAddr 1, .double (mo (ob q)), .retAddr 1, .int (nI (nnk kd)), .retAddr 0, .retAddr 0] [] (162, I, D, pm_R P) else some (some (.int (-1)), (162, I, D, pm_R P))) else some (some (.int (-1)), (162, I, D, pm_R P)) := by
  have hb : kd < 2 ^ 31 := by omega
  have e13 := nI_eq (a := kd) (b := 13) hb (by decide)
  simp only [x_X8_formula_0, x_X8_formula_2, x_X8_formula_5, x_X8_formula_7, x_X8_formula_9, x_X8_formula_12, x_X8_formula_14, x_X8_formula_15, x_X8_formula_16, x_X8_formula_18, x_X8_formula_21, x_X8_formula_24, x_X8_formula_25, x_X8_formula_27, x_X8_formula_29, x_X8_formula_32, sX8_realOfBits, sIn2 hb (show 0 < 2 ^ 31 by decide) (show 13 < 2 ^ 31 by decide), pb_t (show 0 ≤ kd ∧ kd ≤ 13 by omega), sX8_isRight hk, Option.bind_some, Option.toList, List.cons_append, List.nil_append, show ¬ (1 : Int32) = 0 by decide, if_false, pb_eq0, ite_not]
  by_cases ct : tk kd p q
  · rw [if_pos ct, if_pos ct]
    have run1 : pm_run mE_X8_formula 37 [.ref 138, .int (nI kd), .int x, .int y, .long p.toInt64, .retAddr 1, .long q.toInt64, .retAddr 1, .double (mo (ob p)), .retAddr 1, .double (mo (ob q)), .retAddr 1, .retAddr 0, .retAddr 0, .retAddr 0] [] (162, I, D, pm_R P) = pm_run mE_X8_formula 60 [.ref 138, .int (nI kd), .int x, .int y, .long p.toInt64, .retAddr 1, .long q.toInt64, .retAddr 1, .double (mo (ob p)), .retAddr 1, .double (mo (ob q)), .retAddr 1, .int (nI (nnk kd)), .retAddr 0, .retAddr 0] [] (162, I, D, pm_R P) := by
      simp only [x_X8_formula_37, x_X8_formula_38, x_X8_formula_40, x_X8_formula_43, x_X8_formula_44, x_X8_formula_47, x_X8_formula_48, x_X8_formula_50, x_X8_formula_53, x_X8_formula_54, x_X8_formula_57, x_X8_formula_58, nI_leI (show 9 < 2 ^ 31 by decide) hb, e13]
      unfold nnk
      by_cases c9 : kd < 9
      · rw [if_pos c9, if_neg (by omega)]
      · rw [if_neg c9, if_pos (by omega)]
        by_cases c13 : kd = 13
        · rw [if_pos c13, if_pos c13]
        · rw [if_neg c13, if_neg c13]
    rw [run1]
    have r105 : pm_run mE_X8_formula 105 [.ref 138, .int (nI kd), .int x, .int y, .long p.toInt64, .retAddr 1, .long q.toInt64, .retAddr 1, .double (mo (ob p)), .retAddr 1, .double (mo (ob q)), .retAddr 1, .int (nI (nnk kd)), .retAddr 0, .retAddr 0] [] (162, I, D, pm_R P) = some (some (.int (-1)), (162, I, D, pm_R P)) := by
      simp only [x_X8_formula_105, x_X8_formula_106]
    simp only [x_X8_formula_60, x_X8_formula_61, x_X8_formula_62, x_X8_formula_63, x_X8_formula_66, x_X8_formula_69, x_X8_formula_70, x_X8_formula_71, x_X8_formula_72, x_X8_formula_75, sIn2 hb (show 1 < 2 ^ 31 by decide) (show 5 < 2 ^ 31 by decide), sIn (m := 3) (by decide), Option.bind_some, Option.toList, List.cons_append, List.nil_append, pb_eq0, ite_not, r105]
    by_cases c9 : 9 ≤ kd
    · rw [if_neg (by omega)]
      have n0 : ¬ nI (nnk kd) ≤ 0 := by
        unfold nnk
        rw [if_neg (by omega)]
        split <;> decide
      simp only [x_X8_formula_78, x_X8_formula_80, x_X8_formula_83, x_X8_formula_84, x_X8_formula_85, x_X8_formula_88, n0, if_false, sX8_isFormula h hn, Option.bind_some, Option.toList, List.cons_append, List.nil_append, pb_eq0, ite_not, r105]
      by_cases cx : inr x n
      · rw [if_pos cx]
        simp only [x_X8_formula_91, x_X8_formula_93, x_X8_formula_94]
        by_cases c13 : kd = 13
        · have n1 : ¬ nI (nnk kd) ≤ nI 1 := by subst c13; decide
          rw [if_neg n1]
          simp only [x_X8_formula_97, x_X8_formula_98, x_X8_formula_99, x_X8_formula_102, sX8_isFormula h hn, Option.bind_some, Option.toList, List.cons_append, List.nil_append, pb_eq0, ite_not, r105]
          by_cases cy : inr y n
          · rw [if_pos cy, if_pos ⟨fun z => absurd z (by omega), fun _ => cx, fun _ => cy⟩]
          · rw [if_neg cy, if_neg (fun z => cy (z.2.2 c13))]
        · have n1 : nI (nnk kd) ≤ nI 1 := by
            unfold nnk
            rw [if_neg (by omega), if_neg c13]
            decide
          rw [if_pos n1, if_pos ⟨fun z => absurd z (by omega), fun _ => cx, fun z => absurd z c13⟩]
      · rw [if_neg cx, if_neg (fun z => cx (z.2.1 c9))]
    · have e : nnk kd = 0 := if_pos (by omega)
      have r78 : pm_run mE_X8_formula 78 [.ref 138, .int (nI kd), .int x, .int y, .long p.toInt64, .retAddr 1, .long q.toInt64, .retAddr 1, .double (mo (ob p)), .retAddr 1, .double (mo (ob q)), .retAddr 1, .int (nI (nnk kd)), .retAddr 0, .retAddr 0] [] (162, I, D, pm_R P) = pm_run mE_X8_formula 107 [.ref 138, .int (nI kd), .int x, .int y, .long p.toInt64, .retAddr 1, .long q.toInt64, .retAddr 1, .double (mo (ob p)), .retAddr 1, .double (mo (ob q)), .retAddr 1, .int (nI (nnk kd)), .retAddr 0, .retAddr 0] [] (162, I, D, pm_R P) := by
        rw [e]
        simp only [x_X8_formula_78, x_X8_formula_80, x_X8_formula_91, x_X8_formula_93, x_X8_formula_94, show nI 0 ≤ 0 by decide, show nI 0 ≤ nI 1 by decide, if_true]
      rw [r78]
      by_cases c5 : 1 ≤ kd ∧ kd ≤ 5
      · rw [if_pos c5]
        by_cases cx : inr x (3 + 1)
        · rw [if_pos cx, if_pos ⟨fun _ => cx, fun z => absurd z c9, fun z => absurd z (by omega)⟩]
        · rw [if_neg cx, if_neg (fun z => cx (z.1 c5))]
      · rw [if_neg c5, if_pos ⟨fun z => absurd z c5, fun z => absurd z c9, fun z => absurd z (by omega)⟩]
  · rw [if_neg ct, if_neg ct]
    simp only [x_X8_formula_35, x_X8_formula_36]
theorem sX8_formula_bad (h : I 138 5 = nI n) (hn : n ≤ 60) (hz : ¬ (∃ k, k < 14 ∧ x = nI k ∧ plc n k y w ∧ tk k p q)) : mF_X8_formula [.ref 138, .int x, .int y, .int w, .long p.toInt64, .long q.toInt64] (162, I, D, pm_R P) = some (some (.int (-1)), (162, I, D, pm_R P)) := by
  rw [en_X8_formula]
  by_cases c : inr x 14
  · obtain ⟨k, hk, rfl⟩ := inr_nat (by decide) c
    rw [mfo_1 h hn hk]
    by_cases ct : tk k p q
    · rw [if_pos ct, if_neg (fun z => hz ⟨k, hk, rfl, z, ct⟩)]
    · rw [if_neg ct]
  · simp only [x_X8_formula_0, x_X8_formula_2, x_X8_formula_5, x_X8_formula_7, x_X8_formula_9, x_X8_formula_12, x_X8_formula_14, x_X8_formula_15, x_X8_formula_16, x_X8_formula_18, x_X8_formula_21, sX8_realOfBits, sIn (m := 13) (by decide), pb_f (show ¬ inr x (13 + 1) from c), Option.bind_some, Option.toList, List.cons_append, List.nil_append, if_true]
    simp only [x_X8_formula_35, x_X8_formula_36]
theorem mfo_2 (hC : mFo I D n rec) (h : I 138 5 = nI n) (hn : n ≤ 60) (hk : kd < 14) (hx : 9 ≤ kd → x = nI xn ∧ xn < n) (hy : kd = 13 → y = nI yn ∧ yn < n) : pm_run mE_X8_formula 107 [.ref 138, .int (nI kd), .int x, .int y, .long p.toInt64, .retAddr 1, .long q.toInt64, .retAddr 1, .double (mo (ob p)), .retAddr 1, .double (mo (ob q)), .retAddr 1, .int (nI (nnk kd)), .retAddr 0, .retAddr 0] [] (162, I, D, pm_R P) = if n < 60 ∧ zSz rec kd xn yn ≤ nI 200 then pm_run mE_X8_formula 163 [.ref 138, .int (nI kd), .int x, .int y, .long p.toInt64, .retAddr 1, .long q.toInt64, .retAddr 1, .double (mo (ob p)), .retAddr 1, .double (mo (ob q)), .retAddr 1, .int (nI (nnk kd)), .int (zSz rec kd xn yn), .retAddr 0] [] (162, I, D, pm_R P) else some (some (.int (-3)), (162, I, D, pm_R P)) := by
  have run1 : pm_run mE_X8_formula 107 [.ref 138, .int (nI kd), .int x, .int y, .long p.toInt64, .retAddr 1, .long q.toInt64, .retAddr 1, .double (mo (ob p)), .retAddr 1, .double (mo (ob q)), .retAddr 1, .int (nI (nnk kd)), .retAddr 0, .retAddr 0] [] (162, I, D, pm_R P) = pm_run mE_X8_formula 143 [.ref 138, .int (nI kd), .int x, .int y, .long p.toInt64, .retAddr 1, .long q.toInt64, .retAddr 1, .double (mo (ob p)), .retAddr 1, .double (mo (ob q)), .retAddr 1, .int (nI (nnk kd)), .int (zSz rec kd xn yn), .retAddr 0] [] (162, I, D, pm_R P) := by
    unfold zSz
    by_cases c9 : 9 ≤ kd
    · obtain ⟨rfl, hxn⟩ := hx c9
      have hx6 : xn < 60 := by omega
      have sx : I 151 xn = (zA (rec xn)).1 := (hC xn hxn).2.2.2.2.2.2.1
      rw [if_pos c9]
      by_cases c13 : kd = 13
      · obtain ⟨rfl, hyn⟩ := hy c13
        have hy6 : yn < 60 := by omega
        have sy : I 151 yn = (zA (rec yn)).1 := (hC yn hyn).2.2.2.2.2.2.1
        have e : nnk kd = 2 := by subst c13; rfl
        rw [if_pos c13, e]
        simp (disch := assumption) only [x_X8_formula_107, x_X8_formula_108, x_X8_formula_110, x_X8_formula_113, x_X8_formula_114, x_X8_formula_117, x_X8_formula_118, x_X8_formula_119, x_X8_formula_122, x_X8_formula_123, x_X8_formula_124, x_X8_formula_126, x_X8_formula_127, x_X8_formula_130, x_X8_formula_131, x_X8_formula_134, x_X8_formula_135, x_X8_formula_136, x_X8_formula_139, x_X8_formula_140, x_X8_formula_141, show ¬ nI 2 ≤ 0 by decide, show ¬ nI 2 ≤ nI 1 by decide, if_false, sx, sy]
      · have e : nnk kd = 1 := by
          unfold nnk
          rw [if_neg (by omega), if_neg c13]
        rw [if_neg c13, e]
        simp (disch := assumption) only [x_X8_formula_107, x_X8_formula_108, x_X8_formula_110, x_X8_formula_113, x_X8_formula_114, x_X8_formula_117, x_X8_formula_118, x_X8_formula_119, x_X8_formula_122, x_X8_formula_123, x_X8_formula_124, x_X8_formula_126, x_X8_formula_127, x_X8_formula_130, x_X8_formula_131, x_X8_formula_134, x_X8_formula_135, x_X8_formula_136, x_X8_formula_139, x_X8_formula_140, x_X8_formula_141, show ¬ nI 1 ≤ 0 by decide, show nI 1 ≤ nI 1 by decide, if_false, if_true, sx]
    · have e : nnk kd = 0 := if_pos (by omega)
      rw [if_neg c9, if_neg (by omega), e]
      simp (disch := assumption) only [x_X8_formula_107, x_X8_formula_108, x_X8_formula_110, x_X8_formula_113, x_X8_formula_114, x_X8_formula_117, x_X8_formula_118, x_X8_formula_119, x_X8_formula_122, x_X8_formula_123, x_X8_formula_124, x_X8_formula_126, x_X8_formula_127, x_X8_formula_130, x_X8_formula_131, x_X8_formula_134, x_X8_formula_135, x_X8_formula_136, x_X8_formula_139, x_X8_formula_140, x_X8_formula_141, show nI 0 ≤ 0 by decide, show nI 0 ≤ nI 1 by decide, if_true]
  have e60 := nI_eq (a := n) (b := 60) (by omega) (by decide)
  rw [run1]
  have r160 : pm_run mE_X8_formula 160 [.ref 138, .int (nI kd), .int x, .int y, .long p.toInt64, .retAddr 1, .long q.toInt64, .retAddr 1, .double (mo (ob p)), .retAddr 1, .double (mo (ob q)), .retAddr 1, .int (nI (nnk kd)), .int (zSz rec kd xn yn), .retAddr 0] [] (162, I, D, pm_R P) = some (some (.int (-3)), (162, I, D, pm_R P)) := by
    simp only [x_X8_formula_160, x_X8_formula_162]
  simp only [x_X8_formula_143, x_X8_formula_144, x_X8_formula_147, x_X8_formula_149, x_X8_formula_152, x_X8_formula_154, x_X8_formula_157, h, e60, r160]
  by_cases c : n = 60
  · rw [if_pos c, if_neg (by omega)]
  · rw [if_neg c]
    by_cases c2 : zSz rec kd xn yn ≤ nI 200
    · rw [if_pos c2, if_pos ⟨by omega, c2⟩]
    · rw [if_neg c2, if_neg (fun z => c2 z.2)]
theorem sX8_formula_full (hC : mFo I D n rec) (h : I 138 5 = nI n) (hn : n ≤ 60) (hk : kd < 14) (hp : plc n kd x y) (ht : tk kd p q) (hx : 9 ≤ kd → x = nI xn ∧ xn < n) (hy : kd = 13 → y = nI yn ∧ yn < n) (hs : ¬ (n < 60 ∧ zSz rec kd xn yn ≤ nI 200)) : mF_X8_formula [.ref 138, .int (nI kd), .int x, .int y, .long p.toInt64, .long q.toInt64] (162, I, D, pm_R P) = some (some (.int (-3)), (162, I, D, pm_R P)) := by
  rw [en_X8_formula, mfo_1 h hn hk, if_pos ht, if_pos hp, mfo_2 hC h hn hk hx hy, if_neg hs]
end FOR7
