/-! FORMULAS, 4: the class's part, about, partOf, forget -/
/-- what part answers -/
def zpAns (rec : Nat → zR) (k a : Nat) : Int32 := if 6 ≤ zK (rec k) ∧ zK (rec k) ≤ 8 then (if zI (rec k) = true then -2 else if zM (rec k) = 8 ∨ ¬ (zA (rec k)).1 + (zA (rec a)).1 ≤ nI 200 then -3 else nI (zM (rec k) + 1)) else -1
abbrev zpOk (rec : Nat → zR) (k a : Nat) : Prop := (6 ≤ zK (rec k) ∧ zK (rec k) ≤ 8) ∧ zI (rec k) = false ∧ ¬ zM (rec k) = 8 ∧ (zA (rec k)).1 + (zA (rec a)).1 ≤ nI 200
def zab (r : zR) (w : Nat) : Int32 := if w = 0 then nI (zK r) else if w = 1 then nI (zM r) else if w = 2 then (zA r).1 else if w = 3 then fb (zsf r) else if w < 8 then ((zA r).2.1 >>> (nI (w - 4) &&& 31)) &&& nI 1 else (zrs r >>> (nI (w - 8) &&& 31)) &&& nI 1
theorem pm_o_some (k : Nat) : pm_o (some k) = .ref k := rfl
theorem nI_sub {a b : Nat} (h : b ≤ a) : nI a - nI b = nI (a - b) := by
  have e : nI a = nI (a - b) + nI b := by rw [nI_add]; congr 1; omega
  rw [e, Int32.add_sub_cancel]
section FOR4
variable {I : Nat → Nat → Int32} {D : Nat → Nat → UInt64} {P : Nat → Nat → Option Nat} {n kd : Nat} {rec : Nat → zR} {x y : Int32} {μ : pm_M}
theorem sX7_part_bad (h : I 0 3 = nI n) (hn : n ≤ 60) (hz : ¬ ∃ k a, k < n ∧ a < k ∧ x = nI k ∧ y = nI a) : mF_X7_part [.ref 0, .int x, .int y] (162, I, D, pm_R P) = some (some (.int (-1)), (162, I, D, pm_R P)) := by
  rw [en_X7_part]
  simp only [x_X7_part_0, x_X7_part_1, x_X7_part_2, x_X7_part_5, sX7_isFormula h, Option.bind_some, Option.toList, List.cons_append, List.nil_append, pb_eq0, ite_not]
  by_cases c1 : inr x n
  · rw [if_pos c1]
    obtain ⟨k, hk, rfl⟩ := inr_nat (by omega) c1
    simp only [x_X7_part_8, x_X7_part_9, x_X7_part_10, x_X7_part_13, sX7_isFormula h, Option.bind_some, Option.toList, List.cons_append, List.nil_append, pb_eq0, ite_not]
    by_cases c2 : inr y n
    · rw [if_pos c2]
      obtain ⟨a, ha, rfl⟩ := inr_nat (by omega) c2
      have c3 : ¬ a < k := fun z => hz ⟨k, a, hk, z, rfl, rfl⟩
      simp only [x_X7_part_16, x_X7_part_17, x_X7_part_18, nI_ltI (show a < 2 ^ 31 by omega) (show k < 2 ^ 31 by omega), c3, if_false]
      simp only [x_X7_part_21, x_X7_part_22]
    · rw [if_neg c2]
      simp only [x_X7_part_21, x_X7_part_22]
  · rw [if_neg c1]
    simp only [x_X7_part_21, x_X7_part_22]
theorem cpa_1 (hC : cF I D P n rec) (h : I 0 3 = nI n) (hn : n ≤ 60) {k a : Nat} (hk : k < n) (ha : a < k) (hkd : zK (rec k) < 14) (hm : zM (rec k) ≤ 8) : pm_run mE_X7_part 0 [.ref 0, .int (nI k), .int (nI a), .retAddr 0, .retAddr 0] [] (162, I, D, pm_R P) = if zpOk rec k a then pm_run mE_X7_part 88 [.ref 0, .int (nI k), .int (nI a), .ref (pm_fo k), .ref (pm_fo a)] [] (162, I, D, pm_R P) else some (some (.int (zpAns rec k a)), (162, I, D, pm_R P)) := by
  have i1 : inr (nI k) n := inr_of (by omega) hk
  have i2 : inr (nI a) n := inr_of (by omega) (by omega)
  have hk6 : k < 60 := by omega
  have ha6 : a < 60 := by omega
  obtain ⟨a1, a2, a3, a4, a5, a6, a7, a8, a9, a10, a11, a12, a13, a14⟩ := hC k hk
  obtain ⟨b1, b2, b3, b4, b5, b6, b7, b8, b9, b10, b11, b12, b13, b14⟩ := hC a (by omega)
  simp (disch := assumption) only [x_X7_part_0, x_X7_part_1, x_X7_part_2, x_X7_part_5, x_X7_part_8, x_X7_part_9, x_X7_part_10, x_X7_part_13, x_X7_part_16, x_X7_part_17, x_X7_part_18, x_X7_part_21, x_X7_part_22, x_X7_part_23, x_X7_part_24, x_X7_part_27, x_X7_part_28, x_X7_part_29, x_X7_part_29n, x_X7_part_30, x_X7_part_31, x_X7_part_34, x_X7_part_35, x_X7_part_36, x_X7_part_36n, x_X7_part_38, x_X7_part_38n, x_X7_part_39, x_X7_part_42, x_X7_part_45, sX7_isFormula h, pb_t i1, pb_t i2, nI_ltI (show a < 2 ^ 31 by omega) (show k < 2 ^ 31 by omega), ha, a1, sX2_gathers (show zK (rec k) < 2 ^ 31 by omega), Option.bind_some, Option.toList, List.cons_append, List.nil_append, show ¬ (1 : Int32) = 0 by decide, if_false, if_true, pb_eq0, ite_not]
  unfold zpAns zpOk
  by_cases c1 : 6 ≤ zK (rec k) ∧ zK (rec k) ≤ 8
  · rw [if_pos c1, if_pos c1]
    simp (disch := assumption) only [x_X7_part_50, x_X7_part_50n, x_X7_part_51, x_X7_part_54, a7, fb_eq0]
    by_cases c2 : zI (rec k) = true
    · rw [if_neg (by rw [c2]; decide), if_pos c2, if_neg (fun z => by rw [c2] at z; exact absurd z.2.1 (by decide))]
      simp only [x_X7_part_57, x_X7_part_59]
    · have c2' : zI (rec k) = false := by simpa using c2
      rw [if_pos c2', if_neg c2]
      simp (disch := assumption) only [x_X7_part_60, x_X7_part_60n, x_X7_part_61, x_X7_part_64, x_X7_part_66, a6, nI_leI (show 8 < 2 ^ 31 by decide) (show zM (rec k) < 2 ^ 31 by omega)]
      have e85 : pm_run mE_X7_part 85 [.ref 0, .int (nI k), .int (nI a), .ref (pm_fo k), .ref (pm_fo a)] [] (162, I, D, pm_R P) = some (some (.int (-3)), (162, I, D, pm_R P)) := by
        simp only [x_X7_part_85, x_X7_part_87]
      by_cases c3 : zM (rec k) = 8
      · rw [if_pos (by omega), e85, if_neg (fun z => z.2.2.1 c3), if_pos (Or.inl c3)]
      · rw [if_neg (by omega)]
        simp (disch := assumption) only [x_X7_part_69, x_X7_part_69n, x_X7_part_70, x_X7_part_73, x_X7_part_73n, x_X7_part_75, x_X7_part_78, x_X7_part_79, x_X7_part_82, a8, b8, e85]
        by_cases c4 : (zA (rec k)).1 + (zA (rec a)).1 ≤ nI 200
        · rw [if_pos c4, if_pos ⟨c1, c2', c3, c4⟩]
        · rw [if_neg c4, if_neg (fun z => c4 z.2.2.2), if_pos (Or.inr c4)]
  · rw [if_neg c1, if_neg c1, if_neg (fun z => c1 z.1)]
    simp only [x_X7_part_48, x_X7_part_49]
theorem sX7_part (hC : cF I D P n rec) (h : I 0 3 = nI n) (hn : n ≤ 60) {k a : Nat} (hk : k < n) (ha : a < k) (hkd : zK (rec k) < 14) (hm : zM (rec k) ≤ 8) : ∃ I' P', mF_X7_part [.ref 0, .int (nI k), .int (nI a)] (162, I, D, pm_R P) = some (some (.int (zpAns rec k a)), (162, I', D, pm_R P')) ∧ cF I' D P' n (if zpOk rec k a then zAdd rec k a else rec) ∧ I' 0 3 = nI n ∧ FC I I' D D := by
  rw [en_X7_part, cpa_1 hC h hn hk ha hkd hm]
  have hk6 : k < 60 := by omega
  by_cases c : zpOk rec k a
  · rw [if_pos c, if_pos c]
    obtain ⟨I1, P1, e1, h1, f1, z1⟩ := cF_addPart hC hn hk (show a < n by omega) (by omega) hkd (by have := c.2.2.1; omega)
    have hr := h1 k hk
    rw [zAdd_k (by omega)] at hr
    have e6 : I1 207 k = nI (zM (rec k) + 1) := hr.2.2.2.2.2.1
    refine ⟨I1, P1, ?_, h1, (z1 3).trans h, f1⟩
    simp (disch := assumption) only [x_X7_part_88, x_X7_part_88n, x_X7_part_89, x_X7_part_89n, x_X7_part_91, x_X7_part_94, x_X7_part_94n, x_X7_part_95, x_X7_part_98, e1, e6, Option.bind_some, Option.toList, List.cons_append, List.nil_append]
    unfold zpAns
    rw [if_pos c.1, if_neg (by rw [c.2.1]; decide), if_neg (fun z => z.elim c.2.2.1 (fun z => z c.2.2.2))]
  · rw [if_neg c, if_neg c]
    exact ⟨I, P, rfl, hC, h, FC_rf⟩
theorem sX7_about_bad (h : I 0 3 = nI n) (hz : ¬ (inr x n ∧ inr y 12)) : mF_X7_about [.ref 0, .int x, .int y] (162, I, D, pm_R P) = some (some (.int (-1)), (162, I, D, pm_R P)) := by
  rw [en_X7_about]
  simp only [x_X7_about_0, x_X7_about_1, x_X7_about_2, x_X7_about_5, sX7_isFormula h, Option.bind_some, Option.toList, List.cons_append, List.nil_append, pb_eq0, ite_not]
  by_cases c1 : inr x n
  · rw [if_pos c1]
    have c2 : ¬ inr y 12 := fun z => hz ⟨c1, z⟩
    simp only [x_X7_about_8, x_X7_about_9, x_X7_about_11, x_X7_about_14, x_X7_about_17, x_X7_about_18, sX7_isIn, pb_f c2, Option.bind_some, Option.toList, List.cons_append, List.nil_append, if_true]
  · rw [if_neg c1]
    simp only [x_X7_about_17, x_X7_about_18]
theorem sX7_about (hC : cF I D P n rec) (h : I 0 3 = nI n) (hn : n ≤ 60) {k w : Nat} (hk : k < n) (hw : w < 12) : mF_X7_about [.ref 0, .int (nI k), .int (nI w)] (162, I, D, pm_R P) = some (some (.int (zab (rec k) w)), (162, I, D, pm_R P)) := by
  have i1 : inr (nI k) n := inr_of (by omega) hk
  have i2 : pb (0 ≤ nI w ∧ nI w < nI 12) = 1 := pb_t (inr_of (n := 12) (by decide) hw)
  have hk6 : k < 60 := by omega
  obtain ⟨a1, a2, a3, a4, a5, a6, a7, a8, a9, a10, a11, a12, a13, a14⟩ := hC k hk
  have hb : w < 2 ^ 31 := by omega
  have w0 : (nI w = 0) = (w = 0) := propext (nI_c hb)
  have w1 := nI_eq (a := w) (b := 1) hb (by decide)
  have w2 := nI_eq (a := w) (b := 2) hb (by decide)
  have w3 := nI_eq (a := w) (b := 3) hb (by decide)
  rw [en_X7_about]
  simp (disch := assumption) only [x_X7_about_0, x_X7_about_1, x_X7_about_2, x_X7_about_5, x_X7_about_8, x_X7_about_9, x_X7_about_11, x_X7_about_14, x_X7_about_17, x_X7_about_18, x_X7_about_19, x_X7_about_20, x_X7_about_23, x_X7_about_24, x_X7_about_25, x_X7_about_25n, x_X7_about_26, x_X7_about_27, sX7_isFormula h, sX7_isIn, pb_t i1, i2, Option.bind_some, Option.toList, List.cons_append, List.nil_append, show ¬ (1 : Int32) = 0 by decide, if_false, w0]
  unfold zab
  by_cases c0 : w = 0
  · rw [if_pos c0, if_pos c0]
    simp (disch := assumption) only [x_X7_about_30, x_X7_about_30n, x_X7_about_31, x_X7_about_34, a1]
  · rw [if_neg c0, if_neg c0]
    simp (disch := assumption) only [x_X7_about_35, x_X7_about_36, x_X7_about_37, w1]
    by_cases c1 : w = 1
    · rw [if_pos c1, if_pos c1]
      simp (disch := assumption) only [x_X7_about_40, x_X7_about_40n, x_X7_about_41, x_X7_about_44, a6]
    · rw [if_neg c1, if_neg c1]
      simp (disch := assumption) only [x_X7_about_45, x_X7_about_46, x_X7_about_47, w2]
      by_cases c2 : w = 2
      · rw [if_pos c2, if_pos c2]
        simp (disch := assumption) only [x_X7_about_50, x_X7_about_50n, x_X7_about_51, x_X7_about_54, a8]
      · rw [if_neg c2, if_neg c2]
        simp (disch := assumption) only [x_X7_about_55, x_X7_about_56, x_X7_about_57, w3]
        by_cases c3 : w = 3
        · rw [if_pos c3, if_pos c3]
          simp (disch := assumption) only [x_X7_about_60, x_X7_about_60n, x_X7_about_61, x_X7_about_64, a9, fb_eq0]
          cases zsf (rec k) with
          | false => simp only [if_true, x_X7_about_71, x_X7_about_72]; rfl
          | true => simp only [reduceCtorEq, if_false, x_X7_about_67, x_X7_about_68, x_X7_about_71, x_X7_about_72]; rfl
        · rw [if_neg c3, if_neg c3]
          simp (disch := assumption) only [x_X7_about_73, x_X7_about_74, x_X7_about_76, nI_leI (show 8 < 2 ^ 31 by decide) hb]
          by_cases c8 : w < 8
          · rw [if_neg (by omega), if_pos c8]
            simp (disch := assumption) only [x_X7_about_79, x_X7_about_79n, x_X7_about_80, x_X7_about_83, x_X7_about_84, x_X7_about_85, x_X7_about_86, x_X7_about_87, x_X7_about_88, x_X7_about_89, a10, nI_sub (show 4 ≤ w by omega)]
          · rw [if_pos (by omega), if_neg c8]
            simp (disch := assumption) only [x_X7_about_90, x_X7_about_90n, x_X7_about_91, x_X7_about_94, x_X7_about_95, x_X7_about_96, x_X7_about_97, x_X7_about_98, x_X7_about_99, x_X7_about_100, x_X7_about_101, x_X7_about_102, a11, nI_sub (show 4 ≤ w by omega), nI_sub (show 4 ≤ w - 4 by omega)]
            rw [show w - 4 - 4 = w - 8 by omega]
theorem sX7_partOf_bad (hC : cF I D P n rec) (h : I 0 3 = nI n) (hn : n ≤ 60) (hz : ¬ ∃ k j, k < n ∧ j < zM (rec k) ∧ x = nI k ∧ y = nI j) (hm : ∀ k, k < n → zM (rec k) ≤ 8) : mF_X7_partOf [.ref 0, .int x, .int y] (162, I, D, pm_R P) = some (some (.int (-1)), (162, I, D, pm_R P)) := by
  rw [en_X7_partOf]
  simp only [x_X7_partOf_0, x_X7_partOf_1, x_X7_partOf_2, x_X7_partOf_5, sX7_isFormula h, Option.bind_some, Option.toList, List.cons_append, List.nil_append, pb_eq0, ite_not]
  by_cases c1 : inr x n
  · rw [if_pos c1]
    obtain ⟨k, hk, rfl⟩ := inr_nat (by omega) c1
    have hk6 : k < 60 := by omega
    have c2 : ¬ inr y (zM (rec k)) := fun z => by
      obtain ⟨j, hj, e⟩ := inr_nat (by have := hm k hk; omega) z
      exact hz ⟨k, j, hk, hj, rfl, e⟩
    simp (disch := assumption) only [x_X7_partOf_8, x_X7_partOf_9, x_X7_partOf_10, x_X7_partOf_13, x_X7_partOf_14, x_X7_partOf_15, x_X7_partOf_18, x_X7_partOf_21, x_X7_partOf_24, x_X7_partOf_25, (hC k hk).2.2.2.2.2.1, sX7_isIn, pb_f c2, Option.bind_some, Option.toList, List.cons_append, List.nil_append, if_true]
  · rw [if_neg c1]
    simp only [x_X7_partOf_24, x_X7_partOf_25]
theorem sX7_partOf (hC : cF I D P n rec) (h : I 0 3 = nI n) (hnum : ∀ k, k < 60 → I 200 k = nI k) (hn : n ≤ 60) {k j : Nat} (hk : k < n) (hj : j < zM (rec k)) (hm : zM (rec k) ≤ 8) (ht : zT (rec k) j < 60) : mF_X7_partOf [.ref 0, .int (nI k), .int (nI j)] (162, I, D, pm_R P) = some (some (.int (nI (zT (rec k) j))), (162, I, D, pm_R P)) := by
  have i1 : inr (nI k) n := inr_of (by omega) hk
  have i2 : inr (nI j) (zM (rec k)) := inr_of (by omega) hj
  have hk6 : k < 60 := by omega
  have hj8 : j < 8 := by omega
  obtain ⟨a1, a2, a3, a4, a5, a6, a7, a8, a9, a10, a11, a12, a13, a14⟩ := hC k hk
  rw [en_X7_partOf]
  simp (disch := assumption) only [x_X7_partOf_0, x_X7_partOf_1, x_X7_partOf_2, x_X7_partOf_5, x_X7_partOf_8, x_X7_partOf_9, x_X7_partOf_10, x_X7_partOf_13, x_X7_partOf_14, x_X7_partOf_15, x_X7_partOf_18, x_X7_partOf_21, x_X7_partOf_24, x_X7_partOf_25, x_X7_partOf_26, x_X7_partOf_27, x_X7_partOf_30, x_X7_partOf_31, x_X7_partOf_32, x_X7_partOf_35, x_X7_partOf_36, sX7_isFormula h, sX7_isIn, pb_t i1, a6, pb_t i2, a14 j hj, pm_o_some, Option.bind_some, Option.toList, List.cons_append, List.nil_append, show ¬ (1 : Int32) = 0 by decide, if_false]
  simp (disch := assumption) only [x_X7_partOf_37, x_X7_partOf_40, hnum _ ht]
theorem sX7_forget {m : Int32} (h : I 0 3 = m) : mF_X7_forget [.ref 0] (162, I, D, pm_R P) = some (some (.int m), (162, pm_u I 0 3 (nI 0), D, pm_R P)) := by
  rw [en_X7_forget]
  simp only [x_X7_forget_0, x_X7_forget_1, x_X7_forget_4, x_X7_forget_5, x_X7_forget_6, x_X7_forget_7, x_X7_forget_10, x_X7_forget_11, h]
end FOR4
