/-! FORMULAS, 10: the model's part, about, partOf, forget -/
section FOR9
variable {I : Nat → Nat → Int32} {D : Nat → Nat → UInt64} {P : Nat → Nat → Option Nat} {n : Nat} {rec : Nat → zR} {x y w : Int32} {μ : pm_M}
theorem mpa_1 (hO : zOk n rec) (hC : mFo I D n rec) (h : I 138 5 = nI n) (hn : n ≤ 60) {k : Nat} (hk : k < n) : pm_run mE_X8_part 0 [.ref 138, .int (nI k), .int y] [] (162, I, D, pm_R P) = if (6 ≤ zK (rec k) ∧ zK (rec k) ≤ 8) ∧ inr y k then pm_run mE_X8_part 37 [.ref 138, .int (nI k), .int y] [] (162, I, D, pm_R P) else some (some (.int (-1)), (162, I, D, pm_R P)) := by
  have hk6 : k < 60 := by omega
  have hK : zK (rec k) < 2 ^ 31 := by have := (hO k hk).1.1; omega
  have i1 : inr (nI k) n := inr_of (by omega) hk
  have e1 : I 144 k = nI (zK (rec k)) := (hC k hk).1
  have r35 : pm_run mE_X8_part 35 [.ref 138, .int (nI k), .int y] [] (162, I, D, pm_R P) = some (some (.int (-1)), (162, I, D, pm_R P)) := by
    simp only [x_X8_part_35, x_X8_part_36]
  simp (disch := assumption) only [x_X8_part_0, x_X8_part_1, x_X8_part_2, x_X8_part_5, x_X8_part_8, x_X8_part_9, x_X8_part_12, x_X8_part_13, x_X8_part_14, x_X8_part_16, x_X8_part_18, x_X8_part_21, sX8_isFormula h hn, pb_t i1, e1, sIn2 hK (show 6 < 2 ^ 31 by decide) (show 8 < 2 ^ 31 by decide), Option.bind_some, Option.toList, List.cons_append, List.nil_append, show ¬ (1 : Int32) = 0 by decide, if_false, pb_eq0, ite_not, r35]
  by_cases c1 : 6 ≤ zK (rec k) ∧ zK (rec k) ≤ 8
  · rw [if_pos c1]
    simp (disch := assumption) only [x_X8_part_24, x_X8_part_25, x_X8_part_26, x_X8_part_27, x_X8_part_28, x_X8_part_29, x_X8_part_32, sIn3 (show k ≤ 60 by omega), Option.bind_some, Option.toList, List.cons_append, List.nil_append, pb_eq0, ite_not, r35]
    by_cases c2 : inr y k
    · rw [if_pos c2, if_pos ⟨c1, c2⟩]
    · rw [if_neg c2, if_neg (fun z => c2 z.2)]
  · rw [if_neg c1, if_neg (fun z => c1 z.1)]
theorem sX8_part_bad (hO : zOk n rec) (hC : mFo I D n rec) (h : I 138 5 = nI n) (hn : n ≤ 60) (hz : ¬ ∃ k a, k < n ∧ a < k ∧ x = nI k ∧ y = nI a) : mF_X8_part [.ref 138, .int x, .int y] (162, I, D, pm_R P) = some (some (.int (-1)), (162, I, D, pm_R P)) := by
  rw [en_X8_part]
  by_cases c1 : inr x n
  · obtain ⟨k, hk, rfl⟩ := inr_nat (by omega) c1
    rw [mpa_1 hO hC h hn hk, if_neg]
    rintro ⟨-, z⟩
    obtain ⟨a, ha, e⟩ := inr_nat (by omega) z
    exact hz ⟨k, a, hk, ha, rfl, e⟩
  · simp only [x_X8_part_0, x_X8_part_1, x_X8_part_2, x_X8_part_5, sX8_isFormula h hn, pb_f c1, Option.bind_some, Option.toList, List.cons_append, List.nil_append, if_true]
    simp only [x_X8_part_35, x_X8_part_36]
theorem mpa_2 (hC : mFo I D n rec) (hn : n ≤ 60) {k a : Nat} (hk : k < n) (ha : a < k) (hm : zM (rec k) ≤ 8) : pm_run mE_X8_part 37 [.ref 138, .int (nI k), .int (nI a)] [] (162, I, D, pm_R P) = if zI (rec k) = true then some (some (.int (-2)), (162, I, D, pm_R P)) else if zM (rec k) = 8 ∨ ¬ (zA (rec k)).1 + (zA (rec a)).1 ≤ nI 200 then some (some (.int (-3)), (162, I, D, pm_R P)) else pm_run mE_X8_part 82 [.ref 138, .int (nI k), .int (nI a)] [] (162, I, D, pm_R P) := by
  have hk6 : k < 60 := by omega
  have ha6 : a < 60 := by omega
  obtain ⟨a1, a2, a3, a4, a5, a6, a7, a8, a9, a10, a11⟩ := hC k hk
  have b7 : I 151 a = (zA (rec a)).1 := (hC a (by omega)).2.2.2.2.2.2.1
  simp (disch := assumption) only [x_X8_part_37, x_X8_part_38, x_X8_part_41, x_X8_part_42, x_X8_part_43, a6, fb_eq0]
  by_cases c1 : zI (rec k) = true
  · rw [if_pos c1, if_neg (by rw [c1]; decide)]
    simp only [x_X8_part_46, x_X8_part_48]
  · rw [if_neg c1, if_pos (by simpa using c1)]
    have r79 : pm_run mE_X8_part 79 [.ref 138, .int (nI k), .int (nI a)] [] (162, I, D, pm_R P) = some (some (.int (-3)), (162, I, D, pm_R P)) := by
      simp only [x_X8_part_79, x_X8_part_81]
    simp (disch := assumption) only [x_X8_part_49, x_X8_part_50, x_X8_part_53, x_X8_part_54, x_X8_part_55, x_X8_part_57, a5, nI_eq (show zM (rec k) < 2 ^ 31 by omega) (show 8 < 2 ^ 31 by decide), r79]
    by_cases c2 : zM (rec k) = 8
    · rw [if_pos c2, if_pos (Or.inl c2)]
    · rw [if_neg c2]
      simp (disch := assumption) only [x_X8_part_60, x_X8_part_61, x_X8_part_64, x_X8_part_65, x_X8_part_66, x_X8_part_67, x_X8_part_70, x_X8_part_71, x_X8_part_72, x_X8_part_73, x_X8_part_76, a7, b7, r79]
      by_cases c3 : (zA (rec k)).1 + (zA (rec a)).1 ≤ nI 200
      · rw [if_pos c3, if_neg (fun z => z.elim c2 (fun z => z c3))]
      · rw [if_neg c3, if_pos (Or.inr c3)]
theorem sX8_part (hO : zOk n rec) (hC : mFo I D n rec) (h : I 138 5 = nI n) (hn : n ≤ 60) {k a : Nat} (hk : k < n) (ha : a < k) : ∃ I', mF_X8_part [.ref 138, .int (nI k), .int (nI a)] (162, I, D, pm_R P) = some (some (.int (zpAns rec k a)), (162, I', D, pm_R P)) ∧ mFo I' D n (if zpOk rec k a then zAdd rec k a else rec) ∧ I' 138 5 = nI n ∧ FN I I' D D := by
  have hm := (hO k hk).1.2.1
  have hk6 : k < 60 := by omega
  have ha6 : a < 60 := by omega
  rw [en_X8_part, mpa_1 hO hC h hn hk]
  unfold zpAns
  by_cases c1 : 6 ≤ zK (rec k) ∧ zK (rec k) ≤ 8
  · rw [if_pos ⟨c1, inr_of (by omega) ha⟩, if_pos c1, mpa_2 hC hn hk ha hm]
    by_cases c2 : zI (rec k) = true
    · rw [if_pos c2, if_pos c2, if_neg (fun z : zpOk rec k a => absurd (z.2.1.symm.trans c2) (by decide))]
      exact ⟨I, rfl, hC, h, FN_rf⟩
    · rw [if_neg c2, if_neg c2]
      by_cases c3 : zM (rec k) = 8 ∨ ¬ (zA (rec k)).1 + (zA (rec a)).1 ≤ nI 200
      · rw [if_pos c3, if_pos c3, if_neg (fun z => c3.elim z.2.2.1 (fun w => w z.2.2.2))]
        exact ⟨I, rfl, hC, h, FN_rf⟩
      · have c2' : zI (rec k) = false := by simpa using c2
        have c3' : ¬ zM (rec k) = 8 := fun z => c3 (Or.inl z)
        have c4 : (zA (rec k)).1 + (zA (rec a)).1 ≤ nI 200 := Classical.byContradiction fun z => c3 (Or.inr z)
        have hz : zpOk rec k a := ⟨c1, c2', c3', c4⟩
        rw [if_neg c3, if_neg c3, if_pos hz]
        have hO' := zPart_ok hO hk ha hz
        obtain ⟨a1, a2, a3, a4, a5, a6, a7, a8, a9, a10, a11⟩ := hC k hk
        have hidx : 8 * k + zM (rec k) < 480 := by omega
        have one : nI 1 &&& 1 = fb true := rfl
        obtain ⟨J, run, fJ⟩ : ∃ J, pm_run mE_X8_part 82 [.ref 138, .int (nI k), .int (nI a)] [] (162, I, D, pm_R P) = pm_run mE_X8_part 116 [.ref 138, .int (nI k), .int (nI a)] [] (162, J, D, pm_R P) ∧ J = pm_u (pm_u (pm_u I 149 (8 * k + zM (rec k)) (nI a)) 148 k (nI (zM (rec k) + 1))) 150 a (fb true) := by
          simp (disch := first | assumption | decide) only [x_X8_part_82, x_X8_part_83, x_X8_part_86, x_X8_part_88, x_X8_part_89, x_X8_part_90, x_X8_part_91, x_X8_part_94, x_X8_part_95, x_X8_part_96, x_X8_part_97, x_X8_part_98, x_X8_part_99, x_X8_part_100, x_X8_part_103, x_X8_part_104, x_X8_part_105, x_X8_part_106, x_X8_part_107, x_X8_part_108, x_X8_part_109, x_X8_part_110, x_X8_part_113, x_X8_part_114, x_X8_part_115, a5, pk_mul, nI_add, pm_ua, one]
          exact ⟨_, rfl, rfl⟩
        rw [run]
        have hak : a ≠ k := by omega
        obtain ⟨I', e, g1, g2⟩ := mF_judge (P := P) (I := J) (D := D) (m := n) (f := k) (rec := zAdd rec k a) hk hn (hO' k hk).1 (fun z => by rw [zAdd_k hak] at z; have z2 : zK (rec k) ≤ 5 := z; omega) (fun b hb => (hO' b hb).1.2.1) (fun b hb hbk => by
          obtain ⟨b1, b2, b3, b4, b5, b6, b7, b8, b9, b10, b11⟩ := hC b hb
          have fr : ∀ r, r ≠ 149 → r ≠ 150 → J r b = I r b := fun r h1 h2 => by
            subst fJ
            unfold pm_u
            rw [if_neg (by omega), if_neg (by omega), if_neg (by omega)]
          have f9 : ∀ j, j < 8 → J 149 (8 * b + j) = I 149 (8 * b + j) := fun j hj => by
            subst fJ
            unfold pm_u
            rw [if_neg (by omega), if_neg (by omega), if_neg (by omega)]
          have hm8 := (hO b hb).1.2.1
          by_cases c : b = a
          · rw [c, zAdd_a]
            subst c
            refine ⟨?_, ?_, b3, b4, ?_, ?_, ?_, ?_, ?_, ?_, ?_⟩
            · rw [fr _ (by decide) (by decide)]; exact b1
            · rw [fr _ (by decide) (by decide)]; exact b2
            · rw [fr _ (by decide) (by decide)]; exact b5
            · rw [fJ, pm_us]; rfl
            · rw [fr _ (by decide) (by decide)]; exact b7
            · rw [fr _ (by decide) (by decide)]; exact b8
            · rw [fr _ (by decide) (by decide)]; exact b9
            · rw [fr _ (by decide) (by decide)]; exact b10
            · intro j hj
              have hj2 : j < zM (rec b) := hj
              rw [f9 j (by omega)]
              exact b11 j hj
          · rw [zAdd_n c hbk]
            refine ⟨?_, ?_, b3, b4, ?_, ?_, ?_, ?_, ?_, ?_, ?_⟩
            · rw [fr _ (by decide) (by decide)]; exact b1
            · rw [fr _ (by decide) (by decide)]; exact b2
            · rw [fr _ (by decide) (by decide)]; exact b5
            · rw [fJ, pm_ub c, pm_ua (by decide), pm_ua (by decide)]; exact b6
            · rw [fr _ (by decide) (by decide)]; exact b7
            · rw [fr _ (by decide) (by decide)]; exact b8
            · rw [fr _ (by decide) (by decide)]; exact b9
            · rw [fr _ (by decide) (by decide)]; exact b10
            · intro j hj
              rw [f9 j (by omega)]
              exact b11 j hj)
          (by rw [zAdd_k hak, fJ, pm_ua (by decide), pm_ua (by decide), pm_ua (by decide)]; exact a1)
          (by rw [zAdd_k hak, fJ, pm_ua (by decide), pm_ua (by decide), pm_ua (by decide)]; exact a2)
          (by rw [zAdd_k hak]; exact a3)
          (by rw [zAdd_k hak]; exact a4)
          (by rw [zAdd_k hak, fJ, pm_ua (by decide), pm_us]; rfl)
          (by rw [zAdd_k hak, fJ, pm_ub (Ne.symm hak), pm_ua (by decide), pm_ua (by decide)]; exact a6)
          (fun j hj => by
            rw [zAdd_k hak] at hj ⊢
            have hj2 : j < zM (rec k) + 1 := hj
            rw [fJ, pm_ua (by decide), pm_ua (by decide), pm_uc]
            show _ = nI (ud (zT (rec k)) (zM (rec k)) a j)
            unfold ud
            by_cases c : j = zM (rec k)
            · rw [if_pos (by omega), if_pos c]
            · rw [if_neg (by omega), if_neg c]
              exact a11 j (by omega))
        have g148 : I' 148 k = nI (zM (rec k) + 1) := by
          rw [g2 _ _ (by decide), fJ, pm_ua (by decide), pm_us]
        refine ⟨I', ?_, g1, ?_, ?_⟩
        · simp (disch := assumption) only [x_X8_part_116, x_X8_part_117, x_X8_part_118, x_X8_part_121, x_X8_part_122, x_X8_part_125, x_X8_part_126, x_X8_part_127, e, g148, Option.bind_some, Option.toList, List.cons_append, List.nil_append]
        · rw [g2 _ _ (by decide), fJ, pm_ua (by decide), pm_ua (by decide), pm_ua (by decide)]; exact h
        · intro c b hcb hc
          refine ⟨?_, rfl⟩
          rw [g2 c b (by omega), fJ, pm_ua (by omega), pm_ua (by omega), pm_ua (by omega)]
  · rw [if_neg (fun z => c1 z.1), if_neg c1, if_neg (fun z => c1 z.1)]
    exact ⟨I, rfl, hC, h, FN_rf⟩
theorem sX8_about_bad (h : I 138 5 = nI n) (hn : n ≤ 60) (hz : ¬ (inr x n ∧ inr y 12)) : mF_X8_about [.ref 138, .int x, .int y] (162, I, D, pm_R P) = some (some (.int (-1)), (162, I, D, pm_R P)) := by
  rw [en_X8_about]
  simp only [x_X8_about_0, x_X8_about_1, x_X8_about_2, x_X8_about_5, sX8_isFormula h hn, Option.bind_some, Option.toList, List.cons_append, List.nil_append, pb_eq0, ite_not]
  by_cases c1 : inr x n
  · rw [if_pos c1]
    have c2 : ¬ inr y (11 + 1) := fun z => hz ⟨c1, z⟩
    simp only [x_X8_about_8, x_X8_about_9, x_X8_about_10, x_X8_about_12, x_X8_about_15, x_X8_about_18, x_X8_about_19, sIn (m := 11) (by decide), pb_f c2, Option.bind_some, Option.toList, List.cons_append, List.nil_append, if_true]
  · rw [if_neg c1]
    simp only [x_X8_about_18, x_X8_about_19]
theorem sX8_about (hC : mFo I D n rec) (h : I 138 5 = nI n) (hn : n ≤ 60) {k w : Nat} (hk : k < n) (hw : w < 12) : mF_X8_about [.ref 138, .int (nI k), .int (nI w)] (162, I, D, pm_R P) = some (some (.int (zab (rec k) w)), (162, I, D, pm_R P)) := by
  have i1 : inr (nI k) n := inr_of (by omega) hk
  have i2 : inr (nI w) (11 + 1) := inr_of (by decide) hw
  have hk6 : k < 60 := by omega
  obtain ⟨a1, a2, a3, a4, a5, a6, a7, a8, a9, a10, a11⟩ := hC k hk
  have hb : w < 2 ^ 31 := by omega
  have w0 : (nI w = 0) = (w = 0) := propext (nI_c hb)
  have w1 := nI_eq (a := w) (b := 1) hb (by decide)
  have w3 := nI_eq (a := w) (b := 3) hb (by decide)
  rw [en_X8_about]
  simp (disch := assumption) only [x_X8_about_0, x_X8_about_1, x_X8_about_2, x_X8_about_5, x_X8_about_8, x_X8_about_9, x_X8_about_10, x_X8_about_12, x_X8_about_15, x_X8_about_18, x_X8_about_19, x_X8_about_20, x_X8_about_21, x_X8_about_22, x_X8_about_25, x_X8_about_26, sX8_isFormula h hn, sIn (m := 11) (by decide), pb_t i1, pb_t i2, Option.bind_some, Option.toList, List.cons_append, List.nil_append, show ¬ (1 : Int32) = 0 by decide, if_false, w0, nI_leI (show 3 < 2 ^ 31 by decide) hb]
  unfold zab
  by_cases c3 : w < 3
  · rw [if_neg (by omega)]
    by_cases c0 : w = 0
    · rw [if_pos c0, if_pos c0]
      simp (disch := assumption) only [x_X8_about_29, x_X8_about_30, x_X8_about_33, x_X8_about_34, x_X8_about_35, x_X8_about_58, a1]
    · rw [if_neg c0, if_neg c0]
      simp (disch := assumption) only [x_X8_about_38, x_X8_about_39, x_X8_about_40, w1]
      by_cases c1 : w = 1
      · rw [if_pos c1, if_pos c1]
        simp (disch := assumption) only [x_X8_about_43, x_X8_about_44, x_X8_about_47, x_X8_about_48, x_X8_about_49, x_X8_about_58, a5]
      · rw [if_neg c1, if_neg c1, if_pos (by omega)]
        simp (disch := assumption) only [x_X8_about_52, x_X8_about_53, x_X8_about_56, x_X8_about_57, x_X8_about_58, a7]
  · rw [if_pos (by omega), if_neg (by omega), if_neg (by omega), if_neg (by omega)]
    simp (disch := assumption) only [x_X8_about_59, x_X8_about_60, x_X8_about_61, w3]
    by_cases c4 : w = 3
    · rw [if_pos c4, if_pos c4]
      simp (disch := assumption) only [x_X8_about_64, x_X8_about_65, x_X8_about_68, x_X8_about_69, x_X8_about_70, a10, fb_eq0]
      cases zsf (rec k) with
      | false => simp only [if_true, x_X8_about_77, x_X8_about_78]; rfl
      | true => simp only [reduceCtorEq, if_false, x_X8_about_73, x_X8_about_74, x_X8_about_77, x_X8_about_78]; rfl
    · rw [if_neg c4, if_neg c4]
      simp (disch := assumption) only [x_X8_about_79, x_X8_about_80, x_X8_about_82, nI_leI (show 8 < 2 ^ 31 by decide) hb]
      by_cases c8 : w < 8
      · rw [if_neg (by omega), if_pos c8]
        simp (disch := assumption) only [x_X8_about_85, x_X8_about_86, x_X8_about_89, x_X8_about_90, x_X8_about_91, x_X8_about_92, x_X8_about_93, x_X8_about_94, x_X8_about_95, x_X8_about_96, x_X8_about_97, x_X8_about_113, a8, nI_sub (show 4 ≤ w by omega)]
      · rw [if_pos (by omega), if_neg c8]
        simp (disch := assumption) only [x_X8_about_100, x_X8_about_101, x_X8_about_104, x_X8_about_105, x_X8_about_106, x_X8_about_107, x_X8_about_109, x_X8_about_110, x_X8_about_111, x_X8_about_112, x_X8_about_113, a9, nI_sub (show 8 ≤ w by omega)]
theorem mpo_1 (hO : zOk n rec) (hC : mFo I D n rec) (h : I 138 5 = nI n) (hn : n ≤ 60) {k : Nat} (hk : k < n) : pm_run mE_X8_partOf 0 [.ref 138, .int (nI k), .int y] [] (162, I, D, pm_R P) = if inr y (zM (rec k)) then pm_run mE_X8_partOf 24 [.ref 138, .int (nI k), .int y] [] (162, I, D, pm_R P) else some (some (.int (-1)), (162, I, D, pm_R P)) := by
  have i1 : inr (nI k) n := inr_of (by omega) hk
  have hk6 : k < 60 := by omega
  have a5 : I 148 k = nI (zM (rec k)) := (hC k hk).2.2.2.2.1
  have hm := (hO k hk).1.2.1
  simp (disch := assumption) only [x_X8_partOf_0, x_X8_partOf_1, x_X8_partOf_2, x_X8_partOf_5, x_X8_partOf_8, x_X8_partOf_9, x_X8_partOf_10, x_X8_partOf_11, x_X8_partOf_14, x_X8_partOf_15, x_X8_partOf_16, x_X8_partOf_17, x_X8_partOf_18, x_X8_partOf_21, sX8_isFormula h hn, pb_t i1, a5, sIn3 (show zM (rec k) ≤ 60 by omega), Option.bind_some, Option.toList, List.cons_append, List.nil_append, show ¬ (1 : Int32) = 0 by decide, if_false, pb_eq0, ite_not]
  by_cases c : inr y (zM (rec k))
  · rw [if_pos c, if_pos c]
  · rw [if_neg c, if_neg c]
    simp only [x_X8_partOf_38, x_X8_partOf_39]
theorem sX8_partOf_bad (hO : zOk n rec) (hC : mFo I D n rec) (h : I 138 5 = nI n) (hn : n ≤ 60) (hz : ¬ ∃ k j, k < n ∧ j < zM (rec k) ∧ x = nI k ∧ y = nI j) : mF_X8_partOf [.ref 138, .int x, .int y] (162, I, D, pm_R P) = some (some (.int (-1)), (162, I, D, pm_R P)) := by
  rw [en_X8_partOf]
  by_cases c1 : inr x n
  · obtain ⟨k, hk, rfl⟩ := inr_nat (by omega) c1
    rw [mpo_1 hO hC h hn hk, if_neg]
    intro z
    obtain ⟨j, hj, e⟩ := inr_nat (by have := (hO k hk).1.2.1; omega) z
    exact hz ⟨k, j, hk, hj, rfl, e⟩
  · simp only [x_X8_partOf_0, x_X8_partOf_1, x_X8_partOf_2, x_X8_partOf_5, sX8_isFormula h hn, pb_f c1, Option.bind_some, Option.toList, List.cons_append, List.nil_append, if_true]
    simp only [x_X8_partOf_38, x_X8_partOf_39]
theorem sX8_partOf (hO : zOk n rec) (hC : mFo I D n rec) (h : I 138 5 = nI n) (hn : n ≤ 60) {k j : Nat} (hk : k < n) (hj : j < zM (rec k)) : mF_X8_partOf [.ref 138, .int (nI k), .int (nI j)] (162, I, D, pm_R P) = some (some (.int (nI (zT (rec k) j))), (162, I, D, pm_R P)) := by
  have hm := (hO k hk).1.2.1
  have hidx : 8 * k + j < 480 := by omega
  rw [en_X8_partOf, mpo_1 hO hC h hn hk, if_pos (inr_of (by omega) hj)]
  simp (disch := assumption) only [x_X8_partOf_24, x_X8_partOf_25, x_X8_partOf_28, x_X8_partOf_30, x_X8_partOf_31, x_X8_partOf_32, x_X8_partOf_33, x_X8_partOf_34, x_X8_partOf_35, x_X8_partOf_39, pk_mul, nI_add, (hC k hk).2.2.2.2.2.2.2.2.2.2 j hj]
theorem sX8_forget {m : Int32} (h : I 138 5 = m) : mF_X8_forget [.ref 138] (162, I, D, pm_R P) = some (some (.int m), (162, pm_u I 138 5 (nI 0), D, pm_R P)) := by
  rw [en_X8_forget]
  simp only [x_X8_forget_0, x_X8_forget_1, x_X8_forget_4, x_X8_forget_5, x_X8_forget_6, x_X8_forget_7, x_X8_forget_10, x_X8_forget_11, h]
end FOR9
