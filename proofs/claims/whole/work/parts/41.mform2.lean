/-! FORMULAS, 6: the model's judge, formula, part -/
theorem low_mo (p : Option UInt64) : (FP.dcmp (mo p) 0 = some .lt) = (lowO p = true) := by
  cases p with
  | none =>
    rw [show mo none = nN from rfl, dc_nan_l]
    exact propext ⟨(fun z => by cases z), (fun z => by cases z)⟩
  | some a =>
    rw [mo_some]
    unfold lowO
    exact propext ⟨fun z => decide_eq_true z, fun z => of_decide_eq_true z⟩
section FOR6
variable {I : Nat → Nat → Int32} {D : Nat → Nat → UInt64} {P : Nat → Nat → Option Nat} {n kd : Nat} {rec : Nat → zR} {x y : Int32} {p q : UInt64} {μ : pm_M}
theorem jg_with {kd : Nat} {a : zA4} (hkd : kd < 14) (h0 : kd ≤ 5 → a.2.2.2 = nI 15 ∧ ((kd = 0 ∨ kd = 5) → a.2.1 = nI 0)) : ((if 1 ≤ kd ∧ kd ≤ 4 then nI 15 else if kd = 6 ∨ kd = 8 ∨ kd = 9 ∨ kd = 12 then a.2.2.2 else if kd = 7 ∧ a.2.2.1 = true then a.2.2.2 else nI 0) ||| (a.2.1 ^^^ (-1))) &&& nI 15 = zrsv kd a := by
  unfold zrsv
  by_cases c : kd = 0 ∨ kd = 5
  · have h := h0 (by omega)
    rw [if_neg (by omega), if_neg (by omega), if_neg (by omega), h.2 c]
    have : zrk kd a.2.2.1 a.2.2.2 = nI 15 := by
      unfold zrk
      rw [if_neg (by omega), if_neg (by omega), h.1]
    rw [this]
    decide
  · have : (if 1 ≤ kd ∧ kd ≤ 4 then nI 15 else if kd = 6 ∨ kd = 8 ∨ kd = 9 ∨ kd = 12 then a.2.2.2 else if kd = 7 ∧ a.2.2.1 = true then a.2.2.2 else nI 0) = zrk kd a.2.2.1 a.2.2.2 := by
      unfold zrk
      by_cases c1 : 1 ≤ kd ∧ kd ≤ 4
      · rw [if_pos c1, if_neg (by omega), if_neg (by omega), (h0 (by omega)).1]
      · rw [if_neg c1]
        by_cases c2 : kd = 6 ∨ kd = 8 ∨ kd = 9 ∨ kd = 12
        · rw [if_pos c2, if_neg (by omega), if_neg (by omega)]
        · rw [if_neg c2]
          by_cases c7 : kd = 7
          · rw [if_pos c7]
            by_cases c8 : a.2.2.1 = true
            · rw [if_pos ⟨c7, c8⟩, if_pos c8]
            · rw [if_neg (fun z => c8 z.2), if_neg c8]
          · rw [if_neg (fun z => c7 z.1), if_neg c7, if_pos (by omega)]
    rw [this, Int32.or_comm, Int32.and_comm]
theorem sX8_judge {f m : Nat} {pl : Int32} {pt : Nat → Nat} {p : Option UInt64} (hf : f < 60) (hkd : kd < 14) (hm : m ≤ 8) (h4 : I 144 f = nI kd) (h5 : I 145 f = pl) (h6 : D 146 f = mo p) (h8 : I 148 f = nI m) (hp : jPt I rec f pt m) (hm0 : kd ≤ 5 → m = 0) : mF_X8_judge [.ref 138, .int (nI f)] (162, I, D, pm_R P) = some (none, (162, pm_u (pm_u (pm_u (pm_u I 151 f (zfold rec pt (zac0 kd pl) m).1) 152 f (zfold rec pt (zac0 kd pl) m).2.1) 154 f (fb (zsfv kd p (zfold rec pt (zac0 kd pl) m).2.2.1))) 153 f (zrsv kd (zfold rec pt (zac0 kd pl) m)), D, pm_R P)) := by
  have hb : kd < 2 ^ 31 := by omega
  have e0 : (nI kd = 0) = (kd = 0) := propext (nI_c hb)
  have e5 := nI_eq (a := kd) (b := 5) hb (by decide)
  have e6 := nI_eq (a := kd) (b := 6) hb (by decide)
  have e7 := nI_eq (a := kd) (b := 7) hb (by decide)
  have e8 := nI_eq (a := kd) (b := 8) hb (by decide)
  have e9 := nI_eq (a := kd) (b := 9) hb (by decide)
  have e12 := nI_eq (a := kd) (b := 12) hb (by decide)
  have e13 := nI_eq (a := kd) (b := 13) hb (by decide)
  have z0 : zfold rec pt (zac0 kd pl) 0 = zac0 kd pl := rfl
  rw [en_X8_judge]
  obtain ⟨v', lp⟩ := jg_loop (D := D) (P := P) (kd := kd) (a0 := zac0 kd pl) hf hm h8 hp m 0 (.retAddr 0) (by omega)
  rw [z0] at lp
  have run1 : pm_run mE_X8_judge 0 [.ref 138, .int (nI f), .retAddr 0, .retAddr 0, .retAddr 0, .retAddr 0, .retAddr 0, .retAddr 0, .retAddr 0] [] (162, I, D, pm_R P) = pm_run mE_X8_judge 42 [.ref 138, .int (nI f), .int (nI kd), .int (zac0 kd pl).1, .int (zac0 kd pl).2.1, .int (fb (zac0 kd pl).2.2.1), .int (zac0 kd pl).2.2.2, .int (nI 0), .retAddr 0] [] (162, I, D, pm_R P) := by
    simp (disch := assumption) only [x_X8_judge_0, x_X8_judge_1, x_X8_judge_4, x_X8_judge_5, x_X8_judge_6, x_X8_judge_7, x_X8_judge_8, x_X8_judge_9, x_X8_judge_10, x_X8_judge_11, x_X8_judge_12, x_X8_judge_15, h4, sIn2 hb (show 1 < 2 ^ 31 by decide) (show 4 < 2 ^ 31 by decide), pb_eq0, ite_not, Option.bind_some, Option.toList, List.cons_append, List.nil_append]
    unfold zac0
    by_cases c : 1 ≤ kd ∧ kd ≤ 4
    · rw [if_pos c]
      simp (disch := assumption) only [x_X8_judge_18, x_X8_judge_19, x_X8_judge_20, x_X8_judge_23, x_X8_judge_24, x_X8_judge_25, x_X8_judge_26, x_X8_judge_29, x_X8_judge_30, x_X8_judge_32, x_X8_judge_33, x_X8_judge_35, x_X8_judge_37, x_X8_judge_39, x_X8_judge_40, h5, c, if_true]
      rfl
    · rw [if_neg c]
      simp (disch := assumption) only [x_X8_judge_29, x_X8_judge_30, x_X8_judge_32, x_X8_judge_33, x_X8_judge_35, x_X8_judge_37, x_X8_judge_39, x_X8_judge_40, c, if_false]
      rfl
  rw [run1, lp]
  have hA : kd ≤ 5 → (zfold rec pt (zac0 kd pl) m).2.2.2 = nI 15 ∧ ((kd = 0 ∨ kd = 5) → (zfold rec pt (zac0 kd pl) m).2.1 = nI 0) := by
    intro h
    rw [hm0 h]
    exact ⟨rfl, fun z => if_neg (by omega)⟩
  have hw := jg_with hkd hA
  generalize zfold rec pt (zac0 kd pl) m = A at *
  have run2 : ∀ J v, J 144 f = nI kd → pm_run mE_X8_judge 144 [.ref 138, .int (nI f), .int (nI kd), .int A.1, .int A.2.1, .int (fb A.2.2.1), .int A.2.2.2, .int (nI m), v] [] (162, J, D, pm_R P) = pm_run mE_X8_judge 162 [.ref 138, .int (nI f), .int (nI kd), .int A.1, .int A.2.1, .int (fb A.2.2.1), .int A.2.2.2, .int (fb (lowO p)), v] [] (162, J, D, pm_R P) := by
    intro J v _
    simp (disch := assumption) only [x_X8_judge_144, x_X8_judge_145, x_X8_judge_148, x_X8_judge_149, x_X8_judge_150, x_X8_judge_151, x_X8_judge_152, h6, cg_ge, low_mo]
    by_cases c : lowO p = true
    · rw [if_neg (not_not_intro c), c]
      simp only [x_X8_judge_155, x_X8_judge_156, x_X8_judge_159, x_X8_judge_160]
      rfl
    · rw [if_pos c, show lowO p = false by simpa using c]
      simp only [x_X8_judge_159, x_X8_judge_160]
      rfl
  have run3 : ∀ J v, pm_run mE_X8_judge 162 [.ref 138, .int (nI f), .int (nI kd), .int A.1, .int A.2.1, .int (fb A.2.2.1), .int A.2.2.2, .int (fb (lowO p)), v] [] (162, J, D, pm_R P) = pm_run mE_X8_judge 212 [.ref 138, .int (nI f), .int (nI kd), .int A.1, .int A.2.1, .int (fb A.2.2.1), .int A.2.2.2, .int (fb (lowO p)), v] [] (162, pm_u J 154 f (fb (zsfv kd p A.2.2.1)), D, pm_R P) := by
    intro J v
    have one : nI 1 &&& 1 = fb true := rfl
    have zer : nI 0 &&& 1 = fb false := rfl
    simp (disch := assumption) only [x_X8_judge_162, x_X8_judge_163, x_X8_judge_166, x_X8_judge_167, x_X8_judge_168, e0]
    unfold zsfv
    by_cases c0 : kd = 0
    · rw [if_pos c0, if_pos c0]
      simp (disch := assumption) only [x_X8_judge_171, x_X8_judge_173, fb_eq0]
      cases lowO p with
      | false => simp (disch := assumption) only [if_true, x_X8_judge_176, x_X8_judge_177, x_X8_judge_211, one]; rfl
      | true => simp (disch := assumption) only [reduceCtorEq, if_false, x_X8_judge_180, x_X8_judge_181, x_X8_judge_211, zer]; rfl
    · rw [if_neg c0, if_neg c0]
      simp (disch := assumption) only [x_X8_judge_184, x_X8_judge_185, x_X8_judge_186, e5]
      by_cases c5 : kd = 5
      · rw [if_pos c5, if_pos c5]
        simp (disch := assumption) only [x_X8_judge_189, x_X8_judge_190, x_X8_judge_211, zer]
      · rw [if_neg c5, if_neg c5]
        simp (disch := assumption) only [x_X8_judge_193, x_X8_judge_194, x_X8_judge_196, x_X8_judge_199, x_X8_judge_200, x_X8_judge_202, e12, e13, x_X8_judge_205, x_X8_judge_207, x_X8_judge_210, x_X8_judge_211, fb_and, one]
        by_cases c12 : kd = 12
        · rw [if_pos c12, if_pos (Or.inl c12)]
        · rw [if_neg c12]
          by_cases c13 : kd = 13
          · rw [if_pos c13, if_pos (Or.inr c13)]
          · rw [if_neg c13, if_neg (by omega)]
  have run4 : ∀ J v w, pm_run mE_X8_judge 212 [.ref 138, .int (nI f), .int (nI kd), .int A.1, .int A.2.1, .int (fb A.2.2.1), .int A.2.2.2, w, v] [] (162, J, D, pm_R P) = some (none, (162, pm_u J 153 f (zrsv kd A), D, pm_R P)) := by
    intro J v w
    have fin : ∀ z, pm_run mE_X8_judge 267 [.ref 138, .int (nI f), .int (nI kd), .int A.1, .int A.2.1, .int (fb A.2.2.1), .int A.2.2.2, w, v] [.int z] (162, J, D, pm_R P) = some (none, (162, pm_u J 153 f ((z ||| (A.2.1 ^^^ (-1))) &&& nI 15), D, pm_R P)) := by
      intro z
      simp (disch := assumption) only [x_X8_judge_267, x_X8_judge_269, x_X8_judge_270, x_X8_judge_273, x_X8_judge_274, x_X8_judge_276, x_X8_judge_278, x_X8_judge_279, x_X8_judge_280, x_X8_judge_281, x_X8_judge_283, x_X8_judge_284, x_X8_judge_285]
    rw [← hw]
    simp (disch := assumption) only [x_X8_judge_212, x_X8_judge_213, x_X8_judge_214, x_X8_judge_215, x_X8_judge_218, sIn2 hb (show 1 < 2 ^ 31 by decide) (show 4 < 2 ^ 31 by decide), pb_eq0, ite_not, Option.bind_some, Option.toList, List.cons_append, List.nil_append]
    by_cases c1 : 1 ≤ kd ∧ kd ≤ 4
    · rw [if_pos c1, if_pos c1]
      simp only [x_X8_judge_221, x_X8_judge_223, fin]
    · rw [if_neg c1, if_neg c1]
      have e261 : pm_run mE_X8_judge 261 [.ref 138, .int (nI f), .int (nI kd), .int A.1, .int A.2.1, .int (fb A.2.2.1), .int A.2.2.2, w, v] [] (162, J, D, pm_R P) = some (none, (162, pm_u J 153 f ((A.2.2.2 ||| (A.2.1 ^^^ (-1))) &&& nI 15), D, pm_R P)) := by
        simp only [x_X8_judge_261, x_X8_judge_263, fin]
      have e266 : pm_run mE_X8_judge 266 [.ref 138, .int (nI f), .int (nI kd), .int A.1, .int A.2.1, .int (fb A.2.2.1), .int A.2.2.2, w, v] [] (162, J, D, pm_R P) = some (none, (162, pm_u J 153 f ((nI 0 ||| (A.2.1 ^^^ (-1))) &&& nI 15), D, pm_R P)) := by
        simp only [x_X8_judge_266, fin]
      simp (disch := assumption) only [x_X8_judge_226, x_X8_judge_227, x_X8_judge_229, x_X8_judge_232, x_X8_judge_233, x_X8_judge_235, x_X8_judge_238, x_X8_judge_239, x_X8_judge_241, x_X8_judge_244, x_X8_judge_245, x_X8_judge_247, x_X8_judge_250, x_X8_judge_251, x_X8_judge_253, x_X8_judge_256, x_X8_judge_258, e6, e7, e8, e9, e12, e261, e266, fb_eq0]
      by_cases c : kd = 6 ∨ kd = 8 ∨ kd = 9 ∨ kd = 12
      · rw [if_pos c]
        split
        · rfl
        · split
          · rfl
          · split
            · rfl
            · rw [if_pos (by omega)]
      · rw [if_neg c, if_neg (by omega), if_neg (by omega), if_neg (by omega), if_neg (by omega)]
        by_cases c7 : kd = 7
        · rw [if_pos c7]
          by_cases cs : A.2.2.1 = true
          · rw [if_neg (by rw [cs]; decide), if_pos ⟨c7, cs⟩]
          · rw [if_pos (by simpa using cs), if_neg (fun z => cs z.2)]
        · rw [if_neg c7, if_neg (fun z => c7 z.1)]
  simp (disch := assumption) only [x_X8_judge_129, x_X8_judge_130, x_X8_judge_133, x_X8_judge_134, x_X8_judge_135, x_X8_judge_136, x_X8_judge_137, x_X8_judge_140, x_X8_judge_141, x_X8_judge_143]
  rw [run2 _ _ (by rw [pm_ua (by decide), pm_ua (by decide)]; exact h4), run3, run4]
end FOR6
