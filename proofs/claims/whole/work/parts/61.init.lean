/-! THE CONSTRUCTORS -/
theorem pm_fo_S (k : Nat) : pm_fo k + 1 = pm_po k := by unfold pm_fo pm_po; omega
theorem pm_po_S (k : Nat) : pm_po k + 1 = pm_fo (k + 1) := by unfold pm_fo pm_po; omega
section INI
variable {I : Nat → Nat → Int32} {D : Nat → Nat → UInt64} {R : Nat → Nat → Option Nat} {n : Nat}
def shR (R : Nat → Nat → Option Nat) : Nat → Nat → Option Nat := pm_u (pm_u (pm_u (pm_u (pm_u (pm_u (pm_u (pm_u (pm_u R 1 0 (some 2)) 1 1 (some 3)) 1 2 (some 4)) 1 3 (some 5)) 1 4 (some 6)) 1 5 (some 7)) 1 6 (some 8)) 1 7 (some 9)) 1 8 (some 10)
theorem sX6_init : mF_X6_init [.ref 1] (2, I, D, R) = some (none, (11, I, D, shR R)) := by
  rw [en_X6_init]
  simp (disch := decide) only [x_X6_init_0, x_X6_init_1, x_X6_init_4, x_X6_init_5, x_X6_init_8, x_X6_init_10, x_X6_init_13, x_X6_init_14, x_X6_init_17, x_X6_init_19, x_X6_init_22, x_X6_init_23, x_X6_init_26, x_X6_init_28, x_X6_init_31, x_X6_init_32, x_X6_init_33, x_X6_init_35, x_X6_init_38, x_X6_init_39, x_X6_init_40, x_X6_init_42, x_X6_init_45, x_X6_init_46, x_X6_init_49, x_X6_init_51, x_X6_init_54, x_X6_init_55, x_X6_init_58, x_X6_init_60, x_X6_init_63, x_X6_init_64, x_X6_init_65, x_X6_init_67, x_X6_init_70, x_X6_init_71, x_X6_init_72, x_X6_init_74, x_X6_init_77, Nat.reduceAdd]
  rfl
theorem sX4_init : mF_X4_init [.ref 12] (n, I, D, R) = some (none, (n, I, D, R)) := by
  rw [en_X4_init]
  simp only [x_X4_init_0, x_X4_init_1, x_X4_init_4]
def scR (R : Nat → Nat → Option Nat) : Nat → Nat → Option Nat := pm_u (pm_u (pm_u R 11 6 (some 1)) 11 7 (some 12)) 11 8 (some 13)
theorem sX5_init : mF_X5_init [.ref 11, .ref 1] (12, I, D, R) = some (none, (14, I, D, scR R)) := by
  rw [en_X5_init]
  simp (disch := decide) only [x_X5_init_0, x_X5_init_1, x_X5_init_4, x_X5_init_5, x_X5_init_6, x_X5_init_9, x_X5_init_10, x_X5_init_13, x_X5_init_14, x_X5_init_17, x_X5_init_20, x_X5_init_21, x_X5_init_24, x_X5_init_26, x_X5_init_29, Nat.reduceAdd, sX4_init, Option.bind_some, Option.toList, List.cons_append, List.nil_append]
  rfl
theorem sX1_init {k : Nat} {x : Int32} (h : k < 60) : mF_X1_init [.ref (pm_fo k), .int x] (pm_po k, I, D, R) = some (none, (pm_po k + 1, pm_u I 200 k x, D, pm_u R 206 k (some (pm_po k)))) := by
  have h1 : pm_fo k < pm_po k := by unfold pm_fo pm_po; omega
  have h2 : pm_fo k < pm_po k + 1 := by omega
  have h3 := pm_k_po k h
  rw [en_X1_init]
  simp (disch := first | assumption | decide) only [x_X1_init_0, x_X1_init_1, x_X1_init_4, x_X1_init_5, x_X1_init_6, x_X1_init_9, x_X1_init_10, x_X1_init_12, x_X1_init_15, x_X1_init_18]
def iIf (I : Nat → Nat → Int32) : Nat → Nat → Nat → Int32
  | 0 => I
  | k + 1 => pm_u (iIf I k) 200 k (nI k)
def iRf (R : Nat → Nat → Option Nat) : Nat → Nat → Nat → Option Nat
  | 0 => R
  | k + 1 => pm_u (pm_u (iRf R k) 206 k (some (pm_po k))) 14 k (some (pm_fo k))
theorem iIf_out {a b : Nat} (h : a ≠ 200) : ∀ k, iIf I k a b = I a b
  | 0 => rfl
  | k + 1 => by
    show pm_u (iIf I k) 200 k (nI k) a b = _
    rw [pm_ua h]
    exact iIf_out h k
theorem iIf_in {b : Nat} : ∀ k, b < k → iIf I k 200 b = nI b
  | 0, h => absurd h (Nat.not_lt_zero b)
  | k + 1, h => by
    show pm_u (iIf I k) 200 k (nI k) 200 b = _
    by_cases c : b = k
    · subst c
      rw [pm_us]
    · rw [pm_ub c]
      exact iIf_in k (by omega)
theorem iRf_out {a b : Nat} (h : a ≠ 206) (h2 : a ≠ 14) : ∀ k, iRf R k a b = R a b
  | 0 => rfl
  | k + 1 => by
    show pm_u (pm_u (iRf R k) 206 k (some (pm_po k))) 14 k (some (pm_fo k)) a b = _
    rw [pm_ua h2, pm_ua h]
    exact iRf_out h h2 k
theorem iRf_14 {b : Nat} : ∀ k, iRf R k 14 b = if b < k then some (pm_fo b) else R 14 b
  | 0 => rfl
  | k + 1 => by
    show pm_u (pm_u (iRf R k) 206 k (some (pm_po k))) 14 k (some (pm_fo k)) 14 b = _
    by_cases c : b = k
    · subst c
      rw [pm_us, if_pos (by omega)]
    · rw [pm_ub c, pm_ua (by decide), iRf_14 k]
      by_cases c2 : b < k
      · rw [if_pos c2, if_pos (by omega)]
      · rw [if_neg c2, if_neg (by omega)]
theorem iRf_206 {b : Nat} : ∀ k, iRf R k 206 b = if b < k then some (pm_po b) else R 206 b
  | 0 => rfl
  | k + 1 => by
    show pm_u (pm_u (iRf R k) 206 k (some (pm_po k))) 14 k (some (pm_fo k)) 206 b = _
    rw [pm_ua (by decide)]
    by_cases c : b = k
    · subst c
      rw [pm_us, if_pos (by omega)]
    · rw [pm_ub c, iRf_206 k]
      by_cases c2 : b < k
      · rw [if_pos c2, if_pos (by omega)]
      · rw [if_neg c2, if_neg (by omega)]
theorem il_loop (hR : R 0 2 = some 14) : ∀ c k, k + c = 60 → pm_run mE_X7_init 41 [.ref 0, .int (nI k)] [] (pm_fo k, iIf I k, D, iRf R k) = pm_run mE_X7_init 67 [.ref 0, .int (nI 60)] [] (135, iIf I 60, D, iRf R 60) := by
  intro c
  induction c with
  | zero =>
    intro k hk
    have e : k = 60 := by omega
    subst e
    have hle : nI 60 ≤ nI 60 := by decide
    simp only [x_X7_init_41, x_X7_init_42, x_X7_init_44, hle, if_true]
    rfl
  | succ c ih =>
    intro k hk
    have hk60 : k < 60 := by omega
    have hlt : ¬ nI 60 ≤ nI k := nI_ge hk60 (by decide)
    have h02 : iRf R k 0 2 = some 14 := by rw [iRf_out (by decide) (by decide)]; exact hR
    have h0 : 0 < pm_fo k := by unfold pm_fo; omega
    have hkf := congrArg Prod.fst (pm_k_fo k hk60)
    have h1 : pm_fo k < pm_po k := by unfold pm_fo pm_po; omega
    have h2 : pm_fo k < pm_fo (k + 1) := by unfold pm_fo; omega
    have ei := sX1_init (I := iIf I k) (D := D) (R := iRf R k) (x := nI k) hk60
    rw [pm_po_S] at ei
    rw [← ih (k + 1) (by omega)]
    have eI : iIf I (k + 1) = pm_u (iIf I k) 200 k (nI k) := rfl
    have eR : iRf R (k + 1) = pm_u (pm_u (iRf R k) 206 k (some (pm_po k))) 14 k (some (pm_fo k)) := rfl
    rw [eI, eR]
    simp (disch := assumption) only [x_X7_init_41, x_X7_init_42, x_X7_init_44, x_X7_init_47, x_X7_init_48, x_X7_init_51, x_X7_init_52, x_X7_init_55, x_X7_init_56, x_X7_init_57, x_X7_init_60, x_X7_init_61, x_X7_init_64, hlt, if_false, h02, pm_o_some, pm_fo_S, ei, nI_add, Option.bind_some, Option.toList, List.cons_append, List.nil_append]
/-- the class's references as they are made -/
def clR (R : Nat → Nat → Option Nat) : Nat → Nat → Option Nat := pm_u (pm_u (pm_u (iRf (pm_u (pm_u (scR (pm_u (shR R) 0 0 (some 1))) 0 1 (some 11)) 0 2 (some 14)) 60) 0 4 (some 135)) 0 5 (some 136)) 0 6 (some 137)
theorem sX7_init : mF_X7_init [.ref 0] (1, I, D, R) = some (none, (138, pm_u (iIf I 60) 135 1 (-9), D, clR R)) := by
  have hR : pm_u (pm_u (scR (pm_u (shR R) 0 0 (some 1))) 0 1 (some 11)) 0 2 (some 14) 0 2 = some 14 := pm_us _ _ _ _
  have hs : (scR (pm_u (shR R) 0 0 (some 1))) 0 0 = some 1 := by
    unfold scR
    rw [pm_ua (by decide), pm_ua (by decide), pm_ua (by decide), pm_us]
  have hs2 : (pm_u (shR R) 0 0 (some 1)) 0 0 = some 1 := pm_us _ _ _ _
  have h135 : ∀ Q : Nat → Nat → Option Nat, pm_u Q 0 4 (some 135) 0 4 = some 135 := fun Q => pm_us _ _ _ _
  have el := il_loop (I := I) (D := D) hR 60 0 rfl
  have e0 : pm_fo 0 = 15 := rfl
  have e1 : iIf I 0 = I := rfl
  have e2 : iRf (pm_u (pm_u (scR (pm_u (shR R) 0 0 (some 1))) 0 1 (some 11)) 0 2 (some 14)) 0 = pm_u (pm_u (scR (pm_u (shR R) 0 0 (some 1))) 0 1 (some 11)) 0 2 (some 14) := rfl
  rw [e0, e1, e2] at el
  rw [en_X7_init]
  simp (disch := decide) only [x_X7_init_0, x_X7_init_1, x_X7_init_4, x_X7_init_5, x_X7_init_8, x_X7_init_9, x_X7_init_12, x_X7_init_15, x_X7_init_16, x_X7_init_19, x_X7_init_20, x_X7_init_21, x_X7_init_24, x_X7_init_27, x_X7_init_30, x_X7_init_31, x_X7_init_33, x_X7_init_36, x_X7_init_39, x_X7_init_40, Nat.reduceAdd, sX6_init, hs2, pm_o_some, sX5_init, Option.bind_some, Option.toList, List.cons_append, List.nil_append]
  rw [el]
  simp (disch := decide) only [x_X7_init_67, x_X7_init_68, x_X7_init_69, x_X7_init_71, x_X7_init_74, x_X7_init_75, x_X7_init_78, x_X7_init_79, x_X7_init_81, x_X7_init_82, x_X7_init_83, x_X7_init_85, x_X7_init_87, x_X7_init_90, x_X7_init_91, x_X7_init_93, x_X7_init_95, x_X7_init_98, Nat.reduceAdd, h135, pm_o_some]
  rfl
/-- the model's -/
def moR (R : Nat → Nat → Option Nat) : Nat → Nat → Option Nat :=
  pm_u (pm_u (pm_u (pm_u (pm_u (pm_u (pm_u (pm_u (pm_u (pm_u (pm_u (pm_u (pm_u (pm_u (pm_u (pm_u (pm_u (pm_u (pm_u (pm_u (pm_u (pm_u (pm_u R 138 0 (some 139)) 138 1 (some 140)) 138 2 (some 141)) 138 3 (some 142)) 138 4 (some 143)) 138 6 (some 144)) 138 7 (some 145)) 138 8 (some 146)) 138 9 (some 147)) 138 10 (some 148)) 138 11 (some 149)) 138 12 (some 150)) 138 13 (some 151)) 138 14 (some 152)) 138 15 (some 153)) 138 16 (some 154)) 138 17 (some 155)) 138 18 (some 156)) 138 19 (some 157)) 138 20 (some 158)) 138 29 (some 159)) 138 30 (some 160)) 138 31 (some 161)
theorem mi_1 : mF_X8_init [.ref 138] (139, I, D, R) = pm_run mE_X8_init 189 [.ref 138] [] (162, I, D, moR R) := by
  rw [en_X8_init]
  simp (disch := decide) only [x_X8_init_0, x_X8_init_1, x_X8_init_4, x_X8_init_5, x_X8_init_8, x_X8_init_10, x_X8_init_13, x_X8_init_14, x_X8_init_17, x_X8_init_19, x_X8_init_22, x_X8_init_23, x_X8_init_26, x_X8_init_28, x_X8_init_31, x_X8_init_32, x_X8_init_33, x_X8_init_35, x_X8_init_38, x_X8_init_39, x_X8_init_40, x_X8_init_42, x_X8_init_45, x_X8_init_46, x_X8_init_48, x_X8_init_50, x_X8_init_53, x_X8_init_54, x_X8_init_56, x_X8_init_58, x_X8_init_61, x_X8_init_62, x_X8_init_64, x_X8_init_66, x_X8_init_69, x_X8_init_70, x_X8_init_72, x_X8_init_74, x_X8_init_77, x_X8_init_78, x_X8_init_80, x_X8_init_82, x_X8_init_85, x_X8_init_86, x_X8_init_89, x_X8_init_91, x_X8_init_94, x_X8_init_95, x_X8_init_97, x_X8_init_99, x_X8_init_102, x_X8_init_103, x_X8_init_105, x_X8_init_107, x_X8_init_110, x_X8_init_111, x_X8_init_113, x_X8_init_115, x_X8_init_118, x_X8_init_119, x_X8_init_121, x_X8_init_123, x_X8_init_126, x_X8_init_127, x_X8_init_129, x_X8_init_131, x_X8_init_134, x_X8_init_135, x_X8_init_137, x_X8_init_139, x_X8_init_142, x_X8_init_143, x_X8_init_145, x_X8_init_147, x_X8_init_150, x_X8_init_151, x_X8_init_153, x_X8_init_155, x_X8_init_158, x_X8_init_159, x_X8_init_161, x_X8_init_163, x_X8_init_166, x_X8_init_167, x_X8_init_168, x_X8_init_170, x_X8_init_173, x_X8_init_174, x_X8_init_176, x_X8_init_178, x_X8_init_181, x_X8_init_182, x_X8_init_184, x_X8_init_186, Nat.reduceAdd]
  rfl
theorem sX8_init {P : Nat → Nat → Option Nat} (hR : moR R = pm_R P) : ∃ I' D', mF_X8_init [.ref 138] (139, I, D, R) = some (none, (162, I', D', pm_R P)) ∧ MO I' D' gZ ∧ FM I I' D D' := by
  obtain ⟨I', D', e, f1, f2⟩ := sX8_clear (I := I) (D := D) (P := P)
  refine ⟨I', D', ?_, f1, f2⟩
  rw [mi_1, hR]
  simp (disch := decide) only [x_X8_init_189, x_X8_init_190, x_X8_init_193, x_X8_init_194, e, Option.bind_some, Option.toList, List.cons_append, List.nil_append]
/-- all references at the start -/
def allR : Nat → Nat → Option Nat := moR (clR (fun _ _ => none))
theorem allR_0 : ∀ b, allR 0 b = pm_R (fun _ _ => none) 0 b
  | 0 => by decide +kernel
  | 1 => by decide +kernel
  | 2 => by decide +kernel
  | 3 => by decide +kernel
  | 4 => by decide +kernel
  | 5 => by decide +kernel
  | 6 => by decide +kernel
  | b + 7 => by
    show allR 0 (b + 7) = none
    unfold allR moR clR
    rw [pm_ua (by decide), pm_ua (by decide), pm_ua (by decide), pm_ua (by decide), pm_ua (by decide), pm_ua (by decide), pm_ua (by decide), pm_ua (by decide), pm_ua (by decide), pm_ua (by decide), pm_ua (by decide), pm_ua (by decide), pm_ua (by decide), pm_ua (by decide), pm_ua (by decide), pm_ua (by decide), pm_ua (by decide), pm_ua (by decide), pm_ua (by decide), pm_ua (by decide), pm_ua (by decide), pm_ua (by decide), pm_ua (by decide), pm_ub (by omega), pm_ub (by omega), pm_ub (by omega), iRf_out (by decide) (by decide), pm_ub (by omega), pm_ub (by omega)]
    unfold scR
    rw [pm_ua (by decide), pm_ua (by decide), pm_ua (by decide), pm_ub (by omega)]
    unfold shR
    rw [pm_ua (by decide), pm_ua (by decide), pm_ua (by decide), pm_ua (by decide), pm_ua (by decide), pm_ua (by decide), pm_ua (by decide), pm_ua (by decide), pm_ua (by decide)]
theorem allR_1 : ∀ b, allR 1 b = pm_R (fun _ _ => none) 1 b
  | 0 => by decide +kernel
  | 1 => by decide +kernel
  | 2 => by decide +kernel
  | 3 => by decide +kernel
  | 4 => by decide +kernel
  | 5 => by decide +kernel
  | 6 => by decide +kernel
  | 7 => by decide +kernel
  | 8 => by decide +kernel
  | b + 9 => by
    have e : pm_R (fun _ _ => none) 1 (b + 9) = none := by
      show (if b + 9 < 9 then some (2 + (b + 9)) else none) = none
      exact if_neg (by omega)
    rw [e]
    unfold allR moR clR
    rw [pm_ua (by decide), pm_ua (by decide), pm_ua (by decide), pm_ua (by decide), pm_ua (by decide), pm_ua (by decide), pm_ua (by decide), pm_ua (by decide), pm_ua (by decide), pm_ua (by decide), pm_ua (by decide), pm_ua (by decide), pm_ua (by decide), pm_ua (by decide), pm_ua (by decide), pm_ua (by decide), pm_ua (by decide), pm_ua (by decide), pm_ua (by decide), pm_ua (by decide), pm_ua (by decide), pm_ua (by decide), pm_ua (by decide), pm_ua (by decide), pm_ua (by decide), pm_ua (by decide), iRf_out (by decide) (by decide), pm_ua (by decide), pm_ua (by decide)]
    unfold scR
    rw [pm_ua (by decide), pm_ua (by decide), pm_ua (by decide), pm_ua (by decide)]
    unfold shR
    rw [pm_ub (by omega), pm_ub (by omega), pm_ub (by omega), pm_ub (by omega), pm_ub (by omega), pm_ub (by omega), pm_ub (by omega), pm_ub (by omega), pm_ub (by omega)]
theorem allR_11 : ∀ b, allR 11 b = pm_R (fun _ _ => none) 11 b
  | 0 => by decide +kernel
  | 1 => by decide +kernel
  | 2 => by decide +kernel
  | 3 => by decide +kernel
  | 4 => by decide +kernel
  | 5 => by decide +kernel
  | 6 => by decide +kernel
  | 7 => by decide +kernel
  | 8 => by decide +kernel
  | b + 9 => by
    show allR 11 (b + 9) = none
    unfold allR moR clR
    rw [pm_ua (by decide), pm_ua (by decide), pm_ua (by decide), pm_ua (by decide), pm_ua (by decide), pm_ua (by decide), pm_ua (by decide), pm_ua (by decide), pm_ua (by decide), pm_ua (by decide), pm_ua (by decide), pm_ua (by decide), pm_ua (by decide), pm_ua (by decide), pm_ua (by decide), pm_ua (by decide), pm_ua (by decide), pm_ua (by decide), pm_ua (by decide), pm_ua (by decide), pm_ua (by decide), pm_ua (by decide), pm_ua (by decide), pm_ua (by decide), pm_ua (by decide), pm_ua (by decide), iRf_out (by decide) (by decide), pm_ua (by decide), pm_ua (by decide)]
    unfold scR
    rw [pm_ub (by omega), pm_ub (by omega), pm_ub (by omega), pm_ua (by decide)]
    unfold shR
    rw [pm_ua (by decide), pm_ua (by decide), pm_ua (by decide), pm_ua (by decide), pm_ua (by decide), pm_ua (by decide), pm_ua (by decide), pm_ua (by decide), pm_ua (by decide)]
theorem clR_out {a b : Nat} (h0 : a ≠ 0) (h1 : a ≠ 1) (h11 : a ≠ 11) (h14 : a ≠ 14) (h206 : a ≠ 206) : clR R a b = R a b := by
  unfold clR
  rw [pm_ua h0, pm_ua h0, pm_ua h0, iRf_out h206 h14, pm_ua h0, pm_ua h0]
  unfold scR
  rw [pm_ua h11, pm_ua h11, pm_ua h11, pm_ua h0]
  unfold shR
  rw [pm_ua h1, pm_ua h1, pm_ua h1, pm_ua h1, pm_ua h1, pm_ua h1, pm_ua h1, pm_ua h1, pm_ua h1]
theorem moR_out {a b : Nat} (h : a ≠ 138) : moR R a b = R a b := by
  unfold moR
  rw [pm_ua h, pm_ua h, pm_ua h, pm_ua h, pm_ua h, pm_ua h, pm_ua h, pm_ua h, pm_ua h, pm_ua h, pm_ua h, pm_ua h, pm_ua h, pm_ua h, pm_ua h, pm_ua h, pm_ua h, pm_ua h, pm_ua h, pm_ua h, pm_ua h, pm_ua h, pm_ua h]
theorem allR_138a : ∀ b, b < 32 → allR 138 b = pm_R (fun _ _ => none) 138 b := by decide +kernel
theorem allR_138 (b : Nat) : allR 138 b = pm_R (fun _ _ => none) 138 b := by
  by_cases c : b < 32
  · exact allR_138a b c
  · have e : pm_R (fun _ _ => none) 138 b = none := by
      show pm_R1 b = none
      unfold pm_R1
      rw [if_neg (by omega), if_neg (by omega), if_neg (by omega)]
    rw [e]
    unfold allR moR
    rw [pm_ub (by omega), pm_ub (by omega), pm_ub (by omega), pm_ub (by omega), pm_ub (by omega), pm_ub (by omega), pm_ub (by omega), pm_ub (by omega), pm_ub (by omega), pm_ub (by omega), pm_ub (by omega), pm_ub (by omega), pm_ub (by omega), pm_ub (by omega), pm_ub (by omega), pm_ub (by omega), pm_ub (by omega), pm_ub (by omega), pm_ub (by omega), pm_ub (by omega), pm_ub (by omega), pm_ub (by omega), pm_ub (by omega)]
    rw [clR_out (by decide) (by decide) (by decide) (by decide) (by decide)]
theorem allR_14 (b : Nat) : allR 14 b = pm_R (fun _ _ => none) 14 b := by
  have e : pm_R (fun _ _ => none) 14 b = if b < 60 then some (pm_fo b) else none := rfl
  rw [e]
  unfold allR
  rw [moR_out (by decide)]
  unfold clR
  rw [pm_ua (by decide), pm_ua (by decide), pm_ua (by decide), iRf_14, pm_ua (by decide), pm_ua (by decide)]
  rfl
theorem allR_206 (b : Nat) : allR 206 b = pm_R (fun _ _ => none) 206 b := by
  have e : pm_R (fun _ _ => none) 206 b = if b < 60 then some (pm_po b) else none := rfl
  rw [e]
  unfold allR
  rw [moR_out (by decide)]
  unfold clR
  rw [pm_ua (by decide), pm_ua (by decide), pm_ua (by decide), iRf_206, pm_ua (by decide), pm_ua (by decide)]
  rfl
theorem allR_eq : allR = pm_R (fun _ _ => none) := by
  funext a b
  by_cases h0 : a = 0
  · subst h0; exact allR_0 b
  by_cases h1 : a = 1
  · subst h1; exact allR_1 b
  by_cases h11 : a = 11
  · subst h11; exact allR_11 b
  by_cases h14 : a = 14
  · subst h14; exact allR_14 b
  by_cases h206 : a = 206
  · subst h206; exact allR_206 b
  by_cases h138 : a = 138
  · subst h138; exact allR_138 b
  have e : pm_R (fun _ _ => none) a b = none := by
    unfold pm_R
    by_cases c : a < 15
    · rw [if_pos c]
      unfold pm_R0
      split
      · exact absurd rfl h0
      · exact absurd rfl h1
      · exact absurd rfl h11
      · exact absurd rfl h14
      · rfl
    · rw [if_neg c]
      by_cases c2 : a < 135
      · rw [if_pos c2]
        split <;> rfl
      · rw [if_neg c2, if_neg h138, if_neg h206]
  rw [e]
  unfold allR
  rw [moR_out h138, clR_out h0 h1 h11 h14 h206]
end INI
