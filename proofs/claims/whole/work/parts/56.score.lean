/-! SCORES, 11: score, told: both sides -/
/-- what a score comes to -/
def scv (g : gO) (nF : Nat) (rec : Nat → zR) (k o : Nat) : zS × zV := ev g rec o nF k 1 (nI 0, nI 0, nI 0)
def scA (q : zS × zV) : Int64 := if q.2.1 = 0 then q.2.2.2.toInt64 else 0
/-- what told tells of it -/
def scT (q : zS × zV) (j : Nat) : Int32 := if j = 0 then nI q.2.1 else if j = 1 then cul q.2 else if j = 2 then q.1.1 else if j = 3 then q.1.2.1 else q.1.2.2
theorem scv_lt (g : gO) (nF : Nat) (rec : Nat → zR) (k o : Nat) : (scv g nF rec k o).2.1 < 4 := ev_lt _ _ _ _ _ _ _
section SCO
variable {I : Nat → Nat → Int32} {D : Nat → Nat → UInt64} {P : Nat → Nat → Option Nat} {g : gO} {nF k o j : Nat} {rec : Nat → zR} {x y : Int32} {μ : pm_M}
/-- the class's objects and formulas -/
def cY (g : gO) (nF : Nat) (rec : Nat → zR) (I : Nat → Nat → Int32) (D : Nat → Nat → UInt64) (P : Nat → Nat → Option Nat) : Prop := CO I D g ∧ cF I D P nF rec ∧ ∀ k, k < 60 → I 200 k = nI k
theorem cY_fr {I' : Nat → Nat → Int32} {D' : Nat → Nat → UInt64} (h : cY g nF rec I D P) (hf : ∀ a j, (2 ≤ a ∧ a ≤ 10) ∨ 200 ≤ a → I' a j = I a j ∧ D' a j = D a j) : cY g nF rec I' D' P := by
  refine ⟨CO_fr h.1 (fun a j h1 h2 => hf a j (Or.inl ⟨h1, h2⟩)), fun k hk => cR_fr (h.2.1 k hk) (fun a h1 => hf a k (Or.inr (by omega))) (fun j => rfl), fun k hk => ?_⟩
  rw [(hf 200 k (Or.inr (by decide))).1]
  exact h.2.2 k hk
theorem sX5_valueOf (hO : zOk nF rec) (hn : nF ≤ 60) (hY : cY g nF rec I D P) (hk : k < nF) (ho : o < 40) : ∃ v I' D', mF_X5_valueOf [.ref 11, .ref (pm_fo k), .int (nI o)] (162, I, D, pm_R P) = some (some (.double v), (162, I', D', pm_R P)) ∧ cS I' (scv g nF rec k o).2.1 (cul (scv g nF rec k o).2) (scv g nF rec k o).1 ∧ vf_n64 v ∧ ((scv g nF rec k o).2.1 = 0 → v = (scv g nF rec k o).2.2.2) ∧ (∀ a j, a ≠ 11 → a ≠ 12 → I' a j = I a j) ∧ ∀ a j, a ≠ 13 → D' a j = D a j := by
  have hX0 : cX g nF rec o (pm_u (pm_u (pm_u (pm_u (pm_u (pm_u I 11 5 (nI o)) 11 0 (nI 0)) 11 1 (-9)) 11 2 (nI 0)) 11 3 (nI 0)) 11 4 (nI 0)) D P := by
    have h := cY_fr (I' := pm_u (pm_u (pm_u (pm_u (pm_u (pm_u I 11 5 (nI o)) 11 0 (nI 0)) 11 1 (-9)) 11 2 (nI 0)) 11 3 (nI 0)) 11 4 (nI 0)) (D' := D) hY (fun a j h => ⟨by rw [pm_ua (by omega), pm_ua (by omega), pm_ua (by omega), pm_ua (by omega), pm_ua (by omega), pm_ua (by omega)], rfl⟩)
    refine ⟨h.1, h.2.1, h.2.2, ?_⟩
    rw [pm_ub (by decide), pm_ub (by decide), pm_ub (by decide), pm_ub (by decide), pm_ub (by decide), pm_us]
  have hS0 : cS (pm_u (pm_u (pm_u (pm_u (pm_u (pm_u I 11 5 (nI o)) 11 0 (nI 0)) 11 1 (-9)) 11 2 (nI 0)) 11 3 (nI 0)) 11 4 (nI 0)) 0 (-9) (nI 0, nI 0, nI 0) := by
    refine ⟨?_, ?_, ?_, ?_, ?_⟩
    · rw [pm_ub (by decide), pm_ub (by decide), pm_ub (by decide), pm_ub (by decide), pm_us]
    · rw [pm_ub (by decide), pm_ub (by decide), pm_ub (by decide), pm_us]
    · rw [pm_ub (by decide), pm_ub (by decide), pm_us]
    · rw [pm_ub (by decide), pm_us]
    · rw [pm_us]
  obtain ⟨v, I', D', e, f1, f2, f3, f4⟩ := ask_ok (P := P) hO hn ho nF 130 (by omega) k 1 (nI 0, nI 0, nI 0) _ D hk hk (by decide) (by omega) hX0 hS0
  refine ⟨v, I', D', ?_, f2, f3, f4, fun a j h1 h2 => ?_, fun a j h1 => f1.2.2.1 a j h1⟩
  · rw [en_X5_valueOf]
    have e' : mF_X5_ask [.ref 11, .ref (pm_fo k), .int (nI 1)] (162, pm_u (pm_u (pm_u (pm_u (pm_u (pm_u I 11 5 (nI o)) 11 0 (nI 0)) 11 1 (-9)) 11 2 (nI 0)) 11 3 (nI 0)) 11 4 (nI 0), D, pm_R P) = some (some (.double v), (162, I', D', pm_R P)) := e
    simp only [x_X5_valueOf_0, x_X5_valueOf_1, x_X5_valueOf_2, x_X5_valueOf_5, x_X5_valueOf_6, x_X5_valueOf_7, x_X5_valueOf_10, x_X5_valueOf_11, x_X5_valueOf_13, x_X5_valueOf_16, x_X5_valueOf_17, x_X5_valueOf_18, x_X5_valueOf_21, x_X5_valueOf_22, x_X5_valueOf_23, x_X5_valueOf_26, x_X5_valueOf_27, x_X5_valueOf_28, x_X5_valueOf_31, x_X5_valueOf_32, x_X5_valueOf_32n, x_X5_valueOf_33, x_X5_valueOf_34, x_X5_valueOf_37, e', Option.bind_some, Option.toList, List.cons_append, List.nil_append]
  · rw [f1.1 a j h1 h2, pm_ua h1, pm_ua h1, pm_ua h1, pm_ua h1, pm_ua h1, pm_ua h1]
theorem sX7_score_bad (h : I 0 3 = nI nF) (hz : ¬ (inr x nF ∧ inr y 40)) : mF_X7_score [.ref 0, .int x, .int y] (162, I, D, pm_R P) = some (some (.long 0), (162, I, D, pm_R P)) := by
  rw [en_X7_score]
  have hin : ∀ μ : pm_M, mF_X7_isIn [.int y, .int (nI 40)] μ = some (some (.int (pb (inr y 40))), μ) := fun μ => sX7_isIn
  by_cases c1 : inr x nF
  · have c2 : ¬ inr y 40 := fun z => hz ⟨c1, z⟩
    simp only [x_X7_score_0, x_X7_score_1, x_X7_score_2, x_X7_score_5, x_X7_score_8, x_X7_score_9, x_X7_score_11, x_X7_score_14, x_X7_score_17, x_X7_score_18, sX7_isFormula h, hin, pb_t c1, pb_f c2, show ¬ (1 : Int32) = 0 by decide, if_true, if_false, Option.bind_some, Option.toList, List.cons_append, List.nil_append]
  · simp only [x_X7_score_0, x_X7_score_1, x_X7_score_2, x_X7_score_5, x_X7_score_17, x_X7_score_18, sX7_isFormula h, pb_f c1, if_true, Option.bind_some, Option.toList, List.cons_append, List.nil_append]
theorem sX7_score (hO : zOk nF rec) (hn : nF ≤ 60) (hY : cY g nF rec I D P) (h : I 0 3 = nI nF) (hk : k < nF) (ho : o < 40) : ∃ I' D', mF_X7_score [.ref 0, .int (nI k), .int (nI o)] (162, I, D, pm_R P) = some (some (.long (scA (scv g nF rec k o))), (162, I', D', pm_R P)) ∧ (∀ j, j < 5 → I' 135 j = scT (scv g nF rec k o) j) ∧ (∀ a j, a ≠ 11 → a ≠ 12 → a ≠ 135 → I' a j = I a j) ∧ ∀ a j, a ≠ 13 → D' a j = D a j := by
  obtain ⟨v, I', D', e, f1, f2, f3, f4, f5⟩ := sX5_valueOf (P := P) hO hn hY hk ho
  obtain ⟨s0, s1, s2, s3, s4⟩ := f1
  have hlt := scv_lt g nF rec k o
  have hk60 : k < 60 := by omega
  have hin : ∀ μ : pm_M, mF_X7_isIn [.int (nI o), .int (nI 40)] μ = some (some (.int (pb (inr (nI o) 40))), μ) := fun μ => sX7_isIn
  refine ⟨pm_u (pm_u (pm_u (pm_u (pm_u I' 135 0 (I' 11 0)) 135 1 (I' 11 1)) 135 2 (I' 11 2)) 135 3 (I' 11 3)) 135 4 (I' 11 4), D', ?_, fun j hj => ?_, fun a j h1 h2 h3 => ?_, f5⟩
  · rw [en_X7_score]
    simp (disch := first | assumption | decide) only [x_X7_score_0, x_X7_score_1, x_X7_score_2, x_X7_score_5, x_X7_score_8, x_X7_score_9, x_X7_score_11, x_X7_score_14, x_X7_score_19, x_X7_score_20, x_X7_score_23, x_X7_score_24, x_X7_score_27, x_X7_score_28, x_X7_score_29, x_X7_score_30, x_X7_score_33, x_X7_score_34, x_X7_score_35, x_X7_score_38, x_X7_score_39, x_X7_score_40, x_X7_score_43, x_X7_score_46, x_X7_score_47, x_X7_score_48, x_X7_score_51, x_X7_score_52, x_X7_score_53, x_X7_score_56, x_X7_score_59, x_X7_score_60, x_X7_score_61, x_X7_score_64, x_X7_score_65, x_X7_score_66, x_X7_score_69, x_X7_score_72, x_X7_score_73, x_X7_score_74, x_X7_score_77, x_X7_score_78, x_X7_score_79, x_X7_score_82, x_X7_score_85, x_X7_score_86, x_X7_score_87, x_X7_score_90, x_X7_score_91, x_X7_score_92, x_X7_score_95, x_X7_score_98, x_X7_score_99, x_X7_score_100, x_X7_score_103, sX7_isFormula h, hin, pb_t (inr_of (show nF < 2 ^ 31 by omega) hk), pb_t (inr_of (show 40 < 2 ^ 31 by decide) ho), show ¬ (1 : Int32) = 0 by decide, if_false, e, pm_ua, Option.bind_some, Option.toList, List.cons_append, List.nil_append]
    rw [s0]
    unfold scA
    by_cases c : (scv g nF rec k o).2.1 = 0
    · have c' : nI (scv g nF rec k o).2.1 = 0 := by rw [c]; exact nI_0
      rw [f3 c] at f2 ⊢
      rw [if_pos c]
      simp only [x_X7_score_106, x_X7_score_109, x_X7_score_110, x_X7_score_113, x_X7_score_117, c', if_true, sX0_toBits f2, Option.bind_some, Option.toList, List.cons_append, List.nil_append]
    · have c' : ¬ nI (scv g nF rec k o).2.1 = 0 := fun z => c ((nIz (by omega)).mp z)
      rw [if_neg c]
      simp only [x_X7_score_106, x_X7_score_116, x_X7_score_117, c', if_false]
  · unfold scT
    by_cases c0 : j = 0
    · subst c0
      rw [pm_ub (by decide), pm_ub (by decide), pm_ub (by decide), pm_ub (by decide), pm_us]; exact s0
    rw [if_neg c0]
    by_cases c1 : j = 1
    · subst c1
      rw [pm_ub (by decide), pm_ub (by decide), pm_ub (by decide), pm_us]; exact s1
    rw [if_neg c1]
    by_cases c2 : j = 2
    · subst c2
      rw [pm_ub (by decide), pm_ub (by decide), pm_us]; exact s2
    rw [if_neg c2]
    by_cases c3 : j = 3
    · subst c3
      rw [pm_ub (by decide), pm_us]; exact s3
    rw [if_neg c3, show j = 4 by omega, pm_us]; exact s4
  · rw [pm_ua h3, pm_ua h3, pm_ua h3, pm_ua h3, pm_ua h3]
    exact f4 a j h1 h2
theorem sX8_work {a1 : Value} (hO : zOk nF rec) (hn : nF ≤ 60) (hX : mX g nF rec I D) (hk : k < nF) (ho : o < 40) : ∃ I' D', mF_X8_work [.ref 138, .int (nI k), .int (nI o)] (162, I, D, pm_R P) = some (none, (162, I', D', pm_R P)) ∧ I' 138 22 = nI (scv g nF rec k o).2.1 ∧ (¬ (scv g nF rec k o).2.1 = 0 → I' 138 23 = nI (scv g nF rec k o).2.2.1) ∧ (I' 138 24 = (scv g nF rec k o).1.1 ∧ I' 138 25 = (scv g nF rec k o).1.2.1 ∧ I' 138 26 = (scv g nF rec k o).1.2.2) ∧ ((scv g nF rec k o).2.1 = 0 → D' 138 28 = (scv g nF rec k o).2.2.2 ∧ vf_n64 (scv g nF rec k o).2.2.2) ∧ (¬ (scv g nF rec k o).2.1 = 0 → D' 138 28 = 0) ∧ (∀ a j, a ≠ 138 → a ≠ 155 → a ≠ 156 → I' a j = I a j) ∧ (∀ j, j < 21 ∨ 26 < j → I' 138 j = I 138 j) ∧ ∀ a j, a ≠ 138 → a ≠ 157 → a ≠ 158 → D' a j = D a j := by
  have hlt := scv_lt g nF rec k o
  have hI0 : ∀ a j, (a ≠ 138 ∨ j < 21 ∨ 26 < j) → pm_u (pm_u (pm_u (pm_u (pm_u (pm_u I 138 21 (nI 0)) 138 22 (nI 0)) 138 23 (-9)) 138 24 (nI 0)) 138 25 (nI 0)) 138 26 (nI 0) a j = I a j := by
    intro a j h
    rcases h with h | h
    · rw [pm_ua h, pm_ua h, pm_ua h, pm_ua h, pm_ua h, pm_ua h]
    · rw [pm_ub (by omega), pm_ub (by omega), pm_ub (by omega), pm_ub (by omega), pm_ub (by omega), pm_ub (by omega)]
  have hS0 : mS (pm_u (pm_u (pm_u (pm_u (pm_u (pm_u I 138 21 (nI 0)) 138 22 (nI 0)) 138 23 (-9)) 138 24 (nI 0)) 138 25 (nI 0)) 138 26 (nI 0)) 0 (nI 0, nI 0, nI 0) := by
    refine ⟨?_, ?_, ?_, ?_⟩
    · rw [pm_ub (by decide), pm_ub (by decide), pm_ub (by decide), pm_ub (by decide), pm_ub (by decide), pm_us]
    · rw [pm_ub (by decide), pm_ub (by decide), pm_us]
    · rw [pm_ub (by decide), pm_us]
    · rw [pm_us]
  have h22 : pm_u (pm_u (pm_u (pm_u (pm_u (pm_u I 138 21 (nI 0)) 138 22 (nI 0)) 138 23 (-9)) 138 24 (nI 0)) 138 25 (nI 0)) 138 26 (nI 0) 138 22 = nI 0 := by
    rw [pm_ub (by decide), pm_ub (by decide), pm_ub (by decide), pm_ub (by decide), pm_us]
  have hX0 : mX g nF rec (pm_u (pm_u (pm_u (pm_u (pm_u (pm_u I 138 21 (nI 0)) 138 22 (nI 0)) 138 23 (-9)) 138 24 (nI 0)) 138 25 (nI 0)) 138 26 (nI 0)) (pm_u D 138 28 0) := ⟨MO_fr hX.1 (fun a j h1 h2 => ⟨hI0 a j (Or.inl (by omega)), pm_ua (by omega)⟩), mFo_fr hX.2 (fun a j h1 h2 => ⟨hI0 a j (Or.inl (by omega)), pm_ua (by omega)⟩)⟩
  obtain ⟨I1, D1, b1, b2, b3, b4, -⟩ := sX8_begin (D := pm_u D 138 28 0) (P := P) (w := fun _ => 0) hS0 (by decide) (show k < 60 by omega) (hX0.2 k hk).1 (hO k hk).1.1
  have hX1 := mX_fr hX0 b4
  obtain ⟨I2, D2, f1, ok, bad⟩ := wk_ok (P := P) (a1 := .int (nI k)) hO hn ho nF k 0 (nI 0, nI 0, nI 0) I1 D1 hk hk (by omega) hX1 b2 b3
  have F := mFr_tr b4 f1 (Nat.le_refl _)
  have go : mF_X8_work [.ref 138, .int (nI k), .int (nI o)] (162, I, D, pm_R P) = pm_run mE_X8_work 41 [.ref 138, .int (nI k), .int (nI o), .retAddr 0, .retAddr 0, .retAddr 0, .retAddr 0] [] (162, I1, D1, pm_R P) := by
    rw [en_X8_work]
    simp only [x_X8_work_0, x_X8_work_1, x_X8_work_2, x_X8_work_5, x_X8_work_6, x_X8_work_7, x_X8_work_10, x_X8_work_11, x_X8_work_13, x_X8_work_16, x_X8_work_17, x_X8_work_18, x_X8_work_21, x_X8_work_22, x_X8_work_23, x_X8_work_26, x_X8_work_27, x_X8_work_28, x_X8_work_31, x_X8_work_32, x_X8_work_33, x_X8_work_36, x_X8_work_37, x_X8_work_38, b1, Option.bind_some, Option.toList, List.cons_append, List.nil_append]
  have fin : ∀ (J : Nat → Nat → Int32) (E : Nat → Nat → UInt64), J 138 21 = nI 0 → wkR o P (.int (nI k)) I1 D1 (162, J, E, pm_R P) → mF_X8_work [.ref 138, .int (nI k), .int (nI o)] (162, I, D, pm_R P) = some (none, (162, J, E, pm_R P)) := by
    intro J E hJ hR
    obtain ⟨c3, c4, c5, c6, e⟩ := hR (.retAddr 0) (.retAddr 0) (.retAddr 0) (.retAddr 0)
    have e0 : (nI 0 : Int32) ≤ 0 := by decide
    rw [go, e]
    simp only [x_X8_work_41, x_X8_work_42, x_X8_work_45, x_X8_work_196, hJ, e0, if_true]
  have FI : ∀ a j, a ≠ 138 → a ≠ 155 → a ≠ 156 → I2 a j = I a j := fun a j h1 h2 h3 => (F.1 a j h1 h2 h3).trans (hI0 a j (Or.inl h1))
  have FJ : ∀ j, j < 21 ∨ 26 < j → I2 138 j = I 138 j := fun j h => (F.2.1 j (by omega)).trans (hI0 138 j (Or.inr h))
  have FD : ∀ a j, a ≠ 138 → a ≠ 157 → a ≠ 158 → D2 a j = D a j := fun a j h1 h2 h3 => (F.2.2.2.1 a j h2 h3).trans (pm_ua h1)
  have F22 : I2 138 22 = nI 0 := (F.2.1 22 (Or.inr (Or.inl rfl))).trans h22
  have FR : D2 138 28 = 0 := (F.2.2.2.1 138 28 (by decide) (by decide)).trans (pm_us _ _ _ _)
  by_cases c : (scv g nF rec k o).2.1 = 0
  · obtain ⟨S2, v2, G⟩ := ok c
    have e := sX8_give0 (D := D2) (P := P) (v := (scv g nF rec k o).2.2.2) S2.1
    refine ⟨_, _, fin _ _ (pm_us _ _ _ _) (G _ e), ?_, fun z => absurd c z, ⟨?_, ?_, ?_⟩, fun _ => ⟨pm_us _ _ _ _, v2⟩, fun z => absurd c z, fun a j h1 h2 h3 => ?_, fun j h => ?_, fun a j h1 h2 h3 => ?_⟩
    · rw [pm_ub (by decide), c]; exact F22
    · rw [pm_ub (by decide)]; exact S2.2.1
    · rw [pm_ub (by decide)]; exact S2.2.2.1
    · rw [pm_ub (by decide)]; exact S2.2.2.2
    · rw [pm_ua h1]; exact FI a j h1 h2 h3
    · rw [pm_ub (by omega)]; exact FJ j h
    · rw [pm_ua h1]; exact FD a j h1 h2 h3
  · obtain ⟨dd, S2, d1, d2, d3, d4, G⟩ := bad c
    have e := sX8_fail0 (D := D2) (P := P) (c := nI (scv g nF rec k o).2.1) S2.1 (by omega) d3 (fun i h => d4 i (Nat.zero_le _) h)
    refine ⟨_, _, fin _ _ (by rw [pm_ub (by decide), pm_us]) (G _ e), pm_us _ _ _ _, fun _ => ?_, ⟨?_, ?_, ?_⟩, fun z => absurd z c, fun _ => FR, fun a j h1 h2 h3 => ?_, fun j h => ?_, FD⟩
    · rw [pm_ub (by decide), pm_ub (by decide), pm_us]
      rfl
    · rw [pm_ub (by decide), pm_ub (by decide), pm_ub (by decide)]; exact S2.2.1
    · rw [pm_ub (by decide), pm_ub (by decide), pm_ub (by decide)]; exact S2.2.2.1
    · rw [pm_ub (by decide), pm_ub (by decide), pm_ub (by decide)]; exact S2.2.2.2
    · rw [pm_ua h1, pm_ua h1, pm_ua h1]; exact FI a j h1 h2 h3
    · rw [pm_ub (by omega), pm_ub (by omega), pm_ub (by omega)]; exact FJ j h
theorem sX8_score_bad (h : I 138 5 = nI nF) (hn : nF ≤ 60) (hz : ¬ (inr x nF ∧ inr y 40)) : mF_X8_score [.ref 138, .int x, .int y] (162, I, D, pm_R P) = some (some (.long 0), (162, I, D, pm_R P)) := by
  rw [en_X8_score]
  have hin : ∀ μ : pm_M, mF_X8_in [.int y, .int (nI 0), .int (nI 39)] μ = some (some (.int (pb (inr y 40))), μ) := fun μ => sIn (by decide)
  by_cases c1 : inr x nF
  · have c2 : ¬ inr y 40 := fun z => hz ⟨c1, z⟩
    simp only [x_X8_score_0, x_X8_score_1, x_X8_score_2, x_X8_score_5, x_X8_score_8, x_X8_score_9, x_X8_score_10, x_X8_score_12, x_X8_score_15, x_X8_score_18, x_X8_score_19, sX8_isFormula h hn, hin, pb_t c1, pb_f c2, show ¬ (1 : Int32) = 0 by decide, if_true, if_false, Option.bind_some, Option.toList, List.cons_append, List.nil_append]
  · simp only [x_X8_score_0, x_X8_score_1, x_X8_score_2, x_X8_score_5, x_X8_score_18, x_X8_score_19, sX8_isFormula h hn, pb_f c1, if_true, Option.bind_some, Option.toList, List.cons_append, List.nil_append]
theorem sX8_score (hO : zOk nF rec) (hn : nF ≤ 60) (hX : mX g nF rec I D) (h : I 138 5 = nI nF) (hk : k < nF) (ho : o < 40) : ∃ I' D', mF_X8_score [.ref 138, .int (nI k), .int (nI o)] (162, I, D, pm_R P) = some (some (.long (scA (scv g nF rec k o))), (162, I', D', pm_R P)) ∧ (∀ j, j < 5 → I' 159 j = scT (scv g nF rec k o) j) ∧ I' 138 27 = nI 1 ∧ (∀ a j, a ≠ 138 → a ≠ 155 → a ≠ 156 → a ≠ 159 → I' a j = I a j) ∧ (∀ j, j < 21 ∨ 27 < j → I' 138 j = I 138 j) ∧ ∀ a j, a ≠ 138 → a ≠ 157 → a ≠ 158 → D' a j = D a j := by
  obtain ⟨I', D', e, f1, f2, ⟨f3, f4, f5⟩, f6, f7, f8, f9, f10⟩ := sX8_work (P := P) (a1 := .null) hO hn hX hk ho
  have hlt := scv_lt g nF rec k o
  have hin : ∀ μ : pm_M, mF_X8_in [.int (nI o), .int (nI 0), .int (nI 39)] μ = some (some (.int (pb (inr (nI o) 40))), μ) := fun μ => sIn (by decide)
  refine ⟨pm_u (pm_u (pm_u (pm_u (pm_u (pm_u I' 138 27 (nI 1)) 159 0 (I' 138 22)) 159 1 (cul (scv g nF rec k o).2)) 159 2 (I' 138 24)) 159 3 (I' 138 25)) 159 4 (I' 138 26), D', ?_, fun j hj => ?_, ?_, fun a j h1 h2 h3 h4 => ?_, fun j h => ?_, f10⟩
  · rw [en_X8_score]
    simp (disch := first | assumption | decide) only [x_X8_score_0, x_X8_score_1, x_X8_score_2, x_X8_score_5, x_X8_score_8, x_X8_score_9, x_X8_score_10, x_X8_score_12, x_X8_score_15, x_X8_score_20, x_X8_score_21, x_X8_score_22, x_X8_score_23, x_X8_score_26, x_X8_score_27, x_X8_score_28, x_X8_score_31, x_X8_score_32, x_X8_score_35, x_X8_score_36, x_X8_score_37, x_X8_score_40, x_X8_score_41, x_X8_score_42, x_X8_score_45, x_X8_score_46, x_X8_score_47, sX8_isFormula h hn, hin, pb_t (inr_of (show nF < 2 ^ 31 by omega) hk), pb_t (inr_of (show 40 < 2 ^ 31 by decide) ho), show ¬ (1 : Int32) = 0 by decide, if_false, e, pm_ua, pm_ub, Option.bind_some, Option.toList, List.cons_append, List.nil_append]
    unfold scA cul
    by_cases c : (scv g nF rec k o).2.1 = 0
    · have c' : I' 138 22 = 0 := by rw [f1, c]; exact nI_0
      rw [if_pos c, if_pos c]
      have fv := (f6 c).2
      simp (disch := first | assumption | decide) only [x_X8_score_50, x_X8_score_53, x_X8_score_55, x_X8_score_58, x_X8_score_59, x_X8_score_62, x_X8_score_63, x_X8_score_64, x_X8_score_67, x_X8_score_68, x_X8_score_69, x_X8_score_72, x_X8_score_73, x_X8_score_74, x_X8_score_77, x_X8_score_78, x_X8_score_79, x_X8_score_82, x_X8_score_83, x_X8_score_84, x_X8_score_87, x_X8_score_88, x_X8_score_89, x_X8_score_92, x_X8_score_93, x_X8_score_94, x_X8_score_97, x_X8_score_100, x_X8_score_101, x_X8_score_104, x_X8_score_107, x_X8_score_111, pm_ua, pm_ub, c', if_true, (f6 c).1, sJ_d2lb1 fv, Option.bind_some, Option.toList, List.cons_append, List.nil_append]
    · have c' : ¬ I' 138 22 = 0 := fun z => c ((nIz (by omega)).mp (by rw [← f1]; exact z))
      rw [if_neg c, if_neg c, ← f2 c]
      simp (disch := first | assumption | decide) only [x_X8_score_50, x_X8_score_58, x_X8_score_59, x_X8_score_62, x_X8_score_63, x_X8_score_64, x_X8_score_67, x_X8_score_68, x_X8_score_69, x_X8_score_72, x_X8_score_73, x_X8_score_74, x_X8_score_77, x_X8_score_78, x_X8_score_79, x_X8_score_82, x_X8_score_83, x_X8_score_84, x_X8_score_87, x_X8_score_88, x_X8_score_89, x_X8_score_92, x_X8_score_93, x_X8_score_94, x_X8_score_97, x_X8_score_110, x_X8_score_111, pm_ua, pm_ub, c', if_false]
  · unfold scT
    by_cases c0 : j = 0
    · subst c0
      rw [pm_ub (by decide), pm_ub (by decide), pm_ub (by decide), pm_ub (by decide), pm_us]; exact f1
    rw [if_neg c0]
    by_cases c1 : j = 1
    · subst c1
      rw [pm_ub (by decide), pm_ub (by decide), pm_ub (by decide), pm_us]; rfl
    rw [if_neg c1]
    by_cases c2 : j = 2
    · subst c2
      rw [pm_ub (by decide), pm_ub (by decide), pm_us]; exact f3
    rw [if_neg c2]
    by_cases c3 : j = 3
    · subst c3
      rw [pm_ub (by decide), pm_us]; exact f4
    rw [if_neg c3, show j = 4 by omega, pm_us]; exact f5
  · rw [pm_ua (by decide), pm_ua (by decide), pm_ua (by decide), pm_ua (by decide), pm_ua (by decide), pm_us]
  · rw [pm_ua h4, pm_ua h4, pm_ua h4, pm_ua h4, pm_ua h4, pm_ua h1]
    exact f8 a j h1 h2 h3
  · rw [pm_ua (by decide), pm_ua (by decide), pm_ua (by decide), pm_ua (by decide), pm_ua (by decide), pm_ub (by omega)]
    exact f9 j (by omega)
theorem sX7_told (hx : j < 5) : mF_X7_told [.ref 0, .int (nI j)] (162, I, D, pm_R P) = some (some (.int (I 135 j)), (162, I, D, pm_R P)) := by
  rw [en_X7_told]
  have hin : ∀ μ : pm_M, mF_X7_isIn [.int (nI j), .int (nI 5)] μ = some (some (.int (pb (inr (nI j) 5))), μ) := fun μ => sX7_isIn
  simp (disch := first | assumption | decide) only [x_X7_told_0, x_X7_told_1, x_X7_told_2, x_X7_told_5, x_X7_told_8, x_X7_told_9, x_X7_told_12, x_X7_told_13, x_X7_told_14, x_X7_told_18, hin, pb_t (inr_of (show 5 < 2 ^ 31 by decide) hx), show ¬ (1 : Int32) = 0 by decide, if_false, Option.bind_some, Option.toList, List.cons_append, List.nil_append]
theorem sX7_told_bad (hx : ¬ inr x 5) : mF_X7_told [.ref 0, .int x] (162, I, D, pm_R P) = some (some (.int (-1)), (162, I, D, pm_R P)) := by
  rw [en_X7_told]
  have hin : ∀ μ : pm_M, mF_X7_isIn [.int x, .int (nI 5)] μ = some (some (.int (pb (inr x 5))), μ) := fun μ => sX7_isIn
  simp (disch := first | assumption | decide) only [x_X7_told_0, x_X7_told_1, x_X7_told_2, x_X7_told_5, x_X7_told_17, x_X7_told_18, hin, pb_f hx, if_true, Option.bind_some, Option.toList, List.cons_append, List.nil_append]
theorem sX8_told {b : Bool} (hb : I 138 27 = fb b) (hx : j < 5) : mF_X8_told [.ref 138, .int (nI j)] (162, I, D, pm_R P) = some (some (.int (if b = true then I 159 j else if j = 1 then -9 else nI 0)), (162, I, D, pm_R P)) := by
  rw [en_X8_told]
  have hin : ∀ μ : pm_M, mF_X8_in [.int (nI j), .int (nI 0), .int (nI 4)] μ = some (some (.int (pb (inr (nI j) 5))), μ) := fun μ => sIn (by decide)
  have e1 : (nI j = nI 1) = (j = 1) := propext (nI_eq (by omega) (by decide))
  cases b with
  | true =>
    simp (disch := first | assumption | decide) only [x_X8_told_0, x_X8_told_1, x_X8_told_2, x_X8_told_3, x_X8_told_6, x_X8_told_11, x_X8_told_12, x_X8_told_15, x_X8_told_18, x_X8_told_19, x_X8_told_22, x_X8_told_23, x_X8_told_24, x_X8_told_38, hin, pb_t (inr_of (show 5 < 2 ^ 31 by decide) hx), show ¬ (1 : Int32) = 0 by decide, if_false, hb, fb_eq0, reduceCtorEq, if_true, Option.bind_some, Option.toList, List.cons_append, List.nil_append]
  | false =>
    by_cases c : j = 1
    · subst c
      simp (disch := first | assumption | decide) only [x_X8_told_0, x_X8_told_1, x_X8_told_2, x_X8_told_3, x_X8_told_6, x_X8_told_11, x_X8_told_12, x_X8_told_15, x_X8_told_27, x_X8_told_28, x_X8_told_29, x_X8_told_32, x_X8_told_34, x_X8_told_38, hin, pb_t (inr_of (show 5 < 2 ^ 31 by decide) hx), show ¬ (1 : Int32) = 0 by decide, if_false, hb, fb_eq0, reduceCtorEq, if_true, Option.bind_some, Option.toList, List.cons_append, List.nil_append]
    · simp (disch := first | assumption | decide) only [x_X8_told_0, x_X8_told_1, x_X8_told_2, x_X8_told_3, x_X8_told_6, x_X8_told_11, x_X8_told_12, x_X8_told_15, x_X8_told_27, x_X8_told_28, x_X8_told_29, x_X8_told_37, x_X8_told_38, hin, pb_t (inr_of (show 5 < 2 ^ 31 by decide) hx), show ¬ (1 : Int32) = 0 by decide, if_false, hb, fb_eq0, reduceCtorEq, if_true, e1, c, Option.bind_some, Option.toList, List.cons_append, List.nil_append]
theorem sX8_told_bad (hx : ¬ inr x 5) : mF_X8_told [.ref 138, .int x] (162, I, D, pm_R P) = some (some (.int (-1)), (162, I, D, pm_R P)) := by
  rw [en_X8_told]
  have hin : ∀ μ : pm_M, mF_X8_in [.int x, .int (nI 0), .int (nI 4)] μ = some (some (.int (pb (inr x 5))), μ) := fun μ => sIn (by decide)
  simp (disch := first | assumption | decide) only [x_X8_told_0, x_X8_told_1, x_X8_told_2, x_X8_told_3, x_X8_told_6, x_X8_told_9, x_X8_told_10, hin, pb_f hx, if_true, Option.bind_some, Option.toList, List.cons_append, List.nil_append]
end SCO
