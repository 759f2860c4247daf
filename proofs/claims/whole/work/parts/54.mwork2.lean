/-! SCORES, 9: the model's work -/
/-- a turn of work, or more -/
def wkR (o : Nat) (P : Nat → Nat → Option Nat) (a1 : Value) (I : Nat → Nat → Int32) (D : Nat → Nat → UInt64) (μ' : pm_M) : Prop := ∀ a3 a4 a5 a6, ∃ b3 b4 b5 b6, pm_run mE_X8_work 41 [.ref 138, a1, .int (nI o), a3, a4, a5, a6] [] (162, I, D, pm_R P) = pm_run mE_X8_work 41 [.ref 138, a1, .int (nI o), b3, b4, b5, b6] [] μ'
theorem wkR_tr {o : Nat} {P : Nat → Nat → Option Nat} {a1 : Value} {I I' : Nat → Nat → Int32} {D D' : Nat → Nat → UInt64} {μ' : pm_M} (h : wkR o P a1 I D (162, I', D', pm_R P)) (h2 : wkR o P a1 I' D' μ') : wkR o P a1 I D μ' := by
  intro a3 a4 a5 a6
  obtain ⟨b3, b4, b5, b6, e⟩ := h a3 a4 a5 a6
  obtain ⟨c3, c4, c5, c6, e2⟩ := h2 b3 b4 b5 b6
  exact ⟨c3, c4, c5, c6, e.trans e2⟩
/-- what comes of one begun: it is given, or it fails -/
def wkC (o : Nat) (P : Nat → Nat → Option Nat) (a1 : Value) (dp : Nat) (q : zS × zV) (I : Nat → Nat → Int32) (D : Nat → Nat → UInt64) : Prop := ∃ I1 D1, mFr I I1 D D1 dp ∧ (q.2.1 = 0 → mS I1 (dp + 1) q.1 ∧ vf_n64 q.2.2.2 ∧ ∀ μ', mF_X8_give [.ref 138, .double q.2.2.2] (162, I1, D1, pm_R P) = some (none, μ') → wkR o P a1 I D μ') ∧ (¬ q.2.1 = 0 → ∃ dd, mS I1 (dd + 1) q.1 ∧ dp ≤ dd ∧ dd < 60 ∧ I1 155 dd = nI q.2.2.1 ∧ (∀ i, dp ≤ i → i < dd → mNc I1 i) ∧ ∀ μ', mF_X8_fail [.ref 138, .int (nI q.2.1)] (162, I1, D1, pm_R P) = some (none, μ') → wkR o P a1 I D μ')
theorem mFr_mo {I I' : Nat → Nat → Int32} {D D' : Nat → Nat → UInt64} {b b' : Nat} (h : mFr I I' D D' b) (hb : b' ≤ b) : mFr I I' D D' b' := ⟨h.1, h.2.1, fun j g => h.2.2.1 j (by omega), h.2.2.2.1, fun j g => h.2.2.2.2 j (by omega)⟩
theorem wkC_pre {o : Nat} {P : Nat → Nat → Option Nat} {a1 : Value} {dp : Nat} {q : zS × zV} {I I' : Nat → Nat → Int32} {D D' : Nat → Nat → UInt64} (h : wkR o P a1 I D (162, I', D', pm_R P)) (hf : mFr I I' D D' dp) (hC : wkC o P a1 dp q I' D') : wkC o P a1 dp q I D := by
  obtain ⟨I1, D1, f1, ok, bad⟩ := hC
  refine ⟨I1, D1, mFr_tr hf f1 (Nat.le_refl _), fun z => ?_, fun z => ?_⟩
  · obtain ⟨g1, g2, g3⟩ := ok z
    exact ⟨g1, g2, fun μ' e => wkR_tr h (g3 μ' e)⟩
  · obtain ⟨dd, g1, g2, g3, g4, g5, g6⟩ := bad z
    exact ⟨dd, g1, g2, g3, g4, g5, fun μ' e => wkR_tr h (g6 μ' e)⟩
theorem al_congr {kd : Nat} {w w' : Nat → UInt64} : ∀ m, (∀ i, i < m → w i = w' i) → al kd w m = al kd w' m
  | 0, _ => rfl
  | m + 1, h => by
    unfold al
    rw [al_congr m (fun i hi => h i (by omega)), h m (by omega)]
theorem be_congr {w w' : Nat → UInt64} : ∀ m, (∀ i, i < m → w i = w' i) → be w m = be w' m
  | 0, _ => rfl
  | m + 1, h => by
    unfold be
    rw [be_congr m (fun i hi => h i (by omega)), h m (by omega)]
    by_cases c : m = 0
    · subst c
      rw [if_pos rfl, if_pos rfl, h 0 (by omega)]
    · rw [if_neg c, if_neg c]
theorem mo_none : mo none = nN := rfl
section MW2
variable {I : Nat → Nat → Int32} {D : Nat → Nat → UInt64} {P : Nat → Nat → Option Nat} {g : gO} {nF o : Nat} {rec : Nat → zR} {a1 : Value}
theorem wk_begin {dp k j : Nat} {A : Option UInt64} {b : UInt64} {s : zS} {w : Nat → UInt64} (hO : zOk nF rec) (hn : nF ≤ 60) (hX : mX g nF rec I D) (hk : k < nF) (hd : dp < 60) (hS : mS I (dp + 1) s) (hB : mB I D dp k j A b) (hj : j < zM (rec k)) : ∃ I' D', wkR o P a1 I D (162, I', D', pm_R P) ∧ mS I' (dp + 2) (bump s (dp + 2)) ∧ mB I' D' (dp + 1) (zT (rec k) j) 0 (al (zK (rec (zT (rec k) j))) w 0) (be w 0) ∧ mFr I I' D D' (dp + 1) := by
  obtain ⟨hB1, hB2⟩ := hO k hk
  obtain ⟨s0, s1, s2, s3⟩ := id hS
  obtain ⟨b1, b2, b3, b4⟩ := hB
  have hT := (hB1.2.2.1 j hj).1
  have hm8 := hB1.2.1
  obtain ⟨r1, r2, r3, r4, r5, r6, r7, r8, r9, r10, r11⟩ := hX.2 k hk
  have hd64 : dp < 64 := by omega
  have hk60 : k < 60 := by omega
  have e : ¬ nI (dp + 1) ≤ 0 := nI_nle (by omega) (by omega)
  have e1 : nI (dp + 1) - nI 1 = nI dp := pk_sub (by omega)
  have e2 : ¬ nI (zM (rec k)) ≤ nI j := nI_ge hj (by omega)
  have e8 : nI 8 * nI k = nI (8 * k) := by rw [pk_mul]
  have h480 : 8 * k + j < 480 := by omega
  obtain ⟨I', D', q1, q2, q3, q4, -⟩ := sX8_begin (D := D) (P := P) (w := w) hS (by omega) (show zT (rec k) j < 60 by omega) (hX.2 _ (by omega)).1 (hO _ (by omega)).1.1
  refine ⟨I', D', fun a3 a4 a5 a6 => ⟨.int (nI dp), .int (nI k), a5, a6, ?_⟩, q2, q3, q4⟩
  simp (disch := first | assumption | decide) only [x_X8_work_41, x_X8_work_42, x_X8_work_45, x_X8_work_48, x_X8_work_49, x_X8_work_52, x_X8_work_53, x_X8_work_54, x_X8_work_55, x_X8_work_56, x_X8_work_59, x_X8_work_60, x_X8_work_61, x_X8_work_63, x_X8_work_64, x_X8_work_67, x_X8_work_68, x_X8_work_69, x_X8_work_70, x_X8_work_73, x_X8_work_75, x_X8_work_76, x_X8_work_79, x_X8_work_80, x_X8_work_81, x_X8_work_84, x_X8_work_86, x_X8_work_88, x_X8_work_89, x_X8_work_90, x_X8_work_93, x_X8_work_94, x_X8_work_95, x_X8_work_96, x_X8_work_97, x_X8_work_100, x_X8_work_193, s0, e, e1, b1, b2, r5, e2, if_false, e8, nI_add, r11 j hj, q1, Option.bind_some, Option.toList, List.cons_append, List.nil_append]
theorem wk_at {dp k m : Nat} {A : Option UInt64} {b : UInt64} {s : zS} (hO : zOk nF rec) (hn : nF ≤ 60) (hX : mX g nF rec I D) (hk : k < nF) (hd : dp < 60) (hS : mS I (dp + 1) s) (hB : mB I D dp k m A b) (hm : zM (rec k) = m) {R : Option UInt64} (hW : mF_X8_worked [.ref 138, .int (nI o), .int (nI k), .double (mo A), .double (mo (some b))] (162, I, D, pm_R P) = some (some (.double (mo R)), (162, I, D, pm_R P))) {a3 a4 a5 a6 : Value} : pm_run mE_X8_work 41 [.ref 138, a1, .int (nI o), a3, a4, a5, a6] [] (162, I, D, pm_R P) = pm_run mE_X8_work 124 [.ref 138, a1, .int (nI o), .int (nI dp), .int (nI k), .double (mo R), .retAddr 1] [] (162, I, D, pm_R P) := by
  obtain ⟨hB1, hB2⟩ := hO k hk
  obtain ⟨s0, s1, s2, s3⟩ := id hS
  obtain ⟨b1, b2, b3, b4⟩ := hB
  have hm8 := hB1.2.1
  obtain ⟨r1, r2, r3, r4, r5, -⟩ := hX.2 k hk
  rw [hm] at r5 hm8
  have hd64 : dp < 64 := by omega
  have hk60 : k < 60 := by omega
  have e : ¬ nI (dp + 1) ≤ 0 := nI_nle (by omega) (by omega)
  have e1 : nI (dp + 1) - nI 1 = nI dp := pk_sub (by omega)
  have e2 : nI m ≤ nI m := nI_le (Nat.le_refl _) (by omega)
  simp (disch := first | assumption | decide) only [x_X8_work_41, x_X8_work_42, x_X8_work_45, x_X8_work_48, x_X8_work_49, x_X8_work_52, x_X8_work_53, x_X8_work_54, x_X8_work_55, x_X8_work_56, x_X8_work_59, x_X8_work_60, x_X8_work_61, x_X8_work_63, x_X8_work_64, x_X8_work_67, x_X8_work_68, x_X8_work_69, x_X8_work_70, x_X8_work_73, x_X8_work_75, x_X8_work_76, x_X8_work_103, x_X8_work_104, x_X8_work_105, x_X8_work_107, x_X8_work_108, x_X8_work_111, x_X8_work_112, x_X8_work_113, x_X8_work_114, x_X8_work_117, x_X8_work_118, x_X8_work_119, x_X8_work_122, s0, e, e1, b1, b2, b3, b4, r5, e2, if_false, if_true, hW, Option.bind_some, Option.toList, List.cons_append, List.nil_append]
theorem wk_val {dp k : Nat} {s : zS} (hO : zOk nF rec) (hn : nF ≤ 60) (hX : mX g nF rec I D) (hk : k < nF) (hd : dp < 60) (hS : mS I (dp + 1) s) (hb : I 155 dp = nI k) {R : Option UInt64} (hR : Vo R) (hW : ∀ a3 a4 a5 a6, pm_run mE_X8_work 41 [.ref 138, a1, .int (nI o), a3, a4, a5, a6] [] (162, I, D, pm_R P) = pm_run mE_X8_work 124 [.ref 138, a1, .int (nI o), .int (nI dp), .int (nI k), .double (mo R), .retAddr 1] [] (162, I, D, pm_R P)) : wkC o P a1 dp (s, zjd (rec k) k R) I D := by
  obtain ⟨hB1, hB2⟩ := hO k hk
  obtain ⟨r1, r2, r3, r4, r5, -⟩ := hX.2 k hk
  have hk60 : k < 60 := by omega
  have hk14 := hB1.1
  have hin : ∀ μ : pm_M, mF_X8_in [.int (nI (zK (rec k))), .int (nI 6), .int (nI 9)] μ = some (some (.int (pb (6 ≤ zK (rec k) ∧ zK (rec k) ≤ 9))), μ) := fun μ => sIn2 (by omega) (by decide) (by decide)
  have e5 : (nI (zK (rec k)) = nI 5) = (zK (rec k) = 5) := propext (nI_eq (by omega) (by decide))
  refine ⟨I, D, mFr_rf, fun z => ?_, fun z => ?_⟩
  · cases R with
    | none =>
      exfalso
      have z2 : (if zK (rec k) = 5 then 1 else 2) = 0 := z
      split at z2 <;> omega
    | some a =>
      have ha := hR a rfl
      have zj : zjd (rec k) k (some a) = if (6 ≤ zK (rec k) ∧ zK (rec k) ≤ 9) ∧ FP.dcmp a 0 = some .lt then (3, k, 0) else (0, k, a) := rfl
      by_cases c : (6 ≤ zK (rec k) ∧ zK (rec k) ≤ 9) ∧ FP.dcmp a 0 = some .lt
      · rw [zj, if_pos c] at z
        cases z
      · rw [zj, if_neg c]
        refine ⟨hS, ha, fun μ' e a3 a4 a5 a6 => ⟨.int (nI dp), .int (nI k), .double a, .retAddr 1, ?_⟩⟩
        rw [hW, mo_some]
        have ef : FP.dcmp a a = some .eq := feq_refl ha
        dsimp only at e
        by_cases c2 : 6 ≤ zK (rec k) ∧ zK (rec k) ≤ 9
        · have c3 : ¬ FP.dcmp a 0 = some .lt := fun y => c ⟨c2, y⟩
          simp (disch := first | assumption | decide) only [x_X8_work_124, x_X8_work_126, x_X8_work_128, x_X8_work_129, x_X8_work_155, x_X8_work_156, x_X8_work_159, x_X8_work_161, x_X8_work_162, x_X8_work_164, x_X8_work_166, x_X8_work_169, x_X8_work_172, x_X8_work_174, x_X8_work_175, x_X8_work_176, x_X8_work_187, x_X8_work_188, x_X8_work_190, x_X8_work_193, cl_eq, ef, if_true, r1, hin, pb_eq0, c2, and_self, not_true, if_false, cg_ge, c3, not_false_eq_true, e, Option.bind_some, Option.toList, List.cons_append, List.nil_append]
        · simp (disch := first | assumption | decide) only [x_X8_work_124, x_X8_work_126, x_X8_work_128, x_X8_work_129, x_X8_work_155, x_X8_work_156, x_X8_work_159, x_X8_work_161, x_X8_work_162, x_X8_work_164, x_X8_work_166, x_X8_work_169, x_X8_work_187, x_X8_work_188, x_X8_work_190, x_X8_work_193, cl_eq, ef, if_true, r1, hin, pb_eq0, c2, not_false_eq_true, e, Option.bind_some, Option.toList, List.cons_append, List.nil_append]
  · refine ⟨dp, hS, Nat.le_refl _, hd, ?_, fun i h1 h2 => by omega, ?_⟩
    · cases R with
      | none => exact hb
      | some a =>
        have zj : zjd (rec k) k (some a) = if (6 ≤ zK (rec k) ∧ zK (rec k) ≤ 9) ∧ FP.dcmp a 0 = some .lt then (3, k, 0) else (0, k, a) := rfl
        rw [zj]
        split
        · exact hb
        · exact hb
    · cases R with
      | none =>
        have zj : zjd (rec k) k none = (if zK (rec k) = 5 then 1 else 2, k, 0) := rfl
        rw [zj]
        intro μ' e a3 a4 a5 a6
        refine ⟨.int (nI dp), .int (nI k), .double nN, .retAddr 1, ?_⟩
        rw [hW, mo_none]
        dsimp only at e
        by_cases c5 : zK (rec k) = 5
        · rw [if_pos c5] at e
          simp (disch := first | assumption | decide) only [x_X8_work_124, x_X8_work_126, x_X8_work_128, x_X8_work_129, x_X8_work_132, x_X8_work_133, x_X8_work_134, x_X8_work_137, x_X8_work_139, x_X8_work_140, x_X8_work_141, x_X8_work_144, x_X8_work_145, x_X8_work_148, x_X8_work_149, x_X8_work_152, x_X8_work_193, cl_eq, dc_nan_l, reduceCtorEq, if_false, r1, c5, if_true, e, Option.bind_some, Option.toList, List.cons_append, List.nil_append]
        · rw [if_neg c5] at e
          simp (disch := first | assumption | decide) only [x_X8_work_124, x_X8_work_126, x_X8_work_128, x_X8_work_129, x_X8_work_132, x_X8_work_133, x_X8_work_134, x_X8_work_137, x_X8_work_139, x_X8_work_140, x_X8_work_141, x_X8_work_144, x_X8_work_145, x_X8_work_148, x_X8_work_149, x_X8_work_152, x_X8_work_193, cl_eq, dc_nan_l, reduceCtorEq, if_false, r1, e5, c5, e, Option.bind_some, Option.toList, List.cons_append, List.nil_append]
      | some a =>
        have ha := hR a rfl
        have zj : zjd (rec k) k (some a) = if (6 ≤ zK (rec k) ∧ zK (rec k) ≤ 9) ∧ FP.dcmp a 0 = some .lt then (3, k, 0) else (0, k, a) := rfl
        by_cases c : (6 ≤ zK (rec k) ∧ zK (rec k) ≤ 9) ∧ FP.dcmp a 0 = some .lt
        · rw [zj, if_pos c]
          intro μ' e a3 a4 a5 a6
          refine ⟨.int (nI dp), .int (nI k), .double a, .retAddr 1, ?_⟩
          rw [hW, mo_some]
          have ef : FP.dcmp a a = some .eq := feq_refl ha
          dsimp only at e
          simp (disch := first | assumption | decide) only [x_X8_work_124, x_X8_work_126, x_X8_work_128, x_X8_work_129, x_X8_work_155, x_X8_work_156, x_X8_work_159, x_X8_work_161, x_X8_work_162, x_X8_work_164, x_X8_work_166, x_X8_work_169, x_X8_work_172, x_X8_work_174, x_X8_work_175, x_X8_work_176, x_X8_work_179, x_X8_work_180, x_X8_work_181, x_X8_work_184, x_X8_work_193, cl_eq, ef, if_true, r1, hin, pb_eq0, c.1, c.2, and_self, not_true, if_false, cg_ge, e, Option.bind_some, Option.toList, List.cons_append, List.nil_append]
        · exfalso
          rw [zj, if_neg c] at z
          exact z rfl
theorem evw_Vo {k : Nat} {w : Nat → UInt64} (hX : mX g nF rec I D) (hO : zOk nF rec) (hn : nF ≤ 60) (hk : k < nF) (ho : o < 40) (h13 : zK (rec k) < 13) (hw : ∀ j, j < zM (rec k) → vf_n64 (w j)) : Vo (evw g (rec k) o w) := by
  obtain ⟨hB1, b1, b2, b3, p, q, bp, bq, bt⟩ := hO k hk
  have hP : Vo (zP (rec k)) := by rw [bp]; exact ob_Vo p
  have hQ : Vo (zQ (rec k)) := by rw [bq]; exact ob_Vo q
  have hg := hX.1.1
  have hn1 : Vo (some (FP.i2d (nI (g.1 (o * 4 + plf (rec k)))))) := Vo_some (fn_i2d _)
  have h1v : Vo (some (4607182418800017408 : UInt64)) := Vo_some fn_1
  have hx : ∀ c, 9 ≤ c → zK (rec k) = c → vf_n64 (w 0) := by
    intro c h1 h2
    refine hw 0 ?_
    rw [b2 (by omega)]
    unfold nnk
    rw [if_neg (by omega)]
    split <;> omega
  unfold evw
  by_cases c0 : zK (rec k) = 0
  · rw [if_pos c0]
    exact hP
  rw [if_neg c0]
  by_cases c1 : zK (rec k) = 1
  · rw [if_pos c1]
    exact hn1
  rw [if_neg c1]
  by_cases c2 : zK (rec k) = 2
  · rw [if_pos c2]
    exact Vo_some (rtv_fn (hg.1 _))
  rw [if_neg c2]
  by_cases c3 : zK (rec k) = 3
  · rw [if_pos c3]
    exact sm2_Vo (fun x y => sq_over) hn1 (sm2_Vo (fun x y => sq_plus) hn1 hP)
  rw [if_neg c3]
  by_cases c4 : zK (rec k) = 4
  · rw [if_pos c4]
    exact sm2_Vo (fun x y => sq_over) (sm2_Vo (fun x y => sq_times) hn1 (sm2_Vo (fun x y => sq_plus) hP h1v)) (sm2_Vo (fun x y => sq_plus) hn1 (sm2_Vo (fun x y => sq_times) hP (sm2_Vo (fun x y => sq_plus) (sm2_Vo (fun x y => sq_minus) h1v hQ) (sm2_Vo (fun x y => sq_times) hQ (sm2_Vo (fun x y => sq_over) (Vo_some (fn_i2d _)) (av_Vo hg _))))))
  rw [if_neg c4]
  by_cases c5 : zK (rec k) = 5
  · rw [if_pos c5]
    exact hg.2.2.1 _
  rw [if_neg c5]
  by_cases c6 : zK (rec k) = 6
  · rw [if_pos c6]
    exact al_Vo _ hw
  rw [if_neg c6]
  by_cases c7 : zK (rec k) = 7
  · rw [if_pos c7]
    exact al_Vo _ hw
  rw [if_neg c7]
  by_cases c8 : zK (rec k) = 8
  · rw [if_pos c8]
    exact sm2_Vo (fun x y => sq_plus) (Vo_some (be_fn _ hw)) (sm2_Vo (fun x y => sq_times) hP (sm2_Vo (fun x y => sq_minus) (al_Vo _ hw) (Vo_some (be_fn _ hw))))
  rw [if_neg c8]
  by_cases c9 : zK (rec k) = 9
  · rw [if_pos c9]
    exact sm2_Vo (fun x y => sq_times) hP (Vo_some (hx 9 (by omega) c9))
  rw [if_neg c9]
  by_cases c10 : zK (rec k) = 10
  · rw [if_pos c10]
    intro b hb
    have v1 := sm2_Vo (fun x y => sq_minus) (Vo_some (hx 10 (by omega) c10)) hP
    have v2 : Vo ((sm2 sp_minus (some (w 0)) (zP (rec k))).map sp_abs) := by
      intro b hb
      cases ha : sm2 sp_minus (some (w 0)) (zP (rec k)) with
      | none => rw [ha] at hb; cases hb
      | some a => rw [ha] at hb; cases hb; exact abs_fn a (v1 a ha)
    have v3 := sm2_Vo (fun x y => sq_over) (sm2_Vo (fun x y => sq_minus) hQ v2) hQ
    unfold zde at hb
    cases ha : sm2 sp_over (sm2 sp_minus (zQ (rec k)) ((sm2 sp_minus (some (w 0)) (zP (rec k))).map sp_abs)) (zQ (rec k)) with
    | none => rw [ha] at hb; cases hb
    | some a => rw [ha] at hb; cases hb; exact pos_fn a (v3 a ha)
  rw [if_neg c10]
  by_cases c11 : zK (rec k) = 11
  · rw [if_pos c11]
    have v2 := sm2_Vo (fun x y => sq_over) (sm2_Vo (fun x y => sq_minus) (Vo_some (hx 11 (by omega) c11)) hP) hQ
    unfold zne znr
    exact sm2_Vo (fun x y => sq_over) h1v (sm2_Vo (fun x y => sq_plus) h1v (sm2_Vo (fun x y => sq_times) v2 v2))
  rw [if_neg c11]
  exact Vo_some (sp_fl_fn (hx (zK (rec k)) (by omega) rfl))
end MW2
