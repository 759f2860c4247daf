/-! SCORES, 4: the model's worked -/
def sp_ab2 (a : UInt64) : UInt64 := if FP.dcmp a 0 = some .lt ∨ FP.dcmp a 0 = some .eq then FP.dsub 0 a else a
theorem dneg_C {a : UInt64} (h : vf_n64 a) : FP.Core.dneg a = FP.dneg a := (FP.dneg_core ((FP.Core.notNaN_iff a).mpr ((fn_iff a).mp h))).symm
theorem fn_nz : vf_n64 nz := by unfold vf_n64; decide
theorem key_nz : FP.Core.dkey nz = 0 := by decide
theorem sub_0n {a : UInt64} (h : vf_n64 a) (hl : FP.dcmp a 0 = some .lt) : FP.dsub 0 a = FP.dneg a := by
  have h1 : FP.dsub 0 a = FP.Core.dadd 0 (FP.Core.dneg a) := FP.Core.dsub_eq 0 a
  rw [h1, FP.Core.dadd_comm, dneg_C h]
  refine FP.Core.dadd_zero ((fn_iff _).mp (fn_neg h)) ?_
  intro z
  have h2 : FP.Core.dkey (FP.dneg a) = 0 := by rw [z]; decide
  rw [key_neg] at h2
  have h3 := (flt_key h fn_0).mp hl
  rw [key0] at h3
  omega
theorem ab2_fn {a : UInt64} (h : vf_n64 a) : vf_n64 (sp_ab2 a) ∧ (FP.dcmp a 0 = some .lt ∨ FP.dcmp a 0 = some .eq → vf_n64 (FP.dsub 0 a)) := by
  have h2 : FP.dcmp a 0 = some .lt ∨ FP.dcmp a 0 = some .eq → vf_n64 (FP.dsub 0 a) := by
    intro z
    rcases z with z | z
    · rw [sub_0n h z]
      exact fn_neg h
    · rcases feq0_cases z with z | z
      · rw [z]; unfold vf_n64; decide +kernel
      · rw [z]; unfold vf_n64; decide +kernel
  refine ⟨?_, h2⟩
  unfold sp_ab2
  split
  · rename_i c
    exact h2 c
  · exact h
theorem sub_q0 {q : UInt64} (h : vf_n64 q) (h0 : FP.dcmp q 0 = some .gt) : FP.dsub q 0 = q ∧ FP.dsub q nz = q := by
  have hk := (fgt_key h fn_0).mp h0
  rw [key0] at hk
  have e1 : FP.dsub q 0 = FP.Core.dadd q (FP.Core.dneg 0) := FP.Core.dsub_eq q 0
  have e2 : FP.dsub q nz = FP.Core.dadd q (FP.Core.dneg nz) := FP.Core.dsub_eq q nz
  have e3 : FP.Core.dneg 0 = FP.Core.dzeroNeg := by decide +kernel
  have e4 : FP.Core.dneg nz = FP.Core.dconst0 := by decide +kernel
  rw [e1, e2, e3, e4]
  refine ⟨FP.Core.dadd_zeroNeg ((fn_iff _).mp h), FP.Core.dadd_zero ((fn_iff _).mp h) ?_⟩
  intro z
  have h2 : FP.Core.dkey q = 0 := by rw [z]; decide
  omega
theorem ab_eq {q a : UInt64} (hq : vf_n64 q) (h0 : FP.dcmp q 0 = some .gt) (ha : vf_n64 a) : sp_minus q (sp_ab2 a) = sp_minus q (sp_abs a) := by
  unfold sp_ab2 sp_abs
  by_cases c1 : FP.dcmp a 0 = some .lt
  · rw [if_pos (Or.inl c1), if_pos c1, sub_0n ha c1]
  · rw [if_neg c1]
    by_cases c2 : FP.dcmp a 0 = some .eq
    · rw [if_pos (Or.inr c2)]
      have hz : FP.dsub 0 a = 0 := by
        rcases feq0_cases c2 with z | z
        · rw [z]; decide +kernel
        · rw [z]; decide +kernel
      rw [hz]
      rcases feq0_cases c2 with z | z
      · rw [z]
      · rw [z]
        have hk := (fgt_key hq fn_0).mp h0
        rw [key0] at hk
        have n1 : ¬ (fInf q ∧ feq q 0) := fun y => by
          have := (feq_key hq fn_0).mp y.2
          rw [key0] at this
          omega
        have n2 : ¬ (fInf q ∧ feq q nz) := fun y => by
          have := (feq_key hq fn_nz).mp y.2
          rw [key_nz] at this
          omega
        unfold sp_minus
        rw [if_neg n1, if_neg n2, (sub_q0 hq h0).1, (sub_q0 hq h0).2]
    · rw [if_neg (fun z => z.elim c1 c2)]
theorem gr_pos {a : UInt64} (ha : vf_n64 a) : sp_gr 0 a = sp_pos a := by
  unfold sp_gr sp_pos
  have h0 := dc_key fn_0 ha
  have h1 := dc_key ha fn_0
  rw [key0] at h0 h1
  rw [h0, h1]
  rcases Int.lt_trichotomy (FP.Core.dkey a) 0 with c | c | c
  · have e1 : compare 0 (FP.Core.dkey a) = .gt := Int.compare_eq_gt.mpr c
    have e2 : compare (FP.Core.dkey a) 0 = .lt := Int.compare_eq_lt.mpr c
    rw [e1, e2]
    rfl
  · rw [c]
    rfl
  · have e1 : compare 0 (FP.Core.dkey a) = .lt := Int.compare_eq_lt.mpr c
    have e2 : compare (FP.Core.dkey a) 0 = .gt := Int.compare_eq_gt.mpr c
    rw [e1, e2]
    rfl
theorem zde_m {x p q : UInt64} (hx : vf_n64 x) (hp : vf_n64 p) (hq : vf_n64 q) (h0 : FP.dcmp q 0 = some .gt) : sm2 (fun a b => some (sp_gr a b)) (some 0) (sm2 sp_over (sm2 sp_minus (some q) ((sm2 sp_minus (some x) (some p)).map sp_ab2)) (some q)) = zde (some x) (some p) (some q) := by
  unfold zde
  have h1 := sq_minus hx hp
  have e1 : sm2 sp_minus (some x) (some p) = sp_minus x p := rfl
  rw [e1]
  cases ha : sp_minus x p with
  | none => rfl
  | some a =>
    have han := h1 a ha
    have e2 : sm2 sp_minus (some q) ((some a).map sp_ab2) = sp_minus q (sp_ab2 a) := rfl
    have e3 : sm2 sp_minus (some q) ((some a).map sp_abs) = sp_minus q (sp_abs a) := rfl
    rw [e2, e3, ab_eq hq h0 han]
    have h4 : Vo (sm2 sp_over (sp_minus q (sp_abs a)) (some q)) := sm2_Vo (fun x y => sq_over) (sq_minus hq (abs_fn a han)) (Vo_some hq)
    cases hb : sm2 sp_over (sp_minus q (sp_abs a)) (some q) with
    | none => rfl
    | some b =>
      show some (sp_gr 0 b) = some (sp_pos b)
      rw [gr_pos (h4 b hb)]
theorem nIz {a : Nat} (h : a < 2 ^ 31) : nI a = 0 ↔ a = 0 := by rw [← nI_0, nI_eq h (by decide)]
section MWK
variable {I : Nat → Nat → Int32} {D : Nat → Nat → UInt64} {P : Nat → Nat → Option Nat} {g : gO} {r : zR} {k o : Nat} {w : Nat → UInt64}
def wix (r : zR) (o : Nat) : Nat := o * 4 + (if 1 ≤ zK r ∧ zK r ≤ 5 then plf r else 0)
theorem wk_1 (hC : MO I D g) (hR : mR I D k r) (hB : zB2 r) (hk : k < 60) (ho : o < 40) (hk14 : zK r < 14) {s m : UInt64} : mF_X8_worked [.ref 138, .int (nI o), .int (nI k), .double s, .double m] (162, I, D, pm_R P) = pm_run mE_X8_worked 60 [.ref 138, .int (nI o), .int (nI k), .double s, .retAddr 1, .double m, .retAddr 1, .int (nI (zK r)), .double (mo (zP r)), .retAddr 1, .double (mo (zQ r)), .retAddr 1, .int (nI (wix r o)), .double (mo (some (FP.i2d (nI (g.1 (wix r o)))))), .retAddr 1, .retAddr 0, .retAddr 0, .retAddr 0, .retAddr 0] [] (162, I, D, pm_R P) ∧ wix r o < 160 := by
  obtain ⟨m1, m2, m3, m4, -⟩ := hR
  have hmul : nI 4 * nI o = nI (o * 4) := by rw [pk_mul, Nat.mul_comm]
  have hin : ∀ μ : pm_M, mF_X8_in [.int (nI (zK r)), .int (nI 1), .int (nI 5)] μ = some (some (.int (pb (1 ≤ zK r ∧ zK r ≤ 5))), μ) := fun μ => sIn2 (by omega) (by decide) (by decide)
  rw [en_X8_worked]
  by_cases c : 1 ≤ zK r ∧ zK r ≤ 5
  · obtain ⟨hf, hl⟩ := plf_nat (hB.2.2.1 c)
    have ex : wix r o = o * 4 + plf r := by unfold wix; rw [if_pos c]
    have hx : o * 4 + plf r < 160 := by omega
    rw [ex]
    refine ⟨?_, hx⟩
    simp (disch := assumption) only [x_X8_worked_0, x_X8_worked_1, x_X8_worked_4, x_X8_worked_5, x_X8_worked_6, x_X8_worked_8, x_X8_worked_9, x_X8_worked_12, x_X8_worked_13, x_X8_worked_14, x_X8_worked_16, x_X8_worked_17, x_X8_worked_20, x_X8_worked_21, x_X8_worked_22, x_X8_worked_24, x_X8_worked_25, x_X8_worked_26, x_X8_worked_27, x_X8_worked_29, x_X8_worked_30, x_X8_worked_31, x_X8_worked_34, x_X8_worked_37, x_X8_worked_38, x_X8_worked_41, x_X8_worked_42, x_X8_worked_43, x_X8_worked_46, x_X8_worked_47, x_X8_worked_48, x_X8_worked_50, x_X8_worked_51, x_X8_worked_54, x_X8_worked_56, x_X8_worked_57, x_X8_worked_58, m1, m2, m3, m4, hl, hmul, hin, pb_t c, show ¬ (1 : Int32) = 0 by decide, if_false, nI_add, (hC.2.1 _ hx).1, mo_some, Option.bind_some, Option.toList, List.cons_append, List.nil_append]
  · have ex : wix r o = o * 4 + 0 := by unfold wix; rw [if_neg c]
    have hx : o * 4 + 0 < 160 := by omega
    rw [ex]
    refine ⟨?_, hx⟩
    simp (disch := assumption) only [x_X8_worked_0, x_X8_worked_1, x_X8_worked_4, x_X8_worked_5, x_X8_worked_6, x_X8_worked_8, x_X8_worked_9, x_X8_worked_12, x_X8_worked_13, x_X8_worked_14, x_X8_worked_16, x_X8_worked_17, x_X8_worked_20, x_X8_worked_21, x_X8_worked_22, x_X8_worked_24, x_X8_worked_25, x_X8_worked_26, x_X8_worked_27, x_X8_worked_29, x_X8_worked_30, x_X8_worked_31, x_X8_worked_34, x_X8_worked_37, x_X8_worked_38, x_X8_worked_41, x_X8_worked_42, x_X8_worked_43, x_X8_worked_46, x_X8_worked_47, x_X8_worked_48, x_X8_worked_50, x_X8_worked_51, x_X8_worked_54, x_X8_worked_56, x_X8_worked_57, x_X8_worked_58, m1, m3, m4, hmul, hin, pb_f c, if_true, nI_add, (hC.2.1 _ hx).1, mo_some, Option.bind_some, Option.toList, List.cons_append, List.nil_append]
theorem sX8_worked13 (hC : MO I D g) (hR : mR I D k r) (hB : zB2 r) (hk : k < 60) (ho : o < 40) (hk13 : zK r = 13) {s m : UInt64} : mF_X8_worked [.ref 138, .int (nI o), .int (nI k), .double s, .double m] (162, I, D, pm_R P) = some (some (.double s), (162, I, D, pm_R P)) := by
  rw [(wk_1 hC hR hB hk ho (by omega)).1, hk13]
  simp (disch := decide) only [x_X8_worked_60, x_X8_worked_62, x_X8_worked_63, x_X8_worked_93, x_X8_worked_95, x_X8_worked_96, x_X8_worked_112, x_X8_worked_114, x_X8_worked_115, x_X8_worked_192, x_X8_worked_194, x_X8_worked_195, x_X8_worked_206, x_X8_worked_208, x_X8_worked_210, x_X8_worked_230, x_X8_worked_232, x_X8_worked_234, x_X8_worked_244, x_X8_worked_246, x_X8_worked_248, x_X8_worked_294, x_X8_worked_296, x_X8_worked_298, x_X8_worked_330, x_X8_worked_332, x_X8_worked_334, x_X8_worked_344, x_X8_worked_345, nI_leI, nI_eq, Nat.reduceLeDiff, Nat.reduceEqDiff, if_true, if_false]
theorem sX8_worked (hC : MO I D g) (hR : mR I D k r) (hB : zB2 r) (hk : k < 60) (ho : o < 40) (hk13 : zK r < 13) (hw : ∀ j, j < zM r → vf_n64 (w j)) : mF_X8_worked [.ref 138, .int (nI o), .int (nI k), .double (mo (al (zK r) w (zM r))), .double (mo (some (be w (zM r))))] (162, I, D, pm_R P) = some (some (.double (mo (evw g r o w))), (162, I, D, pm_R P)) := by
  obtain ⟨e, hix⟩ := wk_1 (P := P) hC hR hB hk ho (by omega) (s := mo (al (zK r) w (zM r))) (m := mo (some (be w (zM r))))
  rw [e]
  obtain ⟨b1, b2, b3, p, q, bp, bq, bt⟩ := hB
  obtain ⟨m1, m2, m3, m4, -⟩ := hR
  have hP : Vo (zP r) := by rw [bp]; exact ob_Vo p
  have hQ : Vo (zQ r) := by rw [bq]; exact ob_Vo q
  have hpl : 1 ≤ zK r ∧ zK r ≤ 5 → plf r < 4 ∧ zL r = nI (plf r) := fun z => plf_nat (b3 z)
  have hixp : 1 ≤ zK r ∧ zK r ≤ 5 → wix r o = o * 4 + plf r := fun z => by unfold wix; rw [if_pos z]
  have hn : Vo (some (FP.i2d (nI (g.1 (wix r o))))) := Vo_some (fn_i2d _)
  have h1v : Vo (some (4607182418800017408 : UInt64)) := Vo_some fn_1
  have q1 : ∀ {X : Option UInt64} {μ : pm_M}, Vo X → mF_X8_realLess [.double 4607182418800017408, .double (mo X)] μ = some (some (.double (mo (sm2 sp_minus (some 4607182418800017408) X))), μ) := fun h => sX8_realLess h1v h
  have q2 : ∀ {X : Option UInt64} {μ : pm_M}, Vo X → mF_X8_realPlus [.double (mo X), .double 4607182418800017408] μ = some (some (.double (mo (sm2 sp_plus X (some 4607182418800017408)))), μ) := fun h => sX8_realPlus h h1v
  have q3 : ∀ {X : Option UInt64} {μ : pm_M}, Vo X → mF_X8_realPlus [.double 4607182418800017408, .double (mo X)] μ = some (some (.double (mo (sm2 sp_plus (some 4607182418800017408) X))), μ) := fun h => sX8_realPlus h1v h
  have q4 : ∀ {X : Option UInt64} {μ : pm_M}, Vo X → mF_X8_realOver [.double 4607182418800017408, .double (mo X)] μ = some (some (.double (mo (sm2 sp_over (some 4607182418800017408) X))), μ) := fun h => sX8_realOver h1v h
  unfold evw
  have hal := al_Vo (kd := zK r) (zM r) hw
  have hbe : Vo (some (be w (zM r))) := Vo_some (be_fn (zM r) hw)
  by_cases c0 : zK r = 0
  · rw [if_pos c0, c0]
    simp (disch := decide) only [x_X8_worked_60, x_X8_worked_62, x_X8_worked_63, x_X8_worked_66, x_X8_worked_68, x_X8_worked_71, x_X8_worked_73, x_X8_worked_92, nI_leI, nIz, Nat.reduceLeDiff, Nat.reduceEqDiff, if_true, if_false]
  rw [if_neg c0]
  by_cases c1 : zK r = 1
  · rw [if_pos c1, ← hixp (by omega), c1]
    simp (disch := decide) only [x_X8_worked_60, x_X8_worked_62, x_X8_worked_63, x_X8_worked_66, x_X8_worked_68, x_X8_worked_76, x_X8_worked_78, x_X8_worked_79, x_X8_worked_82, x_X8_worked_84, x_X8_worked_92, nI_leI, nI_eq, nIz, Nat.reduceLeDiff, Nat.reduceEqDiff, if_true, if_false]
  rw [if_neg c1]
  by_cases c2 : zK r = 2
  · rw [if_pos c2, ← hixp (by omega), c2]
    have hrt : ∀ μ : pm_M, mF_X8_root [.double (mo (some (FP.i2d (nI (g.1 (wix r o))))))] μ = some (some (.double (mo (some (rtv (g.1 (wix r o)))))), μ) := by
      intro μ
      rw [mo_some, mo_some]
      unfold rtv
      by_cases z : g.1 (wix r o) = 0
      · rw [z, if_pos rfl]
        have : FP.i2d (nI 0) = 0 := by decide +kernel
        rw [this]
        exact sX8_root0
      · rw [if_neg z]
        exact sX8_root (by omega) (hC.1.1 _)
    simp (disch := decide) only [x_X8_worked_60, x_X8_worked_62, x_X8_worked_63, x_X8_worked_66, x_X8_worked_68, x_X8_worked_76, x_X8_worked_78, x_X8_worked_79, x_X8_worked_87, x_X8_worked_89, x_X8_worked_92, hrt, nI_leI, nI_eq, nIz, Nat.reduceLeDiff, Nat.reduceEqDiff, if_true, if_false, Option.bind_some, Option.toList, List.cons_append, List.nil_append]
  rw [if_neg c2]
  by_cases c3 : zK r = 3
  · rw [if_pos c3, ← hixp (by omega), c3]
    simp (disch := decide) only [x_X8_worked_60, x_X8_worked_62, x_X8_worked_63, x_X8_worked_93, x_X8_worked_95, x_X8_worked_96, x_X8_worked_99, x_X8_worked_101, x_X8_worked_103, x_X8_worked_105, x_X8_worked_108, x_X8_worked_111, sX8_realPlus hn hP, sX8_realOver hn (sm2_Vo (fun x y => sq_plus) hn hP), nI_leI, nI_eq, Nat.reduceLeDiff, Nat.reduceEqDiff, if_true, if_false, Option.bind_some, Option.toList, List.cons_append, List.nil_append]
  rw [if_neg c3]
  by_cases c4 : zK r = 4
  · obtain ⟨hf, hl⟩ := hpl (by omega)
    have hlen := hC.1.2.1 (wix r o)
    have hbl : bc (g.2.1 (wix r o)) < 256 := by have := bc_le (g.2.1 (wix r o)); omega
    have hlv : Vo (some (FP.i2d (nI (lv (g.2.1 (wix r o)))))) := Vo_some (fn_i2d _)
    have hav := av_Vo hC.1 (plf r)
    have v1 := sm2_Vo (fun x y => sq_over) hlv hav
    have v2 := sm2_Vo (fun x y => sq_times) hQ v1
    have v3 := sm2_Vo (fun x y => sq_minus) h1v hQ
    have v4 := sm2_Vo (fun x y => sq_plus) v3 v2
    have v5 := sm2_Vo (fun x y => sq_plus) hP h1v
    have v6 := sm2_Vo (fun x y => sq_times) hn v5
    have v7 := sm2_Vo (fun x y => sq_times) hP v4
    have v8 := sm2_Vo (fun x y => sq_plus) hn v7
    have q5 : ∀ {X : Option UInt64} {μ : pm_M}, Vo X → mF_X8_realOver [.double (FP.i2d (nI (pv (bc (g.2.1 (wix r o)))))), .double (mo X)] μ = some (some (.double (mo (sm2 sp_over (some (FP.i2d (nI (lv (g.2.1 (wix r o)))))) X))), μ) := fun h => sX8_realOver hlv h
    rw [if_pos c4, ← hixp (by omega), c4]
    simp (disch := first | decide | assumption) only [x_X8_worked_60, x_X8_worked_62, x_X8_worked_63, x_X8_worked_93, x_X8_worked_95, x_X8_worked_96, x_X8_worked_112, x_X8_worked_114, x_X8_worked_115, x_X8_worked_118, x_X8_worked_119, x_X8_worked_122, x_X8_worked_124, x_X8_worked_125, x_X8_worked_128, x_X8_worked_131, x_X8_worked_132, x_X8_worked_134, x_X8_worked_135, x_X8_worked_137, x_X8_worked_140, x_X8_worked_142, x_X8_worked_144, x_X8_worked_145, x_X8_worked_146, x_X8_worked_149, x_X8_worked_150, x_X8_worked_151, x_X8_worked_154, x_X8_worked_157, x_X8_worked_160, x_X8_worked_163, x_X8_worked_165, x_X8_worked_167, x_X8_worked_169, x_X8_worked_170, x_X8_worked_173, x_X8_worked_176, x_X8_worked_178, x_X8_worked_180, x_X8_worked_182, x_X8_worked_185, x_X8_worked_188, x_X8_worked_191, (hC.2.1 _ hix).2.1, sX8_byteOf hlen, sX8_valueOf hbl, m2, hl, sX8_averageOf hC hf, q1 hQ, q5 hav, sX8_realTimes hQ v1, sX8_realPlus v3 v2, q2 hP, sX8_realTimes hn v5, sX8_realTimes hP v4, sX8_realPlus hn v7, sX8_realOver v6 v8, nI_leI, nI_eq, Nat.reduceLeDiff, Nat.reduceEqDiff, if_true, if_false, Option.bind_some, Option.toList, List.cons_append, List.nil_append]
    rfl
  rw [if_neg c4]
  by_cases c5 : zK r = 5
  · rw [if_pos c5, ← hixp (by omega), c5]
    simp (disch := first | decide | assumption) only [x_X8_worked_60, x_X8_worked_62, x_X8_worked_63, x_X8_worked_93, x_X8_worked_95, x_X8_worked_96, x_X8_worked_112, x_X8_worked_114, x_X8_worked_115, x_X8_worked_192, x_X8_worked_194, x_X8_worked_195, x_X8_worked_198, x_X8_worked_199, x_X8_worked_202, x_X8_worked_204, x_X8_worked_205, (hC.2.1 _ hix).2.2, nI_leI, nI_eq, Nat.reduceLeDiff, Nat.reduceEqDiff, if_true, if_false]
  rw [if_neg c5]
  by_cases c6 : zK r = 6
  · rw [if_pos c6, c6]
    simp (disch := decide) only [x_X8_worked_60, x_X8_worked_62, x_X8_worked_63, x_X8_worked_93, x_X8_worked_95, x_X8_worked_96, x_X8_worked_112, x_X8_worked_114, x_X8_worked_115, x_X8_worked_192, x_X8_worked_194, x_X8_worked_195, x_X8_worked_206, x_X8_worked_208, x_X8_worked_210, x_X8_worked_230, x_X8_worked_232, x_X8_worked_234, x_X8_worked_244, x_X8_worked_246, x_X8_worked_248, x_X8_worked_294, x_X8_worked_296, x_X8_worked_298, x_X8_worked_330, x_X8_worked_332, x_X8_worked_334, x_X8_worked_344, x_X8_worked_345, nI_leI, nI_eq, Nat.reduceLeDiff, Nat.reduceEqDiff, if_true, if_false]
  rw [if_neg c6]
  by_cases c7 : zK r = 7
  · rw [if_pos c7, c7]
    simp (disch := decide) only [x_X8_worked_60, x_X8_worked_62, x_X8_worked_63, x_X8_worked_93, x_X8_worked_95, x_X8_worked_96, x_X8_worked_112, x_X8_worked_114, x_X8_worked_115, x_X8_worked_192, x_X8_worked_194, x_X8_worked_195, x_X8_worked_206, x_X8_worked_208, x_X8_worked_210, x_X8_worked_230, x_X8_worked_232, x_X8_worked_234, x_X8_worked_244, x_X8_worked_246, x_X8_worked_248, x_X8_worked_294, x_X8_worked_296, x_X8_worked_298, x_X8_worked_330, x_X8_worked_332, x_X8_worked_334, x_X8_worked_344, x_X8_worked_345, nI_leI, nI_eq, Nat.reduceLeDiff, Nat.reduceEqDiff, if_true, if_false]
  rw [if_neg c7]
  by_cases c8 : zK r = 8
  · rw [if_pos c8]
    rw [c8] at hal ⊢
    have v1 := sm2_Vo (fun x y => sq_minus) hal hbe
    have v2 := sm2_Vo (fun x y => sq_times) hP v1
    simp (disch := decide) only [x_X8_worked_60, x_X8_worked_62, x_X8_worked_63, x_X8_worked_93, x_X8_worked_95, x_X8_worked_96, x_X8_worked_112, x_X8_worked_114, x_X8_worked_115, x_X8_worked_192, x_X8_worked_194, x_X8_worked_195, x_X8_worked_206, x_X8_worked_208, x_X8_worked_210, x_X8_worked_213, x_X8_worked_215, x_X8_worked_217, x_X8_worked_218, x_X8_worked_220, x_X8_worked_223, x_X8_worked_226, x_X8_worked_229, sX8_realLess hal hbe, sX8_realTimes hP v1, sX8_realPlus hbe v2, nI_leI, nI_eq, Nat.reduceLeDiff, Nat.reduceEqDiff, if_true, if_false, Option.bind_some, Option.toList, List.cons_append, List.nil_append]
    rfl
  rw [if_neg c8]
  have hm1 : zM r = 1 := by
    rw [b2 (by omega)]
    unfold nnk
    rw [if_neg (by omega), if_neg (by omega)]
  have hal1 : al (zK r) w (zM r) = some (w 0) := by
    rw [hm1]
    show (if zK r = 7 then _ else if zK r < 9 then _ else some (w 0)) = _
    rw [if_neg c7, if_neg (by omega)]
  rw [hal1] at hal ⊢
  have hx : vf_n64 (w 0) := hw 0 (by omega)
  by_cases c9 : zK r = 9
  · rw [if_pos c9, c9]
    simp (disch := decide) only [x_X8_worked_60, x_X8_worked_62, x_X8_worked_63, x_X8_worked_93, x_X8_worked_95, x_X8_worked_96, x_X8_worked_112, x_X8_worked_114, x_X8_worked_115, x_X8_worked_192, x_X8_worked_194, x_X8_worked_195, x_X8_worked_206, x_X8_worked_208, x_X8_worked_210, x_X8_worked_230, x_X8_worked_232, x_X8_worked_234, x_X8_worked_237, x_X8_worked_239, x_X8_worked_240, x_X8_worked_243, sX8_realTimes hP hal, nI_leI, nI_eq, Nat.reduceLeDiff, Nat.reduceEqDiff, if_true, if_false, Option.bind_some, Option.toList, List.cons_append, List.nil_append]
  rw [if_neg c9]
  by_cases c10 : zK r = 10
  · have t := bt.2.2.2 (Or.inl c10)
    have hp : zP r = some p := by rw [bp]; exact ob_fnn t.1
    have hq : zQ r = some q := by rw [bq]; exact ob_fnn t.2.1
    rw [if_pos c10, c10, hp, hq, ← zde_m hx t.1 t.2.1 t.2.2]
    rw [hp] at hP
    rw [hq] at hQ
    have v1 := sm2_Vo (fun x y => sq_minus) hal hP
    have v2 : Vo ((sm2 sp_minus (some (w 0)) (some p)).map sp_ab2) := by
      intro b hb
      cases ha : sm2 sp_minus (some (w 0)) (some p) with
      | none => rw [ha] at hb; cases hb
      | some a => rw [ha] at hb; cases hb; exact (ab2_fn (v1 a ha)).1
    have v3 := sm2_Vo (fun x y => sq_minus) hQ v2
    have v4 := sm2_Vo (fun x y => sq_over) v3 hQ
    have q5 : ∀ {X : Option UInt64} {μ : pm_M}, Vo X → mF_X8_greater [.double 0, .double (mo X)] μ = some (some (.double (mo (sm2 (fun a b => some (sp_gr a b)) (some 0) X))), μ) := fun h => sX8_greater (Vo_some fn_0) h
    simp (disch := decide) only [x_X8_worked_60, x_X8_worked_62, x_X8_worked_63, x_X8_worked_93, x_X8_worked_95, x_X8_worked_96, x_X8_worked_112, x_X8_worked_114, x_X8_worked_115, x_X8_worked_192, x_X8_worked_194, x_X8_worked_195, x_X8_worked_206, x_X8_worked_208, x_X8_worked_210, x_X8_worked_230, x_X8_worked_232, x_X8_worked_234, x_X8_worked_244, x_X8_worked_246, x_X8_worked_248, x_X8_worked_251, x_X8_worked_252, x_X8_worked_254, x_X8_worked_257, x_X8_worked_259, x_X8_worked_261, x_X8_worked_262, x_X8_worked_263, sX8_realLess hal hP, cg_gt, nI_leI, nI_eq, Nat.reduceLeDiff, Nat.reduceEqDiff, if_true, if_false, Option.bind_some, Option.toList, List.cons_append, List.nil_append]
    have key : (if ¬ (FP.dcmp (mo (sm2 sp_minus (some (w 0)) (some p))) 0 = some .lt ∨ FP.dcmp (mo (sm2 sp_minus (some (w 0)) (some p))) 0 = some .eq) then mo (sm2 sp_minus (some (w 0)) (some p)) else FP.dsub 0 (mo (sm2 sp_minus (some (w 0)) (some p)))) = mo ((sm2 sp_minus (some (w 0)) (some p)).map sp_ab2) := by
      cases ha : sm2 sp_minus (some (w 0)) (some p) with
      | none =>
        show (if ¬ (FP.dcmp nN 0 = some .lt ∨ FP.dcmp nN 0 = some .eq) then nN else FP.dsub 0 nN) = nN
        rw [dc_nan_l]
        rfl
      | some a =>
        show (if ¬ (FP.dcmp a 0 = some .lt ∨ FP.dcmp a 0 = some .eq) then a else FP.dsub 0 a) = sp_ab2 a
        unfold sp_ab2
        by_cases z : FP.dcmp a 0 = some .lt ∨ FP.dcmp a 0 = some .eq
        · rw [if_neg (fun y => y z), if_pos z]
        · rw [if_pos z, if_neg z]
    by_cases c : FP.dcmp (mo (sm2 sp_minus (some (w 0)) (some p))) 0 = some .lt ∨ FP.dcmp (mo (sm2 sp_minus (some (w 0)) (some p))) 0 = some .eq
    · rw [if_neg (fun z => z c)] at key ⊢
      have hs : vf_n64 (FP.dsub 0 (mo (sm2 sp_minus (some (w 0)) (some p)))) := by
        cases ha : sm2 sp_minus (some (w 0)) (some p) with
        | none =>
          rw [ha] at c
          have c' : FP.dcmp nN 0 = some .lt ∨ FP.dcmp nN 0 = some .eq := c
          rw [dc_nan_l] at c'
          rcases c' with z | z <;> cases z
        | some a =>
          rw [ha] at c
          exact (ab2_fn (v1 a ha)).2 c
      simp (disch := assumption) only [x_X8_worked_266, x_X8_worked_267, x_X8_worked_269, x_X8_worked_270, x_X8_worked_273, x_X8_worked_275]
      rw [key]
      simp only [x_X8_worked_277, x_X8_worked_278, x_X8_worked_280, x_X8_worked_282, x_X8_worked_285, x_X8_worked_287, x_X8_worked_290, x_X8_worked_293, sX8_realLess hQ v2, sX8_realOver v3 hQ, q5 v4, Option.bind_some, Option.toList, List.cons_append, List.nil_append]
    · rw [if_pos c] at key ⊢
      simp only [x_X8_worked_273, x_X8_worked_275]
      rw [key]
      simp only [x_X8_worked_277, x_X8_worked_278, x_X8_worked_280, x_X8_worked_282, x_X8_worked_285, x_X8_worked_287, x_X8_worked_290, x_X8_worked_293, sX8_realLess hQ v2, sX8_realOver v3 hQ, q5 v4, Option.bind_some, Option.toList, List.cons_append, List.nil_append]
  rw [if_neg c10]
  by_cases c11 : zK r = 11
  · rw [if_pos c11, c11]
    have v1 := sm2_Vo (fun x y => sq_minus) hal hP
    have v2 := sm2_Vo (fun x y => sq_over) v1 hQ
    have v3 := sm2_Vo (fun x y => sq_times) v2 v2
    have v4 := sm2_Vo (fun x y => sq_plus) h1v v3
    simp (disch := decide) only [x_X8_worked_60, x_X8_worked_62, x_X8_worked_63, x_X8_worked_93, x_X8_worked_95, x_X8_worked_96, x_X8_worked_112, x_X8_worked_114, x_X8_worked_115, x_X8_worked_192, x_X8_worked_194, x_X8_worked_195, x_X8_worked_206, x_X8_worked_208, x_X8_worked_210, x_X8_worked_230, x_X8_worked_232, x_X8_worked_234, x_X8_worked_244, x_X8_worked_246, x_X8_worked_248, x_X8_worked_294, x_X8_worked_296, x_X8_worked_298, x_X8_worked_301, x_X8_worked_302, x_X8_worked_304, x_X8_worked_307, x_X8_worked_309, x_X8_worked_312, x_X8_worked_314, x_X8_worked_315, x_X8_worked_316, x_X8_worked_318, x_X8_worked_320, x_X8_worked_323, x_X8_worked_326, x_X8_worked_329, sX8_realLess hal hP, sX8_realOver v1 hQ, sX8_realTimes v2 v2, q3 v3, q4 v4, nI_leI, nI_eq, Nat.reduceLeDiff, Nat.reduceEqDiff, if_true, if_false, Option.bind_some, Option.toList, List.cons_append, List.nil_append]
    rfl
  rw [if_neg c11, show zK r = 12 by omega]
  simp (disch := decide) only [x_X8_worked_60, x_X8_worked_62, x_X8_worked_63, x_X8_worked_93, x_X8_worked_95, x_X8_worked_96, x_X8_worked_112, x_X8_worked_114, x_X8_worked_115, x_X8_worked_192, x_X8_worked_194, x_X8_worked_195, x_X8_worked_206, x_X8_worked_208, x_X8_worked_210, x_X8_worked_230, x_X8_worked_232, x_X8_worked_234, x_X8_worked_244, x_X8_worked_246, x_X8_worked_248, x_X8_worked_294, x_X8_worked_296, x_X8_worked_298, x_X8_worked_330, x_X8_worked_332, x_X8_worked_334, x_X8_worked_337, x_X8_worked_338, x_X8_worked_341, x_X8_worked_344, x_X8_worked_345, sX8_down hal, nI_leI, nI_eq, Nat.reduceLeDiff, Nat.reduceEqDiff, if_true, if_false, Option.bind_some, Option.toList, List.cons_append, List.nil_append]
  rfl
end MWK
