/-! SCORES, 3: a formula's value by its parts' values; the class -/
def plf (r : zR) : Nat := (zL r).toNatClampNeg
def evw (g : gO) (r : zR) (o : Nat) (w : Nat → UInt64) : Option UInt64 :=
  if zK r = 0 then zP r
  else if zK r = 1 then some (FP.i2d (nI (g.1 (o * 4 + plf r))))
  else if zK r = 2 then some (rtv (g.1 (o * 4 + plf r)))
  else if zK r = 3 then sm2 sp_over (some (FP.i2d (nI (g.1 (o * 4 + plf r))))) (sm2 sp_plus (some (FP.i2d (nI (g.1 (o * 4 + plf r))))) (zP r))
  else if zK r = 4 then zno (FP.i2d (nI (g.1 (o * 4 + plf r)))) (FP.i2d (nI (lv (g.2.1 (o * 4 + plf r))))) (av g (plf r)) (zP r) (zQ r)
  else if zK r = 5 then g.2.2.1 (o * 4 + plf r)
  else if zK r = 6 then al 6 w (zM r)
  else if zK r = 7 then al 7 w (zM r)
  else if zK r = 8 then zbe (some (be w (zM r))) (al 8 w (zM r)) (zP r)
  else if zK r = 9 then sm2 sp_times (zP r) (some (w 0))
  else if zK r = 10 then zde (some (w 0)) (zP r) (zQ r)
  else if zK r = 11 then zne (some (w 0)) (zP r) (zQ r)
  else some (sp_fl (w 0))
theorem ob_fnn {p : UInt64} (h : fnn p) : ob p = some p := if_pos h
theorem plf_nat {r : zR} (h : inr (zL r) 4) : plf r < 4 ∧ zL r = nI (plf r) := by
  obtain ⟨o, ho, e⟩ := inr_nat (by decide) h
  have e2 : plf r = o := by
    unfold plf
    rw [e]
    exact nI_clamp (by omega)
  rw [e2]
  exact ⟨ho, e⟩
theorem zbe_0 {p : UInt64} (h : shr p) : zbe (some 0) (some 0) (some p) = some 0 := by
  have h1 : vf_n64 p := h.1.1
  have hz : FP.Core.DZero 0 := feq0_val fn_0 |>.mp (feq_refl fn_0)
  have hf : ¬ fInf p := by
    intro z
    have h2 := h.2
    rcases z with z | z
    · subst z
      revert h2
      decide
    · subst z
      have h3 := h.1.2
      revert h3
      decide
  obtain ⟨s, c, q, hv⟩ := fFin_val h1 hf
  have e1 : sp_minus 0 0 = some 0 := by decide +kernel
  have h0 : ¬ fInf 0 := by decide
  have e2 : sp_times p 0 = some (FP.dmul p 0) := by
    unfold sp_times
    rw [if_neg (fun z => z.elim (fun z => h0 z.2) (fun z => hf z.2))]
  have hd : FP.Core.DZero (FP.dmul p 0) := FP.Core.dmul_zero ⟨s, c, q, hv⟩ hz
  have hd2 : FP.dmul p 0 = 0 ∨ FP.dmul p 0 = nz := FP.Core.zero_bits (FP.Core.zero_iff.mpr hd)
  have e3 : sp_plus 0 (FP.dmul p 0) = some 0 := by
    rcases hd2 with z | z
    · rw [z]; decide +kernel
    · rw [z]; decide +kernel
  show (sm2 sp_plus (some 0) ((sp_minus 0 0).bind fun b => sp_times p b)) = some 0
  rw [e1]
  show (sm2 sp_plus (some 0) (sp_times p 0)) = some 0
  rw [e2]
  exact e3
section CWQ
variable {I : Nat → Nat → Int32} {D : Nat → Nat → UInt64} {P : Nat → Nat → Option Nat} {g : gO} {r : zR} {k o : Nat} {w : Nat → UInt64}
theorem sX5_workAlone (hC : CO I D g) (hR : cR I D P k r) (hB : zB2 r) (hk : k < 60) (ho : o < 40) (h5 : I 11 5 = nI o) (hm : zM r = 0) : ∃ v, mF_X5_workAlone [.ref 11, .ref (pm_fo k)] (162, pm_u I 12 0 (fb false), D, pm_R P) = some (some (.double v), (162, pm_u I 12 0 (fb (evw g r o w).isNone), D, pm_R P)) ∧ RB (evw g r o w) v := by
  obtain ⟨c1, c2, c3, c4, c5, -⟩ := hR
  obtain ⟨b1, b2, b3, p, q, bp, bq, bt⟩ := hB
  have u1 : ∀ c, pm_u I 12 0 (fb c) 201 k = nI (zK r) := fun c => by rw [pm_ua (by decide)]; exact c1
  have u2 : ∀ c, pm_u I 12 0 (fb c) 202 k = zL r := fun c => by rw [pm_ua (by decide)]; exact c2
  have u3 : ∀ c, pm_u I 12 0 (fb c) 203 k = fb (zP r).isSome := fun c => by rw [pm_ua (by decide)]; exact c3
  have u5 : ∀ c, pm_u I 12 0 (fb c) 11 5 = nI o := fun c => by rw [pm_ua (by decide)]; exact h5
  have ua : ∀ c, CO (pm_u I 12 0 (fb c)) D g := CO_fl hC
  have k8 : zK r ≤ 8 := by
    refine Nat.le_of_not_lt (fun z => ?_)
    have := b2 z
    rw [hm] at this
    unfold nnk at this
    rw [if_neg (by omega)] at this
    split at this <;> omega
  have hpl : 1 ≤ zK r ∧ zK r ≤ 5 → plf r < 4 ∧ zL r = nI (plf r) := fun z => plf_nat (b3 z)
  rw [en_X5_workAlone]
  simp (disch := assumption) only [x_X5_workAlone_0, x_X5_workAlone_0n, x_X5_workAlone_1, u1]
  rw [x_X5_workAlone_4 (by omega)]
  unfold evw
  by_cases c0 : zK r = 0
  · rw [if_pos c0, if_pos c0]
    cases hp : zP r with
    | none =>
      refine ⟨0, ?_, fn_0, fun a h => by cases h⟩
      simp (disch := assumption) only [x_X5_workAlone_52, x_X5_workAlone_52n, x_X5_workAlone_53, x_X5_workAlone_56, x_X5_workAlone_59, x_X5_workAlone_59n, x_X5_workAlone_60, x_X5_workAlone_63, x_X5_workAlone_66, x_X5_workAlone_67, x_X5_workAlone_70, x_X5_workAlone_73, u3, hp, Option.isSome_none, fb_eq0, if_true, sX4_lose, Option.bind_some, Option.toList, List.cons_append, List.nil_append, Option.isNone_none]
    | some a =>
      have ha : vf_n64 a := ob_Vo p a (by rw [← bp]; exact hp)
      refine ⟨a, ?_, RB_some ha⟩
      have c4' : D 204 k = a := by rw [c4, hp]; rfl
      simp (disch := assumption) only [x_X5_workAlone_52, x_X5_workAlone_52n, x_X5_workAlone_53, x_X5_workAlone_56, x_X5_workAlone_59, x_X5_workAlone_59n, x_X5_workAlone_60, x_X5_workAlone_63, x_X5_workAlone_66, x_X5_workAlone_67, x_X5_workAlone_70, x_X5_workAlone_73, u3, hp, Option.isSome_some, fb_eq0, reduceCtorEq, if_false, c4', Option.isNone_some]
  rw [if_neg c0, if_neg c0]
  by_cases c1 : zK r = 1
  · rw [if_pos c1, if_pos c1]
    obtain ⟨hf, hl⟩ := hpl (by omega)
    refine ⟨_, ?_, RB_some (fn_i2d _)⟩
    simp (disch := assumption) only [x_X5_workAlone_74, x_X5_workAlone_75, x_X5_workAlone_78, x_X5_workAlone_79, x_X5_workAlone_82, x_X5_workAlone_82n, x_X5_workAlone_83, x_X5_workAlone_86, x_X5_workAlone_89, u2, u5, hl, sX6_countOf (ua _) ho hf, Option.bind_some, Option.toList, List.cons_append, List.nil_append, Option.isNone_some]
  rw [if_neg c1, if_neg c1]
  by_cases c2 : zK r = 2
  · rw [if_pos c2, if_pos c2]
    obtain ⟨hf, hl⟩ := hpl (by omega)
    refine ⟨_, ?_, RB_some (rtv_fn (hC.1.1 _))⟩
    simp (disch := assumption) only [x_X5_workAlone_90, x_X5_workAlone_91, x_X5_workAlone_94, x_X5_workAlone_95, x_X5_workAlone_98, x_X5_workAlone_98n, x_X5_workAlone_99, x_X5_workAlone_102, x_X5_workAlone_105, u2, u5, hl, sX6_rootOfCount (ua _) ho hf, Option.bind_some, Option.toList, List.cons_append, List.nil_append, Option.isNone_some]
  rw [if_neg c2, if_neg c2]
  by_cases c3 : zK r = 3
  · rw [if_pos c3, if_pos c3]
    obtain ⟨hf, hl⟩ := hpl (by omega)
    have hp : zP r = some p := by rw [bp]; exact ob_fnn (bt.1 (Or.inl c3)).1
    have hpn : vf_n64 p := (bt.1 (Or.inl c3)).1
    have c4' : D 204 k = p := by rw [c4, hp]; rfl
    rw [hp]
    obtain ⟨v, e, rr⟩ := sX5_saturated (I := I) (D := D) (P := P) (LK_some (fn_i2d (nI (g.1 (o * 4 + plf r))))) (LK_some hpn)
    refine ⟨v, ?_, rr⟩
    simp (disch := assumption) only [x_X5_workAlone_106, x_X5_workAlone_107, x_X5_workAlone_108, x_X5_workAlone_111, x_X5_workAlone_112, x_X5_workAlone_115, x_X5_workAlone_115n, x_X5_workAlone_116, x_X5_workAlone_119, x_X5_workAlone_122, x_X5_workAlone_122n, x_X5_workAlone_123, x_X5_workAlone_126, x_X5_workAlone_129, u2, u5, hl, c4', sX6_countOf (ua _) ho hf, e, Option.bind_some, Option.toList, List.cons_append, List.nil_append]
  rw [if_neg c3, if_neg c3]
  by_cases c4 : zK r = 4
  · rw [if_pos c4, if_pos c4]
    obtain ⟨hf, hl⟩ := hpl (by omega)
    have hp : zP r = some p := by rw [bp]; exact ob_fnn (bt.2.1 c4).1.1
    have hq : zQ r = some q := by rw [bq]; exact ob_fnn (bt.2.1 c4).2.1.1
    rw [hp, hq]
    have c4' : D 204 k = p := by rw [‹D 204 k = (zP r).getD 0›, hp]; rfl
    have c5' : D 205 k = q := by rw [c5, hq]; rfl
    obtain ⟨v, e, rr⟩ := sX5_normed (P := P) hC ho hf hk h5 (by rw [‹I 202 k = zL r›]; exact hl) (bt.2.1 c4).1.1 (bt.2.1 c4).2.1.1 c4' c5'
    refine ⟨v, ?_, rr⟩
    simp only [x_X5_workAlone_130, x_X5_workAlone_131, x_X5_workAlone_131n, x_X5_workAlone_132, x_X5_workAlone_135, e, Option.bind_some, Option.toList, List.cons_append, List.nil_append]
  rw [if_neg c4, if_neg c4]
  by_cases c5 : zK r = 5
  · rw [if_pos c5, if_pos c5]
    obtain ⟨hf, hl⟩ := hpl (by omega)
    obtain ⟨v, e, rr⟩ := sX5_filled (P := P) hC ho hf h5
    refine ⟨v, ?_, rr⟩
    simp (disch := assumption) only [x_X5_workAlone_136, x_X5_workAlone_137, x_X5_workAlone_137n, x_X5_workAlone_138, x_X5_workAlone_141, x_X5_workAlone_144, u2, hl, e, Option.bind_some, Option.toList, List.cons_append, List.nil_append]
  rw [if_neg c5, if_neg c5, hm]
  by_cases c6 : zK r = 6
  · rw [if_pos c6, if_pos c6]
    refine ⟨0, ?_, RB_some fn_0⟩
    simp only [x_X5_workAlone_147, x_X5_workAlone_148]
    rfl
  rw [if_neg c6, if_neg c6]
  by_cases c7 : zK r = 7
  · rw [if_pos c7, if_pos c7]
    refine ⟨4607182418800017408, ?_, RB_some fn_1⟩
    simp only [x_X5_workAlone_145, x_X5_workAlone_146]
    rfl
  rw [if_neg c7, if_neg c7, if_pos (show zK r = 8 by omega)]
  have hp : zP r = some p := by rw [bp]; exact ob_fnn (bt.2.2.1 (by omega)).1.1
  have e0 : zbe (some (be w 0)) (al 8 w 0) (zP r) = some 0 := by
    rw [hp]
    exact zbe_0 (bt.2.2.1 (by omega))
  rw [e0]
  refine ⟨0, ?_, RB_some fn_0⟩
  simp only [x_X5_workAlone_147, x_X5_workAlone_148, Option.isNone_some]
theorem sX5_workParts (hR : cR I D P k r) (hB : zB2 r) (hk : k < 60) (hk13 : zK r < 13) {row : Nat} (hw : pvs D row w (zM r)) (hm : 0 < zM r) (hm8 : zM r ≤ 8) : ∃ v, mF_X5_workParts [.ref 11, .ref (pm_fo k), .int (nI row)] (162, pm_u I 12 0 (fb false), D, pm_R P) = some (some (.double v), (162, pm_u I 12 0 (fb (evw g r o w).isNone), D, pm_R P)) ∧ RB (evw g r o w) v := by
  obtain ⟨c1, c2, c3, c4, c5, c6, -⟩ := hR
  obtain ⟨b1, b2, b3, p, q, bp, bq, bt⟩ := hB
  have u1 : ∀ c, pm_u I 12 0 (fb c) 201 k = nI (zK r) := fun c => by rw [pm_ua (by decide)]; exact c1
  have u6 : ∀ c, pm_u I 12 0 (fb c) 207 k = nI (zM r) := fun c => by rw [pm_ua (by decide)]; exact c6
  have k6 : 6 ≤ zK r := Nat.le_of_not_lt (fun z => by have := b1 (by omega); omega)
  have hx := (hw.2 0 hm).2
  have hx0 := (hw.2 0 hm).1
  rw [Nat.add_zero] at hx0
  have hn : row < 480 := by have := hw.1; omega
  rw [en_X5_workParts]
  simp (disch := assumption) only [x_X5_workParts_0, x_X5_workParts_1, x_X5_workParts_4, x_X5_workParts_5, x_X5_workParts_6, x_X5_workParts_7, x_X5_workParts_7n, x_X5_workParts_8, u1, hx0]
  rw [x_X5_workParts_11 (by omega)]
  unfold evw
  rw [if_neg (show ¬ zK r = 0 by omega), if_neg (show ¬ zK r = 1 by omega), if_neg (show ¬ zK r = 2 by omega), if_neg (show ¬ zK r = 3 by omega), if_neg (show ¬ zK r = 4 by omega), if_neg (show ¬ zK r = 5 by omega)]
  by_cases c6 : zK r = 6
  · rw [if_pos c6, if_pos c6]
    obtain ⟨v, e, rr⟩ := sX5_sum (I := I) (P := P) (kd := 6) hw hm8 (by decide) (by decide)
    refine ⟨v, ?_, rr⟩
    simp (disch := assumption) only [x_X5_workParts_48, x_X5_workParts_49, x_X5_workParts_50, x_X5_workParts_50n, x_X5_workParts_51, x_X5_workParts_54, x_X5_workParts_57, u6, e, Option.bind_some, Option.toList, List.cons_append, List.nil_append]
  rw [if_neg c6, if_neg c6]
  by_cases c7 : zK r = 7
  · rw [if_pos c7, if_pos c7]
    obtain ⟨v, e, rr⟩ := sX5_product (I := I) (P := P) hw hm8
    refine ⟨v, ?_, rr⟩
    simp (disch := assumption) only [x_X5_workParts_58, x_X5_workParts_59, x_X5_workParts_60, x_X5_workParts_60n, x_X5_workParts_61, x_X5_workParts_64, x_X5_workParts_67, u6, e, Option.bind_some, Option.toList, List.cons_append, List.nil_append]
  rw [if_neg c7, if_neg c7]
  by_cases c8 : zK r = 8
  · rw [if_pos c8, if_pos c8]
    have hp : zP r = some p := by rw [bp]; exact ob_fnn (bt.2.2.1 c8).1.1
    have c4' : D 204 k = p := by rw [c4, hp]; rfl
    obtain ⟨v, e, rr⟩ := sX5_best (I := I) (P := P) (q := p) (bt.2.2.1 c8).1.1 hw hm8 hm
    rw [hp]
    refine ⟨v, ?_, rr⟩
    simp (disch := assumption) only [x_X5_workParts_68, x_X5_workParts_69, x_X5_workParts_70, x_X5_workParts_70n, x_X5_workParts_71, x_X5_workParts_74, x_X5_workParts_74n, x_X5_workParts_75, x_X5_workParts_78, x_X5_workParts_81, u6, c4', e, Option.bind_some, Option.toList, List.cons_append, List.nil_append]
  rw [if_neg c8, if_neg c8]
  by_cases c9 : zK r = 9
  · rw [if_pos c9, if_pos c9]
    have hp : zP r = some p := by rw [bp]; exact ob_fnn (bt.1 (Or.inr c9)).1
    have c4' : D 204 k = p := by rw [c4, hp]; rfl
    obtain ⟨v, b', e, rr, s⟩ := st_times (I := I) (D := D) (P := P) (b := false) (LK_some (bt.1 (Or.inr c9)).1) (LK_some hx)
    have hb : b' = (sm2 sp_times (some p) (some (w 0))).isNone := by
      cases h : (sm2 sp_times (some p) (some (w 0))).isNone with
      | true => exact rr.2 h
      | false => exact s.2 h rfl
    subst hb
    rw [hp]
    refine ⟨v, ?_, rr.1⟩
    simp (disch := assumption) only [x_X5_workParts_82, x_X5_workParts_83, x_X5_workParts_86, x_X5_workParts_86n, x_X5_workParts_87, x_X5_workParts_90, x_X5_workParts_91, x_X5_workParts_94, c4', e, Option.bind_some, Option.toList, List.cons_append, List.nil_append]
  rw [if_neg c9, if_neg c9]
  by_cases c10 : zK r = 10
  · rw [if_pos c10, if_pos c10]
    have hp : zP r = some p := by rw [bp]; exact ob_fnn (bt.2.2.2 (Or.inl c10)).1
    have hq : zQ r = some q := by rw [bq]; exact ob_fnn (bt.2.2.2 (Or.inl c10)).2.1
    have c4' : D 204 k = p := by rw [c4, hp]; rfl
    have c5' : D 205 k = q := by rw [c5, hq]; rfl
    obtain ⟨v, e, rr⟩ := sX5_decay (I := I) (D := D) (P := P) hx (bt.2.2.2 (Or.inl c10)).1 (bt.2.2.2 (Or.inl c10)).2.1
    rw [hp, hq]
    refine ⟨v, ?_, rr⟩
    simp (disch := assumption) only [x_X5_workParts_95, x_X5_workParts_96, x_X5_workParts_97, x_X5_workParts_97n, x_X5_workParts_98, x_X5_workParts_101, x_X5_workParts_101n, x_X5_workParts_102, x_X5_workParts_105, x_X5_workParts_108, c4', c5', e, Option.bind_some, Option.toList, List.cons_append, List.nil_append]
  rw [if_neg c10, if_neg c10]
  by_cases c11 : zK r = 11
  · rw [if_pos c11, if_pos c11]
    have hp : zP r = some p := by rw [bp]; exact ob_fnn (bt.2.2.2 (Or.inr c11)).1
    have hq : zQ r = some q := by rw [bq]; exact ob_fnn (bt.2.2.2 (Or.inr c11)).2.1
    have c4' : D 204 k = p := by rw [c4, hp]; rfl
    have c5' : D 205 k = q := by rw [c5, hq]; rfl
    obtain ⟨v, e, rr⟩ := sX5_near (I := I) (D := D) (P := P) hx (bt.2.2.2 (Or.inr c11)).1 (bt.2.2.2 (Or.inr c11)).2.1
    rw [hp, hq]
    refine ⟨v, ?_, rr⟩
    simp (disch := assumption) only [x_X5_workParts_109, x_X5_workParts_110, x_X5_workParts_111, x_X5_workParts_111n, x_X5_workParts_112, x_X5_workParts_115, x_X5_workParts_115n, x_X5_workParts_116, x_X5_workParts_119, x_X5_workParts_122, c4', c5', e, Option.bind_some, Option.toList, List.cons_append, List.nil_append]
  rw [if_neg c11, if_neg c11]
  refine ⟨sp_fl (w 0), ?_, RB_some (sp_fl_fn hx)⟩
  simp only [x_X5_workParts_123, x_X5_workParts_124, x_X5_workParts_127, sX0_floorOf hx, Option.bind_some, Option.toList, List.cons_append, List.nil_append, Option.isNone_some]
end CWQ
