/-! OBJECTS, 5: clear -/
def gZ : gO := (fun _ => 0, fun _ => 0, fun _ => none, fun _ => none)
theorem gZ_ok : gOk gZ := ⟨fun _ => Nat.zero_le _, fun _ => Nat.zero_le _, (fun _ b hb => by cases hb), (fun f a h => by cases h)⟩
def Zg (g : gO) (a b c : Nat) : Prop := (∀ i, i < a → g.1 i = 0 ∧ g.2.1 i = 0) ∧ (∀ i, i < b → g.2.2.1 i = none) ∧ ∀ f, f < c → g.2.2.2 f = none
theorem FS_rf {I : Nat → Nat → Int32} {D : Nat → Nat → UInt64} : FS I I D D := fun _ _ _ => ⟨rfl, rfl⟩
theorem FS_tr {I I' I2 : Nat → Nat → Int32} {D D' D2 : Nat → Nat → UInt64} (h : FS I I' D D') (h2 : FS I' I2 D' D2) : FS I I2 D D2 := fun a b hab => ⟨(h2 a b hab).1.trans (h a b hab).1, (h2 a b hab).2.trans (h a b hab).2⟩
theorem CO_zero {I : Nat → Nat → Int32} {D : Nat → Nat → UInt64} {g : gO} (hC : CO I D g) (hZ : Zg g 160 160 4) : CO I D gZ := by
  refine ⟨gZ_ok, ?_, ?_⟩
  · intro i hi
    obtain ⟨a1, a2, a3, a4, a5⟩ := hC.2.1 i hi
    obtain ⟨z1, z2⟩ := hZ.1 i hi
    rw [z1] at a1 a2
    rw [z2] at a3
    rw [hZ.2.1 i hi] at a4
    exact ⟨a1, a2, a3, a4, fun a ha => by cases ha⟩
  · intro f hf
    obtain ⟨a1, a2, a3, a4⟩ := hC.2.2 f hf
    rw [hZ.2.2 f hf] at a3
    have e1 : sumL g.2.1 f = sumL gZ.2.1 f := sm_congr 40 (fun o ho => by rw [(hZ.1 (o * 4 + f) (by omega)).2]; rfl)
    have e2 : cntL g.2.1 f = cntL gZ.2.1 f := sm_congr 40 (fun o ho => by rw [(hZ.1 (o * 4 + f) (by omega)).2]; rfl)
    rw [e1] at a1
    rw [e2] at a2
    exact ⟨a1, a2, a3, fun a ha => by cases ha⟩
theorem ob_nan : ob nN = none := if_neg (fun h : fnn nN => absurd (feq_refl h) (fun z : FP.dcmp nN nN = some .eq => by rw [dc_nan_l] at z; cases z))
section CLR
variable {P : Nat → Nat → Option Nat}
theorem rs_f {o : Nat} (ho : o < 40) : ∀ k f, k + f = 4 → ∀ (g : gO) (I : Nat → Nat → Int32) (D : Nat → Nat → UInt64), CO I D g → Zg g (o * 4 + f) (o * 4) 0 → ∃ g' I' D', pm_run mE_X6_reset 10 [.ref 1, .int (nI o), .int (nI f)] [] (162, I, D, pm_R P) = pm_run mE_X6_reset 29 [.ref 1, .int (nI o), .int (nI 4)] [] (162, I', D', pm_R P) ∧ CO I' D' g' ∧ Zg g' (o * 4 + 4) (o * 4) 0 ∧ FS I I' D D' := by
  intro k
  induction k with
  | zero =>
    intro f hf g I D hC hZ
    have : f = 4 := by omega
    subst this
    refine ⟨g, I, D, ?_, hC, hZ, FS_rf⟩
    simp only [x_X6_reset_10, x_X6_reset_11, x_X6_reset_12, show nI 4 ≤ nI 4 by decide, if_true]
  | succ k ih =>
    intro f hf g I D hC hZ
    have hge : ¬ nI 4 ≤ nI f := nI_ge (by omega) (by decide)
    obtain ⟨I1, D1, e, h1, h2⟩ := sX6_put (P := P) (l := 0) (c := 0) hC ho (show f < 4 by omega) (by decide) (by decide)
    obtain ⟨g', I', D', e2, h3, h4, h5⟩ := ih (f + 1) (by omega) _ I1 D1 h1 ⟨fun i hi => by
      show ud g.1 (o * 4 + f) 0 i = 0 ∧ ud g.2.1 (o * 4 + f) 0 i = 0
      unfold ud
      by_cases c : i = o * 4 + f
      · rw [if_pos c, if_pos c]; exact ⟨rfl, rfl⟩
      · rw [if_neg c, if_neg c]; exact hZ.1 i (by omega), hZ.2.1, hZ.2.2⟩
    refine ⟨g', I', D', ?_, h3, h4, FS_tr h2 h5⟩
    rw [← e2, x_X6_reset_10]
    simp only [x_X6_reset_11, x_X6_reset_12, x_X6_reset_15, x_X6_reset_16, x_X6_reset_17, x_X6_reset_18, x_X6_reset_19, x_X6_reset_20, x_X6_reset_23, x_X6_reset_26, hge, if_false, e, Option.bind_some, Option.toList, List.cons_append, List.nil_append, nI_add]
theorem rs_c {o : Nat} (ho : o < 40) : ∀ k f, k + f = 4 → ∀ (g : gO) (I : Nat → Nat → Int32) (D : Nat → Nat → UInt64), CO I D g → Zg g (o * 4 + 4) (o * 4 + f) 0 → ∃ g' I' D', pm_run mE_X6_reset 31 [.ref 1, .int (nI o), .int (nI f)] [] (162, I, D, pm_R P) = pm_run mE_X6_reset 51 [.ref 1, .int (nI o), .int (nI 4)] [] (162, I', D', pm_R P) ∧ CO I' D' g' ∧ Zg g' (o * 4 + 4) (o * 4 + 4) 0 ∧ FS I I' D D' := by
  intro k
  induction k with
  | zero =>
    intro f hf g I D hC hZ
    have : f = 4 := by omega
    subst this
    refine ⟨g, I, D, ?_, hC, hZ, FS_rf⟩
    simp only [x_X6_reset_31, x_X6_reset_32, x_X6_reset_33, show nI 4 ≤ nI 4 by decide, if_true]
  | succ k ih =>
    intro f hf g I D hC hZ
    have hge : ¬ nI 4 ≤ nI f := nI_ge (by omega) (by decide)
    obtain ⟨I1, D1, e, h1, h2⟩ := sX6_fillColumn (P := P) (d := nN) hC ho (show f < 4 by omega)
    rw [show nN.toInt64 = (9221120237041090560 : Int64) by decide] at e
    obtain ⟨g', I', D', e2, h3, h4, h5⟩ := ih (f + 1) (by omega) _ I1 D1 h1 ⟨hZ.1, fun i hi => by
      show ud g.2.2.1 (o * 4 + f) (ob nN) i = none
      unfold ud
      by_cases c : i = o * 4 + f
      · rw [if_pos c]; exact ob_nan
      · rw [if_neg c]; exact hZ.2.1 i (by omega), hZ.2.2⟩
    refine ⟨g', I', D', ?_, h3, h4, FS_tr h2 h5⟩
    rw [← e2, x_X6_reset_31]
    simp only [x_X6_reset_32, x_X6_reset_33, x_X6_reset_36, x_X6_reset_37, x_X6_reset_38, x_X6_reset_39, x_X6_reset_42, x_X6_reset_45, x_X6_reset_48, hge, if_false, e, Option.bind_some, Option.toList, List.cons_append, List.nil_append, nI_add]
theorem rs_o : ∀ k o, k + o = 40 → ∀ (g : gO) (I : Nat → Nat → Int32) (D : Nat → Nat → UInt64) (v : Value), CO I D g → Zg g (o * 4) (o * 4) 0 → ∃ g' I' D' v', pm_run mE_X6_reset 2 [.ref 1, .int (nI o), v] [] (162, I, D, pm_R P) = pm_run mE_X6_reset 57 [.ref 1, .int (nI 40), v'] [] (162, I', D', pm_R P) ∧ CO I' D' g' ∧ Zg g' 160 160 0 ∧ FS I I' D D' := by
  intro k
  induction k with
  | zero =>
    intro o hf g I D v hC hZ
    have : o = 40 := by omega
    subst this
    refine ⟨g, I, D, v, ?_, hC, hZ, FS_rf⟩
    simp only [x_X6_reset_2, x_X6_reset_3, x_X6_reset_5, show nI 40 ≤ nI 40 by decide, if_true]
  | succ k ih =>
    intro o hf g I D v hC hZ
    have hge : ¬ nI 40 ≤ nI o := nI_ge (by omega) (by decide)
    obtain ⟨g1, I1, D1, e1, h1, z1, s1⟩ := rs_f (P := P) (show o < 40 by omega) 4 0 (by decide) g I D hC hZ
    obtain ⟨g2, I2, D2, e2, h2, z2, s2⟩ := rs_c (P := P) (show o < 40 by omega) 4 0 (by decide) g1 I1 D1 h1 z1
    obtain ⟨g', I', D', v', e3, h3, z3, s3⟩ := ih (o + 1) (by omega) g2 I2 D2 (.int (nI 4)) h2 (by rw [show (o + 1) * 4 = o * 4 + 4 by omega]; exact z2)
    refine ⟨g', I', D', v', ?_, h3, z3, FS_tr (FS_tr s1 s2) s3⟩
    rw [← e3, x_X6_reset_2]
    simp only [x_X6_reset_3, x_X6_reset_5, x_X6_reset_8, x_X6_reset_9, hge, if_false]
    rw [e1]
    simp only [x_X6_reset_29, x_X6_reset_30]
    rw [e2]
    simp only [x_X6_reset_51, x_X6_reset_54, nI_add]
theorem rs_a : ∀ k f, k + f = 4 → ∀ (g : gO) (I : Nat → Nat → Int32) (D : Nat → Nat → UInt64) (v : Value), CO I D g → Zg g 160 160 f → ∃ g' I' D', pm_run mE_X6_reset 59 [.ref 1, .int (nI f), v] [] (162, I, D, pm_R P) = some (none, (162, I', D', pm_R P)) ∧ CO I' D' g' ∧ Zg g' 160 160 4 ∧ FS I I' D D' := by
  intro k
  induction k with
  | zero =>
    intro f hf g I D v hC hZ
    have : f = 4 := by omega
    subst this
    refine ⟨g, I, D, ?_, hC, hZ, FS_rf⟩
    simp only [x_X6_reset_59, x_X6_reset_60, x_X6_reset_61, x_X6_reset_64, x_X6_reset_65, x_X6_reset_66, x_X6_reset_69, x_X6_reset_72, x_X6_reset_75, show nI 4 ≤ nI 4 by decide, if_true]
  | succ k ih =>
    intro f hf g I D v hC hZ
    have hge : ¬ nI 4 ≤ nI f := nI_ge (by omega) (by decide)
    obtain ⟨I1, D1, e, h1, h2⟩ := sX6_giveNoAverage (P := P) hC (show f < 4 by omega)
    obtain ⟨g', I', D', e2, h3, h4, h5⟩ := ih (f + 1) (by omega) _ I1 D1 v h1 ⟨hZ.1, hZ.2.1, fun i hi => by
      show ud g.2.2.2 f none i = none
      unfold ud
      by_cases c : i = f
      · rw [if_pos c]
      · rw [if_neg c]; exact hZ.2.2 i (by omega)⟩
    refine ⟨g', I', D', ?_, h3, h4, FS_tr h2 h5⟩
    rw [← e2, x_X6_reset_59]
    simp only [x_X6_reset_60, x_X6_reset_61, x_X6_reset_64, x_X6_reset_65, x_X6_reset_66, x_X6_reset_69, x_X6_reset_72, hge, if_false, e, Option.bind_some, Option.toList, List.cons_append, List.nil_append, nI_add]
theorem sX6_reset {I : Nat → Nat → Int32} {D : Nat → Nat → UInt64} {g : gO} (hC : CO I D g) : ∃ I' D', mF_X6_reset [.ref 1] (162, I, D, pm_R P) = some (none, (162, I', D', pm_R P)) ∧ CO I' D' gZ ∧ FS I I' D D' := by
  obtain ⟨g1, I1, D1, v, e1, h1, z1, s1⟩ := rs_o (P := P) 40 0 (by decide) g I D (.retAddr 0) hC ⟨fun i hi => absurd hi (by omega), fun i hi => absurd hi (by omega), fun i hi => absurd hi (by omega)⟩
  obtain ⟨g2, I2, D2, e2, h2, z2, s2⟩ := rs_a (P := P) 4 0 (by decide) g1 I1 D1 v h1 z1
  refine ⟨I2, D2, ?_, CO_zero h2 z2, FS_tr s1 s2⟩
  rw [en_X6_reset]
  simp only [x_X6_reset_0, x_X6_reset_1]
  rw [e1]
  simp only [x_X6_reset_57, x_X6_reset_58]
  exact e2
theorem sX7_clear {I : Nat → Nat → Int32} {D : Nat → Nat → UInt64} {g : gO} (hC : CO I D g) : ∃ I' D', mF_X7_clear [.ref 0] (162, I, D, pm_R P) = some (some (.int (nI 0)), (162, I', D', pm_R P)) ∧ CO I' D' gZ ∧ FS I I' D D' := by
  obtain ⟨I1, D1, e1, h1, s1⟩ := sX6_reset (P := P) hC
  refine ⟨I1, D1, ?_, h1, s1⟩
  rw [en_X7_clear]
  simp only [x_X7_clear_0, x_X7_clear_1, x_X7_clear_4, x_X7_clear_7, x_X7_clear_8, e1, Option.bind_some, Option.toList, List.cons_append, List.nil_append]
theorem FM_rf {I : Nat → Nat → Int32} {D : Nat → Nat → UInt64} : FM I I D D := fun _ _ _ => ⟨rfl, rfl⟩
theorem FM_tr {I I' I2 : Nat → Nat → Int32} {D D' D2 : Nat → Nat → UInt64} (h : FM I I' D D') (h2 : FM I' I2 D' D2) : FM I I2 D D2 := fun a b hab => ⟨(h2 a b hab).1.trans (h a b hab).1, (h2 a b hab).2.trans (h a b hab).2⟩
theorem mc_k : ∀ k i, k + i = 160 → ∀ (I : Nat → Nat → Int32) (D : Nat → Nat → UInt64), (∀ j, j < i → I 139 j = nI 0 ∧ I 140 j = nI 0 ∧ D 141 j = nN) → ∃ I' D', pm_run mE_X8_clear 2 [.ref 138, .int (nI i)] [] (162, I, D, pm_R P) = pm_run mE_X8_clear 38 [.ref 138, .int (nI 160)] [] (162, I', D', pm_R P) ∧ (∀ j, j < 160 → I' 139 j = nI 0 ∧ I' 140 j = nI 0 ∧ D' 141 j = nN) ∧ FM I I' D D' := by
  intro k
  induction k with
  | zero =>
    intro f hf I D hC
    have : f = 160 := by omega
    subst this
    refine ⟨I, D, ?_, hC, FM_rf⟩
    simp only [x_X8_clear_2, x_X8_clear_3, x_X8_clear_6, show nI 160 ≤ nI 160 by decide, if_true]
  | succ k ih =>
    intro f hf I D hC
    have hge : ¬ nI 160 ≤ nI f := nI_ge (by omega) (by decide)
    obtain ⟨I', D', e2, h3, h4⟩ := ih (f + 1) (by omega) (pm_u (pm_u I 139 f (nI 0)) 140 f (nI 0)) (pm_u D 141 f nN) (fun j hj => by
      rw [pm_ua (by decide), pm_uc, pm_uc, pm_uc]
      by_cases c : j = f
      · rw [if_pos c, if_pos c, if_pos c]; exact ⟨rfl, rfl, rfl⟩
      · rw [if_neg c, if_neg c, if_neg c, pm_ua (by decide)]; exact hC j (by omega))
    refine ⟨I', D', ?_, h3, FM_tr (fun a b hab => ⟨by rw [pm_ua (by omega), pm_ua (by omega)], by rw [pm_ua (by omega)]⟩) h4⟩
    rw [← e2, x_X8_clear_2]
    simp (disch := omega) only [x_X8_clear_3, x_X8_clear_6, x_X8_clear_9, x_X8_clear_10, x_X8_clear_13, x_X8_clear_14, x_X8_clear_15, x_X8_clear_16, x_X8_clear_17, x_X8_clear_20, x_X8_clear_21, x_X8_clear_22, x_X8_clear_23, x_X8_clear_24, x_X8_clear_27, x_X8_clear_28, x_X8_clear_31, x_X8_clear_32, x_X8_clear_35, hge, if_false, sX8_noReal, Option.bind_some, Option.toList, List.cons_append, List.nil_append, nI_add]
theorem mc_f : ∀ k i, k + i = 4 → ∀ (I : Nat → Nat → Int32) (D : Nat → Nat → UInt64), (∀ j, j < i → I 143 j = nI 0) → ∃ I', pm_run mE_X8_clear 40 [.ref 138, .int (nI i)] [] (162, I, D, pm_R P) = some (some (.int (nI 0)), (162, I', D, pm_R P)) ∧ (∀ j, j < 4 → I' 143 j = nI 0) ∧ ∀ a b, a ≠ 143 → I' a b = I a b := by
  intro k
  induction k with
  | zero =>
    intro f hf I D hC
    have : f = 4 := by omega
    subst this
    refine ⟨I, ?_, hC, fun _ _ _ => rfl⟩
    simp only [x_X8_clear_40, x_X8_clear_41, x_X8_clear_42, x_X8_clear_45, x_X8_clear_46, x_X8_clear_49, x_X8_clear_50, x_X8_clear_51, x_X8_clear_52, x_X8_clear_55, x_X8_clear_58, x_X8_clear_59, show nI 4 ≤ nI 4 by decide, if_true]
  | succ k ih =>
    intro f hf I D hC
    have hge : ¬ nI 4 ≤ nI f := nI_ge (by omega) (by decide)
    obtain ⟨I', e2, h3, h4⟩ := ih (f + 1) (by omega) (pm_u I 143 f (nI 0 &&& 1)) D (fun j hj => by
      rw [pm_uc]
      by_cases c : j = f
      · rw [if_pos c]; rfl
      · rw [if_neg c]; exact hC j (by omega))
    refine ⟨I', ?_, h3, fun a b hab => by rw [h4 a b hab, pm_ua hab]⟩
    rw [← e2, x_X8_clear_40]
    simp (disch := omega) only [x_X8_clear_41, x_X8_clear_42, x_X8_clear_45, x_X8_clear_46, x_X8_clear_49, x_X8_clear_50, x_X8_clear_51, x_X8_clear_52, x_X8_clear_55, hge, if_false, nI_add]
theorem sX8_clear {I : Nat → Nat → Int32} {D : Nat → Nat → UInt64} : ∃ I' D', mF_X8_clear [.ref 138] (162, I, D, pm_R P) = some (some (.int (nI 0)), (162, I', D', pm_R P)) ∧ MO I' D' gZ ∧ FM I I' D D' := by
  obtain ⟨I1, D1, e1, h1, s1⟩ := mc_k (P := P) 160 0 (by decide) I D (fun i hi => absurd hi (by omega))
  obtain ⟨I2, e2, h2, s2⟩ := mc_f (P := P) 4 0 (by decide) I1 D1 (fun i hi => absurd hi (by omega))
  refine ⟨I2, D1, ?_, ⟨gZ_ok, fun i hi => ?_, fun f hf => ⟨h2 f hf, fun a ha => by cases ha⟩⟩, FM_tr s1 (fun a b hab => ⟨s2 a b (by omega), rfl⟩)⟩
  · rw [en_X8_clear]
    simp only [x_X8_clear_0, x_X8_clear_1]
    rw [e1]
    simp only [x_X8_clear_38, x_X8_clear_39]
    exact e2
  · rw [s2 _ _ (by decide), s2 _ _ (by decide)]
    exact h1 i hi
end CLR
