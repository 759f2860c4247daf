/-! SCORES, 7: the model's begin, give, fail -/
/-- how deep, and what is counted -/
def mS (I : Nat → Nat → Int32) (dp : Nat) (s : zS) : Prop := I 138 21 = nI dp ∧ I 138 24 = s.1 ∧ I 138 25 = s.2.1 ∧ I 138 26 = s.2.2
/-- one begun: its number, how many parts are done, what they add up to, the greatest -/
def mB (I : Nat → Nat → Int32) (D : Nat → Nat → UInt64) (i f j : Nat) (A : Option UInt64) (b : UInt64) : Prop := I 155 i = nI f ∧ I 156 i = nI j ∧ D 157 i = mo A ∧ D 158 i = mo (some b)
/-- what stays: all but the counters and the rows of those begun from b on -/
def mFr (I I' : Nat → Nat → Int32) (D D' : Nat → Nat → UInt64) (b : Nat) : Prop := (∀ a j, a ≠ 138 → a ≠ 155 → a ≠ 156 → I' a j = I a j) ∧ (∀ j, j < 21 ∨ j = 22 ∨ 26 < j → I' 138 j = I 138 j) ∧ (∀ j, j < b → I' 155 j = I 155 j ∧ I' 156 j = I 156 j) ∧ (∀ a j, a ≠ 157 → a ≠ 158 → D' a j = D a j) ∧ ∀ j, j < b → D' 157 j = D 157 j ∧ D' 158 j = D 158 j
theorem mFr_rf {I : Nat → Nat → Int32} {D : Nat → Nat → UInt64} {b : Nat} : mFr I I D D b := ⟨fun _ _ _ _ _ => rfl, fun _ _ => rfl, fun _ _ => ⟨rfl, rfl⟩, fun _ _ _ _ => rfl, fun _ _ => ⟨rfl, rfl⟩⟩
theorem mFr_tr {I I' I2 : Nat → Nat → Int32} {D D' D2 : Nat → Nat → UInt64} {b b2 : Nat} (h : mFr I I' D D' b) (h2 : mFr I' I2 D' D2 b2) (hb : b ≤ b2) : mFr I I2 D D2 b := ⟨fun a j g1 g2 g3 => (h2.1 a j g1 g2 g3).trans (h.1 a j g1 g2 g3), fun j g => (h2.2.1 j g).trans (h.2.1 j g), fun j g => ⟨(h2.2.2.1 j (by omega)).1.trans (h.2.2.1 j g).1, (h2.2.2.1 j (by omega)).2.trans (h.2.2.1 j g).2⟩, fun a j g1 g2 => (h2.2.2.2.1 a j g1 g2).trans (h.2.2.2.1 a j g1 g2), fun j g => ⟨(h2.2.2.2.2 j (by omega)).1.trans (h.2.2.2.2 j g).1, (h2.2.2.2.2 j (by omega)).2.trans (h.2.2.2.2 j g).2⟩⟩
theorem mB_fr {I I' : Nat → Nat → Int32} {D D' : Nat → Nat → UInt64} {i f j b : Nat} {A : Option UInt64} {c : UInt64} (h : mB I D i f j A c) (hf : mFr I I' D D' b) (hi : i < b) : mB I' D' i f j A c := ⟨(hf.2.2.1 i hi).1.trans h.1, (hf.2.2.1 i hi).2.trans h.2.1, (hf.2.2.2.2 i hi).1.trans h.2.2.1, (hf.2.2.2.2 i hi).2.trans h.2.2.2⟩
def mX (g : gO) (nF : Nat) (rec : Nat → zR) (I : Nat → Nat → Int32) (D : Nat → Nat → UInt64) : Prop := MO I D g ∧ mFo I D nF rec
theorem MO_fr {I I' : Nat → Nat → Int32} {D D' : Nat → Nat → UInt64} {g : gO} (h : MO I D g) (hf : ∀ a b, 139 ≤ a → a ≤ 143 → I' a b = I a b ∧ D' a b = D a b) : MO I' D' g := by
  refine ⟨h.1, fun i hi => ?_, fun f hf2 => ?_⟩
  · obtain ⟨a1, a2, a3⟩ := h.2.1 i hi
    exact ⟨by rw [(hf 139 i (by decide) (by decide)).1]; exact a1, by rw [(hf 140 i (by decide) (by decide)).1]; exact a2, by rw [(hf 141 i (by decide) (by decide)).2]; exact a3⟩
  · obtain ⟨a1, a2⟩ := h.2.2 f hf2
    exact ⟨by rw [(hf 143 f (by decide) (by decide)).1]; exact a1, fun a ha => by rw [(hf 142 f (by decide) (by decide)).2]; exact a2 a ha⟩
theorem mFo_fr {I I' : Nat → Nat → Int32} {D D' : Nat → Nat → UInt64} {nF : Nat} {rec : Nat → zR} (h : mFo I D nF rec) (hf : ∀ a b, 144 ≤ a → a ≤ 154 → I' a b = I a b ∧ D' a b = D a b) : mFo I' D' nF rec := by
  intro k hk
  obtain ⟨a1, a2, a3, a4, a5, a6, a7, a8, a9, b1, b2⟩ := h k hk
  exact ⟨by rw [(hf 144 k (by decide) (by decide)).1]; exact a1, by rw [(hf 145 k (by decide) (by decide)).1]; exact a2, by rw [(hf 146 k (by decide) (by decide)).2]; exact a3, by rw [(hf 147 k (by decide) (by decide)).2]; exact a4, by rw [(hf 148 k (by decide) (by decide)).1]; exact a5, by rw [(hf 150 k (by decide) (by decide)).1]; exact a6, by rw [(hf 151 k (by decide) (by decide)).1]; exact a7, by rw [(hf 152 k (by decide) (by decide)).1]; exact a8, by rw [(hf 153 k (by decide) (by decide)).1]; exact a9, by rw [(hf 154 k (by decide) (by decide)).1]; exact b1, fun j hj => by rw [(hf 149 _ (by decide) (by decide)).1]; exact b2 j hj⟩
theorem mX_fr {g : gO} {nF b : Nat} {rec : Nat → zR} {I I' : Nat → Nat → Int32} {D D' : Nat → Nat → UInt64} (h : mX g nF rec I D) (hf : mFr I I' D D' b) : mX g nF rec I' D' := ⟨MO_fr h.1 (fun a j h1 h2 => ⟨hf.1 a j (by omega) (by omega) (by omega), hf.2.2.2.1 a j (by omega) (by omega)⟩), mFo_fr h.2 (fun a j h1 h2 => ⟨hf.1 a j (by omega) (by omega) (by omega), hf.2.2.2.1 a j (by omega) (by omega)⟩)⟩
/-- begun: no other way out of it -/
def mNc (I : Nat → Nat → Int32) (i : Nat) : Prop := ∃ f, f < 60 ∧ I 155 i = nI f ∧ ¬ (I 144 f = nI 13 ∧ I 156 i = 0)
section MGI
variable {I : Nat → Nat → Int32} {D : Nat → Nat → UInt64} {P : Nat → Nat → Option Nat}
theorem sX8_begin {dp f kd : Nat} {s : zS} {w : Nat → UInt64} (hS : mS I dp s) (hd : dp < 64) (hf : f < 60) (hk : I 144 f = nI kd) (hkd : kd < 14) : ∃ I' D', mF_X8_begin [.ref 138, .int (nI f)] (162, I, D, pm_R P) = some (none, (162, I', D', pm_R P)) ∧ mS I' (dp + 1) (bump s (dp + 1)) ∧ mB I' D' dp f 0 (al kd w 0) (be w 0) ∧ mFr I I' D D' dp ∧ I' 138 23 = I 138 23 := by
  obtain ⟨s0, s1, s2, s3⟩ := hS
  have e7 : (nI kd = nI 7) = (kd = 7) := propext (nI_eq (by omega) (by decide))
  have eal : ∀ x : UInt64, (if kd = 7 then (4607182418800017408 : UInt64) else 0) = x → x = mo (al kd w 0) := by
    intro x hx
    rw [← hx]
    unfold al
    split <;> rfl
  have fr : ∀ v, mFr I (pm_u (pm_u (pm_u (pm_u (pm_u I 155 dp (nI f)) 156 dp (nI 0)) 138 21 (nI (dp + 1))) 138 24 (s.1 + nI 1)) 138 26 v) D (pm_u (pm_u D 157 dp (if kd = 7 then 4607182418800017408 else 0)) 158 dp 0) dp := by
    intro v
    refine ⟨fun a j g1 g2 g3 => ?_, fun j g => ?_, fun j g => ⟨?_, ?_⟩, fun a j g1 g2 => ?_, fun j g => ⟨?_, ?_⟩⟩
    · rw [pm_ua g1, pm_ua g1, pm_ua g1, pm_ua g3, pm_ua g2]
    · rw [pm_ub (by omega), pm_ub (by omega), pm_ub (by omega), pm_ua (by decide), pm_ua (by decide)]
    · rw [pm_ua (by decide), pm_ua (by decide), pm_ua (by decide), pm_ua (by decide), pm_ub (by omega)]
    · rw [pm_ua (by decide), pm_ua (by decide), pm_ua (by decide), pm_ub (by omega), pm_ua (by decide)]
    · rw [pm_ua g2, pm_ua g1]
    · rw [pm_ua (by decide), pm_ub (by omega)]
    · rw [pm_ub (by omega), pm_ua (by decide)]
  refine ⟨pm_u (pm_u (pm_u (pm_u (pm_u I 155 dp (nI f)) 156 dp (nI 0)) 138 21 (nI (dp + 1))) 138 24 (s.1 + nI 1)) 138 26 (if nI (dp + 1) ≤ s.2.2 then s.2.2 else nI (dp + 1)), pm_u (pm_u D 157 dp (if kd = 7 then 4607182418800017408 else 0)) 158 dp 0, ?_, ⟨?_, ?_, ?_, ?_⟩, ⟨?_, ?_, ?_, ?_⟩, fr _, ?_⟩
  · rw [en_X8_begin]
    have t1 : pm_u (pm_u I 155 dp (nI f)) 156 dp (nI 0) 144 f = nI kd := by rw [pm_ua (by decide), pm_ua (by decide)]; exact hk
    by_cases c7 : kd = 7
    · by_cases c : nI (dp + 1) ≤ s.2.2
      · simp (disch := first | assumption | decide) only [x_X8_begin_0, x_X8_begin_1, x_X8_begin_4, x_X8_begin_5, x_X8_begin_8, x_X8_begin_9, x_X8_begin_10, x_X8_begin_11, x_X8_begin_14, x_X8_begin_15, x_X8_begin_18, x_X8_begin_19, x_X8_begin_20, x_X8_begin_21, x_X8_begin_24, x_X8_begin_25, x_X8_begin_28, x_X8_begin_29, x_X8_begin_32, x_X8_begin_33, x_X8_begin_34, x_X8_begin_36, x_X8_begin_39, x_X8_begin_40, x_X8_begin_43, x_X8_begin_44, x_X8_begin_45, x_X8_begin_46, x_X8_begin_49, x_X8_begin_50, x_X8_begin_53, x_X8_begin_54, x_X8_begin_55, x_X8_begin_56i, x_X8_begin_56, x_X8_begin_57, x_X8_begin_60, x_X8_begin_61, x_X8_begin_62, x_X8_begin_65, x_X8_begin_66i, x_X8_begin_66, x_X8_begin_67, x_X8_begin_70, x_X8_begin_71, x_X8_begin_72, x_X8_begin_75, x_X8_begin_76, x_X8_begin_77, x_X8_begin_80, x_X8_begin_81, x_X8_begin_84, x_X8_begin_87, x_X8_begin_88, x_X8_begin_91, x_X8_begin_94, x_X8_begin_95, x_X8_begin_98, x_X8_begin_101, pm_ua, pm_ub, pm_us, s0, s1, s3, hk, c7, if_true, if_false, nI_add, c]
      · simp (disch := first | assumption | decide) only [x_X8_begin_0, x_X8_begin_1, x_X8_begin_4, x_X8_begin_5, x_X8_begin_8, x_X8_begin_9, x_X8_begin_10, x_X8_begin_11, x_X8_begin_14, x_X8_begin_15, x_X8_begin_18, x_X8_begin_19, x_X8_begin_20, x_X8_begin_21, x_X8_begin_24, x_X8_begin_25, x_X8_begin_28, x_X8_begin_29, x_X8_begin_32, x_X8_begin_33, x_X8_begin_34, x_X8_begin_36, x_X8_begin_39, x_X8_begin_40, x_X8_begin_43, x_X8_begin_44, x_X8_begin_45, x_X8_begin_46, x_X8_begin_49, x_X8_begin_50, x_X8_begin_53, x_X8_begin_54, x_X8_begin_55, x_X8_begin_56i, x_X8_begin_56, x_X8_begin_57, x_X8_begin_60, x_X8_begin_61, x_X8_begin_62, x_X8_begin_65, x_X8_begin_66i, x_X8_begin_66, x_X8_begin_67, x_X8_begin_70, x_X8_begin_71, x_X8_begin_72, x_X8_begin_75, x_X8_begin_76, x_X8_begin_77, x_X8_begin_80, x_X8_begin_81, x_X8_begin_84, x_X8_begin_87, x_X8_begin_88, x_X8_begin_91, x_X8_begin_94, x_X8_begin_95, x_X8_begin_98, x_X8_begin_101, pm_ua, pm_ub, pm_us, s0, s1, s3, hk, c7, if_true, if_false, nI_add, c]
    · by_cases c : nI (dp + 1) ≤ s.2.2
      · simp (disch := first | assumption | decide) only [x_X8_begin_0, x_X8_begin_1, x_X8_begin_4, x_X8_begin_5, x_X8_begin_8, x_X8_begin_9, x_X8_begin_10, x_X8_begin_11, x_X8_begin_14, x_X8_begin_15, x_X8_begin_18, x_X8_begin_19, x_X8_begin_20, x_X8_begin_21, x_X8_begin_24, x_X8_begin_25, x_X8_begin_28, x_X8_begin_29, x_X8_begin_32, x_X8_begin_33, x_X8_begin_34, x_X8_begin_36, x_X8_begin_39, x_X8_begin_40, x_X8_begin_43, x_X8_begin_44, x_X8_begin_45, x_X8_begin_46, x_X8_begin_49, x_X8_begin_50, x_X8_begin_53, x_X8_begin_54, x_X8_begin_55, x_X8_begin_56i, x_X8_begin_56, x_X8_begin_57, x_X8_begin_60, x_X8_begin_61, x_X8_begin_62, x_X8_begin_65, x_X8_begin_66i, x_X8_begin_66, x_X8_begin_67, x_X8_begin_70, x_X8_begin_71, x_X8_begin_72, x_X8_begin_75, x_X8_begin_76, x_X8_begin_77, x_X8_begin_80, x_X8_begin_81, x_X8_begin_84, x_X8_begin_87, x_X8_begin_88, x_X8_begin_91, x_X8_begin_94, x_X8_begin_95, x_X8_begin_98, x_X8_begin_101, pm_ua, pm_ub, pm_us, s0, s1, s3, hk, e7, c7, if_true, if_false, nI_add, c]
      · simp (disch := first | assumption | decide) only [x_X8_begin_0, x_X8_begin_1, x_X8_begin_4, x_X8_begin_5, x_X8_begin_8, x_X8_begin_9, x_X8_begin_10, x_X8_begin_11, x_X8_begin_14, x_X8_begin_15, x_X8_begin_18, x_X8_begin_19, x_X8_begin_20, x_X8_begin_21, x_X8_begin_24, x_X8_begin_25, x_X8_begin_28, x_X8_begin_29, x_X8_begin_32, x_X8_begin_33, x_X8_begin_34, x_X8_begin_36, x_X8_begin_39, x_X8_begin_40, x_X8_begin_43, x_X8_begin_44, x_X8_begin_45, x_X8_begin_46, x_X8_begin_49, x_X8_begin_50, x_X8_begin_53, x_X8_begin_54, x_X8_begin_55, x_X8_begin_56i, x_X8_begin_56, x_X8_begin_57, x_X8_begin_60, x_X8_begin_61, x_X8_begin_62, x_X8_begin_65, x_X8_begin_66i, x_X8_begin_66, x_X8_begin_67, x_X8_begin_70, x_X8_begin_71, x_X8_begin_72, x_X8_begin_75, x_X8_begin_76, x_X8_begin_77, x_X8_begin_80, x_X8_begin_81, x_X8_begin_84, x_X8_begin_87, x_X8_begin_88, x_X8_begin_91, x_X8_begin_94, x_X8_begin_95, x_X8_begin_98, x_X8_begin_101, pm_ua, pm_ub, pm_us, s0, s1, s3, hk, e7, c7, if_true, if_false, nI_add, c]
  · rw [pm_ub (by decide), pm_ub (by decide), pm_us]
  · rw [pm_ub (by decide), pm_us]; rfl
  · rw [pm_ub (by decide), pm_ub (by decide), pm_ub (by decide), pm_ua (by decide), pm_ua (by decide)]; exact s2
  · rw [pm_us]; rfl
  · rw [pm_ua (by decide), pm_ua (by decide), pm_ua (by decide), pm_ua (by decide), pm_us]
  · rw [pm_ua (by decide), pm_ua (by decide), pm_ua (by decide), pm_us]
  · rw [pm_ua (by decide), pm_us]
    exact eal _ rfl
  · rw [pm_us]; rfl
  · rw [pm_ub (by decide), pm_ub (by decide), pm_ub (by decide), pm_ua (by decide), pm_ua (by decide)]
theorem sX8_give0 {v : UInt64} (h : I 138 21 = nI 1) : mF_X8_give [.ref 138, .double v] (162, I, D, pm_R P) = some (none, (162, pm_u I 138 21 (nI 0), pm_u D 138 28 v, pm_R P)) := by
  rw [en_X8_give]
  have e : nI 1 - nI 1 = nI 0 := by decide
  simp (disch := decide) only [x_X8_give_0, x_X8_give_1i, x_X8_give_1, x_X8_give_2, x_X8_give_5, x_X8_give_6, x_X8_give_7, x_X8_give_10, x_X8_give_11, x_X8_give_14, x_X8_give_17, x_X8_give_18, x_X8_give_19, x_X8_give_22, h, e, pm_us, nIz, if_true]
theorem sX8_give {dp f j kd : Nat} {A : Option UInt64} {b v : UInt64} {s : zS} (hS : mS I (dp + 2) s) (hd : dp < 62) (hB : mB I D dp f j A b) (hf : f < 60) (hj : j ≤ 8) (hk : I 144 f = nI kd) (hkd : kd < 14) (hA : Vo A) (hb : vf_n64 b) (hv : vf_n64 v) : ∃ I' D', mF_X8_give [.ref 138, .double v] (162, I, D, pm_R P) = some (none, (162, I', D', pm_R P)) ∧ mS I' (dp + 1) s ∧ mB I' D' dp f (if kd = 13 then 2 else j + 1) (if kd = 7 then sm2 sp_times A (some v) else if kd < 9 then sm2 sp_plus A (some v) else some v) (if j = 0 then v else sp_gr b v) ∧ mFr I I' D D' dp ∧ I' 138 23 = I 138 23 := by
  obtain ⟨s0, s1, s2, s3⟩ := hS
  obtain ⟨b1, b2, b3, b4⟩ := hB
  have hd64 : dp < 64 := by omega
  have eA : nI (dp + 2) - nI 1 = nI (dp + 1) := pk_sub (by omega)
  have eB : nI (dp + 1) - nI 1 = nI dp := pk_sub (by omega)
  have nz1 : ¬ nI (dp + 1) = 0 := nI_ne0 (by omega) (by omega)
  have e7 : (nI kd = nI 7) = (kd = 7) := propext (nI_eq (by omega) (by decide))
  have e9 : (nI 9 ≤ nI kd) = (9 ≤ kd) := propext (nI_leI (by decide) (by omega))
  have e13 : (nI kd = nI 13) = (kd = 13) := propext (nI_eq (by omega) (by decide))
  have ej : (nI j = 0) = (j = 0) := propext (nIz (by omega))
  have hgr : ∀ μ : pm_M, mF_X8_greater [.double (mo (some b)), .double v] μ = some (some (.double (mo (some (sp_gr b v)))), μ) := fun μ => sX8_greater (Vo_some hb) (Vo_some hv)
  have hti : ∀ μ : pm_M, mF_X8_realTimes [.double (mo A), .double v] μ = some (some (.double (mo (sm2 sp_times A (some v)))), μ) := fun μ => sX8_realTimes hA (Vo_some hv)
  have hpl : ∀ μ : pm_M, mF_X8_realPlus [.double (mo A), .double v] μ = some (some (.double (mo (sm2 sp_plus A (some v)))), μ) := fun μ => sX8_realPlus hA (Vo_some hv)
  refine ⟨pm_u (pm_u I 138 21 (nI (dp + 1))) 156 dp (nI (if kd = 13 then 2 else j + 1)), pm_u (pm_u D 158 dp (mo (some (if j = 0 then v else sp_gr b v)))) 157 dp (mo (if kd = 7 then sm2 sp_times A (some v) else if kd < 9 then sm2 sp_plus A (some v) else some v)), ?_, ⟨?_, ?_, ?_, ?_⟩, ⟨?_, ?_, ?_, ?_⟩, ⟨fun a j g1 g2 g3 => ?_, fun j g => ?_, fun j g => ⟨?_, ?_⟩, fun a j g1 g2 => ?_, fun j g => ⟨?_, ?_⟩⟩, ?_⟩
  · rw [en_X8_give]
    have head : pm_run mE_X8_give 0 [.ref 138, .double v, .retAddr 1, .retAddr 0, .retAddr 0] [] (162, I, D, pm_R P) = pm_run mE_X8_give 72 [.ref 138, .double v, .retAddr 1, .int (nI dp), .int (nI kd)] [] (162, pm_u I 138 21 (nI (dp + 1)), pm_u D 158 dp (mo (some (if j = 0 then v else sp_gr b v))), pm_R P) := by
      by_cases cj : j = 0
      · simp (disch := first | assumption | decide) only [x_X8_give_0, x_X8_give_1i, x_X8_give_1, x_X8_give_2, x_X8_give_5, x_X8_give_6, x_X8_give_7, x_X8_give_10, x_X8_give_11, x_X8_give_14, x_X8_give_23, x_X8_give_24, x_X8_give_27, x_X8_give_28, x_X8_give_29, x_X8_give_30, x_X8_give_31, x_X8_give_34, x_X8_give_35, x_X8_give_38, x_X8_give_39, x_X8_give_40, x_X8_give_41, x_X8_give_43, x_X8_give_44, x_X8_give_47, x_X8_give_48, x_X8_give_49, x_X8_give_52, x_X8_give_53, x_X8_give_54, x_X8_give_57, x_X8_give_58, x_X8_give_71, s0, eA, eB, pm_us, pm_ua, pm_ub, nz1, if_false, b1, b2, hk, cj, show (nI 0 = 0) = True from eq_true nI_0, if_true, mo_some]
      · simp (disch := first | assumption | decide) only [x_X8_give_0, x_X8_give_1i, x_X8_give_1, x_X8_give_2, x_X8_give_5, x_X8_give_6, x_X8_give_7, x_X8_give_10, x_X8_give_11, x_X8_give_14, x_X8_give_23, x_X8_give_24, x_X8_give_27, x_X8_give_28, x_X8_give_29, x_X8_give_30, x_X8_give_31, x_X8_give_34, x_X8_give_35, x_X8_give_38, x_X8_give_39, x_X8_give_40, x_X8_give_41, x_X8_give_43, x_X8_give_44, x_X8_give_47, x_X8_give_48, x_X8_give_49, x_X8_give_52, x_X8_give_53, x_X8_give_54, x_X8_give_61, x_X8_give_62, x_X8_give_65, x_X8_give_66, x_X8_give_67, x_X8_give_68, x_X8_give_71, s0, eA, eB, pm_us, pm_ua, pm_ub, nz1, if_false, b1, b2, b4, hk, ej, cj, hgr, Option.bind_some, Option.toList, List.cons_append, List.nil_append]
    have mid : ∀ D2 : Nat → Nat → UInt64, D2 157 dp = mo A → pm_run mE_X8_give 72 [.ref 138, .double v, .retAddr 1, .int (nI dp), .int (nI kd)] [] (162, pm_u I 138 21 (nI (dp + 1)), D2, pm_R P) = pm_run mE_X8_give 119 [.ref 138, .double v, .retAddr 1, .int (nI dp), .int (nI kd)] [] (162, pm_u I 138 21 (nI (dp + 1)), pm_u D2 157 dp (mo (if kd = 7 then sm2 sp_times A (some v) else if kd < 9 then sm2 sp_plus A (some v) else some v)), pm_R P) := by
      intro D2 h2
      by_cases c7 : kd = 7
      · simp (disch := first | assumption | decide) only [x_X8_give_72, x_X8_give_73, x_X8_give_76, x_X8_give_77, x_X8_give_79, x_X8_give_81, x_X8_give_84, x_X8_give_85, x_X8_give_88, x_X8_give_89, x_X8_give_90, x_X8_give_91, x_X8_give_94, x_X8_give_118, h2, e7, c7, if_true, hti, Option.bind_some, Option.toList, List.cons_append, List.nil_append]
      · by_cases c9 : kd < 9
        · have c9' : ¬ 9 ≤ kd := by omega
          simp (disch := first | assumption | decide) only [x_X8_give_72, x_X8_give_73, x_X8_give_76, x_X8_give_77, x_X8_give_79, x_X8_give_81, x_X8_give_97, x_X8_give_99, x_X8_give_101, x_X8_give_104, x_X8_give_105, x_X8_give_108, x_X8_give_109, x_X8_give_110, x_X8_give_111, x_X8_give_114, x_X8_give_118, h2, e7, c7, c9, e9, c9', if_true, if_false, hpl, Option.bind_some, Option.toList, List.cons_append, List.nil_append]
        · have c9' : 9 ≤ kd := by omega
          simp (disch := first | assumption | decide) only [x_X8_give_72, x_X8_give_73, x_X8_give_76, x_X8_give_77, x_X8_give_79, x_X8_give_81, x_X8_give_97, x_X8_give_99, x_X8_give_101, x_X8_give_117, x_X8_give_118, h2, e7, c7, c9, e9, c9', if_true, if_false, mo_some]
    rw [head, mid _ (by rw [pm_ua (by decide)]; exact b3)]
    by_cases c13 : kd = 13
    · simp (disch := first | assumption | decide) only [x_X8_give_119, x_X8_give_120, x_X8_give_123, x_X8_give_124, x_X8_give_125, x_X8_give_126, x_X8_give_127, x_X8_give_128, x_X8_give_129, x_X8_give_131, x_X8_give_133, x_X8_give_136, x_X8_give_137, x_X8_give_140, x_X8_give_141, x_X8_give_142, x_X8_give_143, pm_ua, pm_ub, pm_us, b2, nI_add, e13, c13, if_true, pm_uu]
    · simp (disch := first | assumption | decide) only [x_X8_give_119, x_X8_give_120, x_X8_give_123, x_X8_give_124, x_X8_give_125, x_X8_give_126, x_X8_give_127, x_X8_give_128, x_X8_give_129, x_X8_give_131, x_X8_give_133, x_X8_give_143, pm_ua, pm_ub, pm_us, b2, nI_add, e13, c13, if_false]
  · rw [pm_ua (by decide), pm_us]
  · rw [pm_ua (by decide), pm_ub (by decide)]; exact s1
  · rw [pm_ua (by decide), pm_ub (by decide)]; exact s2
  · rw [pm_ua (by decide), pm_ub (by decide)]; exact s3
  · rw [pm_ua (by decide), pm_ua (by decide)]; exact b1
  · rw [pm_us]
  · rw [pm_us]
  · rw [pm_ua (by decide), pm_us]
  · rw [pm_ua g3, pm_ua g1]
  · rw [pm_ua (by decide), pm_ub (by omega)]
  · rw [pm_ua (by decide), pm_ua (by decide)]
  · rw [pm_ub (by omega), pm_ua (by decide)]
  · rw [pm_ua g1, pm_ua g2]
  · rw [pm_ub (by omega), pm_ua (by decide)]
  · rw [pm_ua (by decide), pm_ub (by omega)]
  · rw [pm_ua (by decide), pm_ub (by decide)]
end MGI
