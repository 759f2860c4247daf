/-! SCORES, 8: the model's fail; a turn of work -/
theorem mNc_u {I : Nat → Nat → Int32} {i j : Nat} {v : Int32} (h : mNc I i) : mNc (pm_u I 138 j v) i := by
  obtain ⟨f, h1, h2, h3⟩ := h
  refine ⟨f, h1, ?_, fun z => h3 ⟨?_, ?_⟩⟩
  · rw [pm_ua (by decide)]; exact h2
  · have := z.1
    rw [pm_ua (by decide)] at this
    exact this
  · have := z.2
    rw [pm_ua (by decide)] at this
    exact this
section MFA
variable {I : Nat → Nat → Int32} {D : Nat → Nat → UInt64} {P : Nat → Nat → Option Nat}
theorem fail_loop {c : Int32} {b : Nat} (hb : b = 0 ∨ ∃ b' f, b = b' + 1 ∧ f < 60 ∧ I 155 b' = nI f ∧ I 144 f = nI 13 ∧ I 156 b' = nI 0) : ∀ m, b + m ≤ 63 → (∀ i, b ≤ i → i < b + m → mNc I i) → pm_run mE_X8_fail 25 [.ref 138, .int c] [] (162, pm_u I 138 21 (nI (b + m)), D, pm_R P) = pm_run mE_X8_fail 80 [.ref 138, .int c] [] (162, pm_u I 138 21 (nI b), D, pm_R P) := by
  intro m
  induction m with
  | zero =>
    intro h1 h2
    rw [Nat.add_zero]
    rcases hb with hb | ⟨b', f, hb, g1, g2, g3, g4⟩
    · have e : (nI 0 : Int32) ≤ 0 := by decide
      rw [hb]
      simp (disch := first | assumption | decide) only [x_X8_fail_25, x_X8_fail_26, x_X8_fail_29, pm_us, e, if_true]
    · have e : ¬ nI (b' + 1) ≤ 0 := nI_nle (by omega) (by omega)
      have e1 : nI (b' + 1) - nI 1 = nI b' := pk_sub (by omega)
      have hb64 : b' < 64 := by omega
      rw [hb]
      simp (disch := first | assumption | decide) only [x_X8_fail_25, x_X8_fail_26, x_X8_fail_29, x_X8_fail_32, x_X8_fail_33, x_X8_fail_36, x_X8_fail_37, x_X8_fail_40, x_X8_fail_41, x_X8_fail_44, x_X8_fail_45, x_X8_fail_46, x_X8_fail_47, x_X8_fail_48, x_X8_fail_50, x_X8_fail_53, x_X8_fail_54, x_X8_fail_57, x_X8_fail_58, x_X8_fail_61, x_X8_fail_62, x_X8_fail_63, x_X8_fail_64, pm_us, pm_ua, e, e1, g2, g3, g4, if_true, if_false, show (nI 0 = 0) = True from eq_true nI_0]
  | succ m ih =>
    intro h1 h2
    obtain ⟨f, g1, g2, g3⟩ := h2 (b + m) (by omega) (by omega)
    have e : ¬ nI (b + (m + 1)) ≤ 0 := nI_nle (by omega) (by omega)
    have e1 : nI (b + (m + 1)) - nI 1 = nI (b + m) := pk_sub (by omega)
    have hb64 : b + m < 64 := by omega
    rw [← ih (by omega) (fun i k1 k2 => h2 i k1 (by omega))]
    by_cases c13 : I 144 f = nI 13
    · have c0 : ¬ I 156 (b + m) = 0 := fun z => g3 ⟨c13, z⟩
      simp (disch := first | assumption | decide) only [x_X8_fail_25, x_X8_fail_26, x_X8_fail_29, x_X8_fail_32, x_X8_fail_33, x_X8_fail_36, x_X8_fail_37, x_X8_fail_40, x_X8_fail_41, x_X8_fail_44, x_X8_fail_45, x_X8_fail_46, x_X8_fail_47, x_X8_fail_48, x_X8_fail_50, x_X8_fail_53, x_X8_fail_54, x_X8_fail_57, x_X8_fail_58, x_X8_fail_61, x_X8_fail_62, x_X8_fail_63, x_X8_fail_64, x_X8_fail_67, x_X8_fail_68i, x_X8_fail_68, x_X8_fail_69, x_X8_fail_72, x_X8_fail_73, x_X8_fail_74, x_X8_fail_77, pm_us, pm_ua, e, e1, g2, c13, c0, if_true, if_false, pm_uu]
    · simp (disch := first | assumption | decide) only [x_X8_fail_25, x_X8_fail_26, x_X8_fail_29, x_X8_fail_32, x_X8_fail_33, x_X8_fail_36, x_X8_fail_37, x_X8_fail_40, x_X8_fail_41, x_X8_fail_44, x_X8_fail_45, x_X8_fail_46, x_X8_fail_47, x_X8_fail_48, x_X8_fail_50, x_X8_fail_67, x_X8_fail_68i, x_X8_fail_68, x_X8_fail_69, x_X8_fail_72, x_X8_fail_73, x_X8_fail_74, x_X8_fail_77, pm_us, pm_ua, e, e1, g2, c13, if_false, pm_uu]
theorem fail_in {c : Int32} {b dd cu : Nat} (h : I 138 21 = nI (dd + 1)) (hd : dd < 63) (hcu : I 155 dd = nI cu) (hbd : b ≤ dd) (hnc : ∀ i, b ≤ i → i < dd → mNc I i) (hb : b = 0 ∨ ∃ b' f, b = b' + 1 ∧ f < 60 ∧ I 155 b' = nI f ∧ I 144 f = nI 13 ∧ I 156 b' = nI 0) : mF_X8_fail [.ref 138, .int c] (162, I, D, pm_R P) = pm_run mE_X8_fail 80 [.ref 138, .int c] [] (162, pm_u (pm_u I 138 23 (nI cu)) 138 21 (nI b), D, pm_R P) := by
  have e1 : nI (dd + 1) - nI 1 = nI dd := pk_sub (by omega)
  have hd64 : dd < 64 := by omega
  have hb' : b = 0 ∨ ∃ b' f, b = b' + 1 ∧ f < 60 ∧ (pm_u I 138 23 (nI cu)) 155 b' = nI f ∧ (pm_u I 138 23 (nI cu)) 144 f = nI 13 ∧ (pm_u I 138 23 (nI cu)) 156 b' = nI 0 := by
    rcases hb with hb | ⟨b', f, hb, g1, g2, g3, g4⟩
    · exact Or.inl hb
    · refine Or.inr ⟨b', f, hb, g1, ?_, ?_, ?_⟩
      · rw [pm_ua (by decide)]; exact g2
      · rw [pm_ua (by decide)]; exact g3
      · rw [pm_ua (by decide)]; exact g4
  have hl := fail_loop (I := pm_u I 138 23 (nI cu)) (D := D) (P := P) (c := c) hb' (dd - b) (by omega) (fun i k1 k2 => mNc_u (hnc i k1 (by omega)))
  rw [show b + (dd - b) = dd by omega] at hl
  rw [← hl, en_X8_fail]
  simp (disch := first | assumption | decide) only [x_X8_fail_0, x_X8_fail_1, x_X8_fail_2, x_X8_fail_5, x_X8_fail_6, x_X8_fail_9, x_X8_fail_10, x_X8_fail_11, x_X8_fail_12, x_X8_fail_15, x_X8_fail_16i, x_X8_fail_16, x_X8_fail_17, x_X8_fail_20, x_X8_fail_21, x_X8_fail_22, pm_us, pm_ub, h, e1, hcu]
theorem sX8_fail0 {c : Int32} {dd cu : Nat} (h : I 138 21 = nI (dd + 1)) (hd : dd < 63) (hcu : I 155 dd = nI cu) (hnc : ∀ i, i < dd → mNc I i) : mF_X8_fail [.ref 138, .int c] (162, I, D, pm_R P) = some (none, (162, pm_u (pm_u (pm_u I 138 23 (nI cu)) 138 21 (nI 0)) 138 22 c, D, pm_R P)) := by
  rw [fail_in h hd hcu (Nat.zero_le _) (fun i _ k2 => hnc i k2) (Or.inl rfl)]
  simp (disch := first | assumption | decide) only [x_X8_fail_80, x_X8_fail_81, x_X8_fail_84, x_X8_fail_87, x_X8_fail_88, x_X8_fail_89, x_X8_fail_92, x_X8_fail_142, pm_us, if_true, show (nI 0 = 0) = True from eq_true nI_0]
theorem sX8_fail1 {c : Int32} {dd cu b f t1 kd j : Nat} {A : Option UInt64} {x : UInt64} {s : zS} {w : Nat → UInt64} (h : mS I (dd + 1) s) (hd : dd < 63) (hcu : I 155 dd = nI cu) (hbd : b < dd) (hnc : ∀ i, b < i → i < dd → mNc I i) (hf : f < 60) (hB : mB I D b f 0 A x) (h13 : I 144 f = nI 13) (ht : I 149 (8 * f + 1) = nI t1) (ht60 : t1 < 60) (hk : I 144 t1 = nI kd) (hkd : kd < 14) : ∃ I' D', mF_X8_fail [.ref 138, .int c] (162, I, D, pm_R P) = some (none, (162, I', D', pm_R P)) ∧ mS I' (b + 2) (bump (ctch s) (b + 2)) ∧ mB I' D' (b + 1) t1 0 (al kd w 0) (be w 0) ∧ mB I' D' b f 1 A x ∧ mFr I I' D D' b := by
  obtain ⟨s0, s1, s2, s3⟩ := h
  obtain ⟨b1, b2, b3, b4⟩ := hB
  have hb64 : b < 64 := by omega
  have e1 : nI (b + 1) - nI 1 = nI b := pk_sub (by omega)
  have nz1 : ¬ nI (b + 1) = 0 := nI_ne0 (by omega) (by omega)
  have e8 : nI 8 * nI f + nI 1 = nI (8 * f + 1) := by rw [pk_mul, nI_add]
  have h480 : 8 * f + 1 < 480 := by omega
  have I2h : ∀ a i, a ≠ 138 → a ≠ 156 → pm_u (pm_u (pm_u (pm_u I 138 23 (nI cu)) 138 21 (nI (b + 1))) 138 25 (s.2.1 + nI 1)) 156 b (nI 1) a i = I a i := fun a i g1 g2 => by rw [pm_ua g2, pm_ua g1, pm_ua g1, pm_ua g1]
  have S2 : mS (pm_u (pm_u (pm_u (pm_u I 138 23 (nI cu)) 138 21 (nI (b + 1))) 138 25 (s.2.1 + nI 1)) 156 b (nI 1)) (b + 1) (ctch s) := by
    refine ⟨?_, ?_, ?_, ?_⟩
    · rw [pm_ua (by decide), pm_ub (by decide), pm_us]
    · rw [pm_ua (by decide), pm_ub (by decide), pm_ub (by decide), pm_ub (by decide)]; exact s1
    · rw [pm_ua (by decide), pm_us]; rfl
    · rw [pm_ua (by decide), pm_ub (by decide), pm_ub (by decide), pm_ub (by decide)]; exact s3
  obtain ⟨I', D', q1, q2, q3, q4, -⟩ := sX8_begin (D := D) (P := P) (w := w) S2 (by omega) ht60 (by rw [I2h _ _ (by decide) (by decide)]; exact hk) hkd
  have fr1 : mFr I (pm_u (pm_u (pm_u (pm_u I 138 23 (nI cu)) 138 21 (nI (b + 1))) 138 25 (s.2.1 + nI 1)) 156 b (nI 1)) D D b := by
    refine ⟨fun a i g1 g2 g3 => I2h a i g1 g3, fun i g => ?_, fun i g => ⟨?_, ?_⟩, fun _ _ _ _ => rfl, fun _ _ => ⟨rfl, rfl⟩⟩
    · rw [pm_ua (by decide), pm_ub (by omega), pm_ub (by omega), pm_ub (by omega)]
    · exact I2h _ _ (by decide) (by decide)
    · rw [pm_ub (by omega), pm_ua (by decide), pm_ua (by decide), pm_ua (by decide)]
  refine ⟨I', D', ?_, q2, q3, ⟨?_, ?_, ?_, ?_⟩, mFr_tr fr1 q4 (by omega)⟩
  · rw [fail_in s0 hd hcu (by omega) (fun i k1 k2 => hnc i (by omega) k2) (Or.inr ⟨b, f, rfl, hf, b1, h13, b2⟩)]
    simp (disch := first | assumption | decide) only [x_X8_fail_80, x_X8_fail_81, x_X8_fail_84, x_X8_fail_95, x_X8_fail_96i, x_X8_fail_96, x_X8_fail_97, x_X8_fail_100, x_X8_fail_101, x_X8_fail_102, x_X8_fail_105, x_X8_fail_106, x_X8_fail_109, x_X8_fail_110, x_X8_fail_113, x_X8_fail_114, x_X8_fail_115, x_X8_fail_116, x_X8_fail_117, x_X8_fail_118, x_X8_fail_119, x_X8_fail_122, x_X8_fail_124, x_X8_fail_125, x_X8_fail_128, x_X8_fail_129, x_X8_fail_132, x_X8_fail_133, x_X8_fail_134, x_X8_fail_135, x_X8_fail_136, x_X8_fail_137, x_X8_fail_138, x_X8_fail_139, x_X8_fail_142, pm_us, pm_ua, pm_ub, nz1, if_false, e1, s2, b1, e8, ht, q1, Option.bind_some, Option.toList, List.cons_append, List.nil_append]
  · rw [(q4.2.2.1 b (by omega)).1, I2h _ _ (by decide) (by decide)]; exact b1
  · rw [(q4.2.2.1 b (by omega)).2, pm_us]
  · rw [(q4.2.2.2.2 b (by omega)).1]; exact b3
  · rw [(q4.2.2.2.2 b (by omega)).2]; exact b4
end MFA
