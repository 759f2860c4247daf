/-! DOUBLES, 9: the model's root -/
section MROOT
variable {μ : pm_M}
theorem rm_run {a0 : Value} {bits : Value} {e : Value} : ∀ (i m q s : Nat) (a13 a14 : Value), i ≤ 53 → m ≤ 2 * s + 4 * 2 ^ i → s + 4 * 2 ^ i ≤ 2 ^ 56 → q + 2 * 2 ^ i ≤ 2 ^ 56 → ∃ s' b13 b14, (rm i m q s).1 < 2 ^ 62 ∧ (rm i m q s).2 < 2 ^ 58 ∧ pm_run mE_X8_root 71 [a0, .retAddr 1, bits, .retAddr 1, e, .long (lN m), .retAddr 1, .long (lN q), .retAddr 1, .long (lN s), .retAddr 1, .long (lN (2 ^ i)), .retAddr 1, a13, a14] [] μ = pm_run mE_X8_root 129 [a0, .retAddr 1, bits, .retAddr 1, e, .long (lN (rm i m q s).1), .retAddr 1, .long (lN (rm i m q s).2), .retAddr 1, .long (lN s'), .retAddr 1, .long (lN 0), .retAddr 1, b13, b14] [] μ := by
  intro i
  have nz2 : ∀ i, i ≤ 53 → ¬ lN (2 ^ i) = lN 0 := by
    intro i hi
    have h1 := Nat.two_pow_pos i
    have h2 : 2 ^ i ≤ 2 ^ 53 := Nat.pow_le_pow_right (by decide) hi
    rw [pk_lEQ (by omega) (by decide)]
    omega
  induction i with
  | zero =>
    intro m q s a13 a14 hi hm hs hq
    have step : ∀ (m' q' s' : Nat) (b13 b14 : Value), m' < 2 ^ 61 → pm_run mE_X8_root 114 [a0, .retAddr 1, bits, .retAddr 1, e, .long (lN m'), .retAddr 1, .long (lN q'), .retAddr 1, .long (lN s'), .retAddr 1, .long (lN (2 ^ 0)), .retAddr 1, b13, b14] [] μ = pm_run mE_X8_root 129 [a0, .retAddr 1, bits, .retAddr 1, e, .long (lN (m' * 2)), .retAddr 1, .long (lN q'), .retAddr 1, .long (lN s'), .retAddr 1, .long (lN 0), .retAddr 1, b13, b14] [] μ := by
      intro m' q' s' b13 b14 hm'
      simp only [x_X8_root_114, x_X8_root_116, x_X8_root_117, x_X8_root_118, x_X8_root_120, x_X8_root_122, x_X8_root_123, x_X8_root_124, x_X8_root_126, lN_shl1 (show m' < 2 ^ 62 by omega), lN_shr shr1 (show 2 ^ 0 < 2 ^ 63 by decide), show 2 ^ 0 / 2 ^ 1 = 0 by decide]
      simp only [x_X8_root_71, x_X8_root_73, x_X8_root_74, x_X8_root_75, lc_eq, lq_0, if_true]
    have hlt : ∀ b13 b14, pm_run mE_X8_root 71 [a0, .retAddr 1, bits, .retAddr 1, e, .long (lN m), .retAddr 1, .long (lN q), .retAddr 1, .long (lN s), .retAddr 1, .long (lN (2 ^ 0)), .retAddr 1, b13, b14] [] μ = if m < s + 2 ^ 0 then pm_run mE_X8_root 114 [a0, .retAddr 1, bits, .retAddr 1, e, .long (lN m), .retAddr 1, .long (lN q), .retAddr 1, .long (lN s), .retAddr 1, .long (lN (2 ^ 0)), .retAddr 1, .long (lN (s + 2 ^ 0)), .retAddr 1] [] μ else pm_run mE_X8_root 93 [a0, .retAddr 1, bits, .retAddr 1, e, .long (lN m), .retAddr 1, .long (lN q), .retAddr 1, .long (lN s), .retAddr 1, .long (lN (2 ^ 0)), .retAddr 1, .long (lN (s + 2 ^ 0)), .retAddr 1] [] μ := by
      intro b13 b14
      simp only [x_X8_root_71, x_X8_root_73, x_X8_root_74, x_X8_root_75, x_X8_root_78, x_X8_root_80, x_X8_root_82, x_X8_root_83, x_X8_root_85, x_X8_root_87, x_X8_root_89, x_X8_root_90, lc_eq, lq_0, nz2 0 (by decide), if_false, lc_gt, lN_add, pk_lLT (show m < 2 ^ 63 by omega) (show s + 2 ^ 0 < 2 ^ 63 by omega)]
    rw [hlt]
    by_cases h : s + 2 ^ 0 ≤ m
    · have e1 : rm 0 m q s = ((m - (s + 1)) * 2, q + 1) := if_pos h
      rw [if_neg (by omega), e1]
      refine ⟨s + 2 ^ 0 + 2 ^ 0, .long (lN (s + 2 ^ 0)), .retAddr 1, by dsimp only; omega, by dsimp only; omega, ?_⟩
      simp only [x_X8_root_93, x_X8_root_95, x_X8_root_97, x_X8_root_98, x_X8_root_100, x_X8_root_102, x_X8_root_104, x_X8_root_105, x_X8_root_107, x_X8_root_109, x_X8_root_111, x_X8_root_112, lN_add, lN_sub h]
      exact step _ _ _ _ _ (by omega)
    · have e1 : rm 0 m q s = (m * 2, q) := if_neg h
      rw [if_pos (by omega), e1]
      refine ⟨s, .long (lN (s + 2 ^ 0)), .retAddr 1, by dsimp only; omega, by dsimp only; omega, ?_⟩
      exact step _ _ _ _ _ (by omega)
  | succ i ih =>
    intro m q s a13 a14 hi hm hs hq
    have hp := Nat.two_pow_pos i
    have hp1 : 2 ^ (i + 1) = 2 * 2 ^ i := by rw [Nat.pow_succ]; omega
    have step : ∀ (m' q' s' : Nat) (b13 b14 : Value), m' < 2 ^ 61 → pm_run mE_X8_root 114 [a0, .retAddr 1, bits, .retAddr 1, e, .long (lN m'), .retAddr 1, .long (lN q'), .retAddr 1, .long (lN s'), .retAddr 1, .long (lN (2 ^ (i + 1))), .retAddr 1, b13, b14] [] μ = pm_run mE_X8_root 71 [a0, .retAddr 1, bits, .retAddr 1, e, .long (lN (m' * 2)), .retAddr 1, .long (lN q'), .retAddr 1, .long (lN s'), .retAddr 1, .long (lN (2 ^ i)), .retAddr 1, b13, b14] [] μ := by
      intro m' q' s' b13 b14 hm'
      have e2 : 2 ^ (i + 1) / 2 ^ 1 = 2 ^ i := by omega
      simp only [x_X8_root_114, x_X8_root_116, x_X8_root_117, x_X8_root_118, x_X8_root_120, x_X8_root_122, x_X8_root_123, x_X8_root_124, x_X8_root_126, lN_shl1 (show m' < 2 ^ 62 by omega), lN_shr shr1 (show 2 ^ (i + 1) < 2 ^ 63 by omega), e2]
    have hlt : ∀ b13 b14, pm_run mE_X8_root 71 [a0, .retAddr 1, bits, .retAddr 1, e, .long (lN m), .retAddr 1, .long (lN q), .retAddr 1, .long (lN s), .retAddr 1, .long (lN (2 ^ (i + 1))), .retAddr 1, b13, b14] [] μ = if m < s + 2 ^ (i + 1) then pm_run mE_X8_root 114 [a0, .retAddr 1, bits, .retAddr 1, e, .long (lN m), .retAddr 1, .long (lN q), .retAddr 1, .long (lN s), .retAddr 1, .long (lN (2 ^ (i + 1))), .retAddr 1, .long (lN (s + 2 ^ (i + 1))), .retAddr 1] [] μ else pm_run mE_X8_root 93 [a0, .retAddr 1, bits, .retAddr 1, e, .long (lN m), .retAddr 1, .long (lN q), .retAddr 1, .long (lN s), .retAddr 1, .long (lN (2 ^ (i + 1))), .retAddr 1, .long (lN (s + 2 ^ (i + 1))), .retAddr 1] [] μ := by
      intro b13 b14
      simp only [x_X8_root_71, x_X8_root_73, x_X8_root_74, x_X8_root_75, x_X8_root_78, x_X8_root_80, x_X8_root_82, x_X8_root_83, x_X8_root_85, x_X8_root_87, x_X8_root_89, x_X8_root_90, lc_eq, lq_0, nz2 (i + 1) hi, if_false, lc_gt, lN_add, pk_lLT (show m < 2 ^ 63 by omega) (show s + 2 ^ (i + 1) < 2 ^ 63 by omega)]
    rw [hlt]
    by_cases h : s + 2 ^ (i + 1) ≤ m
    · have e1 : rm (i + 1) m q s = rm i ((m - (s + 2 ^ (i + 1))) * 2) (q + 2 ^ (i + 1)) (s + 2 ^ (i + 1) + 2 ^ (i + 1)) := if_pos h
      rw [if_neg (by omega), e1]
      obtain ⟨s', b13, b14, r1, r2, r3⟩ := ih ((m - (s + 2 ^ (i + 1))) * 2) (q + 2 ^ (i + 1)) (s + 2 ^ (i + 1) + 2 ^ (i + 1)) (.long (lN (s + 2 ^ (i + 1)))) (.retAddr 1) (by omega) (by omega) (by omega) (by omega)
      refine ⟨s', b13, b14, r1, r2, ?_⟩
      rw [← r3]
      simp only [x_X8_root_93, x_X8_root_95, x_X8_root_97, x_X8_root_98, x_X8_root_100, x_X8_root_102, x_X8_root_104, x_X8_root_105, x_X8_root_107, x_X8_root_109, x_X8_root_111, x_X8_root_112, lN_add, lN_sub h]
      exact step _ _ _ _ _ (by omega)
    · have e1 : rm (i + 1) m q s = rm i (m * 2) q s := if_neg h
      rw [if_pos (by omega), e1]
      obtain ⟨s', b13, b14, r1, r2, r3⟩ := ih (m * 2) q s (.long (lN (s + 2 ^ (i + 1)))) (.retAddr 1) (by omega) (by omega) (by omega) (by omega)
      refine ⟨s', b13, b14, r1, r2, ?_⟩
      rw [← r3]
      exact step _ _ _ _ _ (by omega)
theorem i2d_pos {c : Nat} (h0 : 0 < c) (hc : c ≤ 1000) : fp (FP.i2d (nI c)) ∧ fU (FP.i2d (nI c)) = c * 2 ^ 1074 := by
  obtain ⟨z, z1, z2⟩ := nb_ex (c := c) (k := 1074) (by omega) (by decide)
  have e : FP.i2d (nI c) = z := i2d_ex z1 (by omega) z2.symm
  rw [e]
  exact ⟨z1, z2⟩
theorem sX8_root {c : Nat} (h0 : 0 < c) (hc : c ≤ 1000) : mF_X8_root [.double (FP.i2d (nI c))] μ = some (some (.double (rc_v c)), μ) := by
  rw [en_X8_root]
  have h := r_oks h0 hc
  simp only [r_ok, Bool.and_eq_true, decide_eq_true_eq] at h
  obtain ⟨⟨⟨⟨⟨k1, k2⟩, k3⟩, k4⟩, k5⟩, k6⟩ := h
  obtain ⟨p1, u1⟩ := i2d_pos h0 hc
  have hz : ¬ FP.dcmp (FP.i2d (nI c)) 0 = some .eq := by
    intro z
    have := (feq_key (fp_fn p1) fn_0).mp z
    rw [fp_key p1, key0] at this
    have e0 : (FP.i2d (nI c)).toNat = 0 := by omega
    unfold fU at u1
    rw [e0, units_eq, if_pos (by decide)] at u1
    have := Nat.two_pow_pos 1074
    have := Nat.mul_pos h0 this
    omega
  obtain ⟨n, hn⟩ : ∃ n, n = r_n c := ⟨_, rfl⟩
  have hn2 : (FP.i2d (nI c)).toInt64 = lN n := by rw [toI_lN, hn]; rfl
  rw [← hn] at k1 k2 k3 k4
  have hn63 : n < 2 ^ 63 := by omega
  have he : nI (n / 2 ^ 52) - nI 1023 = nI (rm_e n) := pk_sub k3
  have hr : rm_e n < 20 := by unfold rm_e; omega
  have hand : lN n &&& 4503599627370495 = lN (n % 2 ^ 52) := by
    rw [show (4503599627370495 : Int64) = lN 4503599627370495 from rfl]
    exact lN_and _ _ 52 (by omega) (by decide) (by decide)
  have hor : lN (n % 2 ^ 52) ||| 4503599627370496 = lN (2 ^ 52 + n % 2 ^ 52) := by
    have hm : n % 2 ^ 52 < 2 ^ 52 := Nat.mod_lt _ (by decide)
    apply Int64.toBitVec_inj.mp
    apply BitVec.eq_of_toNat_eq
    rw [Int64.toBitVec_or, BitVec.toNat_or, lN_nat (by omega), lN_nat (by omega), show (4503599627370496 : Int64).toBitVec.toNat = 2 ^ 52 by decide]
    have := Nat.two_pow_add_eq_or_of_lt hm 1
    rw [Nat.mul_one] at this
    rw [this, Nat.or_comm]
  have hm0 : rm_m n < 2 ^ 55 := by
    unfold rm_m
    have hm : n % 2 ^ 52 < 2 ^ 52 := Nat.mod_lt _ (by decide)
    split <;> omega
  have hl2i : (lN (n / 2 ^ 52)).toInt32 = nI (n / 2 ^ 52) := lN_i _
  have hsh : nI (rm_e n) >>> (nI 1 &&& 31) = nI (rm_e n / 2) := pk_shrN (by omega) _ 1 (by decide)
  have hodd : nI (rm_e n) &&& nI 1 = nI (rm_e n % 2) := pk_andN (by omega) 1 (by decide)
  have hm53 : n % 2 ^ 52 < 2 ^ 52 := Nat.mod_lt _ (by decide)
  have pre : pm_run mE_X8_root 0 [.double (FP.i2d (nI c)), .retAddr 1, .retAddr 0, .retAddr 0, .retAddr 0, .retAddr 0, .retAddr 0, .retAddr 0, .retAddr 0, .retAddr 0, .retAddr 0, .retAddr 0, .retAddr 0, .retAddr 0, .retAddr 0] [] μ = pm_run mE_X8_root 71 [.double (FP.i2d (nI c)), .retAddr 1, .long (lN n), .retAddr 1, .int (nI (rm_e n / 2)), .long (lN (rm_m n)), .retAddr 1, .long (lN 0), .retAddr 1, .long (lN 0), .retAddr 1, .long (lN (2 ^ 53)), .retAddr 1, .retAddr 0, .retAddr 0] [] μ := by
    simp only [x_X8_root_0, x_X8_root_1, x_X8_root_4, x_X8_root_5, x_X8_root_6, x_X8_root_7, x_X8_root_8, x_X8_root_11, x_X8_root_12, x_X8_root_13, x_X8_root_14, x_X8_root_16, x_X8_root_17, x_X8_root_18, x_X8_root_21, x_X8_root_22, x_X8_root_24, x_X8_root_25, x_X8_root_28, x_X8_root_29, x_X8_root_32, x_X8_root_33, x_X8_root_35, x_X8_root_37, x_X8_root_38, x_X8_root_39, sJ_d2lb1 (fp_fn p1), Option.bind_some, Option.toList, List.cons_append, List.nil_append, cl_eq, hz, if_false, hn2, lN_shr shr52 hn63, hl2i, he, hand, hor, hodd]
    by_cases ho : rm_e n % 2 = 1
    · rw [ho, if_neg (show ¬ nI 1 = 0 by decide)]
      simp only [x_X8_root_42, x_X8_root_44, x_X8_root_45, x_X8_root_46, x_X8_root_48, x_X8_root_50, x_X8_root_51, x_X8_root_52, x_X8_root_54, x_X8_root_56, x_X8_root_57, x_X8_root_58, x_X8_root_60, x_X8_root_61, x_X8_root_63, x_X8_root_64, x_X8_root_66, x_X8_root_69, lN_shl1 (show 2 ^ 52 + n % 2 ^ 52 < 2 ^ 62 by omega), lN_shl1 (show (2 ^ 52 + n % 2 ^ 52) * 2 < 2 ^ 62 by omega), hsh]
      have e : rm_m n = (2 ^ 52 + n % 2 ^ 52) * 2 * 2 := by unfold rm_m; rw [if_pos ho]
      rw [e]
      rfl
    · have ho2 : rm_e n % 2 = 0 := by omega
      rw [ho2, if_pos (show nI 0 = 0 by decide)]
      simp only [x_X8_root_48, x_X8_root_50, x_X8_root_51, x_X8_root_52, x_X8_root_54, x_X8_root_56, x_X8_root_57, x_X8_root_58, x_X8_root_60, x_X8_root_61, x_X8_root_63, x_X8_root_64, x_X8_root_66, x_X8_root_69, lN_shl1 (show 2 ^ 52 + n % 2 ^ 52 < 2 ^ 62 by omega), hsh]
      have e : rm_m n = (2 ^ 52 + n % 2 ^ 52) * 2 := by unfold rm_m; rw [if_neg ho, Nat.mul_one]
      rw [e]
      rfl
  rw [pre]
  obtain ⟨s', b13, b14, r1, r2, r3⟩ := rm_run (μ := μ) (a0 := .double (FP.i2d (nI c))) (bits := .long (lN n)) (e := .int (nI (rm_e n / 2))) 53 (rm_m n) 0 0 (.retAddr 0) (.retAddr 0) (by decide) (by omega) (by omega) (by omega)
  rw [r3]
  obtain ⟨m9, hm9⟩ : ∃ m9, m9 = (rm 53 (rm_m n) 0 0).1 := ⟨_, rfl⟩
  obtain ⟨q9, hq9⟩ : ∃ q9, q9 = (rm 53 (rm_m n) 0 0).2 := ⟨_, rfl⟩
  rw [← hm9, ← hq9]
  rw [← hm9] at r1
  rw [← hq9] at r2
  have post : pm_run mE_X8_root 129 [.double (FP.i2d (nI c)), .retAddr 1, .long (lN n), .retAddr 1, .int (nI (rm_e n / 2)), .long (lN m9), .retAddr 1, .long (lN q9), .retAddr 1, .long (lN s'), .retAddr 1, .long (lN 0), .retAddr 1, b13, b14] [] μ = pm_run mE_X8_root 145 [.double (FP.i2d (nI c)), .retAddr 1, .long (lN n), .retAddr 1, .int (nI (rm_e n / 2)), .long (lN m9), .retAddr 1, .long (lN (rm_q m9 q9)), .retAddr 1, .long (lN s'), .retAddr 1, .long (lN 0), .retAddr 1, b13, b14] [] μ := by
    simp only [x_X8_root_129, x_X8_root_131, x_X8_root_132, x_X8_root_133, lc_eq, lq_0, pk_lEQ (show m9 < 2 ^ 63 by omega) (show 0 < 2 ^ 63 by decide)]
    unfold rm_q
    by_cases hm : m9 = 0
    · rw [if_pos hm, if_pos hm]
    · rw [if_neg hm, if_neg hm]
      have hq1 : lN q9 &&& lN 1 = lN (q9 % 2) := lN_and q9 1 1 (by omega) (by decide) (by decide)
      simp only [x_X8_root_136, x_X8_root_138, x_X8_root_140, x_X8_root_141, x_X8_root_142, x_X8_root_143, lq_1, hq1, lN_add]
  rw [post]
  have hv : rm_v n = rm_q m9 q9 / 2 + 4602678819172646912 + rm_e n / 2 * 2 ^ 52 := by unfold rm_v; rw [← hm9, ← hq9]
  have hq62 : rm_q m9 q9 < 2 ^ 59 := by unfold rm_q; split <;> omega
  have ei : (nI (rm_e n / 2)).toInt64 = lN (rm_e n / 2) := nI_l (by omega)
  have hres : (lN (rm_v n)).toUInt64 = rc_v c := by
    apply UInt64.toNat_inj.mp
    rw [k1]
    exact lN_nat (by omega)
  have hsn : vn_snl2d (lN (rm_v n)) = false := by
    unfold vn_snl2d
    have hf := fp_fn (rc_v_fp h0 hc)
    rw [hres]
    have : ¬ (rc_v c &&& 0x7fffffffffffffff > 0x7ff0000000000000) := UInt64.not_lt.mpr hf
    simp [this]
  simp (disch := exact hsn) only [x_X8_root_145, x_X8_root_147, x_X8_root_148, x_X8_root_149, x_X8_root_152, x_X8_root_153, x_X8_root_155, x_X8_root_156, x_X8_root_158, x_X8_root_159, x_X8_root_160, x_X8_root_163, lN_shr shr1 (show rm_q m9 q9 < 2 ^ 63 by omega), show 2 ^ 1 = 2 from rfl, show (4602678819172646912 : Int64) = lN 4602678819172646912 from rfl, lN_add, ei, lN_shl (show rm_e n / 2 ≤ 2046 by omega), ← hv, hres]
theorem sX8_root0 : mF_X8_root [.double 0] μ = some (some (.double 0), μ) := by
  rw [en_X8_root]
  simp only [x_X8_root_0, x_X8_root_1, x_X8_root_4, x_X8_root_5, x_X8_root_6, x_X8_root_7, x_X8_root_8, x_X8_root_11, x_X8_root_12, sJ_d2lb1 fn_0, Option.bind_some, Option.toList, List.cons_append, List.nil_append, cl_eq, show FP.dcmp 0 0 = some .eq by decide +kernel, if_true]
end MROOT
