/-! DOUBLES, 5: exact numbers, powers of two -/
theorem ex_pow {A c : Nat} {e q : Int} {K : Nat} (he : 0 ≤ e + K) (hq : 0 ≤ q + K) (h : A * 2 ^ (e + K).toNat = c * 2 ^ (q + K).toNat) : A * 2 ^ (e - q).toNat = c * 1 * 2 ^ (q - e).toNat := by
  rw [Nat.mul_one]
  rcases Int.le_total q e with c1 | c1
  · have e1 : (e + K).toNat = (e - q).toNat + (q + K).toNat := by omega
    rw [e1, Nat.pow_add, ← Nat.mul_assoc] at h
    have := Nat.eq_of_mul_eq_mul_right (Nat.two_pow_pos _) h
    rw [this, show (q - e).toNat = 0 by omega, Nat.pow_zero, Nat.mul_one]
  · have e1 : (q + K).toNat = (q - e).toNat + (e + K).toNat := by omega
    rw [e1, Nat.pow_add, ← Nat.mul_assoc] at h
    have := Nat.eq_of_mul_eq_mul_right (Nat.two_pow_pos _) h
    rw [← this, show (e - q).toNat = 0 by omega, Nat.pow_zero, Nat.mul_one]
/-- in units of 2 to the -1074 -/
def fU (a : UInt64) : Nat := FP.Core.unitsOf FP.Core.b64 a.toNat
/-- finite, its sign bit not set -/
def fp (a : UInt64) : Prop := a.toNat < 9218868437227405312
theorem fp_fn {a : UInt64} (h : fp a) : vf_n64 a := by
  rw [fn_iff, FP.Core.ne_nan]
  unfold fp at h
  omega
theorem fp_val {a : UInt64} (h : fp a) : ∃ c q, FP.Core.val64 a = .fin false c q ∧ FP.Core.fits FP.Core.b64 (.fin false c q) ∧ 0 ≤ q + 1074 ∧ c * 2 ^ (q + 1074).toNat = fU a := by
  have hm : FP.Core.mag FP.Core.b64 a.toNat = a.toNat := FP.Core.mag_of_lt (by rw [FP.Core.half_b64]; unfold fp at h; omega)
  obtain ⟨s, c, q, h1, h2, h3⟩ := FP.Core.fin_of_mag FP.Core.good_b64 (n := a.toNat) (by rw [hm, FP.Core.infBits_b64]; exact h)
  have hs := FP.Core.sgn_bits (a := a) ((fn_iff a).mp (fp_fn h))
  have hv : FP.Core.val64 a = .fin s c q := h1
  rw [hv] at hs
  have hs2 : s = false := by
    have : s = decide (2 ^ 63 ≤ a.toNat) := hs
    rw [this]
    simp
    unfold fp at h
    omega
  subst hs2
  have hq := h2.2.1
  rw [FP.Core.qmin_b64] at hq
  refine ⟨c, q, hv, h2, by omega, ?_⟩
  rw [hm] at h3
  have h4 : c * 2 ^ (q - FP.Core.b64.qmin).toNat = fU a := h3
  rw [FP.Core.qmin_b64] at h4
  rw [← h4]
  congr 2
theorem mul_ex {x y z : UInt64} (hx : fp x) (hy : fp y) (hz : fp z) (h : fU x * fU y = fU z * 2 ^ 1074) : FP.dmul x y = z := by
  obtain ⟨c1, q1, v1, f1, g1, u1⟩ := fp_val hx
  obtain ⟨c2, q2, v2, f2, g2, u2⟩ := fp_val hy
  obtain ⟨c, q, v, f, g, u⟩ := fp_val hz
  have e : FP.Core.val64 (FP.Core.dmul x y) = .fin false c q := by
    rw [FP.Core.val64_dmul, v1, v2]
    show FP.Core.roundRatio FP.Core.b64 false (c1 * c2) 1 (q1 + q2) = _
    refine FP.Core.roundRatio_exact FP.Core.good_b64 (by decide) f (ex_pow (K := 2148) (by omega) (by omega) ?_)
    have e1 : (q1 + q2 + (2148 : Nat)).toNat = (q1 + 1074).toNat + (q2 + 1074).toNat := by omega
    have e2 : (q + (2148 : Nat)).toNat = (q + 1074).toNat + 1074 := by omega
    rw [e1, e2, Nat.pow_add, Nat.pow_add, ← Nat.mul_assoc c, u, ← h, ← u1, ← u2]
    simp only [Nat.mul_assoc, Nat.mul_left_comm, Nat.mul_comm]
  exact FP.Core.val64_inj (by rw [e]; intro z; cases z) (e.trans v.symm)
theorem l2d_ex {n : Nat} {z : UInt64} (hz : fp z) (hn : n < 2 ^ 63) (h : n * 2 ^ 1074 = fU z) : FP.l2d (lN n) = z := by
  obtain ⟨c, q, v, f, g, u⟩ := fp_val hz
  have e : FP.Core.val64 (FP.Core.l2d (lN n)) = .fin false c q := by
    rw [FP.Core.val64_l2d, pk_lT hn]
    show FP.Core.roundRatio FP.Core.b64 (decide ((n : Int) < 0)) (n : Int).natAbs 1 0 = _
    rw [show decide ((n : Int) < 0) = false by simp, Int.natAbs_natCast]
    refine FP.Core.roundRatio_exact FP.Core.good_b64 (by decide) f (ex_pow (K := 1074) (by omega) (by omega) ?_)
    rw [show ((0 : Int) + (1074 : Nat)).toNat = 1074 by decide, h, ← u]
    rfl
  exact FP.Core.val64_inj (by rw [e]; intro z; cases z) (e.trans v.symm)
theorem i2d_ex {n : Nat} {z : UInt64} (hz : fp z) (hn : n < 2 ^ 31) (h : n * 2 ^ 1074 = fU z) : FP.i2d (nI n) = z := by
  obtain ⟨c, q, v, f, g, u⟩ := fp_val hz
  have e : FP.Core.val64 (FP.Core.i2d (nI n)) = .fin false c q := by
    rw [FP.Core.val64_i2d, nI_toInt hn]
    show FP.Core.roundRatio FP.Core.b64 (decide ((n : Int) < 0)) (n : Int).natAbs 1 0 = _
    rw [show decide ((n : Int) < 0) = false by simp, Int.natAbs_natCast]
    refine FP.Core.roundRatio_exact FP.Core.good_b64 (by decide) f (ex_pow (K := 1074) (by omega) (by omega) ?_)
    rw [show ((0 : Int) + (1074 : Nat)).toNat = 1074 by decide, h, ← u]
    rfl
  exact FP.Core.val64_inj (by rw [e]; intro z; cases z) (e.trans v.symm)
theorem d2l_ex {n : Nat} {z : UInt64} (hz : fp z) (hn : n < 2 ^ 62) (h : fU z = n * 2 ^ 1074) : FP.d2l z = lN n := by
  obtain ⟨c, q, v, f, g, u⟩ := fp_val hz
  show Int64.ofInt (FP.Core.toInt (-2 ^ 63) (2 ^ 63 - 1) (FP.Core.val64 z)) = _
  rw [v, FP.Core.toInt_zmag FP.Core.good_b64 f (by intro z; cases z) (by decide +kernel) (by decide +kernel) (by decide +kernel)]
  have e1 : FP.Core.zmag FP.Core.b64 (.fin false c q) = n * 2 ^ 1074 := by
    rw [← h, ← u]
    show c * 2 ^ (q - FP.Core.b64.qmin).toNat = _
    rw [FP.Core.qmin_b64]
    congr 2
  rw [e1, show (-FP.Core.b64.qmin).toNat = 1074 by decide, Nat.mul_div_cancel _ (Nat.two_pow_pos _)]
  have e2 : FP.Core.signed (FP.Core.sgn (.fin false c q)) n = (n : Int) := rfl
  rw [e2, show max (-2 ^ 63 : Int) (min (2 ^ 63 - 1) (n : Int)) = (n : Int) by omega]
  rfl
theorem units_eq (m : Nat) : FP.Core.unitsOf FP.Core.b64 m = if m < 2 ^ 52 then m else (2 ^ 52 + m % 2 ^ 52) * 2 ^ (m / 2 ^ 52 - 1) := by
  unfold FP.Core.unitsOf
  rw [FP.Core.tails_b64]
def p2 (e : Int) : UInt64 := UInt64.ofNat (if -1022 ≤ e then (e + 1023).toNat * 2 ^ 52 else 2 ^ (e + 1074).toNat)
theorem p2_nat {e : Int} (h1 : -1074 ≤ e) (h2 : e ≤ 1023) : (p2 e).toNat = if -1022 ≤ e then (e + 1023).toNat * 2 ^ 52 else 2 ^ (e + 1074).toNat := by
  unfold p2
  rw [UInt64.toNat_ofNat']
  apply Nat.mod_eq_of_lt
  split
  · omega
  · have : 2 ^ (e + 1074).toNat < 2 ^ 52 := Nat.pow_lt_pow_right (by decide) (by omega)
    exact Nat.lt_trans this (by decide)
theorem p2_fp {e : Int} (h1 : -1074 ≤ e) (h2 : e ≤ 1023) : fp (p2 e) := by
  unfold fp
  rw [p2_nat h1 h2]
  split
  · omega
  · have : 2 ^ (e + 1074).toNat < 2 ^ 52 := Nat.pow_lt_pow_right (by decide) (by omega)
    exact Nat.lt_trans this (by decide)
theorem p2_U {e : Int} (h1 : -1074 ≤ e) (h2 : e ≤ 1023) : fU (p2 e) = 2 ^ (e + 1074).toNat := by
  unfold fU
  rw [p2_nat h1 h2, units_eq]
  by_cases c : -1022 ≤ e
  · simp only [c, if_true]
    rw [if_neg (by omega), Nat.mul_mod_left, Nat.mul_div_cancel _ (by decide), Nat.add_zero, ← Nat.pow_add]
    congr 1
    omega
  · simp only [c, if_false]
    rw [if_pos (Nat.pow_lt_pow_right (by decide) (by omega))]
theorem p2_mul {a b : Int} (a1 : -1074 ≤ a) (a2 : a ≤ 1023) (b1 : -1074 ≤ b) (b2 : b ≤ 1023) (c1 : -1074 ≤ a + b) (c2 : a + b ≤ 1023) : FP.dmul (p2 a) (p2 b) = p2 (a + b) := by
  refine mul_ex (p2_fp a1 a2) (p2_fp b1 b2) (p2_fp c1 c2) ?_
  rw [p2_U a1 a2, p2_U b1 b2, p2_U c1 c2, ← Nat.pow_add, ← Nat.pow_add]
  congr 1
  omega
theorem fp_ninf {a : UInt64} (h : fp a) : ¬ fInf a := by
  unfold fp at h
  rintro (rfl | rfl) <;> revert h <;> decide
theorem pk_rem2 {a d : Nat} (ha : a < 2 ^ 31) (h0 : 0 < d) (hd : d < 2 ^ 31) : nI a - nI (a / d) * nI d = nI (a % d) := by
  rw [← pk_div ha h0 hd]
  exact pk_rem ha h0 hd
theorem pow_loop {μ : pm_M} (σ : Int) (hσ : σ = 1 ∨ σ = -1) {x0 : Int32} : ∀ (n a f : Nat) (fa : UInt64), n < 2 ^ 31 → 0 < f → (σ = 1 → n * f + a ≤ 1023) → (σ = -1 → n * f + a ≤ 1074) → (0 < n → fa = p2 (σ * f)) → pm_run mE_X0_powerOfTwo 28 [.int x0, .double (p2 (σ * a)), .retAddr 1, .double fa, .retAddr 1, .int (nI n)] [] μ = some (some (.double (p2 (σ * ((n * f + a : Nat) : Int)))), μ) := by
  intro n
  induction n using Nat.strongRecOn with
  | ind n ih =>
    intro a f fa hn hf hb1 hb2 hfa
    rw [x_X0_powerOfTwo_28]
    rw [x_X0_powerOfTwo_30]
    by_cases h0 : n = 0
    · subst h0
      have e : nI 0 ≤ 0 := by decide
      rw [if_pos e]
      simp only [x_X0_powerOfTwo_58, x_X0_powerOfTwo_59]
      simp
    · have hpos : 0 < n := by omega
      rw [if_neg (nI_nle hpos hn)]
      have hfa := hfa hpos
      subst hfa
      have hnf : f ≤ n * f := Nat.le_mul_of_pos_left f hpos
      have fr1 : -1074 ≤ σ * (f : Int) := by rcases hσ with rfl | rfl <;> first | omega | (have := hb1 rfl; omega) | (have := hb2 rfl; omega)
      have fr2 : σ * (f : Int) ≤ 1023 := by rcases hσ with rfl | rfl <;> first | omega | (have := hb1 rfl; omega) | (have := hb2 rfl; omega)
      have ar1 : -1074 ≤ σ * (a : Int) := by rcases hσ with rfl | rfl <;> first | omega | (have := hb1 rfl; omega) | (have := hb2 rfl; omega)
      have ar2 : σ * (a : Int) ≤ 1023 := by rcases hσ with rfl | rfl <;> first | omega | (have := hb1 rfl; omega) | (have := hb2 rfl; omega)
      have hff := p2_fp fr1 fr2
      have haf := p2_fp ar1 ar2
      have g1 : vf_n64 (FP.dmul (p2 (σ * (f : Int))) (p2 (σ * (f : Int)))) := fn_mul (fp_fn hff) (fp_fn hff) (fun z => fp_ninf hff z.2) (fun z => fp_ninf hff z.2)
      have g2 : vf_n64 (FP.dmul (p2 (σ * (a : Int))) (p2 (σ * (f : Int)))) := fn_mul (fp_fn haf) (fp_fn hff) (fun z => fp_ninf hff z.2) (fun z => fp_ninf haf z.2)
      have i2 : ¬ nI 2 = 0 := by decide
      have hdm := Nat.div_add_mod n 2
      have hm2 := Nat.mod_lt n (show 0 < 2 by decide)
      have hhalf : n / 2 * (2 * f) + (n % 2) * f = n * f := by
        rw [← Nat.mul_assoc, ← Nat.add_mul]
        congr 1
        omega
      have next : ∀ (a' : Nat) (fa' : UInt64), a' = a + n % 2 * f → (0 < n / 2 → fa' = p2 (σ * ((2 * f : Nat) : Int))) → pm_run mE_X0_powerOfTwo 28 [.int x0, .double (p2 (σ * (a' : Int))), .retAddr 1, .double fa', .retAddr 1, .int (nI (n / 2))] [] μ = some (some (.double (p2 (σ * ((n * f + a : Nat) : Int)))), μ) := by
        intro a' fa' ha' hfa'
        have := ih (n / 2) (by omega) a' (2 * f) fa' (by omega) (by omega) (fun z => by have := hb1 z; omega) (fun z => by have := hb2 z; omega) hfa'
        rw [this]
        have e : n / 2 * (2 * f) + a' = n * f + a := by omega
        rw [e]
      have hsq : 0 < n / 2 → FP.dmul (p2 (σ * (f : Int))) (p2 (σ * (f : Int))) = p2 (σ * ((2 * f : Nat) : Int)) := by
        intro z
        have h2f : 2 * f ≤ n / 2 * (2 * f) := Nat.le_mul_of_pos_left _ z
        have e : σ * (f : Int) + σ * (f : Int) = σ * ((2 * f : Nat) : Int) := by rw [Int.natCast_mul, ← Int.mul_add]; congr 1; omega
        rw [← e]
        refine p2_mul fr1 fr2 fr1 fr2 ?_ ?_
        · rcases hσ with rfl | rfl <;> first | omega | (have := hb1 rfl; omega) | (have := hb2 rfl; omega)
        · rcases hσ with rfl | rfl <;> first | omega | (have := hb1 rfl; omega) | (have := hb2 rfl; omega)
      simp (disch := first | exact i2 | exact g1 | exact g2) only [x_X0_powerOfTwo_33, x_X0_powerOfTwo_35, x_X0_powerOfTwo_36, x_X0_powerOfTwo_37, x_X0_powerOfTwo_38, x_X0_powerOfTwo_41, x_X0_powerOfTwo_42, x_X0_powerOfTwo_43, x_X0_powerOfTwo_44, x_X0_powerOfTwo_45, x_X0_powerOfTwo_46, x_X0_powerOfTwo_47, x_X0_powerOfTwo_48, x_X0_powerOfTwo_49, x_X0_powerOfTwo_51, x_X0_powerOfTwo_52, x_X0_powerOfTwo_53, x_X0_powerOfTwo_55, pk_rem2 hn (show 0 < 2 by decide) (show 2 < 2 ^ 31 by decide), pk_div hn (show 0 < 2 by decide) (show 2 < 2 ^ 31 by decide), nI_eq (show n % 2 < 2 ^ 31 by omega) (show 1 < 2 ^ 31 by decide)]
      by_cases hodd : n % 2 = 1
      · rw [if_pos hodd]
        have hnf2 : n % 2 * f = f := by rw [hodd, Nat.one_mul]
        have e : FP.dmul (p2 (σ * (a : Int))) (p2 (σ * (f : Int))) = p2 (σ * ((a + n % 2 * f : Nat) : Int)) := by
          have e1 : σ * (a : Int) + σ * (f : Int) = σ * ((a + n % 2 * f : Nat) : Int) := by rw [hnf2, ← Int.mul_add, Int.natCast_add]
          rw [← e1]
          refine p2_mul ar1 ar2 fr1 fr2 ?_ ?_
          · rcases hσ with rfl | rfl <;> first | omega | (have := hb1 rfl; omega) | (have := hb2 rfl; omega)
          · rcases hσ with rfl | rfl <;> first | omega | (have := hb1 rfl; omega) | (have := hb2 rfl; omega)
        rw [e]
        exact next _ _ rfl hsq
      · rw [if_neg hodd]
        have : n % 2 = 0 := by omega
        exact next a _ (by rw [this]; omega) hsq
theorem p2_0 : p2 0 = 4607182418800017408 := by decide
theorem p2_1 : p2 1 = 4611686018427387904 := by decide
theorem p2_m1 : p2 (-1) = 4602678819172646912 := by decide
theorem sX0_pow_pos {n : Nat} (h : n ≤ 1023) {μ : pm_M} : mF_X0_powerOfTwo [.int (nI n)] μ = some (some (.double (p2 n)), μ) := by
  rw [en_X0_powerOfTwo]
  have h1 : (0 : Int32) ≤ nI n := nI_pos' (by omega)
  simp only [x_X0_powerOfTwo_0, x_X0_powerOfTwo_1, x_X0_powerOfTwo_2, x_X0_powerOfTwo_3, x_X0_powerOfTwo_6, x_X0_powerOfTwo_9, x_X0_powerOfTwo_12, x_X0_powerOfTwo_15, x_X0_powerOfTwo_16, x_X0_powerOfTwo_17, x_X0_powerOfTwo_20, x_X0_powerOfTwo_21, x_X0_powerOfTwo_22, x_X0_powerOfTwo_25, x_X0_powerOfTwo_26, h1, if_true]
  have := pow_loop (μ := μ) 1 (Or.inl rfl) (x0 := nI n) n 0 1 4611686018427387904 (by omega) (by decide) (fun _ => by omega) (fun z => by omega) (fun _ => by rw [← p2_1]; rfl)
  rw [show (1 : Int) * ((0 : Nat) : Int) = 0 by decide, p2_0] at this
  rw [this]
  simp
theorem nI_negnat {n : Nat} (h : n < 2 ^ 31) : (-nI n < 0) = (0 < n) := by
  apply propext
  have := sb_nlt (a := n) (b := 0) h (by decide)
  rw [show -nI 0 = 0 by decide] at this
  exact this
theorem nI_negneg (n : Nat) : - -nI n = nI n := by
  exact Int32.neg_neg
theorem sX0_pow_neg {n : Nat} (h0 : 0 < n) (h : n ≤ 1074) {μ : pm_M} : mF_X0_powerOfTwo [.int (-nI n)] μ = some (some (.double (p2 (-(n : Int)))), μ) := by
  rw [en_X0_powerOfTwo]
  have h1 : ¬ (0 : Int32) ≤ -nI n := Int32.not_le.mpr (by rw [nI_negnat (by omega)]; exact h0)
  simp only [x_X0_powerOfTwo_0, x_X0_powerOfTwo_1, x_X0_powerOfTwo_2, x_X0_powerOfTwo_3, x_X0_powerOfTwo_6, x_X0_powerOfTwo_9, x_X0_powerOfTwo_12, x_X0_powerOfTwo_15, x_X0_powerOfTwo_16, x_X0_powerOfTwo_17, x_X0_powerOfTwo_20, x_X0_powerOfTwo_21, x_X0_powerOfTwo_22, x_X0_powerOfTwo_25, x_X0_powerOfTwo_26, h1, if_false, nI_negneg]
  have := pow_loop (μ := μ) (-1) (Or.inr rfl) (x0 := -nI n) n 0 1 4602678819172646912 (by omega) (by decide) (fun z => by omega) (fun z => by omega) (fun _ => by rw [← p2_m1]; rfl)
  rw [show (-1 : Int) * ((0 : Nat) : Int) = 0 by decide, p2_0] at this
  rw [this]
  simp
