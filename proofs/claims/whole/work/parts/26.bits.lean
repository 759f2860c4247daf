/-! DOUBLES, 6: bits into doubles and back -/
theorem unitsI {a b : Nat} (h : FP.Core.unitsOf FP.Core.b64 a = FP.Core.unitsOf FP.Core.b64 b) : a = b := by
  have h1 := FP.Core.unitsOf_le_iff (f := FP.Core.b64) (m := a) (k := b)
  have h2 := FP.Core.unitsOf_le_iff (f := FP.Core.b64) (m := b) (k := a)
  omega
theorem fp_key {a : UInt64} (h : fp a) : FP.Core.dkey a = a.toNat := by
  unfold fp at h
  unfold FP.Core.dkey
  rw [if_neg (by omega)]
/-- every number of 53 digits is there -/
theorem nb_ex {c k : Nat} (hc : c < 2 ^ 53) (hk : k ≤ 2045) : ∃ z : UInt64, fp z ∧ fU z = c * 2 ^ k := by
  by_cases hs : c * 2 ^ k < 2 ^ 52
  · refine ⟨UInt64.ofNat (c * 2 ^ k), ?_, ?_⟩
    · unfold fp
      rw [UInt64.toNat_ofNat', Nat.mod_eq_of_lt (by omega)]
      omega
    · unfold fU
      rw [UInt64.toNat_ofNat', Nat.mod_eq_of_lt (by omega), units_eq, if_pos hs]
  · have hu : c * 2 ^ k ≠ 0 := by omega
    obtain ⟨L, hL⟩ : ∃ L, L = (c * 2 ^ k).log2 := ⟨_, rfl⟩
    have l1 : 2 ^ L ≤ c * 2 ^ k := by rw [hL]; exact Nat.log2_self_le hu
    have l2 : c * 2 ^ k < 2 ^ (L + 1) := by rw [hL]; exact Nat.lt_log2_self
    have l3 : 52 ≤ L := by
      have : 2 ^ 52 < 2 ^ (L + 1) := by omega
      have := (Nat.pow_lt_pow_iff_right (show 1 < 2 by decide)).mp this
      omega
    have l4 : L < k + 53 := by
      have : c * 2 ^ k < 2 ^ 53 * 2 ^ k := Nat.mul_lt_mul_of_pos_right hc (Nat.two_pow_pos _)
      rw [← Nat.pow_add] at this
      have := (Nat.pow_lt_pow_iff_right (show 1 < 2 by decide)).mp (Nat.lt_of_le_of_lt l1 this)
      omega
    obtain ⟨w, hw⟩ : ∃ w, w = c * 2 ^ (k - (L - 52)) := ⟨_, rfl⟩
    have e1 : w * 2 ^ (L - 52) = c * 2 ^ k := by
      rw [hw, Nat.mul_assoc, ← Nat.pow_add]
      congr 2
      omega
    have w1 : 2 ^ 52 ≤ w := by
      have : 2 ^ 52 * 2 ^ (L - 52) ≤ w * 2 ^ (L - 52) := by
        rw [e1, ← Nat.pow_add, show 52 + (L - 52) = L by omega]
        exact l1
      exact Nat.le_of_mul_le_mul_right this (Nat.two_pow_pos _)
    have w2 : w < 2 ^ 53 := by
      have : w * 2 ^ (L - 52) < 2 ^ 53 * 2 ^ (L - 52) := by
        rw [e1, ← Nat.pow_add, show 53 + (L - 52) = L + 1 by omega]
        exact l2
      exact Nat.lt_of_mul_lt_mul_right this
    refine ⟨UInt64.ofNat ((L - 51) * 2 ^ 52 + (w - 2 ^ 52)), ?_, ?_⟩
    · unfold fp
      rw [UInt64.toNat_ofNat', Nat.mod_eq_of_lt (by omega)]
      omega
    · unfold fU
      rw [UInt64.toNat_ofNat', Nat.mod_eq_of_lt (by omega), units_eq, if_neg (by omega)]
      have e2 : ((L - 51) * 2 ^ 52 + (w - 2 ^ 52)) % 2 ^ 52 = w - 2 ^ 52 := by omega
      have e3 : ((L - 51) * 2 ^ 52 + (w - 2 ^ 52)) / 2 ^ 52 = L - 51 := by omega
      rw [e2, e3, show 2 ^ 52 + (w - 2 ^ 52) = w by omega, show L - 51 - 1 = L - 52 by omega, e1]
/-- an unsigned number of u units, or minus zero -/
def Qn (s : UInt64) (u : Nat) : Prop := (fp s ∧ fU s = u) ∨ (s = nz ∧ u = 0)
theorem Qn_fn {s : UInt64} {u : Nat} (h : Qn s u) : vf_n64 s := by
  rcases h with h | h
  · exact fp_fn h.1
  · rw [h.1]; unfold vf_n64; decide
theorem fU_le {a b : UInt64} (ha : fp a) (hb : fp b) : (FP.Core.dkey a ≤ FP.Core.dkey b) = (fU a ≤ fU b) := by
  rw [fp_key ha, fp_key hb]
  unfold fU
  rw [FP.Core.unitsOf_le_iff]
  apply propext
  omega
theorem fU_lt {a b : UInt64} (ha : fp a) (hb : fp b) : (FP.Core.dkey a < FP.Core.dkey b) = (fU a < fU b) := by
  rw [fp_key ha, fp_key hb]
  unfold fU
  rw [FP.Core.unitsOf_lt_iff]
  apply propext
  omega
theorem nz_key : FP.Core.dkey nz = 0 := by decide
theorem p2_pos {e : Int} (h1 : -1074 ≤ e) (h2 : e ≤ 1023) : 0 < FP.Core.dkey (p2 e) := by
  rw [fp_key (p2_fp h1 h2), p2_nat h1 h2]
  split
  · have : 0 < (e + 1023).toNat := by omega
    omega
  · have := Nat.two_pow_pos (e + 1074).toNat
    omega
theorem Qn_ge {s : UInt64} {u : Nat} (h : Qn s u) {e : Int} (h1 : -1074 ≤ e) (h2 : e ≤ 1023) : (FP.dcmp s (p2 e) = some .gt ∨ FP.dcmp s (p2 e) = some .eq) = (2 ^ (e + 1074).toNat ≤ u) := by
  rw [ge_key (Qn_fn h) (fp_fn (p2_fp h1 h2))]
  rcases h with ⟨f, hu⟩ | ⟨rfl, rfl⟩
  · rw [fU_le (p2_fp h1 h2) f, p2_U h1 h2, hu]
  · have := p2_pos h1 h2
    have h3 := Nat.two_pow_pos (e + 1074).toNat
    rw [nz_key]
    apply propext
    omega
theorem Qn_lt {s : UInt64} {u : Nat} (h : Qn s u) {e : Int} (h1 : -1074 ≤ e) (h2 : e ≤ 1023) : (FP.dcmp s (p2 e) = some .lt) = (u < 2 ^ (e + 1074).toNat) := by
  rw [show (FP.dcmp s (p2 e) = some .lt) = _ from propext (flt_key (Qn_fn h) (fp_fn (p2_fp h1 h2)))]
  rcases h with ⟨f, hu⟩ | ⟨rfl, rfl⟩
  · rw [fU_lt f (p2_fp h1 h2), p2_U h1 h2, hu]
  · have := p2_pos h1 h2
    have h3 := Nat.two_pow_pos (e + 1074).toNat
    rw [nz_key]
    apply propext
    omega
theorem nz_mul {e : Int} (h1 : -1074 ≤ e) (h2 : e ≤ 1023) : FP.dmul nz (p2 e) = nz := by
  obtain ⟨c, q, v, f, g, u⟩ := fp_val (p2_fp h1 h2)
  have v0 : FP.Core.val64 nz = .fin true 0 FP.Core.b64.qmin := by decide +kernel
  have e1 : FP.Core.val64 (FP.Core.dmul nz (p2 e)) = .fin true 0 FP.Core.b64.qmin := by
    rw [FP.Core.val64_dmul, v, v0]
    show FP.Core.roundRatio FP.Core.b64 true (0 * c) 1 _ = _
    rw [Nat.zero_mul]
    rfl
  exact FP.Core.val64_inj (by rw [e1]; intro z; cases z) (e1.trans v0.symm)
theorem Qn_mul {s : UInt64} {c j j' : Nat} {e : Int} (h : Qn s (c * 2 ^ j)) (hc : c < 2 ^ 53) (hj : j' ≤ 2045) (he : (j' : Int) = j + e) (h1 : -1074 ≤ e) (h2 : e ≤ 1023) : Qn (FP.dmul s (p2 e)) (c * 2 ^ j') := by
  rcases h with ⟨f, hu⟩ | ⟨rfl, hu⟩
  · obtain ⟨z, z1, z2⟩ := nb_ex hc hj
    left
    have : FP.dmul s (p2 e) = z := by
      refine mul_ex f (p2_fp h1 h2) z1 ?_
      rw [hu, z2, p2_U h1 h2, Nat.mul_assoc, Nat.mul_assoc, ← Nat.pow_add, ← Nat.pow_add]
      congr 2
      omega
    rw [this]
    exact ⟨z1, z2⟩
  · right
    refine ⟨nz_mul h1 h2, ?_⟩
    have hp := Nat.two_pow_pos j
    have : c = 0 := by
      rcases Nat.mul_eq_zero.mp hu with z | z
      · exact z
      · omega
    rw [this, Nat.zero_mul]
theorem Qn_d2l {s : UInt64} {c : Nat} (h : Qn s (c * 2 ^ 1074)) (hc : c < 2 ^ 53) : FP.d2l s = lN c := by
  rcases h with ⟨f, hu⟩ | ⟨rfl, hu⟩
  · exact d2l_ex f (by omega) hu
  · have hp := Nat.two_pow_pos 1074
    have : c = 0 := by
      rcases Nat.mul_eq_zero.mp hu with z | z
      · exact z
      · omega
    rw [this]
    decide +kernel
section BITS
variable {μ : pm_M}
theorem cond1 {c j k t : Nat} (hc : c < 2 ^ 53) (hk : (k = 0 ∧ c < 2 ^ 52 ∧ j = 0) ∨ 2 ^ 52 ≤ c) : (2 ^ (((52 + t : Nat) : Int) + 1074).toNat ≤ c * 2 ^ j) = (1074 + t ≤ j) := by
  have e : (((52 + t : Nat) : Int) + 1074).toNat = 1126 + t := by omega
  rw [e]
  apply propext
  rcases hk with ⟨-, h2, rfl⟩ | h2
  · have : 2 ^ 52 ≤ 2 ^ (1126 + t) := Nat.pow_le_pow_right (by decide) (by omega)
    rw [Nat.pow_zero, Nat.mul_one]
    omega
  · constructor
    · intro h
      have l : c * 2 ^ j < 2 ^ 53 * 2 ^ j := Nat.mul_lt_mul_of_pos_right hc (Nat.two_pow_pos _)
      rw [← Nat.pow_add] at l
      have := (Nat.pow_lt_pow_iff_right (show 1 < 2 by decide)).mp (Nat.lt_of_le_of_lt h l)
      omega
    · intro h
      have l : 2 ^ 52 * 2 ^ j ≤ c * 2 ^ j := Nat.mul_le_mul_right _ h2
      rw [← Nat.pow_add] at l
      exact Nat.le_trans (Nat.pow_le_pow_right (by decide) (by omega)) l
theorem cond2 {c j t : Nat} (hc : c < 2 ^ 53) (ht : t ≤ 512) (hk : c < 2 ^ 52 ∨ 2 ^ 52 ≤ c) (hj : j + t ≤ 1074) : c * 2 ^ j < 2 ^ (((53 : Nat) : Int) - (t : Int) + 1074).toNat := by
  have e : (((53 : Nat) : Int) - (t : Int) + 1074).toNat = 1127 - t := by omega
  rw [e]
  have l : c * 2 ^ j < 2 ^ 53 * 2 ^ j := Nat.mul_lt_mul_of_pos_right hc (Nat.two_pow_pos _)
  rw [← Nat.pow_add] at l
  exact Nat.lt_of_lt_of_le l (Nat.pow_le_pow_right (by decide) (by omega))
theorem cond3 {c j t : Nat} (ht : t ≤ 512) (h2 : 2 ^ 52 ≤ c) (hj : ¬ j + t ≤ 1074) : ¬ c * 2 ^ j < 2 ^ (((53 : Nat) : Int) - (t : Int) + 1074).toNat := by
  have e : (((53 : Nat) : Int) - (t : Int) + 1074).toNat = 1127 - t := by omega
  rw [e]
  have l : 2 ^ 52 * 2 ^ j ≤ c * 2 ^ j := Nat.mul_le_mul_right _ h2
  rw [← Nat.pow_add] at l
  have : 2 ^ (1127 - t) ≤ 2 ^ (52 + j) := Nat.pow_le_pow_right (by decide) (by omega)
  omega
theorem tb_loop1 {d : UInt64} {c k : Nat} {a6 : Value} (hc : c < 2 ^ 53) (hk : k ≤ 2045) : ∀ (i j : Nat) (s : UInt64), i ≤ 9 → Qn s (c * 2 ^ j) → j ≤ k → ((k = 0 ∧ c < 2 ^ 52 ∧ j = 0) ∨ 2 ^ 52 ≤ c) → (j < 1074 + 2 ^ (i + 1)) → ∃ s', Qn s' (c * 2 ^ (min j 1074)) ∧ pm_run mE_X0_bitsOfSize 12 [.double d, .retAddr 1, .double s, .retAddr 1, .int (nI (1075 + k - j)), .int (nI (2 ^ i)), a6] [] μ = pm_run mE_X0_bitsOfSize 12 [.double d, .retAddr 1, .double s', .retAddr 1, .int (nI (1075 + k - min j 1074)), .int (nI 0), a6] [] μ := by
  intro i
  induction i with
  | zero =>
    intro j s hi hQ hjk hcase hj
    rw [x_X0_bitsOfSize_12, x_X0_bitsOfSize_14, if_neg (show ¬ nI (2 ^ 0) ≤ 0 by decide)]
    have i2 : ¬ nI 2 = 0 := by decide
    have hh : nI (2 ^ 0) / nI 2 = nI 0 := by decide
    simp (disch := first | exact i2) only [x_X0_bitsOfSize_17, x_X0_bitsOfSize_18, x_X0_bitsOfSize_20, x_X0_bitsOfSize_22, x_X0_bitsOfSize_23, x_X0_bitsOfSize_26, x_X0_bitsOfSize_27, nI_add, sX0_pow_pos (n := 52 + 2 ^ 0) (by decide), Option.bind_some, Option.toList, List.cons_append, List.nil_append, cl_lt, Qn_ge hQ (e := ((52 + 2 ^ 0 : Nat) : Int)) (by decide) (by decide), cond1 (t := 2 ^ 0) hc hcase]
    by_cases h : 1074 + 2 ^ 0 ≤ j
    · have hQ2 := Qn_mul (j' := j - 2 ^ 0) (e := -((2 ^ 0 : Nat) : Int)) hQ hc (by omega) (by omega) (by omega) (by omega)
      refine ⟨FP.dmul s (p2 (-((2 ^ 0 : Nat) : Int))), ?_, ?_⟩
      rotate_left
      · have hv := Qn_fn hQ2
        simp (disch := first | exact i2 | exact hv) only [h, not_true_eq_false, if_false, x_X0_bitsOfSize_30, x_X0_bitsOfSize_31, x_X0_bitsOfSize_33, x_X0_bitsOfSize_34, x_X0_bitsOfSize_37, x_X0_bitsOfSize_38, x_X0_bitsOfSize_39, x_X0_bitsOfSize_41, x_X0_bitsOfSize_43, x_X0_bitsOfSize_44, x_X0_bitsOfSize_46, x_X0_bitsOfSize_48, x_X0_bitsOfSize_49, x_X0_bitsOfSize_50, x_X0_bitsOfSize_52, nI_add, sX0_pow_neg (n := 2 ^ 0) (by decide) (by decide), Option.bind_some, Option.toList, List.cons_append, List.nil_append, hh]
        have e1 : min j 1074 = j - 2 ^ 0 := by omega
        have e2 : 1075 + k - j + 2 ^ 0 = 1075 + k - min j 1074 := by omega
        rw [e2]
      · rw [show min j 1074 = j - 2 ^ 0 by omega]
        exact hQ2
    · refine ⟨s, ?_, ?_⟩
      · rw [show min j 1074 = j by omega]
        exact hQ
      · simp (disch := first | exact i2) only [h, not_false_eq_true, if_true, x_X0_bitsOfSize_46, x_X0_bitsOfSize_48, x_X0_bitsOfSize_49, x_X0_bitsOfSize_50, x_X0_bitsOfSize_52, hh]
        rw [show min j 1074 = j by omega]
  | succ i ih =>
    intro j s hi hQ hjk hcase hj
    have hp : 2 ^ (i + 1) ≤ 512 := by
      have : 2 ^ (i + 1) ≤ 2 ^ 9 := Nat.pow_le_pow_right (by decide) hi
      omega
    have hp0 := Nat.two_pow_pos (i + 1)
    have hp1 : 2 ^ (i + 1) = 2 * 2 ^ i := by rw [Nat.pow_succ]; omega
    have hp2 : 2 ^ (i + 1 + 1) = 2 * 2 ^ (i + 1) := by rw [Nat.pow_succ]; omega
    rw [x_X0_bitsOfSize_12, x_X0_bitsOfSize_14, if_neg (nI_nle hp0 (by omega))]
    have i2 : ¬ nI 2 = 0 := by decide
    have hh : nI (2 ^ (i + 1)) / nI 2 = nI (2 ^ i) := by
      rw [pk_div (by omega) (by decide) (by decide)]
      congr 1
      omega
    simp (disch := first | exact i2) only [x_X0_bitsOfSize_17, x_X0_bitsOfSize_18, x_X0_bitsOfSize_20, x_X0_bitsOfSize_22, x_X0_bitsOfSize_23, x_X0_bitsOfSize_26, x_X0_bitsOfSize_27, nI_add, sX0_pow_pos (n := 52 + 2 ^ (i + 1)) (by omega), Option.bind_some, Option.toList, List.cons_append, List.nil_append, cl_lt, Qn_ge hQ (e := ((52 + 2 ^ (i + 1) : Nat) : Int)) (by omega) (by omega), cond1 (t := 2 ^ (i + 1)) hc hcase]
    by_cases h : 1074 + 2 ^ (i + 1) ≤ j
    · have hQ2 := Qn_mul (j' := j - 2 ^ (i + 1)) (e := -((2 ^ (i + 1) : Nat) : Int)) hQ hc (by omega) (by omega) (by omega) (by omega)
      have hv := Qn_fn hQ2
      obtain ⟨s', q1, q2⟩ := ih (j - 2 ^ (i + 1)) _ (by omega) hQ2 (by omega) (by rcases hcase with z | z; exact absurd z.2.2 (by omega); exact Or.inr z) (by omega)
      rw [show min (j - 2 ^ (i + 1)) 1074 = min j 1074 by omega] at q1 q2
      refine ⟨s', q1, ?_⟩
      simp (disch := first | exact i2 | exact hv) only [h, not_true_eq_false, if_false, x_X0_bitsOfSize_30, x_X0_bitsOfSize_31, x_X0_bitsOfSize_33, x_X0_bitsOfSize_34, x_X0_bitsOfSize_37, x_X0_bitsOfSize_38, x_X0_bitsOfSize_39, x_X0_bitsOfSize_41, x_X0_bitsOfSize_43, x_X0_bitsOfSize_44, x_X0_bitsOfSize_46, x_X0_bitsOfSize_48, x_X0_bitsOfSize_49, x_X0_bitsOfSize_50, x_X0_bitsOfSize_52, nI_add, sX0_pow_neg (n := 2 ^ (i + 1)) hp0 (by omega), Option.bind_some, Option.toList, List.cons_append, List.nil_append, hh]
      rw [show 1075 + k - j + 2 ^ (i + 1) = 1075 + k - (j - 2 ^ (i + 1)) by omega]
      exact q2
    · obtain ⟨s', q1, q2⟩ := ih j s (by omega) hQ hjk hcase (by omega)
      refine ⟨s', q1, ?_⟩
      simp (disch := first | exact i2) only [h, not_false_eq_true, if_true, x_X0_bitsOfSize_46, x_X0_bitsOfSize_48, x_X0_bitsOfSize_49, x_X0_bitsOfSize_50, x_X0_bitsOfSize_52, hh]
      exact q2
theorem nI_subneg {a b : Nat} (h : a ≤ b) : nI a - nI b = -nI (b - a) := by
  rw [← pk_sub h, Int32.neg_sub]
theorem sX0_pow_sub {a b : Nat} (ha : a ≤ 1023) (hb : b ≤ 1074 + a) : mF_X0_powerOfTwo [.int (nI a - nI b)] μ = some (some (.double (p2 ((a : Int) - b))), μ) := by
  by_cases h : b ≤ a
  · rw [pk_sub h, sX0_pow_pos (by omega), show ((a - b : Nat) : Int) = (a : Int) - b by omega]
  · rw [nI_subneg (by omega), sX0_pow_neg (by omega) (by omega), show -((b - a : Nat) : Int) = (a : Int) - b by omega]
def hf (i : Nat) : Nat := if i = 0 then 0 else 2 ^ (i - 1)
theorem tb_step2 {d : UInt64} {c k : Nat} {a6 : Value} (hc : c < 2 ^ 53) (hk : k ≤ 2045) (hcase : (k = 0 ∧ c < 2 ^ 52) ∨ 2 ^ 52 ≤ c) {i j : Nat} {s : UInt64} (hi : i ≤ 10) (hQ : Qn s (c * 2 ^ j)) (hj : j ≤ 1074) : ∃ s' a6', Qn s' (c * 2 ^ (if j + min (2 ^ i) 512 ≤ 1074 then j + min (2 ^ i) 512 else j)) ∧ pm_run mE_X0_bitsOfSize 60 [.double d, .retAddr 1, .double s, .retAddr 1, .int (nI (1075 + k - j)), .int (nI (2 ^ i)), a6] [] μ = pm_run mE_X0_bitsOfSize 60 [.double d, .retAddr 1, .double s', .retAddr 1, .int (nI (1075 + k - (if j + min (2 ^ i) 512 ≤ 1074 then j + min (2 ^ i) 512 else j))), .int (nI (hf i)), a6'] [] μ := by
  have hp : 2 ^ i ≤ 1024 := by
    have : 2 ^ i ≤ 2 ^ 10 := Nat.pow_le_pow_right (by decide) hi
    omega
  have hp0 := Nat.two_pow_pos i
  have i2 : ¬ nI 2 = 0 := by decide
  have hh : nI (2 ^ i) / nI 2 = nI (hf i) := by
    rw [pk_div (by omega) (by decide) (by decide)]
    congr 1
    unfold hf
    by_cases h0 : i = 0
    · rw [if_pos h0, h0]
    · rw [if_neg h0]
      have : 2 ^ i = 2 * 2 ^ (i - 1) := by rw [Nat.mul_comm, ← Nat.pow_succ]; congr 1; omega
      omega
  rw [x_X0_bitsOfSize_60, x_X0_bitsOfSize_62, if_neg (nI_nle hp0 (by omega))]
  obtain ⟨t, ht⟩ : ∃ t, t = min (2 ^ i) 512 := ⟨_, rfl⟩
  rw [← ht]
  have ht5 : t ≤ 512 := by omega
  have hstep : pm_run mE_X0_bitsOfSize 65 [.double d, .retAddr 1, .double s, .retAddr 1, .int (nI (1075 + k - j)), .int (nI (2 ^ i)), a6] [] μ = pm_run mE_X0_bitsOfSize 83 [.double d, .retAddr 1, .double s, .retAddr 1, .int (nI (1075 + k - j)), .int (nI (2 ^ i)), .int (nI t)] [] μ := by
    simp only [x_X0_bitsOfSize_65, x_X0_bitsOfSize_67, x_X0_bitsOfSize_70, x_X0_bitsOfSize_73, x_X0_bitsOfSize_76, x_X0_bitsOfSize_79, x_X0_bitsOfSize_81, nI_leI (show 2 ^ i < 2 ^ 31 by omega) (show 512 < 2 ^ 31 by decide)]
    by_cases h5 : 2 ^ i ≤ 512
    · rw [if_pos h5, show t = 2 ^ i by omega]
    · rw [if_neg h5, show t = 512 by omega]
  rw [hstep]
  simp only [x_X0_bitsOfSize_83, x_X0_bitsOfSize_84, x_X0_bitsOfSize_86, x_X0_bitsOfSize_88, x_X0_bitsOfSize_89, x_X0_bitsOfSize_92, x_X0_bitsOfSize_93, sX0_pow_sub (a := 53) (b := t) (by decide) (by omega), Option.bind_some, Option.toList, List.cons_append, List.nil_append, cg_ge, Qn_lt hQ (e := ((53 : Nat) : Int) - (t : Int)) (by omega) (by omega), ite_not]
  by_cases h : j + t ≤ 1074
  · have e1 : (if j + t ≤ 1074 then j + t else j) = j + t := if_pos h
    rw [e1]
    have hQ2 := Qn_mul (j' := j + t) (e := (t : Int)) hQ hc (by omega) (by omega) (by omega) (by omega)
    have hv := Qn_fn hQ2
    have hl := cond2 (t := t) hc ht5 (by rcases hcase with z | z; exact Or.inl z.2; exact Or.inr z) h
    have hx : ¬ nI (1075 + k - j) ≤ nI t := by
      rw [nI_leI (by omega) (by omega)]
      omega
    refine ⟨FP.dmul s (p2 (t : Int)), .int (nI t), hQ2, ?_⟩
    rw [if_pos hl]
    simp (disch := first | exact i2 | exact hv) only [x_X0_bitsOfSize_96, x_X0_bitsOfSize_98, x_X0_bitsOfSize_100, x_X0_bitsOfSize_103, x_X0_bitsOfSize_104, x_X0_bitsOfSize_106, x_X0_bitsOfSize_109, x_X0_bitsOfSize_110, x_X0_bitsOfSize_111, x_X0_bitsOfSize_113, x_X0_bitsOfSize_115, x_X0_bitsOfSize_116, x_X0_bitsOfSize_118, x_X0_bitsOfSize_120, x_X0_bitsOfSize_121, x_X0_bitsOfSize_122, x_X0_bitsOfSize_124, if_neg hx, hx, if_false, sX0_pow_pos (n := t) (by omega), Option.bind_some, Option.toList, List.cons_append, List.nil_append, hh, pk_sub (show t ≤ 1075 + k - j by omega)]
    rw [show 1075 + k - j - t = 1075 + k - (j + t) by omega]
  · have e1 : (if j + t ≤ 1074 then j + t else j) = j := if_neg h
    rw [e1]
    refine ⟨s, .int (nI t), hQ, ?_⟩
    have skip : pm_run mE_X0_bitsOfSize 118 [.double d, .retAddr 1, .double s, .retAddr 1, .int (nI (1075 + k - j)), .int (nI (2 ^ i)), .int (nI t)] [] μ = pm_run mE_X0_bitsOfSize 60 [.double d, .retAddr 1, .double s, .retAddr 1, .int (nI (1075 + k - j)), .int (nI (hf i)), .int (nI t)] [] μ := by
      simp (disch := first | exact i2) only [x_X0_bitsOfSize_118, x_X0_bitsOfSize_120, x_X0_bitsOfSize_121, x_X0_bitsOfSize_122, x_X0_bitsOfSize_124, hh]
    rw [skip]
    rcases hcase with ⟨hk0, h52⟩ | h52
    · have hx : nI (1075 + k - j) ≤ nI t := by
        rw [nI_leI (by omega) (by omega)]
        omega
      split
      · simp only [x_X0_bitsOfSize_96, x_X0_bitsOfSize_98, x_X0_bitsOfSize_100, hx, if_true]
        exact skip
      · rfl
    · rw [if_neg (cond3 ht5 h52 h)]
theorem tb_loop2 {d : UInt64} {c k : Nat} (hc : c < 2 ^ 53) (hk : k ≤ 2045) (hcase : (k = 0 ∧ c < 2 ^ 52) ∨ 2 ^ 52 ≤ c) : ∀ (i j : Nat) (s : UInt64) (a6 : Value), i ≤ 10 → Qn s (c * 2 ^ j) → j ≤ 1074 → 1074 < j + 2 ^ (i + 1) → ∃ s' a6', Qn s' (c * 2 ^ 1074) ∧ pm_run mE_X0_bitsOfSize 60 [.double d, .retAddr 1, .double s, .retAddr 1, .int (nI (1075 + k - j)), .int (nI (2 ^ i)), a6] [] μ = pm_run mE_X0_bitsOfSize 60 [.double d, .retAddr 1, .double s', .retAddr 1, .int (nI (1075 + k - 1074)), .int (nI 0), a6'] [] μ := by
  intro i
  induction i with
  | zero =>
    intro j s a6 hi hQ hj hr
    obtain ⟨s', a6', q1, q2⟩ := tb_step2 (μ := μ) (d := d) (a6 := a6) hc hk hcase hi hQ hj
    have e : (if j + min (2 ^ 0) 512 ≤ 1074 then j + min (2 ^ 0) 512 else j) = 1074 := by split <;> omega
    rw [e] at q1 q2
    exact ⟨s', a6', q1, q2⟩
  | succ i ih =>
    intro j s a6 hi hQ hj hr
    obtain ⟨s1, a61, q1, q2⟩ := tb_step2 (μ := μ) (d := d) (a6 := a6) hc hk hcase hi hQ hj
    have hp2 : 2 ^ (i + 1 + 1) = 2 * 2 ^ (i + 1) := by rw [Nat.pow_succ]; omega
    have hp1 : 2 ^ (i + 1) ≤ 1024 := by
      have : 2 ^ (i + 1) ≤ 2 ^ 10 := Nat.pow_le_pow_right (by decide) hi
      omega
    have h1024 : 512 < 2 ^ (i + 1) → 2 ^ (i + 1) = 1024 := by
      intro z
      have : 2 ^ 9 < 2 ^ (i + 1) := by omega
      have := (Nat.pow_lt_pow_iff_right (show 1 < 2 by decide)).mp this
      have : i + 1 = 10 := by omega
      rw [this]
    obtain ⟨j1, hj1⟩ : ∃ j1, j1 = (if j + min (2 ^ (i + 1)) 512 ≤ 1074 then j + min (2 ^ (i + 1)) 512 else j) := ⟨_, rfl⟩
    rw [← hj1] at q1 q2
    have b1 : j1 ≤ 1074 := by rw [hj1]; split <;> omega
    have b2 : 1074 < j1 + 2 ^ (i + 1) := by
      rw [hj1]
      split <;> omega
    obtain ⟨s', a6', q3, q4⟩ := ih j1 s1 a61 (by omega) q1 b1 b2
    refine ⟨s', a6', q3, ?_⟩
    have e : hf (i + 1) = 2 ^ i := by simp [hf]
    rw [e] at q2
    rw [q2, q4]
theorem lN_nat {n : Nat} (h : n < 2 ^ 64) : (lN n).toBitVec.toNat = n := by
  unfold lN
  rw [show (Int64.ofNat n).toBitVec = BitVec.ofNat 64 n from rfl, BitVec.toNat_ofNat]
  exact Nat.mod_eq_of_lt h
theorem shl52 : (Int32.toInt64 (nI 52) &&& 63).toBitVec.smod 64 = 52#64 := by decide +kernel
theorem lN_shl {k : Nat} (hk : k ≤ 2046) : lN k <<< (Int32.toInt64 (nI 52) &&& 63) = lN (k * 2 ^ 52) := by
  apply Int64.toBitVec_inj.mp
  apply BitVec.eq_of_toNat_eq
  rw [Int64.toBitVec_shiftLeft, shl52, BitVec.shiftLeft_eq', BitVec.toNat_shiftLeft, lN_nat (by omega), lN_nat (by omega), show (52#64).toNat = 52 from rfl, Nat.shiftLeft_eq]
  exact Nat.mod_eq_of_lt (by omega)
theorem sX0_bitsOfSize {s : UInt64} {c k : Nat} (hc : c < 2 ^ 53) (hk : k ≤ 2045) (hcase : (k = 0 ∧ c < 2 ^ 52) ∨ 2 ^ 52 ≤ c) (hQ : Qn s (c * 2 ^ k)) : mF_X0_bitsOfSize [.double s] μ = some (some (.long (lN (k * 2 ^ 52 + c))), μ) := by
  rw [en_X0_bitsOfSize]
  simp only [x_X0_bitsOfSize_0, x_X0_bitsOfSize_1, x_X0_bitsOfSize_2, x_X0_bitsOfSize_5, x_X0_bitsOfSize_7, x_X0_bitsOfSize_10]
  obtain ⟨s1, q1, q2⟩ := tb_loop1 (μ := μ) (d := s) (a6 := .retAddr 0) hc hk 9 k s (by decide) hQ (Nat.le_refl _) (by rcases hcase with z | z; exact Or.inl ⟨z.1, z.2, z.1⟩; exact Or.inr z) (by omega)
  rw [show 1075 + k - k = 1075 by omega, show (2 : Nat) ^ 9 = 512 by decide] at q2
  rw [q2, x_X0_bitsOfSize_12, x_X0_bitsOfSize_14, if_pos (show nI 0 ≤ 0 by decide), x_X0_bitsOfSize_55, x_X0_bitsOfSize_58]
  obtain ⟨s2, a6', q3, q4⟩ := tb_loop2 (μ := μ) (d := s) hc hk hcase 10 (min k 1074) s1 (.retAddr 0) (by decide) q1 (by omega) (by omega)
  rw [show (2 : Nat) ^ 10 = 1024 by decide] at q4
  rw [q4, x_X0_bitsOfSize_60, x_X0_bitsOfSize_62, if_pos (show nI 0 ≤ 0 by decide)]
  simp only [x_X0_bitsOfSize_127, x_X0_bitsOfSize_129, x_X0_bitsOfSize_130, x_X0_bitsOfSize_131, x_X0_bitsOfSize_132, x_X0_bitsOfSize_134, x_X0_bitsOfSize_135, x_X0_bitsOfSize_136, x_X0_bitsOfSize_137, x_X0_bitsOfSize_138, pk_sub (show 1 ≤ 1075 + k - 1074 by omega), show 1075 + k - 1074 - 1 = k by omega, nI_l (show k < 2 ^ 31 by omega), lN_shl (show k ≤ 2046 by omega), Qn_d2l q3 hc, lN_add]
end BITS
