/-! LEAVES: small methods without memory -/
theorem nI_c {n : Nat} (h : n < 2 ^ 31) : nI n = nI 0 ↔ n = 0 := by rw [nI_eq h (by decide)]
/-- the value of a packed byte -/
def pv (v : Nat) : Nat := if v < 32 then v else (32 + v % 32) * 2 ^ (v / 32 - 1)
theorem pv_run : ∀ v, v < 256 → ¬ v < 32 → (nI 32 + (nI v - nI v / nI 32 * nI 32)) <<< ((nI v / nI 32 - nI 1) &&& 31) = nI (pv v) := by decide +kernel
theorem sX3_valueOf {v : Nat} (h : v < 256) {μ : pm_M} : mF_X3_valueOf [.int (nI v)] μ = some (some (.int (nI (pv v))), μ) := by
  rw [en_X3_valueOf]
  simp (disch := decide) only [x_X3_valueOf_0, x_X3_valueOf_1, x_X3_valueOf_3, x_X3_valueOf_6, x_X3_valueOf_7, x_X3_valueOf_10, x_X3_valueOf_12, x_X3_valueOf_13, x_X3_valueOf_15, x_X3_valueOf_16, x_X3_valueOf_17, x_X3_valueOf_18, x_X3_valueOf_20, x_X3_valueOf_21, x_X3_valueOf_22, x_X3_valueOf_23, x_X3_valueOf_24]
  by_cases c : v < 32
  · have e : ¬ nI 32 ≤ nI v := nI_ge c (by decide)
    simp [e, pv, c]
  · have e : nI 32 ≤ nI v := nI_le (by omega) (by omega)
    simp [e, pv_run v h c]
theorem sX7_isIn {x y : Int32} {μ : pm_M} : mF_X7_isIn [.int x, .int y] μ = some (some (.int (pb (0 ≤ x ∧ x < y))), μ) := by
  rw [en_X7_isIn]
  simp only [x_X7_isIn_0, x_X7_isIn_1, x_X7_isIn_4, x_X7_isIn_5, x_X7_isIn_6, x_X7_isIn_9, x_X7_isIn_10, x_X7_isIn_13, x_X7_isIn_14a, x_X7_isIn_14b, x_X7_isIn_14]
  unfold pb
  by_cases c1 : x < 0
  · have : ¬ 0 ≤ x := Int32.not_le.mpr c1
    simp [c1, this]
    rfl
  · have c1' : 0 ≤ x := Int32.not_lt.mp c1
    by_cases c2 : y ≤ x
    · have : ¬ x < y := Int32.not_lt.mpr c2
      simp [c1, c1', c2, this]
      rfl
    · have : x < y := Int32.not_le.mp c2
      simp [c1, c1', c2, this]
      rfl
theorem sX8_in {x y z : Int32} {μ : pm_M} : mF_X8_in [.int x, .int y, .int z] μ = some (some (.int (pb (y ≤ x ∧ x ≤ z))), μ) := by
  rw [en_X8_in]
  simp only [x_X8_in_0, x_X8_in_1, x_X8_in_2, x_X8_in_5, x_X8_in_6, x_X8_in_7, x_X8_in_10, x_X8_in_11, x_X8_in_14, x_X8_in_15a, x_X8_in_15b, x_X8_in_15]
  unfold pb
  by_cases c1 : x < y
  · have : ¬ y ≤ x := Int32.not_le.mpr c1
    simp [c1, this]
    rfl
  · have c1' : y ≤ x := Int32.not_lt.mp c1
    by_cases c2 : z < x
    · have : ¬ x ≤ z := Int32.not_le.mpr c2
      simp [c1, c1', c2, this]
      rfl
    · have : x ≤ z := Int32.not_lt.mp c2
      simp [c1, c1', c2, this]
      rfl
