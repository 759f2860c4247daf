/-! LENGTHS packed; what a kind takes -/
def bd (l : Nat) : Nat → Nat
  | 0 => 0
  | v + 1 => if pv (v + 1) ≤ l then v + 1 else bd l v
/-- the byte of a length -/
def bc (l : Nat) : Nat := bd l 255
theorem pv_succ : ∀ v, v < 255 → pv v < pv (v + 1) := by decide +kernel
theorem pv_mono : ∀ (k v : Nat), v + k ≤ 255 → pv v ≤ pv (v + k)
  | 0, _, _ => Nat.le_refl _
  | k + 1, v, h => Nat.le_trans (pv_mono k v (by omega)) (Nat.le_of_lt (pv_succ (v + k) (by omega)))
theorem bd_le (l : Nat) : ∀ v, bd l v ≤ v
  | 0 => Nat.le_refl _
  | v + 1 => by
    unfold bd
    split
    · exact Nat.le_refl _
    · exact Nat.le_succ_of_le (bd_le l v)
theorem bd_ok (l : Nat) : ∀ v, pv (bd l v) ≤ l
  | 0 => by show pv 0 ≤ l; exact Nat.zero_le l
  | v + 1 => by
    unfold bd
    split
    · assumption
    · exact bd_ok l v
theorem bd_max (l : Nat) : ∀ v w, bd l v < w → w ≤ v → l < pv w
  | 0, w, h1, h2 => by unfold bd at h1; omega
  | v + 1, w, h1, h2 => by
    unfold bd at h1
    split at h1
    · omega
    · rename_i hn
      by_cases e : w = v + 1
      · rw [e]; omega
      · exact bd_max l v w h1 (by omega)
theorem bc_le (l : Nat) : bc l ≤ 255 := bd_le l 255
theorem bc_iff {l w : Nat} (hw : w ≤ 255) : pv w ≤ l ↔ w ≤ bc l := by
  constructor
  · intro h
    apply Classical.byContradiction
    intro z
    have := bd_max l 255 w (by unfold bc at z; omega) hw
    omega
  · intro h
    have h1 := bd_ok l 255
    have h2 := pv_mono (bc l - w) w (by have := bc_le l; omega)
    rw [show w + (bc l - w) = bc l by omega] at h2
    exact Nat.le_trans h2 h1
/-- the value that a length counts as -/
def lv (l : Nat) : Nat := pv (bc l)
theorem pv_le : ∀ v, v < 256 → pv v ≤ 4032 := by decide +kernel
theorem lv_le (l : Nat) : lv l ≤ 4032 := pv_le _ (by have := bc_le l; omega)
theorem lv_pos {l : Nat} : 0 < lv l ↔ 0 < l := by
  constructor
  · intro h
    have := bd_ok l 255
    have e : lv l = pv (bd l 255) := rfl
    omega
  · intro h
    have h1 : 1 ≤ bc l := (bc_iff (by decide)).mp (show pv 1 ≤ l by exact h)
    have h2 := pv_mono (bc l - 1) 1 (by have := bc_le l; omega)
    rw [show 1 + (bc l - 1) = bc l by omega] at h2
    exact Nat.lt_of_lt_of_le (show 0 < pv 1 by decide) h2
section KIN
variable {μ : pm_M}
theorem sX8_valueOf {v : Nat} (h : v < 256) : mF_X8_valueOf [.int (nI v)] μ = some (some (.int (nI (pv v))), μ) := by
  rw [en_X8_valueOf]
  simp (disch := decide) only [x_X8_valueOf_0, x_X8_valueOf_1, x_X8_valueOf_3, x_X8_valueOf_6, x_X8_valueOf_7, x_X8_valueOf_10, x_X8_valueOf_12, x_X8_valueOf_13, x_X8_valueOf_15, x_X8_valueOf_16, x_X8_valueOf_17, x_X8_valueOf_18, x_X8_valueOf_20, x_X8_valueOf_21, x_X8_valueOf_22, x_X8_valueOf_23, x_X8_valueOf_24]
  by_cases c : v < 32
  · have e : ¬ nI 32 ≤ nI v := nI_ge c (by decide)
    simp [e, pv, c]
  · have e : nI 32 ≤ nI v := nI_le (by omega) (by omega)
    simp [e, pv_run v h c]
theorem byte_loop {l : Nat} (hl : l ≤ 100000) : ∀ v, v ≤ 255 → pm_run mE_X8_byteOf 4 [.int (nI l), .int (nI v)] [] μ = some (some (.int (nI (bd l v))), μ) := by
  intro v
  induction v with
  | zero =>
    intro hv
    simp only [x_X8_byteOf_4, x_X8_byteOf_5, sX8_valueOf (show 0 < 256 by decide), Option.bind_some, Option.toList, List.cons_append, List.nil_append, x_X8_byteOf_8, x_X8_byteOf_9]
    rw [if_pos (nI_le (show pv 0 ≤ l from Nat.zero_le l) (by omega))]
    simp only [x_X8_byteOf_18, x_X8_byteOf_19]
    rfl
  | succ v ih =>
    intro hv
    have hp := pv_le (v + 1) (by omega)
    simp only [x_X8_byteOf_4, x_X8_byteOf_5, sX8_valueOf (show v + 1 < 256 by omega), Option.bind_some, Option.toList, List.cons_append, List.nil_append, x_X8_byteOf_8, x_X8_byteOf_9, nI_leI (show pv (v + 1) < 2 ^ 31 by omega) (show l < 2 ^ 31 by omega)]
    unfold bd
    by_cases h : pv (v + 1) ≤ l
    · rw [if_pos h, if_pos h]
      simp only [x_X8_byteOf_18, x_X8_byteOf_19]
    · rw [if_neg h, if_neg h]
      simp only [x_X8_byteOf_12, x_X8_byteOf_15, pk_m1]
      exact ih (by omega)
theorem sX8_byteOf {l : Nat} (hl : l ≤ 100000) : mF_X8_byteOf [.int (nI l)] μ = some (some (.int (nI (bc l))), μ) := by
  rw [en_X8_byteOf]
  simp only [x_X8_byteOf_0, x_X8_byteOf_3]
  exact byte_loop hl 255 (by decide)
theorem code_loop {l : Nat} (hl : l ≤ 100000) : ∀ (i c : Nat), i ≤ 7 → c ≤ bc l → bc l < c + 2 * 2 ^ i → c + 2 * 2 ^ i ≤ 256 → pm_run mE_X3_codeOf 6 [.int (nI l), .int (nI c), .int (nI (2 ^ i))] [] μ = pm_run mE_X3_codeOf 6 [.int (nI l), .int (nI (bc l)), .int (nI 0)] [] μ := by
  intro i
  have i2 : ¬ nI 2 = 0 := by decide
  have one : ∀ (i c : Nat), i ≤ 7 → c + 2 * 2 ^ i ≤ 256 → pm_run mE_X3_codeOf 6 [.int (nI l), .int (nI c), .int (nI (2 ^ i))] [] μ = pm_run mE_X3_codeOf 6 [.int (nI l), .int (nI (if c + 2 ^ i ≤ bc l then c + 2 ^ i else c)), .int (nI (2 ^ i / 2))] [] μ := by
    intro i c hi hc
    have hp := Nat.two_pow_pos i
    have hpv := pv_le (c + 2 ^ i) (by omega)
    rw [x_X3_codeOf_6, x_X3_codeOf_7, if_neg (nI_nle hp (by omega))]
    simp (disch := exact i2) only [x_X3_codeOf_10, x_X3_codeOf_11, x_X3_codeOf_12, x_X3_codeOf_13, x_X3_codeOf_16, x_X3_codeOf_17, x_X3_codeOf_20, x_X3_codeOf_21, x_X3_codeOf_22, x_X3_codeOf_23, x_X3_codeOf_24, x_X3_codeOf_25, x_X3_codeOf_26, x_X3_codeOf_27, x_X3_codeOf_28, nI_add, sX3_valueOf (show c + 2 ^ i < 256 by omega), Option.bind_some, Option.toList, List.cons_append, List.nil_append, nI_ltI (show l < 2 ^ 31 by omega) (show pv (c + 2 ^ i) < 2 ^ 31 by omega), pk_div (show 2 ^ i < 2 ^ 31 by omega) (show 0 < 2 by decide) (show 2 < 2 ^ 31 by decide)]
    have hb := bc_iff (l := l) (w := c + 2 ^ i) (by omega)
    by_cases h : c + 2 ^ i ≤ bc l
    · rw [if_neg (by have := hb.mpr h; omega), if_pos h]
    · rw [if_pos (by have := mt hb.mp h; omega), if_neg h]
  induction i with
  | zero =>
    intro c hi h1 h2 h3
    have e : (if c + 2 ^ 0 ≤ bc l then c + 2 ^ 0 else c) = bc l := by split <;> omega
    rw [one 0 c (by decide) h3, e]
  | succ i ih =>
    intro c hi h1 h2 h3
    have hp1 : 2 ^ (i + 1) = 2 * 2 ^ i := by rw [Nat.pow_succ]; omega
    rw [one (i + 1) c hi h3, show 2 ^ (i + 1) / 2 = 2 ^ i by omega]
    exact ih _ (by omega) (by split <;> omega) (by split <;> omega) (by split <;> omega)
theorem sX3_codeOf {l : Nat} (hl : l ≤ 100000) : mF_X3_codeOf [.int (nI l)] μ = some (some (.int (nI (bc l))), μ) := by
  rw [en_X3_codeOf]
  simp only [x_X3_codeOf_0, x_X3_codeOf_1, x_X3_codeOf_2, x_X3_codeOf_5]
  have := code_loop (μ := μ) hl 7 0 (by decide) (Nat.zero_le _) (by have := bc_le l; omega) (by decide)
  rw [show (2 : Nat) ^ 7 = 128 by decide] at this
  rw [this, x_X3_codeOf_6, x_X3_codeOf_7, if_pos (show nI 0 ≤ 0 by decide)]
  simp only [x_X3_codeOf_31, x_X3_codeOf_32]
theorem sX2_hasField {k : Nat} (h : k < 2 ^ 31) : mF_X2_hasField [.int (nI k)] μ = some (some (.int (pb (1 ≤ k ∧ k ≤ 4))), μ) := by
  rw [en_X2_hasField]
  simp only [x_X2_hasField_0, x_X2_hasField_1, x_X2_hasField_2, x_X2_hasField_5, x_X2_hasField_6, x_X2_hasField_7, x_X2_hasField_10, x_X2_hasField_11, x_X2_hasField_14, x_X2_hasField_15a, x_X2_hasField_15b, x_X2_hasField_15, nI_ltI h (show 1 < 2 ^ 31 by decide), nI_ltI (show 4 < 2 ^ 31 by decide) h]
  unfold pb
  by_cases c1 : k < 1
  · rw [if_pos c1, if_neg (by omega)]; rfl
  · by_cases c2 : 4 < k
    · rw [if_neg c1, if_pos c2, if_neg (by omega)]; rfl
    · rw [if_neg c1, if_neg c2, if_pos (by omega)]; rfl
theorem sX2_gathers {k : Nat} (h : k < 2 ^ 31) : mF_X2_gathers [.int (nI k)] μ = some (some (.int (pb (6 ≤ k ∧ k ≤ 8))), μ) := by
  rw [en_X2_gathers]
  simp only [x_X2_gathers_0, x_X2_gathers_1, x_X2_gathers_3, x_X2_gathers_6, x_X2_gathers_7, x_X2_gathers_9, x_X2_gathers_12, x_X2_gathers_13, x_X2_gathers_16, x_X2_gathers_17a, x_X2_gathers_17b, x_X2_gathers_17, nI_ltI h (show 6 < 2 ^ 31 by decide), nI_ltI (show 8 < 2 ^ 31 by decide) h]
  unfold pb
  by_cases c1 : k < 6
  · rw [if_pos c1, if_neg (by omega)]; rfl
  · by_cases c2 : 8 < k
    · rw [if_neg c1, if_pos c2, if_neg (by omega)]; rfl
    · rw [if_neg c1, if_neg c2, if_pos (by omega)]; rfl
theorem sX2_hasX {k : Nat} (h : k < 2 ^ 31) : mF_X2_hasX [.int (nI k)] μ = some (some (.int (pb (9 ≤ k ∧ k ≤ 13))), μ) := by
  rw [en_X2_hasX]
  simp only [x_X2_hasX_0, x_X2_hasX_1, x_X2_hasX_3, x_X2_hasX_6, x_X2_hasX_7, x_X2_hasX_9, x_X2_hasX_12, x_X2_hasX_13, x_X2_hasX_16, x_X2_hasX_17a, x_X2_hasX_17b, x_X2_hasX_17, nI_ltI h (show 9 < 2 ^ 31 by decide), nI_ltI (show 13 < 2 ^ 31 by decide) h]
  unfold pb
  by_cases c1 : k < 9
  · rw [if_pos c1, if_neg (by omega)]; rfl
  · by_cases c2 : 13 < k
    · rw [if_neg c1, if_pos c2, if_neg (by omega)]; rfl
    · rw [if_neg c1, if_neg c2, if_pos (by omega)]; rfl
theorem sX2_failsBelow {k : Nat} (h : k < 2 ^ 31) : mF_X2_failsBelow [.int (nI k)] μ = some (some (.int (pb (6 ≤ k ∧ k ≤ 9))), μ) := by
  rw [en_X2_failsBelow]
  simp only [x_X2_failsBelow_0, x_X2_failsBelow_1, x_X2_failsBelow_3, x_X2_failsBelow_6, x_X2_failsBelow_7, x_X2_failsBelow_9, x_X2_failsBelow_12, x_X2_failsBelow_13, x_X2_failsBelow_16, x_X2_failsBelow_17a, x_X2_failsBelow_17b, x_X2_failsBelow_17, nI_ltI h (show 6 < 2 ^ 31 by decide), nI_ltI (show 9 < 2 ^ 31 by decide) h]
  unfold pb
  by_cases c1 : k < 6
  · rw [if_pos c1, if_neg (by omega)]; rfl
  · by_cases c2 : 9 < k
    · rw [if_neg c1, if_pos c2, if_neg (by omega)]; rfl
    · rw [if_neg c1, if_neg c2, if_pos (by omega)]; rfl
def c1d : UInt64 := 4607182418800017408
/-- not below zero; a share; above zero -/
abbrev nbl (p : UInt64) : Prop := fnn p ∧ (FP.dcmp p 0 = some .gt ∨ FP.dcmp p 0 = some .eq)
abbrev shr (p : UInt64) : Prop := nbl p ∧ (FP.dcmp p c1d = some .lt ∨ FP.dcmp p c1d = some .eq)
abbrev abv (p : UInt64) : Prop := fnn p ∧ FP.dcmp p 0 = some .gt
theorem sX2_isNotBelow {p : UInt64} : mF_X2_isNotBelow [.long p.toInt64] μ = some (some (.int (pb (nbl p))), μ) := by
  rw [en_X2_isNotBelow]
  simp only [x_X2_isNotBelow_0, x_X2_isNotBelow_1, sX0_isNumber, Option.bind_some, Option.toList, List.cons_append, List.nil_append, x_X2_isNotBelow_4, pb_eq0, ite_not]
  unfold pb
  by_cases c1 : fnn p
  · rw [if_pos c1]
    simp only [x_X2_isNotBelow_7, x_X2_isNotBelow_8, x_X2_isNotBelow_11, x_X2_isNotBelow_12, x_X2_isNotBelow_13, x_X2_isNotBelow_16, x_X2_isNotBelow_17, x_X2_isNotBelow_20, x_X2_isNotBelow_21a, x_X2_isNotBelow_21b, x_X2_isNotBelow_21, sX0_fromBits c1, Option.bind_some, Option.toList, List.cons_append, List.nil_append, cl_lt, ite_not]
    by_cases c2 : FP.dcmp p 0 = some .gt ∨ FP.dcmp p 0 = some .eq
    · rw [if_pos c2, if_pos ⟨c1, c2⟩]; rfl
    · rw [if_neg c2, if_neg (fun z => c2 z.2)]; rfl
  · rw [if_neg c1, if_neg (fun z => c1 z.1)]
    simp only [x_X2_isNotBelow_20, x_X2_isNotBelow_21a, x_X2_isNotBelow_21b, x_X2_isNotBelow_21]
    rfl
theorem sX2_isShare {p : UInt64} : mF_X2_isShare [.long p.toInt64] μ = some (some (.int (pb (shr p))), μ) := by
  rw [en_X2_isShare]
  simp only [x_X2_isShare_0, x_X2_isShare_1, sX2_isNotBelow, Option.bind_some, Option.toList, List.cons_append, List.nil_append, x_X2_isShare_4, pb_eq0, ite_not]
  unfold pb
  by_cases c1 : nbl p
  · rw [if_pos c1]
    simp only [x_X2_isShare_7, x_X2_isShare_8, x_X2_isShare_11, x_X2_isShare_12, x_X2_isShare_13, x_X2_isShare_16, x_X2_isShare_17, x_X2_isShare_20, x_X2_isShare_21a, x_X2_isShare_21b, x_X2_isShare_21, sX0_fromBits c1.1, Option.bind_some, Option.toList, List.cons_append, List.nil_append, cg_gt, ite_not, show (4607182418800017408 : UInt64) = c1d from rfl]
    by_cases c2 : FP.dcmp p c1d = some .lt ∨ FP.dcmp p c1d = some .eq
    · rw [if_pos c2, if_pos ⟨c1, c2⟩]; rfl
    · rw [if_neg c2, if_neg (fun z => c2 z.2)]; rfl
  · rw [if_neg c1, if_neg (fun z => c1 z.1)]
    simp only [x_X2_isShare_20, x_X2_isShare_21a, x_X2_isShare_21b, x_X2_isShare_21]
    rfl
theorem sX2_isAbove {p : UInt64} : mF_X2_isAbove [.long p.toInt64] μ = some (some (.int (pb (abv p))), μ) := by
  rw [en_X2_isAbove]
  simp only [x_X2_isAbove_0, x_X2_isAbove_1, sX0_isNumber, Option.bind_some, Option.toList, List.cons_append, List.nil_append, x_X2_isAbove_4, pb_eq0, ite_not]
  unfold pb
  by_cases c1 : fnn p
  · rw [if_pos c1]
    simp only [x_X2_isAbove_7, x_X2_isAbove_8, x_X2_isAbove_11, x_X2_isAbove_12, x_X2_isAbove_13, x_X2_isAbove_16, x_X2_isAbove_17, x_X2_isAbove_20, x_X2_isAbove_21a, x_X2_isAbove_21b, x_X2_isAbove_21, sX0_fromBits c1, Option.bind_some, Option.toList, List.cons_append, List.nil_append, cl_le, ite_not]
    by_cases c2 : FP.dcmp p 0 = some .gt
    · rw [if_pos c2, if_pos ⟨c1, c2⟩]; rfl
    · rw [if_neg c2, if_neg (fun z => c2 z.2)]; rfl
  · rw [if_neg c1, if_neg (fun z => c1 z.1)]
    simp only [x_X2_isAbove_20, x_X2_isAbove_21a, x_X2_isAbove_21b, x_X2_isAbove_21]
    rfl
/-- what a kind takes -/
abbrev tk (k : Nat) (p q : UInt64) : Prop := (k = 3 ∨ k = 9 → nbl p) ∧ (k = 4 → nbl p ∧ shr q) ∧ (k = 8 → shr p) ∧ (k = 10 ∨ k = 11 → fnn p ∧ abv q)
theorem sX2_takes {k : Nat} {p q : UInt64} (hk : k < 14) : mF_X2_takes [.int (nI k), .long p.toInt64, .long q.toInt64] μ = some (some (.int (pb (tk k p q))), μ) := by
  rw [en_X2_takes, x_X2_takes_0, x_X2_takes_1 (show k < 2 ^ 31 by omega)]
  have t76 : pm_run mE_X2_takes 102 [.int (nI k), .long p.toInt64, .retAddr 1, .long q.toInt64, .retAddr 1] [] μ = some (some (.int (nI 1)), μ) := by
    simp only [x_X2_takes_102, x_X2_takes_103a, x_X2_takes_103b, x_X2_takes_103]
  by_cases a3 : k = 3
  · subst a3
    simp (disch := exact pb_and _) only [show (3 : Nat) = 3 from rfl, if_true, x_X2_takes_52, x_X2_takes_53, x_X2_takes_56a, x_X2_takes_56b, x_X2_takes_56, sX2_isNotBelow, Option.bind_some, Option.toList, List.cons_append, List.nil_append]
    congr 4
    simp [tk]
  · by_cases a4 : k = 4
    · subst a4
      simp only [show ¬ (4 : Nat) = 3 by decide, if_false, if_true, x_X2_takes_57, x_X2_takes_58, x_X2_takes_61, x_X2_takes_64, x_X2_takes_65, x_X2_takes_68, x_X2_takes_71, x_X2_takes_72, x_X2_takes_75, x_X2_takes_76a, x_X2_takes_76b, x_X2_takes_76, sX2_isNotBelow, sX2_isShare, Option.bind_some, Option.toList, List.cons_append, List.nil_append, pb_eq0, ite_not]
      unfold pb
      by_cases c1 : nbl p
      · by_cases c2 : shr q
        · rw [if_pos c1, if_pos c2, if_pos ⟨fun h => absurd h (by decide), fun _ => ⟨c1, c2⟩, fun h => absurd h (by decide), fun h => absurd h (by decide)⟩]; rfl
        · rw [if_pos c1, if_neg c2, if_neg (fun z => c2 (z.2.1 rfl).2)]; rfl
      · rw [if_neg c1, if_neg (fun z => c1 (z.2.1 rfl).1)]; rfl
    · by_cases a8 : k = 8
      · subst a8
        simp (disch := exact pb_and _) only [show ¬ (8 : Nat) = 3 by decide, show ¬ (8 : Nat) = 4 by decide, show ¬ (8 : Nat) = 5 by decide, show ¬ (8 : Nat) = 6 by decide, show ¬ (8 : Nat) = 7 by decide, if_false, if_true, x_X2_takes_77, x_X2_takes_78, x_X2_takes_81a, x_X2_takes_81b, x_X2_takes_81, sX2_isShare, Option.bind_some, Option.toList, List.cons_append, List.nil_append]
        congr 4
        simp [tk]
      · by_cases a9 : k = 9
        · subst a9
          simp (disch := exact pb_and _) only [show ¬ (9 : Nat) = 3 by decide, show ¬ (9 : Nat) = 4 by decide, show ¬ (9 : Nat) = 5 by decide, show ¬ (9 : Nat) = 6 by decide, show ¬ (9 : Nat) = 7 by decide, show ¬ (9 : Nat) = 8 by decide, if_false, if_true, x_X2_takes_52, x_X2_takes_53, x_X2_takes_56a, x_X2_takes_56b, x_X2_takes_56, sX2_isNotBelow, Option.bind_some, Option.toList, List.cons_append, List.nil_append]
          congr 4
          simp [tk]
        · by_cases a10 : k = 10 ∨ k = 11
          · have run : pm_run mE_X2_takes 82 [.int (nI k), .long p.toInt64, .retAddr 1, .long q.toInt64, .retAddr 1] [] μ = some (some (.int (pb (tk k p q))), μ) := by
              simp only [x_X2_takes_82, x_X2_takes_83, x_X2_takes_86, x_X2_takes_89, x_X2_takes_90, x_X2_takes_93, x_X2_takes_96, x_X2_takes_97, x_X2_takes_100, x_X2_takes_101a, x_X2_takes_101b, x_X2_takes_101, sX0_isNumber, sX2_isAbove, Option.bind_some, Option.toList, List.cons_append, List.nil_append, pb_eq0, ite_not]
              unfold pb
              have e : tk k p q = (fnn p ∧ abv q) := by simp [tk, a3, a4, a8, a9, a10]
              simp only [e]
              by_cases c1 : fnn p
              · by_cases c2 : abv q
                · rw [if_pos c1, if_pos c2, if_pos ⟨c1, c2⟩]; rfl
                · rw [if_pos c1, if_neg c2, if_neg (fun z => c2 z.2)]; rfl
              · rw [if_neg c1, if_neg (fun z => c1 z.1)]; rfl
            rw [if_neg a3, if_neg a4, if_neg (by omega), if_neg (by omega), if_neg (by omega), if_neg a8, if_neg a9]
            rcases a10 with e | e
            · rw [if_pos e]; exact run
            · rw [if_neg (by omega), if_pos e]; exact run
          · rw [if_neg a3, if_neg a4]
            have e : tk k p q = True := by simp [tk, a3, a4, a8, a9, a10]
            have e2 : pb (tk k p q) = nI 1 := by unfold pb; rw [if_pos (by rw [e]; trivial)]; rfl
            rw [e2, t76, if_neg a8, if_neg a9, if_neg (fun z => a10 (Or.inl z)), if_neg (fun z => a10 (Or.inr z))]
            split
            · rfl
            · split
              · rfl
              · split <;> rfl
end KIN
