/-! DOUBLES, 1: no NaN is made -/
theorem fn_iff (a : UInt64) : vf_n64 a ↔ FP.Core.val64 a ≠ .nan := by
  rw [FP.Core.ne_nan]
  unfold vf_n64
  rw [UInt64.le_iff_toNat_le, FP.Core.mask_toNat]
  exact Iff.rfl
abbrev fInf (d : UInt64) : Prop := d = 9218868437227405312 ∨ d = 18442240474082181120
theorem fInf_val {d : UInt64} (h : vf_n64 d) : fInf d ↔ ∃ s, FP.Core.val64 d = .inf s := by
  constructor
  · rintro (rfl | rfl)
    · exact ⟨false, by decide +kernel⟩
    · exact ⟨true, by decide +kernel⟩
  · rintro ⟨s, hs⟩
    cases s
    · left
      exact FP.Core.val64_inj (by rw [hs]; intro z; cases z) (hs.trans (show FP.Core.Datum.inf false = FP.Core.val64 9218868437227405312 by decide +kernel))
    · right
      exact FP.Core.val64_inj (by rw [hs]; intro z; cases z) (hs.trans (show FP.Core.Datum.inf true = FP.Core.val64 18442240474082181120 by decide +kernel))
theorem fFin_val {d : UInt64} (h : vf_n64 d) (hi : ¬ fInf d) : ∃ s c q, FP.Core.val64 d = .fin s c q := by
  cases hv : FP.Core.val64 d with
  | nan => exact absurd hv ((fn_iff d).mp h)
  | inf s => exact absurd ((fInf_val h).mpr ⟨s, hv⟩) hi
  | fin s c q => exact ⟨s, c, q, rfl⟩
/-- equal as numbers: of two zeros too -/
abbrev feq (a b : UInt64) : Prop := FP.dcmp a b = some .eq
abbrev flt (a b : UInt64) : Prop := FP.dcmp a b = some .lt
theorem round_ne_nan {d : FP.Core.Datum} (h : d ≠ .nan) : FP.Core.round FP.Core.b64 d ≠ .nan := by
  cases d with
  | nan => exact absurd rfl h
  | inf s => intro z; cases z
  | fin s c q => exact FP.Core.roundRatio_ne_nan _ _ _ _ _
theorem fn_add {a b : UInt64} (ha : vf_n64 a) (hb : vf_n64 b) (h : ¬ (fInf a ∧ fInf b ∧ ¬ feq a b)) : vf_n64 (FP.dadd a b) := by
  rw [fn_iff]
  show FP.Core.val64 (FP.Core.dadd a b) ≠ _
  rw [FP.Core.val64_dadd]
  refine round_ne_nan ?_
  cases hva : FP.Core.val64 a with
  | nan => exact absurd hva ((fn_iff a).mp ha)
  | inf s =>
    cases hvb : FP.Core.val64 b with
    | nan => exact absurd hvb ((fn_iff b).mp hb)
    | inf t =>
      have : s = t := by
        by_cases e : s = t
        · exact e
        · exfalso
          apply h
          refine ⟨(fInf_val ha).mpr ⟨s, hva⟩, (fInf_val hb).mpr ⟨t, hvb⟩, fun z => e ?_⟩
          have z2 : FP.Core.cmp FP.Core.b64 a.toNat b.toNat = some .eq := z
          have z3 : FP.Core.order (FP.Core.val64 a) (FP.Core.val64 b) = some .eq := z2
          rw [hva, hvb] at z3
          cases s <;> cases t <;> first | rfl | (exfalso; revert z3; decide)
      subst this
      simp [FP.Core.exactSum]
    | fin t c q => simp [FP.Core.exactSum]
  | fin s c q =>
    cases hvb : FP.Core.val64 b with
    | nan => exact absurd hvb ((fn_iff b).mp hb)
    | inf t => simp [FP.Core.exactSum]
    | fin t c q => simp [FP.Core.exactSum]
theorem fn_sub {a b : UInt64} (ha : vf_n64 a) (hb : vf_n64 b) (h : ¬ (fInf a ∧ feq a b)) : vf_n64 (FP.dsub a b) := by
  rw [fn_iff]
  show FP.Core.val64 (FP.Core.dsub a b) ≠ _
  rw [FP.Core.val64_dsub]
  refine round_ne_nan ?_
  cases hva : FP.Core.val64 a with
  | nan => exact absurd hva ((fn_iff a).mp ha)
  | inf s =>
    cases hvb : FP.Core.val64 b with
    | nan => exact absurd hvb ((fn_iff b).mp hb)
    | inf t =>
      have : s = !t := by
        by_cases e : s = t
        · exfalso
          apply h
          refine ⟨(fInf_val ha).mpr ⟨s, hva⟩, ?_⟩
          show FP.Core.order (FP.Core.val64 a) (FP.Core.val64 b) = some .eq
          rw [hva, hvb, e]
          cases t <;> decide
        · cases s <;> cases t <;> simp at e ⊢
      subst this
      simp [FP.Core.exactSum, FP.Core.negate]
    | fin t c q => simp [FP.Core.exactSum, FP.Core.negate]
  | fin s c q =>
    cases hvb : FP.Core.val64 b with
    | nan => exact absurd hvb ((fn_iff b).mp hb)
    | inf t => simp [FP.Core.exactSum, FP.Core.negate]
    | fin t c q => simp [FP.Core.exactSum, FP.Core.negate]
theorem feq0_val {a : UInt64} (ha : vf_n64 a) : feq a 0 ↔ ∃ s q, FP.Core.val64 a = .fin s 0 q := FP.Core.zero_iff
theorem fn_mul {a b : UInt64} (ha : vf_n64 a) (hb : vf_n64 b) (h1 : ¬ (feq a 0 ∧ fInf b)) (h2 : ¬ (feq b 0 ∧ fInf a)) : vf_n64 (FP.dmul a b) := by
  rw [fn_iff]
  show FP.Core.val64 (FP.Core.dmul a b) ≠ _
  rw [FP.Core.val64_dmul]
  refine round_ne_nan ?_
  cases hva : FP.Core.val64 a with
  | nan => exact absurd hva ((fn_iff a).mp ha)
  | inf s =>
    cases hvb : FP.Core.val64 b with
    | nan => exact absurd hvb ((fn_iff b).mp hb)
    | inf t => simp [FP.Core.exactProduct]
    | fin t c q =>
      have : c ≠ 0 := fun z => h2 ⟨(feq0_val hb).mpr ⟨t, q, by rw [hvb, z]⟩, (fInf_val ha).mpr ⟨s, hva⟩⟩
      simp [FP.Core.exactProduct, this]
  | fin s c q =>
    cases hvb : FP.Core.val64 b with
    | nan => exact absurd hvb ((fn_iff b).mp hb)
    | inf t =>
      have : c ≠ 0 := fun z => h1 ⟨(feq0_val ha).mpr ⟨s, q, by rw [hva, z]⟩, (fInf_val hb).mpr ⟨t, hvb⟩⟩
      simp [FP.Core.exactProduct, this]
    | fin t c q => simp [FP.Core.exactProduct]
theorem fn_div {a b : UInt64} (ha : vf_n64 a) (hb : vf_n64 b) (h1 : ¬ (feq a 0 ∧ feq b 0)) (h2 : ¬ (fInf a ∧ fInf b)) : vf_n64 (FP.ddiv a b) := by
  rw [fn_iff]
  show FP.Core.val64 (FP.Core.ddiv a b) ≠ _
  rw [FP.Core.val64_ddiv]
  cases hva : FP.Core.val64 a with
  | nan => exact absurd hva ((fn_iff a).mp ha)
  | inf s =>
    cases hvb : FP.Core.val64 b with
    | nan => exact absurd hvb ((fn_iff b).mp hb)
    | inf t => exact absurd ⟨(fInf_val ha).mpr ⟨s, hva⟩, (fInf_val hb).mpr ⟨t, hvb⟩⟩ h2
    | fin t c q => simp [FP.Core.quotient]
  | fin s c q =>
    cases hvb : FP.Core.val64 b with
    | nan => exact absurd hvb ((fn_iff b).mp hb)
    | inf t => simp [FP.Core.quotient]
    | fin t d r =>
      have e : FP.Core.quotient FP.Core.b64 (.fin s c q) (.fin t d r) = if d = 0 then (if c = 0 then .nan else .inf (s != t)) else FP.Core.roundRatio FP.Core.b64 (s != t) c d (q - r) := rfl
      rw [e]
      by_cases hd : d = 0
      · have : c ≠ 0 := fun z => h1 ⟨(feq0_val ha).mpr ⟨s, q, by rw [hva, z]⟩, (feq0_val hb).mpr ⟨t, r, by rw [hvb, hd]⟩⟩
        rw [if_pos hd, if_neg this]
        intro z
        cases z
      · rw [if_neg hd]
        exact FP.Core.roundRatio_ne_nan _ _ _ _ _
theorem fn_neg {a : UInt64} (ha : vf_n64 a) : vf_n64 (FP.dneg a) := by
  unfold vf_n64 at ha ⊢
  have : FP.dneg a &&& 0x7fffffffffffffff = a &&& 0x7fffffffffffffff := by
    unfold FP.dneg
    apply UInt64.toBitVec_inj.mp
    simp only [UInt64.toBitVec_and, UInt64.toBitVec_xor]
    ext i hi
    simp only [BitVec.getElem_and, BitVec.getElem_xor]
    by_cases e : i = 63
    · subst e
      have : (9223372036854775807 : UInt64).toBitVec.getLsbD 63 = false := by decide
      have h2 : (9223372036854775807 : UInt64).toBitVec[63] = false := by simpa [BitVec.getLsbD_eq_getElem hi] using this
      rw [h2]
      simp
    · have : (9223372036854775808 : UInt64).toBitVec[i] = false := by
        have : ∀ j, j < 64 → j ≠ 63 → (9223372036854775808 : UInt64).toBitVec.getLsbD j = false := by decide
        simpa [BitVec.getLsbD_eq_getElem hi] using this i hi e
      rw [this]
      simp
  rw [this]
  exact ha
theorem fn_i2d (x : Int32) : vf_n64 (FP.i2d x) := by
  rw [fn_iff]
  show FP.Core.val64 (FP.Core.i2d x) ≠ _
  rw [FP.Core.val64_i2d]
  exact round_ne_nan (by intro z; cases z)
theorem fn_l2d (x : Int64) : vf_n64 (FP.l2d x) := by
  rw [fn_iff]
  show FP.Core.val64 (FP.Core.l2d x) ≠ _
  rw [FP.Core.val64_l2d]
  exact round_ne_nan (by intro z; cases z)
/-- what a comparison's int says -/
theorem cl_gt (o : Option Ordering) : (0 < Op.cmpValue o .l) = (o = some .gt) := by
  cases o with
  | none => simp [Op.cmpValue] <;> try decide
  | some o => cases o <;> simp [Op.cmpValue] <;> try decide
theorem cl_le (o : Option Ordering) : (Op.cmpValue o .l ≤ 0) = (¬ o = some .gt) := by
  cases o with
  | none => simp [Op.cmpValue] <;> try decide
  | some o => cases o <;> simp [Op.cmpValue] <;> try decide
theorem cl_lt (o : Option Ordering) : (Op.cmpValue o .l < 0) = (¬ (o = some .gt ∨ o = some .eq)) := by
  cases o with
  | none => simp [Op.cmpValue] <;> try decide
  | some o => cases o <;> simp [Op.cmpValue] <;> try decide
theorem cl_ge (o : Option Ordering) : (0 ≤ Op.cmpValue o .l) = (o = some .gt ∨ o = some .eq) := by
  cases o with
  | none => simp [Op.cmpValue] <;> try decide
  | some o => cases o <;> simp [Op.cmpValue] <;> try decide
theorem cl_eq (o : Option Ordering) : (Op.cmpValue o .l = 0) = (o = some .eq) := by
  cases o with
  | none => simp [Op.cmpValue] <;> try decide
  | some o => cases o <;> simp [Op.cmpValue] <;> try decide
theorem cg_lt (o : Option Ordering) : (Op.cmpValue o .g < 0) = (o = some .lt) := by
  cases o with
  | none => simp [Op.cmpValue] <;> try decide
  | some o => cases o <;> simp [Op.cmpValue] <;> try decide
theorem cg_ge (o : Option Ordering) : (0 ≤ Op.cmpValue o .g) = (¬ o = some .lt) := by
  cases o with
  | none => simp [Op.cmpValue] <;> try decide
  | some o => cases o <;> simp [Op.cmpValue] <;> try decide
theorem cg_gt (o : Option Ordering) : (0 < Op.cmpValue o .g) = (¬ (o = some .lt ∨ o = some .eq)) := by
  cases o with
  | none => simp [Op.cmpValue] <;> try decide
  | some o => cases o <;> simp [Op.cmpValue] <;> try decide
theorem cg_le (o : Option Ordering) : (Op.cmpValue o .g ≤ 0) = (o = some .lt ∨ o = some .eq) := by
  cases o with
  | none => simp [Op.cmpValue] <;> try decide
  | some o => cases o <;> simp [Op.cmpValue] <;> try decide
theorem cg_eq (o : Option Ordering) : (Op.cmpValue o .g = 0) = (o = some .eq) := by
  cases o with
  | none => simp [Op.cmpValue] <;> try decide
  | some o => cases o <;> simp [Op.cmpValue] <;> try decide
theorem lc_cases (x y : Int64) : (x < y ∧ lg_cmp x y = -1) ∨ (x = y ∧ lg_cmp x y = 0) ∨ (y < x ∧ lg_cmp x y = 1) := by
  unfold lg_cmp
  by_cases h : x > y
  · exact Or.inr (Or.inr ⟨h, if_pos h⟩)
  · by_cases h2 : x = y
    · exact Or.inr (Or.inl ⟨h2, by rw [if_neg h, if_pos h2]⟩)
    · refine Or.inl ⟨?_, by rw [if_neg h, if_neg h2]⟩
      have h3 := mt Int64.toInt_inj.mp h2
      simp only [gt_iff_lt, Int64.lt_iff_toInt_lt] at h ⊢
      omega
theorem lc_gt (x y : Int64) : (0 < lg_cmp x y) = (y < x) := by
  rcases lc_cases x y with ⟨h, e⟩ | ⟨h, e⟩ | ⟨h, e⟩ <;> rw [e] <;> simp only [Int64.lt_iff_toInt_lt] at * <;> simp_all <;> (try decide) <;> omega
theorem lc_le (x y : Int64) : (lg_cmp x y ≤ 0) = (x ≤ y) := by
  rcases lc_cases x y with ⟨h, e⟩ | ⟨h, e⟩ | ⟨h, e⟩ <;> rw [e] <;> simp only [Int64.lt_iff_toInt_lt, Int64.le_iff_toInt_le] at * <;> simp_all <;> (try decide) <;> omega
theorem lc_lt (x y : Int64) : (lg_cmp x y < 0) = (x < y) := by
  rcases lc_cases x y with ⟨h, e⟩ | ⟨h, e⟩ | ⟨h, e⟩ <;> rw [e] <;> simp only [Int64.lt_iff_toInt_lt] at * <;> simp_all <;> (try decide) <;> omega
theorem lc_ge (x y : Int64) : (0 ≤ lg_cmp x y) = (y ≤ x) := by
  rcases lc_cases x y with ⟨h, e⟩ | ⟨h, e⟩ | ⟨h, e⟩ <;> rw [e] <;> simp only [Int64.lt_iff_toInt_lt, Int64.le_iff_toInt_le] at * <;> simp_all <;> (try decide) <;> omega
theorem lc_eq (x y : Int64) : (lg_cmp x y = 0) = (x = y) := by
  rcases lc_cases x y with ⟨h, e⟩ | ⟨h, e⟩ | ⟨h, e⟩ <;> rw [e] <;> simp only [Int64.lt_iff_toInt_lt] at * <;> simp_all <;> (try decide) <;> intro z <;> subst z <;> omega
