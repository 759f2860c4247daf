/-! DOUBLES, 7: fromBits, toBits, and who asks -/
abbrev fnn (d : UInt64) : Prop := d &&& 0x7fffffffffffffff ≤ 0x7ff0000000000000
theorem toI_nat (d : UInt64) : d.toInt64.toBitVec.toNat = d.toNat := rfl
theorem toI_lN (d : UInt64) : d.toInt64 = lN d.toNat := by
  apply Int64.toBitVec_inj.mp
  apply BitVec.eq_of_toNat_eq
  rw [lN_nat d.toNat_lt, toI_nat]
theorem lN_and (n m k : Nat) (hn : n < 2 ^ 64) (hm : m = 2 ^ k - 1) (hk : k ≤ 63) : lN n &&& lN m = lN (n % 2 ^ k) := by
  have h63 : 2 ^ k ≤ 2 ^ 63 := Nat.pow_le_pow_right (by decide) hk
  have hp := Nat.two_pow_pos k
  have hmod : n % 2 ^ k < 2 ^ k := Nat.mod_lt _ hp
  apply Int64.toBitVec_inj.mp
  apply BitVec.eq_of_toNat_eq
  rw [Int64.toBitVec_and, BitVec.toNat_and, lN_nat hn, lN_nat (by omega), lN_nat (by omega), hm, Nat.and_two_pow_sub_one_eq_mod]
theorem lNle {a b : Nat} (ha : a < 2 ^ 63) (hb : b < 2 ^ 63) : (lN a ≤ lN b) = (a ≤ b) := propext (pk_lLE ha hb)
theorem fnn_nat (d : UInt64) : fnn d = (d.toNat % 2 ^ 63 ≤ 9218868437227405312) := by
  apply propext
  show d &&& 0x7fffffffffffffff ≤ 0x7ff0000000000000 ↔ _
  rw [UInt64.le_iff_toNat_le, FP.Core.mask_toNat]
  exact Iff.rfl
theorem maskI (d : UInt64) : d.toInt64 &&& 9223372036854775807 = lN (d.toNat % 2 ^ 63) := by
  rw [toI_lN, show (9223372036854775807 : Int64) = lN 9223372036854775807 from rfl]
  exact lN_and _ _ 63 d.toNat_lt (by decide) (by decide)
theorem endI : (9218868437227405312 : Int64) = lN 9218868437227405312 := rfl
section CONV
variable {μ : pm_M}
theorem sX0_isNumber {d : UInt64} : mF_X0_isNumber [.long d.toInt64] μ = some (some (.int (pb (fnn d))), μ) := by
  rw [en_X0_isNumber]
  simp only [x_X0_isNumber_0, x_X0_isNumber_1, x_X0_isNumber_4, x_X0_isNumber_5, x_X0_isNumber_8, x_X0_isNumber_9, x_X0_isNumber_12, x_X0_isNumber_13, x_X0_isNumber_16, x_X0_isNumber_17a, x_X0_isNumber_17b, x_X0_isNumber_17, lc_gt, lc_le, maskI, endI]
  have h := d.toNat_lt
  by_cases c : fnn d
  · have c2 := c
    rw [fnn_nat] at c2
    have : ¬ lN 9218868437227405312 < lN (d.toNat % 2 ^ 63) := by
      rw [pk_lLT (by decide) (by omega)]
      omega
    simp only [this, if_false, pb, c, if_true]
    rfl
  · have c2 := c
    rw [fnn_nat] at c2
    have : lN 9218868437227405312 < lN (d.toNat % 2 ^ 63) := by
      rw [pk_lLT (by decide) (by omega)]
      omega
    simp only [this, if_true, pb, c, if_false]
    rfl
def ob (d : UInt64) : Option UInt64 := if fnn d then some d else none
theorem ob_Vo (d : UInt64) : Vo (ob d) := by
  intro a h
  unfold ob at h
  split at h
  · rename_i c
    cases h
    exact c
  · cases h
theorem sX8_realOfBits {d : UInt64} : mF_X8_realOfBits [.long d.toInt64] μ = some (some (.double (mo (ob d))), μ) := by
  rw [en_X8_realOfBits]
  have h := d.toNat_lt
  by_cases c : fnn d
  · have c2 := c
    rw [fnn_nat] at c2
    have e : lN (d.toNat % 2 ^ 63) ≤ lN 9218868437227405312 := by
      rw [pk_lLE (by omega) (by decide)]
      omega
    have hs : vn_snl2d d.toInt64 = false := by
      unfold vn_snl2d
      have : ¬ (d &&& 0x7fffffffffffffff > 0x7ff0000000000000) := UInt64.not_lt.mpr c
      have e2 : d.toInt64.toUInt64 = d := rfl
      rw [e2]
      simp [this]
    simp (disch := exact hs) only [x_X8_realOfBits_0, x_X8_realOfBits_1, x_X8_realOfBits_4, x_X8_realOfBits_5, x_X8_realOfBits_8, x_X8_realOfBits_9, x_X8_realOfBits_12, x_X8_realOfBits_15, x_X8_realOfBits_18, x_X8_realOfBits_19, x_X8_realOfBits_22, lc_gt, lc_le, maskI, endI, e, if_true, Option.bind_some, Option.toList, List.cons_append, List.nil_append]
    rw [show ob d = some d from if_pos c]
    rfl
  · have c2 := c
    rw [fnn_nat] at c2
    have e : ¬ lN (d.toNat % 2 ^ 63) ≤ lN 9218868437227405312 := by
      rw [pk_lLE (by omega) (by decide)]
      omega
    simp only [x_X8_realOfBits_0, x_X8_realOfBits_1, x_X8_realOfBits_4, x_X8_realOfBits_5, x_X8_realOfBits_8, x_X8_realOfBits_9, x_X8_realOfBits_12, x_X8_realOfBits_15, x_X8_realOfBits_18, x_X8_realOfBits_19, x_X8_realOfBits_22, lc_gt, lc_le, maskI, endI, e, if_false, sX8_noReal, Option.bind_some, Option.toList, List.cons_append, List.nil_append]
    rw [show ob d = none from if_neg c]
    rfl
theorem fbE (d : UInt64) : (d.toInt64.toUInt64 >>> (Int64.toUInt64 (Int32.toInt64 (nI 52)) &&& Int64.toUInt64 63)).toInt64.toInt32 &&& nI 2047 = nI (d.toNat / 2 ^ 52 % 2048) := by
  rw [pk_and _ 11 (by decide)]
  congr 1
  have e1 : (Int64.toUInt64 (Int32.toInt64 (nI 52)) &&& Int64.toUInt64 63) = 52 := by decide
  rw [e1]
  have e2 : (d.toInt64.toUInt64 >>> (52 : UInt64)).toNat = d.toNat / 2 ^ 52 := by
    show (d >>> (52 : UInt64)).toNat = _
    rw [UInt64.toNat_shiftRight, Nat.shiftRight_eq_div_pow]
    rfl
  have e3 : (d.toInt64.toUInt64 >>> (52 : UInt64)).toInt64.toInt32.toBitVec.toNat = (d.toNat / 2 ^ 52) % 2 ^ 32 := by
    rw [Int64.toBitVec_toInt32, BitVec.signExtend_eq_setWidth_of_le _ (by decide), BitVec.toNat_setWidth, toI_nat, e2]
  rw [e3]
  have := d.toNat_lt
  omega
theorem fbTr (d : UInt64) : d.toInt64 &&& 4503599627370495 = lN (d.toNat % 2 ^ 52) := by
  rw [toI_lN, show (4503599627370495 : Int64) = lN 4503599627370495 from rfl]
  exact lN_and _ _ 52 d.toNat_lt (by decide) (by decide)
theorem nd_ex {n : Nat} (h : n < 2 ^ 53) : ∃ z, fp z ∧ fU z = n * 2 ^ 1074 ∧ FP.l2d (lN n) = z := by
  obtain ⟨z, z1, z2⟩ := nb_ex h (show 1074 ≤ 2045 by decide)
  exact ⟨z, z1, z2, l2d_ex z1 (by omega) z2.symm⟩
/-- the double with the sign taken off -/
def sz (d : UInt64) : UInt64 := UInt64.ofNat (d.toNat % 2 ^ 63)
theorem sz_nat (d : UInt64) : (sz d).toNat = d.toNat % 2 ^ 63 := by
  unfold sz
  rw [UInt64.toNat_ofNat']
  exact Nat.mod_eq_of_lt (by omega)
theorem sz_pos {d : UInt64} (h : d.toNat < 2 ^ 63) : sz d = d := by
  apply UInt64.toNat_inj.mp
  rw [sz_nat]
  omega
theorem sz_neg {d : UInt64} (h : 2 ^ 63 ≤ d.toNat) : FP.dneg (sz d) = d := by
  have hd := d.toNat_lt
  by_cases h0 : d.toNat = 2 ^ 63
  · have e : d = nz := UInt64.toNat_inj.mp h0
    rw [e]
    decide
  · apply key_inj
    · rw [key_neg]
      unfold FP.Core.dkey
      rw [sz_nat, if_neg (by omega), if_pos h]
      omega
    · rw [key_neg]
      unfold FP.Core.dkey
      rw [sz_nat, if_neg (by omega)]
      omega
theorem fb_mul {d : UInt64} (h : fnn d) {E T : Nat} (hE : E = d.toNat / 2 ^ 52 % 2048) (hT : T = d.toNat % 2 ^ 52) : (E = 0 → FP.dmul (FP.l2d (lN T)) (p2 (-1074)) = sz d) ∧ (0 < E → FP.dmul (FP.l2d (lN (T + 2 ^ 52))) (p2 ((E : Int) - 1075)) = sz d) := by
  have hd := d.toNat_lt
  have h2 := h
  rw [fnn_nat] at h2
  have hm : E * 2 ^ 52 + T = d.toNat % 2 ^ 63 := by omega
  refine ⟨fun z => ?_, fun z => ?_⟩
  · obtain ⟨y, y1, y2, y3⟩ := nd_ex (n := T) (by omega)
    rw [y3]
    refine mul_ex y1 (p2_fp (by decide) (by decide)) (by unfold fp; rw [sz_nat]; omega) ?_
    have e : fU (sz d) = T := by
      unfold fU
      rw [sz_nat, units_eq, if_pos (by omega)]
      omega
    rw [y2, e, p2_U (by decide) (by decide), show ((-1074 : Int) + 1074).toNat = 0 by decide, Nat.pow_zero, Nat.mul_one]
  · by_cases hi : E = 2047
    · have ht0 : T = 0 := by omega
      subst ht0
      subst hi
      have e : sz d = 9218868437227405312 := by
        apply UInt64.toNat_inj.mp
        rw [sz_nat]
        show _ = 9218868437227405312
        omega
      rw [e]
      decide +kernel
    · obtain ⟨y, y1, y2, y3⟩ := nd_ex (n := T + 2 ^ 52) (by omega)
      rw [y3]
      refine mul_ex y1 (p2_fp (by omega) (by omega)) (by unfold fp; rw [sz_nat]; omega) ?_
      have e : fU (sz d) = (2 ^ 52 + T) * 2 ^ (E - 1) := by
        unfold fU
        rw [sz_nat, units_eq, if_neg (by omega), show d.toNat % 2 ^ 63 % 2 ^ 52 = T by omega, show d.toNat % 2 ^ 63 / 2 ^ 52 = E by omega]
      rw [y2, e, p2_U (by omega) (by omega), show ((E : Int) - 1075 + 1074).toNat = E - 1 by omega, Nat.add_comm T, Nat.mul_assoc, Nat.mul_assoc, Nat.mul_comm (2 ^ 1074)]
theorem sz_fn {d : UInt64} (h : fnn d) : vf_n64 (sz d) := by
  rw [fn_iff, FP.Core.ne_nan, sz_nat]
  rw [fnn_nat] at h
  omega
theorem sX0_fromBits {d : UInt64} (h : fnn d) : mF_X0_fromBits [.long d.toInt64] μ = some (some (.double d), μ) := by
  rw [en_X0_fromBits]
  have hd := d.toNat_lt
  obtain ⟨E, hE⟩ : ∃ E, E = d.toNat / 2 ^ 52 % 2048 := ⟨_, rfl⟩
  obtain ⟨T, hT⟩ : ∃ T, T = d.toNat % 2 ^ 52 := ⟨_, rfl⟩
  obtain ⟨f0, f1⟩ := fb_mul h hE hT
  have hs := sz_fn h
  simp only [x_X0_fromBits_0, x_X0_fromBits_1, x_X0_fromBits_3, x_X0_fromBits_4, x_X0_fromBits_5, x_X0_fromBits_8, x_X0_fromBits_9, x_X0_fromBits_10, x_X0_fromBits_11, x_X0_fromBits_14, x_X0_fromBits_15, x_X0_fromBits_16, x_X0_fromBits_17, fbE, fbTr, ← hE, ← hT]
  have tail : pm_run mE_X0_fromBits 51 [.long d.toInt64, .retAddr 1, .int (nI E), .long (lN T), .retAddr 1, .double (sz d), .retAddr 1] [] μ = some (some (.double d), μ) := by
    simp only [x_X0_fromBits_51, x_X0_fromBits_52, x_X0_fromBits_53, x_X0_fromBits_54, x_X0_fromBits_57, x_X0_fromBits_59, x_X0_fromBits_60, x_X0_fromBits_63, x_X0_fromBits_65, lc_ge]
    by_cases hn : d.toInt64 < 0
    · have : ¬ (0 : Int64) ≤ d.toInt64 := Int64.not_le.mpr hn
      rw [toI_neg] at hn
      rw [if_neg this, sz_neg hn]
    · have : (0 : Int64) ≤ d.toInt64 := Int64.not_lt.mp hn
      rw [toI_neg] at hn
      rw [if_pos this, sz_pos (by omega)]
  by_cases hz : E = 0
  · subst hz
    have e := f0 rfl
    have hp := sX0_pow_neg (n := 1074) (μ := μ) (by decide) (by decide)
    rw [show ((1074 : Nat) : Int) = 1074 by rfl] at hp
    have hv : vf_n64 (FP.dmul (FP.l2d (lN T)) (p2 (-1074))) := by rw [e]; exact hs
    have hm : (-1074 : Int32) = -nI 1074 := by decide
    rw [if_pos (show nI 0 = 0 by decide)]
    simp (disch := exact hv) only [x_X0_fromBits_20, x_X0_fromBits_21, x_X0_fromBits_22, x_X0_fromBits_25, x_X0_fromBits_28, x_X0_fromBits_29, x_X0_fromBits_31, hm, hp, Option.bind_some, Option.toList, List.cons_append, List.nil_append, e]
    exact tail
  · have e := f1 (by omega)
    have hv : vf_n64 (FP.dmul (FP.l2d (lN (T + 2 ^ 52))) (p2 ((E : Int) - 1075))) := by rw [e]; exact hs
    have hE2 : E < 2048 := by omega
    have hp : mF_X0_powerOfTwo [.int (nI E - nI 1075)] μ = some (some (.double (p2 ((E : Int) - 1075))), μ) := by
      by_cases h3 : 1075 ≤ E
      · rw [pk_sub h3, sX0_pow_pos (by omega), show ((E - 1075 : Nat) : Int) = (E : Int) - 1075 by omega]
      · rw [nI_subneg (by omega), sX0_pow_neg (by omega) (by omega), show -((1075 - E : Nat) : Int) = (E : Int) - 1075 by omega]
    rw [if_neg (nI_ne0 (by omega) (by omega))]
    simp (disch := exact hv) only [x_X0_fromBits_34, x_X0_fromBits_35, x_X0_fromBits_38, x_X0_fromBits_39, x_X0_fromBits_40, x_X0_fromBits_41, x_X0_fromBits_44, x_X0_fromBits_45, x_X0_fromBits_48, x_X0_fromBits_49, show (4503599627370496 : Int64) = lN (2 ^ 52) from rfl, lN_add, hp, Option.bind_some, Option.toList, List.cons_append, List.nil_append, e]
    exact tail
theorem Qn_of {d : UInt64} (h : fp d) : ∃ c k, c < 2 ^ 53 ∧ k ≤ 2045 ∧ ((k = 0 ∧ c < 2 ^ 52) ∨ 2 ^ 52 ≤ c) ∧ Qn d (c * 2 ^ k) ∧ k * 2 ^ 52 + c = d.toNat := by
  have hh := h
  unfold fp at hh
  by_cases c : d.toNat < 2 ^ 52
  · refine ⟨d.toNat, 0, by omega, by omega, Or.inl ⟨rfl, c⟩, Or.inl ⟨h, ?_⟩, by omega⟩
    unfold fU
    rw [units_eq, if_pos c, Nat.pow_zero, Nat.mul_one]
  · refine ⟨2 ^ 52 + d.toNat % 2 ^ 52, d.toNat / 2 ^ 52 - 1, by omega, by omega, Or.inr (by omega), Or.inl ⟨h, ?_⟩, by omega⟩
    unfold fU
    rw [units_eq, if_neg c]
theorem sX0_bits1 {d : UInt64} (h : fp d) : mF_X0_bitsOfSize [.double d] μ = some (some (.long (lN d.toNat)), μ) := by
  obtain ⟨c, k, h1, h2, h3, h4, h5⟩ := Qn_of h
  rw [sX0_bitsOfSize h1 h2 h3 h4, h5]
theorem sX0_bits0 : mF_X0_bitsOfSize [.double nz] μ = some (some (.long (lN 0)), μ) := by
  rw [sX0_bitsOfSize (c := 0) (k := 0) (by decide) (by decide) (Or.inl ⟨rfl, by decide⟩) (Or.inr ⟨rfl, by decide⟩)]
theorem lN_or0 (n : Int64) : (0 : Int64) ||| n = n := by
  apply Int64.toBitVec_inj.mp
  simp
theorem lN_orS {n : Nat} (h : n < 2 ^ 63) : (-9223372036854775808 : Int64) ||| lN n = lN (2 ^ 63 + n) := by
  apply Int64.toBitVec_inj.mp
  apply BitVec.eq_of_toNat_eq
  rw [Int64.toBitVec_or, BitVec.toNat_or, lN_nat (by omega), lN_nat (by omega), show (-9223372036854775808 : Int64).toBitVec.toNat = 2 ^ 63 by decide]
  have := Nat.two_pow_add_eq_or_of_lt h 1
  rw [Nat.mul_one] at this
  exact this.symm
theorem sX0_toBits {d : UInt64} (h : vf_n64 d) : mF_X0_toBits [.double d] μ = some (some (.long d.toInt64), μ) := by
  rw [en_X0_toBits]
  have hd := d.toNat_lt
  have h2 := (fn_iff d).mp h
  rw [FP.Core.ne_nan] at h2
  simp only [x_X0_toBits_0, x_X0_toBits_1, x_X0_toBits_2, x_X0_toBits_3, x_X0_toBits_6, x_X0_toBits_7, x_X0_toBits_10, cg_lt, cl_lt, sX0_isNegativeZero h, Option.bind_some, Option.toList, List.cons_append, List.nil_append, pb_eq0, ite_not]
  have hlt := flt_key h fn_0
  rw [key0] at hlt
  by_cases hs : d.toNat < 2 ^ 63
  · have e1 : ¬ FP.dcmp d 0 = some .lt := by
      rw [hlt]
      unfold FP.Core.dkey
      rw [if_neg (by omega)]
      omega
    have e2 : ¬ d = nz := by
      rintro rfl
      exact absurd hs (by decide)
    rw [if_neg e1, if_neg e2]
    simp only [x_X0_toBits_19, x_X0_toBits_20, x_X0_toBits_21, x_X0_toBits_22, x_X0_toBits_25, x_X0_toBits_28, x_X0_toBits_29, x_X0_toBits_32, x_X0_toBits_33, x_X0_toBits_36, x_X0_toBits_37, x_X0_toBits_38, x_X0_toBits_41, x_X0_toBits_44, x_X0_toBits_45, sX0_isEndless h, sX0_sizeOf, e1, if_false, Option.bind_some, Option.toList, List.cons_append, List.nil_append, pb_eq0, ite_not]
    by_cases hi : fInf d
    · rw [if_pos hi]
      rcases hi with rfl | rfl
      · rfl
      · exact absurd hs (by decide)
    · rw [if_neg hi]
      have hf : fp d := by
        unfold fp
        have : d.toNat ≠ 9218868437227405312 := fun z => hi (Or.inl (UInt64.toNat_inj.mp z))
        omega
      simp only [x_X0_toBits_41, x_X0_toBits_44, x_X0_toBits_45, sX0_bits1 hf, Option.bind_some, Option.toList, List.cons_append, List.nil_append, lN_or0, ← toI_lN]
  · have sgn : pm_run mE_X0_toBits 13 [.double d, .retAddr 1, .retAddr 0, .retAddr 0] [] μ = pm_run mE_X0_toBits 20 [.double d, .retAddr 1, .retAddr 0, .retAddr 0] [.long (-9223372036854775808)] μ := by
      simp only [x_X0_toBits_13, x_X0_toBits_16]
    by_cases hz : d = nz
    · subst hz
      have e1 : ¬ FP.dcmp nz 0 = some .lt := by decide +kernel
      have hi : ¬ fInf nz := by decide
      rw [if_neg e1, if_pos rfl, sgn]
      simp only [x_X0_toBits_20, x_X0_toBits_21, x_X0_toBits_22, x_X0_toBits_25, x_X0_toBits_28, x_X0_toBits_29, x_X0_toBits_32, x_X0_toBits_33, x_X0_toBits_36, x_X0_toBits_37, x_X0_toBits_38, x_X0_toBits_41, x_X0_toBits_44, x_X0_toBits_45, sX0_isEndless h, hi, sX0_sizeOf, e1, if_false, Option.bind_some, Option.toList, List.cons_append, List.nil_append, pb_eq0, not_false_eq_true, if_true, sX0_bits0, lN_orS (show 0 < 2 ^ 63 by decide)]
      rfl
    · have e1 : FP.dcmp d 0 = some .lt := by
        rw [hlt]
        unfold FP.Core.dkey
        rw [if_pos (by omega)]
        have : d.toNat ≠ 2 ^ 63 := fun z => hz (UInt64.toNat_inj.mp z)
        omega
      rw [if_pos e1, sgn]
      simp only [x_X0_toBits_20, x_X0_toBits_21, x_X0_toBits_22, x_X0_toBits_25, x_X0_toBits_28, x_X0_toBits_29, x_X0_toBits_32, x_X0_toBits_33, x_X0_toBits_36, x_X0_toBits_37, x_X0_toBits_38, sX0_isEndless h, sX0_sizeOf, eq_true e1, if_true, Option.bind_some, Option.toList, List.cons_append, List.nil_append, pb_eq0, ite_not]
      have hn : FP.dneg d = sz d := by
        have e := sz_neg (d := d) (by omega)
        apply UInt64.toNat_inj.mp
        have k1 := key_neg (sz d)
        rw [e] at k1
        have k2 := key_neg d
        rw [k1] at k2
        have z1 : FP.Core.dkey (sz d) = (sz d).toNat := by
          unfold FP.Core.dkey
          rw [if_neg (by rw [sz_nat]; omega)]
        rw [Int.neg_neg, z1] at k2
        unfold FP.Core.dkey at k2
        have b1 := (FP.dneg d).toNat_lt
        have b2 := sz_nat d
        have b3 : d.toNat ≠ 2 ^ 63 := fun z => hz (UInt64.toNat_inj.mp z)
        split at k2 <;> omega
      by_cases hi : fInf d
      · rw [if_pos hi]
        rcases hi with rfl | rfl
        · exact absurd hs (by decide)
        · simp only [x_X0_toBits_45]
          rfl
      · rw [if_neg hi]
        have hf : fp (sz d) := by
          unfold fp
          rw [sz_nat]
          have : d.toNat ≠ 18442240474082181120 := fun z => hi (Or.inr (UInt64.toNat_inj.mp z))
          omega
        simp only [x_X0_toBits_41, x_X0_toBits_44, x_X0_toBits_45, hn, sX0_bits1 hf, Option.bind_some, Option.toList, List.cons_append, List.nil_append, sz_nat, lN_orS (show d.toNat % 2 ^ 63 < 2 ^ 63 by omega), show 2 ^ 63 + d.toNat % 2 ^ 63 = d.toNat by omega, ← toI_lN]
end CONV
