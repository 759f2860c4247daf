/-! DOUBLES, 8: the roots of 0 .. 1000, digit by digit: two ways, as numbers -/
def rc_d (c d : Nat) : Nat := if d < 5 then c / 4 ^ (4 - d) % 4 else 0
def rc_s (c d r s : Nat) : Nat × Nat := if r * 4 + 1 ≤ s * 4 + rc_d c d then (r * 2 + 1, s * 4 + rc_d c d - (r * 4 + 1)) else (r * 2, s * 4 + rc_d c d)
def rc (c : Nat) : Nat → Nat → Nat → Nat → Nat → Nat × Nat
  | 0, _, r, _, h => (r, h)
  | f + 1, d, r, s, h => if r < 9007199254740992 then rc c f (d + 1) (rc_s c d r s).1 (rc_s c d r s).2 (if d < 5 then h else h + 1) else (r, h)
def rc_v (c : Nat) : UInt64 := FP.dmul (FP.l2d (lN (((rc c 60 0 0 0 0).1 + 1) / 2))) (p2 (1 - ((rc c 60 0 0 0 0).2 : Int)))
def rm : Nat → Nat → Nat → Nat → Nat × Nat
  | 0, m, q, s => if s + 1 ≤ m then ((m - (s + 1)) * 2, q + 1) else (m * 2, q)
  | i + 1, m, q, s => if s + 2 ^ (i + 1) ≤ m then rm i ((m - (s + 2 ^ (i + 1))) * 2) (q + 2 ^ (i + 1)) (s + 2 ^ (i + 1) + 2 ^ (i + 1)) else rm i (m * 2) q s
def rm_e (n : Nat) : Nat := n / 2 ^ 52 - 1023
def rm_m (n : Nat) : Nat := (2 ^ 52 + n % 2 ^ 52) * (if rm_e n % 2 = 1 then 2 else 1) * 2
def rm_q (m q : Nat) : Nat := if m = 0 then q else q + q % 2
def rm_v (n : Nat) : Nat := rm_q (rm 53 (rm_m n) 0 0).1 (rm 53 (rm_m n) 0 0).2 / 2 + 4602678819172646912 + rm_e n / 2 * 2 ^ 52
def r_n (c : Nat) : Nat := (FP.i2d (nI c)).toNat
def r_ok (c : Nat) : Bool := decide ((rc_v c).toNat = rm_v (r_n c)) && decide (rm_v (r_n c) < 9218868437227405312) && decide (1023 ≤ r_n c / 2 ^ 52) && decide (r_n c / 2 ^ 52 < 1040) && decide ((rc c 60 0 0 0 0).1 < 2 ^ 54) && decide ((rc c 60 0 0 0 0).2 ≤ 60)
theorem r_ok_0 : ((List.range 201).map (· + 0)).all (fun c => c == 0 || r_ok c) = true := by decide +kernel
theorem r_ok_1 : ((List.range 201).map (· + 200)).all (fun c => c == 0 || r_ok c) = true := by decide +kernel
theorem r_ok_2 : ((List.range 201).map (· + 400)).all (fun c => c == 0 || r_ok c) = true := by decide +kernel
theorem r_ok_3 : ((List.range 201).map (· + 600)).all (fun c => c == 0 || r_ok c) = true := by decide +kernel
theorem r_ok_4 : ((List.range 201).map (· + 800)).all (fun c => c == 0 || r_ok c) = true := by decide +kernel
theorem r_oks {c : Nat} (h0 : 0 < c) (h : c ≤ 1000) : r_ok c = true := by
  have key : ∀ (b : Nat), ((List.range 201).map (· + b)).all (fun c => c == 0 || r_ok c) = true → b ≤ c → c ≤ b + 200 → r_ok c = true := by
    intro b hb h1 h2
    have := List.all_eq_true.mp hb c (List.mem_map.mpr ⟨c - b, List.mem_range.mpr (by omega), by omega⟩)
    simp only [Bool.or_eq_true, beq_iff_eq] at this
    rcases this with z | z
    · omega
    · exact z
  by_cases c1 : c ≤ 200
  · exact key 0 r_ok_0 (by omega) (by omega)
  · by_cases c2 : c ≤ 400
    · exact key 200 r_ok_1 (by omega) (by omega)
    · by_cases c3 : c ≤ 600
      · exact key 400 r_ok_2 (by omega) (by omega)
      · by_cases c4 : c ≤ 800
        · exact key 600 r_ok_3 (by omega) (by omega)
        · exact key 800 r_ok_4 (by omega) (by omega)
theorem lN_shr {a d : Nat} {D : Int64} (hD : (D.toBitVec.smod 64).toNat = d) (h : a < 2 ^ 63) : lN a >>> D = lN (a / 2 ^ d) := by
  have hd : a / 2 ^ d ≤ a := Nat.div_le_self _ _
  apply Int64.toInt_inj.mp
  have e : (lN a >>> D).toInt = (lN a).toInt >>> d := by
    rw [← hD]
    exact BitVec.toInt_sshiftRight ..
  rw [e, Int.shiftRight_eq_div_pow, pk_lT h, pk_lT (by omega)]
  rfl
theorem lN_shl1 {a : Nat} (h : a < 2 ^ 62) : lN a <<< (Int32.toInt64 (nI 1) &&& 63) = lN (a * 2) := by
  apply Int64.toBitVec_inj.mp
  apply BitVec.eq_of_toNat_eq
  rw [Int64.toBitVec_shiftLeft, show (Int32.toInt64 (nI 1) &&& 63).toBitVec.smod 64 = 1#64 by decide +kernel, BitVec.shiftLeft_eq', BitVec.toNat_shiftLeft, lN_nat (by omega), lN_nat (by omega), show (1#64).toNat = 1 from rfl, Nat.shiftLeft_eq]
  exact Nat.mod_eq_of_lt (by omega)
theorem shr1 : ((Int32.toInt64 (nI 1) &&& 63).toBitVec.smod 64).toNat = 1 := by decide +kernel
theorem shr52 : ((Int32.toInt64 (nI 52) &&& 63).toBitVec.smod 64).toNat = 52 := by decide +kernel
theorem lN_div2 {a : Nat} (h : a < 2 ^ 63) : lN a / lN 2 = lN (a / 2) := pk_lDiv h (by decide) (by decide)
theorem lq_0 : (0 : Int64) = lN 0 := rfl
theorem lq_1 : (1 : Int64) = lN 1 := rfl
theorem lq_2 : (2 : Int64) = lN 2 := rfl
theorem lq_4 : (4 : Int64) = lN 4 := rfl
theorem lq_53 : (9007199254740992 : Int64) = lN 9007199254740992 := rfl
section ROOT
variable {μ : pm_M}
theorem rc_bit {c d : Nat} (hc : c ≤ 1000) (hd : d < 5) : (nI c >>> ((nI 2 * (nI 4 - nI d)) &&& 31)) &&& nI 3 = nI (rc_d c d) := by
  have key : ∀ k, ((((nI 2 * (nI 4 - nI d)) &&& 31).toBitVec.smod 32).toNat = k) → (nI c >>> ((nI 2 * (nI 4 - nI d)) &&& 31)) &&& nI 3 = nI (c / 2 ^ k % 4) := by
    intro k hk
    have hl : c / 2 ^ k ≤ c := Nat.div_le_self _ _
    rw [pk_shrN (by omega) _ k hk, pk_andN (by omega) 2 (by decide)]
  unfold rc_d
  rw [if_pos hd]
  match d, hd with
  | 0, _ => rw [key 8 (by decide)]
  | 1, _ => rw [key 6 (by decide)]
  | 2, _ => rw [key 4 (by decide)]
  | 3, _ => rw [key 2 (by decide)]
  | 4, _ => rw [key 0 (by decide)]
theorem rc_d_lt (c d : Nat) : rc_d c d < 4 := by
  unfold rc_d
  split
  · omega
  · decide
theorem rc_run {c : Nat} (hc : c ≤ 1000) : ∀ (f d r s h : Nat) (a7 a8 a9 : Value), f + d = 60 → h ≤ d → s ≤ 2 * r → r < 2 ^ 54 → ∃ s' d' b7 b8 b9, pm_run mE_X0_rootOf 16 [.int (nI c), .long (lN r), .retAddr 1, .long (lN s), .retAddr 1, .int (nI h), .int (nI d), a7, a8, a9] [] μ = pm_run mE_X0_rootOf 116 [.int (nI c), .long (lN (rc c f d r s h).1), .retAddr 1, .long (lN s'), .retAddr 1, .int (nI (rc c f d r s h).2), .int (nI d'), b7, b8, b9] [] μ := by
  intro f
  induction f with
  | zero =>
    intro d r s h a7 a8 a9 hf hh hs hr
    have hd : d = 60 := by omega
    subst hd
    refine ⟨s, 60, a7, a8, a9, ?_⟩
    simp only [x_X0_rootOf_16, x_X0_rootOf_18, x_X0_rootOf_20, show nI 60 ≤ nI 60 by decide, if_true]
    rfl
  | succ f ih =>
    intro d r s h a7 a8 a9 hf hh hs hr
    have hd : ¬ nI 60 ≤ nI d := nI_ge (by omega) (by decide)
    by_cases h53 : r < 9007199254740992
    · have h53' : ¬ lN 9007199254740992 ≤ lN r := by
        rw [pk_lLE (by decide) (by omega)]
        omega
      have hdg := rc_d_lt c d
      obtain ⟨w, hw⟩ : ∃ w, w = (if d < 5 then nI 1 else nI 0) := ⟨_, rfl⟩
      have g1 : pm_run mE_X0_rootOf 16 [.int (nI c), .long (lN r), .retAddr 1, .long (lN s), .retAddr 1, .int (nI h), .int (nI d), a7, a8, a9] [] μ = pm_run mE_X0_rootOf 71 [.int (nI c), .long (lN r), .retAddr 1, .long (lN (s * 4 + rc_d c d)), .retAddr 1, .int (nI h), .int (nI d), .int w, a8, a9] [] μ := by
        simp only [x_X0_rootOf_16, x_X0_rootOf_18, x_X0_rootOf_20, x_X0_rootOf_23, x_X0_rootOf_24, x_X0_rootOf_27, x_X0_rootOf_28, x_X0_rootOf_31, x_X0_rootOf_33, x_X0_rootOf_34, hd, if_false, lc_ge, lq_53, h53']
        by_cases h5 : d < 5
        · have e : ¬ nI 5 ≤ nI d := nI_ge h5 (by decide)
          rw [if_neg e]
          simp only [x_X0_rootOf_37, x_X0_rootOf_38, x_X0_rootOf_41, x_X0_rootOf_42, x_X0_rootOf_44, x_X0_rootOf_45, x_X0_rootOf_48, x_X0_rootOf_49, x_X0_rootOf_51, x_X0_rootOf_54, x_X0_rootOf_55, x_X0_rootOf_56, x_X0_rootOf_57, x_X0_rootOf_59, x_X0_rootOf_60, x_X0_rootOf_61, x_X0_rootOf_62, x_X0_rootOf_63, x_X0_rootOf_64, x_X0_rootOf_67, x_X0_rootOf_68, x_X0_rootOf_69, x_X0_rootOf_70, show ¬ nI 1 = 0 by decide, if_false, rc_bit hc h5, nI_l (show rc_d c d < 2 ^ 31 by omega), lq_4, lN_mul, lN_add, hw, h5, if_true]
        · have e : nI 5 ≤ nI d := nI_le (by omega) (by omega)
          rw [if_pos e]
          have ez : rc_d c d = 0 := if_neg h5
          simp only [x_X0_rootOf_41, x_X0_rootOf_42, x_X0_rootOf_44, x_X0_rootOf_45, x_X0_rootOf_48, x_X0_rootOf_49, x_X0_rootOf_51, x_X0_rootOf_54, x_X0_rootOf_55, x_X0_rootOf_56, x_X0_rootOf_57, x_X0_rootOf_59, x_X0_rootOf_60, x_X0_rootOf_61, x_X0_rootOf_62, x_X0_rootOf_63, x_X0_rootOf_64, x_X0_rootOf_67, x_X0_rootOf_68, x_X0_rootOf_69, x_X0_rootOf_70, show nI 0 = 0 by decide, if_true, show Int32.toInt64 0 = lN 0 by decide, lq_4, lN_mul, lN_add, hw, h5, if_false, ez]
      have g2 : ∀ (r' s' : Nat) (b8 b9 : Value), pm_run mE_X0_rootOf 102 [.int (nI c), .long (lN r'), .retAddr 1, .long (lN s'), .retAddr 1, .int (nI h), .int (nI d), .int w, b8, b9] [] μ = pm_run mE_X0_rootOf 16 [.int (nI c), .long (lN r'), .retAddr 1, .long (lN s'), .retAddr 1, .int (nI (if d < 5 then h else h + 1)), .int (nI (d + 1)), .int w, b8, b9] [] μ := by
        intro r' s' b8 b9
        by_cases h5 : d < 5
        · have : ¬ w = 0 := by rw [hw, if_pos h5]; decide
          simp only [x_X0_rootOf_102, x_X0_rootOf_104, x_X0_rootOf_107, x_X0_rootOf_110, x_X0_rootOf_113, this, if_false, nI_add, h5, if_true]
        · have : w = 0 := by rw [hw, if_neg h5]; decide
          simp only [x_X0_rootOf_102, x_X0_rootOf_104, x_X0_rootOf_107, x_X0_rootOf_110, x_X0_rootOf_113, this, if_true, nI_add, h5, if_false]
      have g3 : ∃ b8 b9, pm_run mE_X0_rootOf 71 [.int (nI c), .long (lN r), .retAddr 1, .long (lN (s * 4 + rc_d c d)), .retAddr 1, .int (nI h), .int (nI d), .int w, a8, a9] [] μ = pm_run mE_X0_rootOf 102 [.int (nI c), .long (lN (rc_s c d r s).1), .retAddr 1, .long (lN (rc_s c d r s).2), .retAddr 1, .int (nI h), .int (nI d), .int w, b8, b9] [] μ := by
        refine ⟨.long (lN (r * 4 + 1)), .retAddr 1, ?_⟩
        simp only [x_X0_rootOf_71, x_X0_rootOf_72, x_X0_rootOf_75, x_X0_rootOf_76, x_X0_rootOf_77, x_X0_rootOf_78, x_X0_rootOf_80, x_X0_rootOf_81, x_X0_rootOf_84, x_X0_rootOf_85, x_X0_rootOf_86, x_X0_rootOf_87, x_X0_rootOf_89, x_X0_rootOf_90, lc_lt, lc_ge, lq_4, lq_1, lq_2, lN_mul, lN_add, pk_lLT (show s * 4 + rc_d c d < 2 ^ 63 by omega) (show r * 4 + 1 < 2 ^ 63 by omega)]
        unfold rc_s
        by_cases ht : r * 4 + 1 ≤ s * 4 + rc_d c d
        · rw [if_neg (by omega), if_pos ht]
          simp only [x_X0_rootOf_93, x_X0_rootOf_94, x_X0_rootOf_96, x_X0_rootOf_97, x_X0_rootOf_98, x_X0_rootOf_99, x_X0_rootOf_100, x_X0_rootOf_101, lq_1, lN_add, lN_sub ht]
        · rw [if_pos (by omega), if_neg ht]
      obtain ⟨b8, b9, g3⟩ := g3
      rw [g1, g3, g2]
      have e : rc c (f + 1) d r s h = rc c f (d + 1) (rc_s c d r s).1 (rc_s c d r s).2 (if d < 5 then h else h + 1) := by
        show (if r < 9007199254740992 then _ else _) = _
        rw [if_pos h53]
      rw [e]
      refine ih _ _ _ _ _ _ _ (by omega) (by split <;> omega) ?_ ?_
      · unfold rc_s
        split
        · dsimp only
          omega
        · dsimp only
          omega
      · unfold rc_s
        split
        · dsimp only
          omega
        · dsimp only
          omega
    · have h53' : lN 9007199254740992 ≤ lN r := by
        rw [pk_lLE (by decide) (by omega)]
        omega
      refine ⟨s, d, a7, a8, a9, ?_⟩
      have e : rc c (f + 1) d r s h = (r, h) := by
        show (if r < 9007199254740992 then _ else _) = _
        rw [if_neg h53]
      rw [e]
      simp only [x_X0_rootOf_16, x_X0_rootOf_18, x_X0_rootOf_20, x_X0_rootOf_23, x_X0_rootOf_24, x_X0_rootOf_27, x_X0_rootOf_28, hd, if_false, lc_ge, lq_53, h53', if_true]
theorem sX0_rootOf0 : mF_X0_rootOf [.int (nI 0)] μ = some (some (.double 0), μ) := by
  rw [en_X0_rootOf]
  simp only [x_X0_rootOf_0, x_X0_rootOf_1, x_X0_rootOf_4, x_X0_rootOf_5, show ¬ (0 : Int32) < nI 0 by decide, if_false]
theorem rc_v_fp {c : Nat} (h0 : 0 < c) (hc : c ≤ 1000) : fp (rc_v c) := by
  have h := r_oks h0 hc
  simp only [r_ok, Bool.and_eq_true, decide_eq_true_eq] at h
  unfold fp
  omega
theorem sX0_rootOf {c : Nat} (h0 : 0 < c) (hc : c ≤ 1000) : mF_X0_rootOf [.int (nI c)] μ = some (some (.double (rc_v c)), μ) := by
  rw [en_X0_rootOf]
  have h := r_oks h0 hc
  simp only [r_ok, Bool.and_eq_true, decide_eq_true_eq] at h
  have hp : (0 : Int32) < nI c := by
    have := nI_lt h0 (show c < 2 ^ 31 by omega)
    exact this
  simp only [x_X0_rootOf_0, x_X0_rootOf_1, x_X0_rootOf_4, x_X0_rootOf_5, x_X0_rootOf_6, x_X0_rootOf_7, x_X0_rootOf_8, x_X0_rootOf_9, x_X0_rootOf_10, x_X0_rootOf_11, x_X0_rootOf_13, x_X0_rootOf_14, hp, if_true, lq_0]
  obtain ⟨s', d', b7, b8, b9, e⟩ := rc_run (μ := μ) hc 60 0 0 0 0 (.retAddr 0) (.retAddr 0) (.retAddr 0) (by decide) (by decide) (by decide) (by decide)
  rw [e]
  have hv := fp_fn (rc_v_fp h0 hc)
  unfold rc_v at hv
  have hpw : mF_X0_powerOfTwo [.int (nI 1 - nI (rc c 60 0 0 0 0).2)] μ = some (some (.double (p2 (1 - ((rc c 60 0 0 0 0).2 : Int)))), μ) := sX0_pow_sub (a := 1) (by decide) (by omega)
  have hne : ¬ (lN 2) = 0 := by decide
  simp (disch := first | exact hne | exact hv) only [x_X0_rootOf_116, x_X0_rootOf_117, x_X0_rootOf_118, x_X0_rootOf_119, x_X0_rootOf_122, x_X0_rootOf_123, x_X0_rootOf_124, x_X0_rootOf_125, x_X0_rootOf_127, x_X0_rootOf_128, x_X0_rootOf_131, x_X0_rootOf_132, lq_1, lq_2, lN_add, lN_div2 (show (rc c 60 0 0 0 0).1 + 1 < 2 ^ 63 by omega), hpw, Option.bind_some, Option.toList, List.cons_append, List.nil_append]
  rfl
end ROOT
