/-! OBJECTS, 2: the calls on the shelf, both sides -/
abbrev inr (x : Int32) (n : Nat) : Prop := 0 ≤ x ∧ x < nI n
theorem inr_nat {x : Int32} {n : Nat} (hn : n < 2 ^ 31) (h : inr x n) : ∃ o, o < n ∧ x = nI o := by
  obtain ⟨h1, h2⟩ := h
  obtain ⟨o, ho, e⟩ := nI_of (Int32.not_lt.mpr h1)
  subst e
  rw [nI_ltI ho hn] at h2
  exact ⟨o, h2, rfl⟩
theorem inr_of {o n : Nat} (hn : n < 2 ^ 31) (h : o < n) : inr (nI o) n := ⟨nI_pos' (by omega), nI_lt h hn⟩
theorem inr_le {x : Int32} {m : Nat} (hm : m + 1 < 2 ^ 31) : (nI 0 ≤ x ∧ x ≤ nI m) = inr x (m + 1) := by
  apply propext
  constructor
  · rintro ⟨h1, h2⟩
    obtain ⟨j, hj, e⟩ := nI_of (x := x) (Int32.not_lt.mpr (by rw [← nI_0]; exact h1))
    subst e
    rw [nI_leI hj (by omega)] at h2
    exact inr_of hm (by omega)
  · intro h
    obtain ⟨o, ho, e⟩ := inr_nat hm h
    subst e
    exact ⟨nI_le (Nat.zero_le _) (by omega), nI_le (by omega) (by omega)⟩
theorem pb_inr {x : Int32} {m : Nat} (hm : m + 1 < 2 ^ 31) : pb (nI 0 ≤ x ∧ x ≤ nI m) = pb (inr x (m + 1)) := by
  unfold pb
  simp only [inr_le hm]
theorem i2d_nat {n : Nat} (h : n < 2 ^ 31) : fp (FP.i2d (nI n)) ∧ fU (FP.i2d (nI n)) = n * 2 ^ 1074 ∧ FP.l2d (lN n) = FP.i2d (nI n) := by
  obtain ⟨z, z1, z2⟩ := nb_ex (c := n) (k := 1074) (by omega) (by decide)
  have e : FP.i2d (nI n) = z := i2d_ex z1 h z2.symm
  rw [e]
  exact ⟨z1, z2, l2d_ex z1 (by omega) z2.symm⟩
theorem i2d_zero {n : Nat} (h : n < 2 ^ 31) : FP.dcmp (FP.i2d (nI n)) 0 = some .eq ↔ n = 0 := by
  obtain ⟨h1, h2, -⟩ := i2d_nat h
  have k : FP.dcmp (FP.i2d (nI n)) 0 = some .eq ↔ _ := feq_key (fp_fn h1) fn_0
  rw [k, fp_key h1, key0]
  have hp := Nat.two_pow_pos 1074
  constructor
  · intro z
    have e0 : (FP.i2d (nI n)).toNat = 0 := by omega
    unfold fU at h2
    rw [e0, units_eq, if_pos (by decide)] at h2
    rcases Nat.mul_eq_zero.mp h2.symm with q | q
    · exact q
    · omega
  · rintro rfl
    decide +kernel
/-- the average of a field -/
def av (g : gO) (f : Nat) : Option UInt64 := match g.2.2.2 f with
  | some a => some a
  | none => if cntL g.2.1 f = 0 then none else some (FP.ddiv (FP.i2d (nI (sumL g.2.1 f))) (FP.i2d (nI (cntL g.2.1 f))))
theorem cntL_le (len : Nat → Nat) (f : Nat) : cntL len f ≤ 40 := by
  have := sm_le (f := fun o => if lv (len (o * 4 + f)) = 0 then 0 else 1) (m := 1) (fun i => by split <;> omega) 40
  unfold cntL
  omega
theorem sumL_le (len : Nat → Nat) (f : Nat) : sumL len f ≤ 161280 := by
  have := sm_le (f := fun o => lv (len (o * 4 + f))) (m := 4032) (fun i => lv_le _) 40
  unfold sumL
  omega
theorem cnt0_sum {len : Nat → Nat} {f : Nat} : ∀ n, sm (fun o => if lv (len (o * 4 + f)) = 0 then 0 else 1) n = 0 → sm (fun o => lv (len (o * 4 + f))) n = 0
  | 0, _ => rfl
  | n + 1, h => by
    have h2 : sm (fun o => if lv (len (o * 4 + f)) = 0 then 0 else 1) n + (if lv (len (n * 4 + f)) = 0 then 0 else 1) = 0 := h
    show sm (fun o => lv (len (o * 4 + f))) n + lv (len (n * 4 + f)) = 0
    have h3 := cnt0_sum (len := len) (f := f) n (by omega)
    split at h2 <;> omega
theorem over_ok {S N : Nat} (hS : S < 2 ^ 31) (hN : N < 2 ^ 31) (h0 : N ≠ 0) : sp_over (FP.i2d (nI S)) (FP.i2d (nI N)) = some (FP.ddiv (FP.i2d (nI S)) (FP.i2d (nI N))) ∧ vf_n64 (FP.ddiv (FP.i2d (nI S)) (FP.i2d (nI N))) := by
  obtain ⟨a1, -, -⟩ := i2d_nat hS
  have c1 : ¬ (feq (FP.i2d (nI S)) 0 ∧ feq (FP.i2d (nI N)) 0) := fun z => h0 ((i2d_zero hN).mp z.2)
  have c2 : ¬ (fInf (FP.i2d (nI S)) ∧ fInf (FP.i2d (nI N))) := fun z => fp_ninf a1 z.1
  exact ⟨if_neg (fun z => z.elim c1 c2), fn_div (fn_i2d _) (fn_i2d _) c1 c2⟩
theorem av_Vo {g : gO} (hg : gOk g) (f : Nat) : Vo (av g f) := by
  intro a h
  unfold av at h
  split at h
  · rename_i b hb
    cases h
    exact (hg.2.2.2 f a hb).1
  · split at h
    · cases h
    · rename_i h0
      cases h
      exact (over_ok (by have := sumL_le g.2.1 f; omega) (by have := cntL_le g.2.1 f; omega) h0).2
section OB2
variable {I : Nat → Nat → Int32} {D : Nat → Nat → UInt64} {P : Nat → Nat → Option Nat} {g : gO} {μ : pm_M}
theorem fb_eq0 (b : Bool) : (fb b = 0) = (b = false) := by cases b <;> simp [fb] <;> decide
theorem nI0 : nI 0 = 0 := nI_0
theorem sX6_fillColumn (hC : CO I D g) {o c : Nat} {d : UInt64} (ho : o < 40) (hc : c < 4) : ∃ I' D', mF_X6_fillColumn [.ref 1, .int (nI o), .int (nI c), .long d.toInt64] (162, I, D, pm_R P) = some (none, (162, I', D', pm_R P)) ∧ CO I' D' (g.1, g.2.1, ud g.2.2.1 (o * 4 + c) (ob d), g.2.2.2) ∧ FS I I' D D' := by
  refine ⟨pm_u I 7 (o * 4 + c) (fb (ob d).isSome), pm_u D 8 (o * 4 + c) (if fnn d then d else 0), ?_, ⟨⟨hC.1.1, hC.1.2.1, ?_, hC.1.2.2.2⟩, ?_, ?_⟩, ?_⟩
  · rw [en_X6_fillColumn]
    simp (disch := omega) only [x_X6_fillColumn_0, x_X6_fillColumn_1, x_X6_fillColumn_2, x_X6_fillColumn_3, x_X6_fillColumn_4, x_X6_fillColumn_5, x_X6_fillColumn_7, x_X6_fillColumn_8, x_X6_fillColumn_11, x_X6_fillColumn_13, x_X6_fillColumn_14, x_X6_fillColumn_17, x_X6_fillColumn_18, x_X6_fillColumn_19, x_X6_fillColumn_22, x_X6_fillColumn_24, x_X6_fillColumn_25, x_X6_fillColumn_28, x_X6_fillColumn_30, pk_mul, nI_add, sX0_isNumber, Option.bind_some, Option.toList, List.cons_append, List.nil_append, pb_and, pm_us, x_X6_fillColumn_31, pb_eq0, ite_not]
    have e : pb (fnn d) = fb (ob d).isSome := by
      unfold pb ob fb
      by_cases c1 : fnn d
      · rw [if_pos c1, if_pos c1]; rfl
      · rw [if_neg c1, if_neg c1]; rfl
    rw [e]
    by_cases c1 : fnn d
    · rw [if_pos c1, if_pos c1]
      simp (disch := omega) only [x_X6_fillColumn_34, x_X6_fillColumn_35, x_X6_fillColumn_38, x_X6_fillColumn_41, x_X6_fillColumn_42, x_X6_fillColumn_43, sX0_fromBits c1, Option.bind_some, Option.toList, List.cons_append, List.nil_append]
    · rw [if_neg c1, if_neg c1]
      simp (disch := omega) only [x_X6_fillColumn_41, x_X6_fillColumn_42, x_X6_fillColumn_43]
  · intro i
    show Vo (ud g.2.2.1 _ _ i)
    unfold ud
    split
    · exact ob_Vo d
    · exact hC.1.2.2.1 i
  · intro i hi
    obtain ⟨a1, a2, a3, a4, a5⟩ := hC.2.1 i hi
    refine ⟨by rw [pm_ua (by decide)]; exact a1, by rw [pm_ua (by decide)]; exact a2, by rw [pm_ua (by decide)]; exact a3, ?_, ?_⟩
    · rw [pm_uc]
      show _ = fb (ud g.2.2.1 (o * 4 + c) (ob d) i).isSome
      unfold ud
      split
      · rfl
      · exact a4
    · intro a ha
      rw [pm_uc]
      have ha2 : ud g.2.2.1 (o * 4 + c) (ob d) i = some a := ha
      unfold ud at ha2
      split
      · rename_i e
        rw [if_pos e] at ha2
        unfold ob at ha2
        split at ha2
        · rename_i c1
          cases ha2
          rw [if_pos c1]
        · cases ha2
      · rename_i e
        rw [if_neg e] at ha2
        exact a5 a ha2
  · intro f hf
    obtain ⟨a1, a2, a3, a4⟩ := hC.2.2 f hf
    exact ⟨by rw [pm_ua (by decide)]; exact a1, by rw [pm_ua (by decide)]; exact a2, by rw [pm_ua (by decide)]; exact a3, fun a ha => by rw [pm_ua (by decide)]; exact a4 a ha⟩
  · intro a b hab
    exact ⟨pm_ua (by omega), pm_ua (by omega)⟩
theorem CO_giv (hC : CO I D g) {f : Nat} (hf : f < 4) {x : Option UInt64} {I' : Nat → Nat → Int32} {D' : Nat → Nat → UInt64} (hx : ∀ a, x = some a → vf_n64 a ∧ FP.dcmp a 0 = some .gt) (hI : I' = pm_u I 9 f (fb x.isSome)) (hD : (∀ a b, a ≠ 10 → D' a b = D a b) ∧ (∀ b, b ≠ f → D' 10 b = D 10 b) ∧ ∀ a, x = some a → D' 10 f = a) : CO I' D' (g.1, g.2.1, g.2.2.1, ud g.2.2.2 f x) ∧ FS I I' D D' := by
  subst hI
  refine ⟨⟨⟨hC.1.1, hC.1.2.1, hC.1.2.2.1, ?_⟩, ?_, ?_⟩, ?_⟩
  · intro f' a ha
    have ha2 : ud g.2.2.2 f x f' = some a := ha
    unfold ud at ha2
    split at ha2
    · exact hx a ha2
    · exact hC.1.2.2.2 f' a ha2
  · intro i hi
    obtain ⟨a1, a2, a3, a4, a5⟩ := hC.2.1 i hi
    exact ⟨by rw [pm_ua (by decide)]; exact a1, by rw [hD.1 _ _ (by decide)]; exact a2, by rw [pm_ua (by decide)]; exact a3, by rw [pm_ua (by decide)]; exact a4, fun a ha => by rw [hD.1 _ _ (by decide)]; exact a5 a ha⟩
  · intro f' hf'
    obtain ⟨a1, a2, a3, a4⟩ := hC.2.2 f' hf'
    refine ⟨by rw [pm_ua (by decide)]; exact a1, by rw [pm_ua (by decide)]; exact a2, ?_, ?_⟩
    · rw [pm_uc]
      show _ = fb (ud g.2.2.2 f x f').isSome
      unfold ud
      split
      · rfl
      · exact a3
    · intro a ha
      have ha2 : ud g.2.2.2 f x f' = some a := ha
      unfold ud at ha2
      split at ha2
      · rename_i e
        rw [e]
        exact hD.2.2 a ha2
      · rename_i e
        rw [hD.2.1 f' e]
        exact a4 a ha2
  · intro a b hab
    exact ⟨pm_ua (by omega), hD.1 a b (by omega)⟩
theorem sX6_giveAverage (hC : CO I D g) {f : Nat} {a : UInt64} (hf : f < 4) (ha : vf_n64 a) (h0 : FP.dcmp a 0 = some .gt) : ∃ I' D', mF_X6_giveAverage [.ref 1, .int (nI f), .double a] (162, I, D, pm_R P) = some (none, (162, I', D', pm_R P)) ∧ CO I' D' (g.1, g.2.1, g.2.2.1, ud g.2.2.2 f (some a)) ∧ FS I I' D D' := by
  refine ⟨pm_u I 9 f (nI 1 &&& 1), pm_u D 10 f a, ?_, ?_⟩
  · rw [en_X6_giveAverage]
    simp (disch := omega) only [x_X6_giveAverage_0, x_X6_giveAverage_1, x_X6_giveAverage_4, x_X6_giveAverage_5, x_X6_giveAverage_6, x_X6_giveAverage_7, x_X6_giveAverage_8, x_X6_giveAverage_11, x_X6_giveAverage_12, x_X6_giveAverage_13, x_X6_giveAverage_14]
  · exact CO_giv hC hf (fun b hb => by cases hb; exact ⟨ha, h0⟩) rfl ⟨fun a b h => pm_ua h, fun b h => pm_ub h, fun b hb => by cases hb; exact pm_us _ _ _ _⟩
theorem sX6_giveNoAverage (hC : CO I D g) {f : Nat} (hf : f < 4) : ∃ I' D', mF_X6_giveNoAverage [.ref 1, .int (nI f)] (162, I, D, pm_R P) = some (none, (162, I', D', pm_R P)) ∧ CO I' D' (g.1, g.2.1, g.2.2.1, ud g.2.2.2 f none) ∧ FS I I' D D' := by
  refine ⟨pm_u I 9 f (nI 0 &&& 1), D, ?_, ?_⟩
  · rw [en_X6_giveNoAverage]
    simp (disch := omega) only [x_X6_giveNoAverage_0, x_X6_giveNoAverage_1, x_X6_giveNoAverage_4, x_X6_giveNoAverage_5, x_X6_giveNoAverage_6, x_X6_giveNoAverage_7]
  · exact CO_giv hC hf (fun b hb => by cases hb) rfl ⟨fun a b h => rfl, fun b h => rfl, fun b hb => by cases hb⟩
theorem sX6_hasAverage (hC : CO I D g) {f : Nat} (hf : f < 4) : mF_X6_hasAverage [.ref 1, .int (nI f)] (162, I, D, pm_R P) = some (some (.int (fb (av g f).isSome)), (162, I, D, pm_R P)) := by
  obtain ⟨a1, a2, a3, a4⟩ := hC.2.2 f hf
  have hc := cntL_le g.2.1 f
  rw [en_X6_hasAverage]
  simp (disch := omega) only [x_X6_hasAverage_0, x_X6_hasAverage_1, x_X6_hasAverage_4, x_X6_hasAverage_5, x_X6_hasAverage_6, x_X6_hasAverage_9, x_X6_hasAverage_10, x_X6_hasAverage_13, x_X6_hasAverage_14, x_X6_hasAverage_15, x_X6_hasAverage_18, x_X6_hasAverage_19, x_X6_hasAverage_22, x_X6_hasAverage_23a, x_X6_hasAverage_23b, x_X6_hasAverage_23, a3, a2, fb_eq0]
  unfold av
  cases hv : g.2.2.2 f with
  | some a => rfl
  | none =>
    simp only [Option.isSome_none, if_true]
    by_cases h0 : cntL g.2.1 f = 0
    · rw [h0, if_pos (show nI 0 ≤ 0 by decide)]; rfl
    · rw [if_neg (nI_nle (by omega) (by omega)), if_neg h0]; rfl
theorem sX6_averageOf (hC : CO I D g) {f : Nat} (hf : f < 4) {a : UInt64} (ha : av g f = some a) : mF_X6_averageOf [.ref 1, .int (nI f)] (162, I, D, pm_R P) = some (some (.double a), (162, I, D, pm_R P)) := by
  obtain ⟨a1, a2, a3, a4⟩ := hC.2.2 f hf
  have hc := cntL_le g.2.1 f
  have hs := sumL_le g.2.1 f
  rw [en_X6_averageOf]
  unfold av at ha
  cases hv : g.2.2.2 f with
  | some b =>
    rw [hv] at ha a3
    cases ha
    simp (disch := omega) only [x_X6_averageOf_0, x_X6_averageOf_1, x_X6_averageOf_4, x_X6_averageOf_5, x_X6_averageOf_6, x_X6_averageOf_9, x_X6_averageOf_10, x_X6_averageOf_13, x_X6_averageOf_14, x_X6_averageOf_15, a3, fb_eq0, Option.isSome_some, reduceCtorEq, if_false, a4 a hv]
  | none =>
    rw [hv] at ha a3
    have ha2 : (if cntL g.2.1 f = 0 then none else some (FP.ddiv (FP.i2d (nI (sumL g.2.1 f))) (FP.i2d (nI (cntL g.2.1 f))))) = some a := ha
    split at ha2
    · cases ha2
    · rename_i h0
      cases ha2
      have hv2 := (over_ok (S := sumL g.2.1 f) (N := cntL g.2.1 f) (by omega) (by omega) h0).2
      have e : ¬ nI (cntL g.2.1 f) ≤ 0 := nI_nle (by omega) (by omega)
      simp (disch := omega) only [x_X6_averageOf_0, x_X6_averageOf_1, x_X6_averageOf_4, x_X6_averageOf_5, x_X6_averageOf_6, x_X6_averageOf_9, x_X6_averageOf_10, x_X6_averageOf_13, x_X6_averageOf_14, x_X6_averageOf_15, x_X6_averageOf_16, x_X6_averageOf_17, x_X6_averageOf_20, x_X6_averageOf_21, x_X6_averageOf_22, x_X6_averageOf_23, x_X6_averageOf_24, x_X6_averageOf_27, x_X6_averageOf_28, x_X6_averageOf_31, x_X6_averageOf_32, x_X6_averageOf_33, x_X6_averageOf_34, x_X6_averageOf_35, a3, fb_eq0, Option.isSome_none, if_true, a2, a1, e, if_false]
      simp (disch := exact hv2) only [x_X6_averageOf_36, x_X6_averageOf_37, x_X6_averageOf_40, x_X6_averageOf_41]
end OB2
