/-! OBJECTS, 4: the model's calls -/
/-- the model's object rows alone change -/
def FM (I I' : Nat → Nat → Int32) (D D' : Nat → Nat → UInt64) : Prop := ∀ a b, (a < 139 ∨ 143 < a) → I' a b = I a b ∧ D' a b = D a b
section MO1
variable {I : Nat → Nat → Int32} {D : Nat → Nat → UInt64} {P : Nat → Nat → Option Nat} {g : gO} {μ : pm_M}
theorem sIn {x : Int32} {m : Nat} (hm : m + 1 < 2 ^ 31) : mF_X8_in [.int x, .int (nI 0), .int (nI m)] μ = some (some (.int (pb (inr x (m + 1)))), μ) := by
  rw [sX8_in, pb_inr hm]
theorem sX8_tell (hC : MO I D g) {o f c l : Nat} (ho : o < 40) (hf : f < 4) (hc : c ≤ 1000) (hl : l ≤ 100000) : ∃ I' D', mF_X8_tell [.ref 138, .int (nI o), .int (nI f), .int (nI c), .int (nI l)] (162, I, D, pm_R P) = some (some (.int (nI 0)), (162, I', D', pm_R P)) ∧ MO I' D' (ud g.1 (o * 4 + f) c, ud g.2.1 (o * 4 + f) l, g.2.2) ∧ FM I I' D D' := by
  refine ⟨pm_u (pm_u I 139 (o * 4 + f) (nI c)) 140 (o * 4 + f) (nI l), D, ?_, ⟨⟨?_, ?_, hC.1.2.2.1, hC.1.2.2.2⟩, ?_, ?_⟩, ?_⟩
  · rw [en_X8_tell]
    have p1 : pb (inr (nI o) (39 + 1)) = 1 := pb_t (inr_of (by decide) ho)
    have p2' : pb (inr (nI f) (3 + 1)) = 1 := pb_t (inr_of (by decide) hf)
    have p3 : pb (inr (nI c) (1000 + 1)) = 1 := pb_t (inr_of (by decide) (by omega))
    have p4 : pb (inr (nI l) (100000 + 1)) = 1 := pb_t (inr_of (by decide) (by omega))
    simp (disch := omega) only [x_X8_tell_0, x_X8_tell_1, x_X8_tell_2, x_X8_tell_4, x_X8_tell_7, x_X8_tell_10, x_X8_tell_11, x_X8_tell_12, x_X8_tell_13, x_X8_tell_16, x_X8_tell_19, x_X8_tell_20, x_X8_tell_21, x_X8_tell_24, x_X8_tell_27, x_X8_tell_30, x_X8_tell_32, x_X8_tell_33, x_X8_tell_35, x_X8_tell_38, x_X8_tell_41, x_X8_tell_42, x_X8_tell_43, x_X8_tell_44, x_X8_tell_47, x_X8_tell_48, x_X8_tell_49, x_X8_tell_50, x_X8_tell_51, x_X8_tell_52, x_X8_tell_53, x_X8_tell_54, x_X8_tell_55, x_X8_tell_58, x_X8_tell_59, x_X8_tell_60, x_X8_tell_61, x_X8_tell_62, x_X8_tell_63, x_X8_tell_65, x_X8_tell_66, x_X8_tell_67, sIn (m := 39) (by decide), sIn (m := 3) (by decide), sIn (m := 1000) (by decide), sIn (m := 100000) (by decide), p1, p2', p3, p4, pk_mul, nI_add, Option.bind_some, Option.toList, List.cons_append, List.nil_append, show ¬ (1 : Int32) = 0 by decide, if_false]
    rw [show 4 * o + f = o * 4 + f by omega]
  · intro i
    show ud g.1 _ _ i ≤ 1000
    unfold ud
    split
    · exact hc
    · exact hC.1.1 i
  · intro i
    show ud g.2.1 _ _ i ≤ 100000
    unfold ud
    split
    · exact hl
    · exact hC.1.2.1 i
  · intro i hi
    obtain ⟨a1, a2, a3⟩ := hC.2.1 i hi
    refine ⟨?_, ?_, a3⟩
    · rw [pm_ua (by decide), pm_uc]
      show _ = nI (ud g.1 (o * 4 + f) c i)
      unfold ud
      split
      · rfl
      · exact a1
    · rw [pm_uc]
      show _ = nI (ud g.2.1 (o * 4 + f) l i)
      unfold ud
      split
      · rfl
      · rw [pm_ua (by decide)]
        exact a2
  · intro f' hf'
    obtain ⟨a1, a2⟩ := hC.2.2 f' hf'
    exact ⟨by rw [pm_ua (by decide), pm_ua (by decide)]; exact a1, a2⟩
  · intro a b hab
    exact ⟨by rw [pm_ua (by omega), pm_ua (by omega)], rfl⟩
theorem sX8_tell_bad {x y z w : Int32} (h : ¬ (inr x 40 ∧ inr y 4 ∧ inr z 1001 ∧ inr w 100001)) : mF_X8_tell [.ref 138, .int x, .int y, .int z, .int w] μ = some (some (.int (-1)), μ) := by
  rw [en_X8_tell]
  simp only [x_X8_tell_0, x_X8_tell_1, x_X8_tell_2, x_X8_tell_4, x_X8_tell_7, x_X8_tell_10, x_X8_tell_11, x_X8_tell_12, x_X8_tell_13, x_X8_tell_16, x_X8_tell_19, x_X8_tell_20, x_X8_tell_21, x_X8_tell_24, x_X8_tell_27, x_X8_tell_30, x_X8_tell_32, x_X8_tell_33, x_X8_tell_35, x_X8_tell_38, x_X8_tell_41, x_X8_tell_42, sIn (m := 39) (by decide), sIn (m := 3) (by decide), sIn (m := 1000) (by decide), sIn (m := 100000) (by decide), Option.bind_some, Option.toList, List.cons_append, List.nil_append, pb_eq0, ite_not]
  by_cases c1 : inr x 40
  · by_cases c2 : inr y 4
    · by_cases c3 : inr z 1001
      · by_cases c4 : inr w 100001
        · exact absurd ⟨c1, c2, c3, c4⟩ h
        · rw [if_pos c1, if_pos c2, if_pos c3, if_neg c4]
      · rw [if_pos c1, if_pos c2, if_neg c3]
    · rw [if_pos c1, if_neg c2]
  · rw [if_neg c1]
theorem sX8_column (hC : MO I D g) {o c : Nat} {d : UInt64} (ho : o < 40) (hc : c < 4) : ∃ I' D', mF_X8_column [.ref 138, .int (nI o), .int (nI c), .long d.toInt64] (162, I, D, pm_R P) = some (some (.int (nI 0)), (162, I', D', pm_R P)) ∧ MO I' D' (g.1, g.2.1, ud g.2.2.1 (o * 4 + c) (ob d), g.2.2.2) ∧ FM I I' D D' := by
  refine ⟨I, pm_u D 141 (o * 4 + c) (mo (ob d)), ?_, ⟨⟨hC.1.1, hC.1.2.1, ?_, hC.1.2.2.2⟩, ?_, ?_⟩, ?_⟩
  · rw [en_X8_column]
    have p1 : pb (inr (nI o) (39 + 1)) = 1 := pb_t (inr_of (by decide) ho)
    have p2' : pb (inr (nI c) (3 + 1)) = 1 := pb_t (inr_of (by decide) hc)
    simp (disch := omega) only [x_X8_column_0, x_X8_column_1, x_X8_column_2, x_X8_column_4, x_X8_column_7, x_X8_column_10, x_X8_column_11, x_X8_column_12, x_X8_column_13, x_X8_column_16, x_X8_column_19, x_X8_column_20, x_X8_column_21, x_X8_column_22, x_X8_column_25, x_X8_column_26, x_X8_column_27, x_X8_column_28, x_X8_column_29, x_X8_column_30, x_X8_column_31, x_X8_column_34, x_X8_column_35, x_X8_column_36, sIn (m := 39) (by decide), sIn (m := 3) (by decide), p1, p2', sX8_realOfBits, pk_mul, nI_add, Option.bind_some, Option.toList, List.cons_append, List.nil_append, show ¬ (1 : Int32) = 0 by decide, if_false]
    rw [show 4 * o + c = o * 4 + c by omega]
  · intro i
    show Vo (ud g.2.2.1 _ _ i)
    unfold ud
    split
    · exact ob_Vo d
    · exact hC.1.2.2.1 i
  · intro i hi
    obtain ⟨a1, a2, a3⟩ := hC.2.1 i hi
    refine ⟨a1, a2, ?_⟩
    rw [pm_uc]
    show _ = mo (ud g.2.2.1 (o * 4 + c) (ob d) i)
    unfold ud
    split
    · rfl
    · exact a3
  · intro f' hf'
    obtain ⟨a1, a2⟩ := hC.2.2 f' hf'
    exact ⟨a1, fun a ha => by rw [pm_ua (by decide)]; exact a2 a ha⟩
  · intro a b hab
    exact ⟨rfl, by rw [pm_ua (by omega)]⟩
theorem sX8_column_bad {x y : Int32} {b : Int64} (h : ¬ (inr x 40 ∧ inr y 4)) : mF_X8_column [.ref 138, .int x, .int y, .long b] μ = some (some (.int (-1)), μ) := by
  rw [en_X8_column]
  simp only [x_X8_column_0, x_X8_column_1, x_X8_column_2, x_X8_column_4, x_X8_column_7, x_X8_column_10, x_X8_column_11, x_X8_column_12, x_X8_column_13, x_X8_column_16, x_X8_column_19, x_X8_column_20, sIn (m := 39) (by decide), sIn (m := 3) (by decide), Option.bind_some, Option.toList, List.cons_append, List.nil_append, pb_eq0, ite_not]
  by_cases c1 : inr x 40
  · by_cases c2 : inr y 4
    · exact absurd ⟨c1, c2⟩ h
    · rw [if_pos c1, if_neg c2]
  · rw [if_neg c1]
theorem ob_gt (d : UInt64) : (FP.dcmp (mo (ob d)) 0 = some .lt ∨ FP.dcmp (mo (ob d)) 0 = some .eq) = ¬ gvok d := by
  apply propext
  unfold ob
  by_cases c : fnn d
  · rw [if_pos c, mo_some]
    have k := dc_key (a := d) (b := 0) c fn_0
    rw [key0] at k
    constructor
    · intro h z
      rcases z with z | z
      · exact z c
      · rcases h with h | h <;> rw [h] at z <;> cases z
    · intro h
      have h2 : ¬ FP.dcmp d 0 = some .gt := fun z => h (Or.inr z)
      rw [k] at h2 ⊢
      cases hc : compare (FP.Core.dkey d) 0 with
      | lt => exact Or.inl rfl
      | eq => exact Or.inr rfl
      | gt => rw [hc] at h2; exact absurd rfl h2
  · rw [if_neg c]
    constructor
    · intro h
      exfalso
      have : FP.dcmp nN 0 = none := dc_nan_l 0
      rcases h with h | h
      · have h3 : FP.dcmp nN 0 = some .lt := h
        rw [this] at h3
        cases h3
      · have h3 : FP.dcmp nN 0 = some .eq := h
        rw [this] at h3
        cases h3
    · intro h
      exact absurd (Or.inl c) h
theorem sX8_given (hC : MO I D g) {f : Nat} {d : UInt64} (hf : f < 4) (hd : gvok d) : ∃ I' D', mF_X8_given [.ref 138, .int (nI f), .long d.toInt64] (162, I, D, pm_R P) = some (some (.int (nI 0)), (162, I', D', pm_R P)) ∧ MO I' D' (g.1, g.2.1, g.2.2.1, ud g.2.2.2 f (ob d)) ∧ FM I I' D D' := by
  have p1 : pb (inr (nI f) (3 + 1)) = 1 := pb_t (inr_of (by decide) hf)
  refine ⟨pm_u I 143 f (fb (ob d).isSome), pm_u D 142 f (mo (ob d)), ?_, ⟨⟨hC.1.1, hC.1.2.1, hC.1.2.2.1, ?_⟩, ?_, ?_⟩, ?_⟩
  · rw [en_X8_given]
    have q : ¬ ¬ gvok d := not_not_intro hd
    simp (disch := omega) only [x_X8_given_0, x_X8_given_1, x_X8_given_4, x_X8_given_6, x_X8_given_7, x_X8_given_8, x_X8_given_9, x_X8_given_12, x_X8_given_15, x_X8_given_17, x_X8_given_18, x_X8_given_19, x_X8_given_22, x_X8_given_23, x_X8_given_24, x_X8_given_25, x_X8_given_28, x_X8_given_29, x_X8_given_31, x_X8_given_33, x_X8_given_34, sX8_realOfBits, sIn (m := 3) (by decide), p1, cg_gt, ob_gt, q, Option.bind_some, Option.toList, List.cons_append, List.nil_append, show ¬ (1 : Int32) = 0 by decide, if_false, cl_eq, Classical.not_not]
    by_cases c : fnn d
    · have e : ob d = some d := if_pos c
      rw [e, mo_some]
      have c2 : FP.dcmp d d = some .eq := feq_refl c
      rw [if_pos c2]
      simp (disch := omega) only [hd, not_true_eq_false, if_false, if_true, x_X8_given_22, x_X8_given_23, x_X8_given_24, x_X8_given_25, x_X8_given_28, x_X8_given_29, x_X8_given_31, x_X8_given_33, x_X8_given_34, x_X8_given_37, x_X8_given_38, x_X8_given_41, x_X8_given_42, x_X8_given_43, x_X8_given_44, x_X8_given_47, x_X8_given_48, x_X8_given_50, x_X8_given_51, x_X8_given_52]
      rfl
    · have e : ob d = none := if_neg c
      rw [e]
      have c2 : ¬ FP.dcmp (mo none) (mo none) = some .eq := by
        rw [show mo none = nN from rfl, dc_nan_l]
        intro z
        cases z
      rw [if_neg c2]
      simp (disch := omega) only [hd, not_true_eq_false, if_false, if_true, x_X8_given_22, x_X8_given_23, x_X8_given_24, x_X8_given_25, x_X8_given_28, x_X8_given_29, x_X8_given_31, x_X8_given_33, x_X8_given_34, x_X8_given_37, x_X8_given_38, x_X8_given_41, x_X8_given_42, x_X8_given_43, x_X8_given_44, x_X8_given_47, x_X8_given_48, x_X8_given_50, x_X8_given_51, x_X8_given_52]
      rfl
  · intro f' a ha
    have ha2 : ud g.2.2.2 f (ob d) f' = some a := ha
    unfold ud at ha2
    split at ha2
    · unfold ob at ha2
      split at ha2
      · rename_i c
        cases ha2
        exact ⟨c, hd.resolve_left (fun z => z c)⟩
      · cases ha2
    · exact hC.1.2.2.2 f' a ha2
  · intro i hi
    obtain ⟨a1, a2, a3⟩ := hC.2.1 i hi
    exact ⟨by rw [pm_ua (by decide)]; exact a1, by rw [pm_ua (by decide)]; exact a2, by rw [pm_ua (by decide)]; exact a3⟩
  · intro f' hf'
    obtain ⟨a1, a2⟩ := hC.2.2 f' hf'
    refine ⟨?_, ?_⟩
    · rw [pm_uc]
      show _ = fb (ud g.2.2.2 f (ob d) f').isSome
      unfold ud
      split
      · rfl
      · exact a1
    · intro a ha
      have ha2 : ud g.2.2.2 f (ob d) f' = some a := ha
      unfold ud at ha2
      rw [pm_uc]
      split at ha2
      · rename_i e
        rw [if_pos e, ha2]
        rfl
      · rename_i e
        rw [if_neg e]
        exact a2 a ha2
  · intro a b hab
    exact ⟨by rw [pm_ua (by omega)], by rw [pm_ua (by omega)]⟩
theorem sX8_given_bad {x : Int32} {d : UInt64} (h : ¬ (inr x 4 ∧ gvok d)) : mF_X8_given [.ref 138, .int x, .long d.toInt64] μ = some (some (.int (-1)), μ) := by
  rw [en_X8_given]
  by_cases c1 : inr x 4
  · have p1 : pb (inr x (3 + 1)) = 1 := pb_t c1
    have c2 : ¬ gvok d := fun z => h ⟨c1, z⟩
    simp only [x_X8_given_0, x_X8_given_1, x_X8_given_4, x_X8_given_6, x_X8_given_7, x_X8_given_8, x_X8_given_9, x_X8_given_12, x_X8_given_15, x_X8_given_17, x_X8_given_18, x_X8_given_19, x_X8_given_22, x_X8_given_23, sX8_realOfBits, sIn (m := 3) (by decide), p1, cg_gt, ob_gt, Option.bind_some, Option.toList, List.cons_append, List.nil_append, show ¬ (1 : Int32) = 0 by decide, if_false, Classical.not_not, c2]
  · have p1 : pb (inr x (3 + 1)) = 0 := pb_f c1
    simp only [x_X8_given_0, x_X8_given_1, x_X8_given_4, x_X8_given_6, x_X8_given_7, x_X8_given_8, x_X8_given_9, x_X8_given_12, x_X8_given_15, x_X8_given_17, x_X8_given_18, x_X8_given_19, x_X8_given_22, x_X8_given_23, sX8_realOfBits, sIn (m := 3) (by decide), p1, Option.bind_some, Option.toList, List.cons_append, List.nil_append, if_true]
theorem Vo_some {a : UInt64} (h : vf_n64 a) : Vo (some a) := fun b hb => by cases hb; exact h
theorem av_loop (hC : MO I D g) {f : Nat} (hf : f < 4) : ∀ k i, k + i = 40 → pm_run mE_X8_averageOf 24 [.ref 138, .int (nI f), .long (lN (sm (fun o => lv (g.2.1 (o * 4 + f))) i)), .retAddr 1, .int (nI (sm (fun o => if lv (g.2.1 (o * 4 + f)) = 0 then 0 else 1) i)), .int (nI i)] [] (162, I, D, pm_R P) = pm_run mE_X8_averageOf 82 [.ref 138, .int (nI f), .long (lN (sumL g.2.1 f)), .retAddr 1, .int (nI (cntL g.2.1 f)), .int (nI 40)] [] (162, I, D, pm_R P) := by
  intro k
  induction k with
  | zero =>
    intro i hi
    have : i = 40 := by omega
    subst this
    simp only [x_X8_averageOf_24, x_X8_averageOf_26, x_X8_averageOf_28, show nI 40 ≤ nI 40 by decide, if_true]
    rfl
  | succ k ih =>
    intro i hi
    have hge : ¬ nI 40 ≤ nI i := nI_ge (by omega) (by decide)
    obtain ⟨a1, a2, a3⟩ := hC.2.1 (i * 4 + f) (by omega)
    have hb := bc_le (g.2.1 (i * 4 + f))
    have hl := lv_le (g.2.1 (i * 4 + f))
    have z : (nI (g.2.1 (i * 4 + f)) = 0) = (lv (g.2.1 (i * 4 + f)) = 0) := by
      apply propext
      rw [← nI_0, nI_eq (by have := hC.1.2.1 (i * 4 + f); omega) (by decide)]
      have := lv_pos (l := g.2.1 (i * 4 + f))
      omega
    have e0 : 4 * i + f = i * 4 + f := by omega
    have nx := ih (i + 1) (by omega)
    rw [x_X8_averageOf_24]
    simp (disch := omega) only [x_X8_averageOf_26, x_X8_averageOf_28, x_X8_averageOf_31, x_X8_averageOf_32, x_X8_averageOf_33, x_X8_averageOf_36, x_X8_averageOf_37, x_X8_averageOf_39, x_X8_averageOf_40, x_X8_averageOf_41, x_X8_averageOf_42, x_X8_averageOf_43, x_X8_averageOf_46, x_X8_averageOf_49, x_X8_averageOf_50, x_X8_averageOf_51, x_X8_averageOf_52, x_X8_averageOf_54, x_X8_averageOf_55, x_X8_averageOf_58, x_X8_averageOf_59, x_X8_averageOf_61, x_X8_averageOf_62, x_X8_averageOf_63, x_X8_averageOf_64, x_X8_averageOf_65, hge, if_false, pk_mul, nI_add, e0, a2, sX8_byteOf (hC.1.2.1 (i * 4 + f)), sX8_valueOf (show bc (g.2.1 (i * 4 + f)) < 256 by omega), Option.bind_some, Option.toList, List.cons_append, List.nil_append, z, show pv (bc (g.2.1 (i * 4 + f))) = lv (g.2.1 (i * 4 + f)) from rfl, nI_l (show lv (g.2.1 (i * 4 + f)) < 2 ^ 31 by omega), lN_add]
    have s1 : sm (fun o => lv (g.2.1 (o * 4 + f))) (i + 1) = sm (fun o => lv (g.2.1 (o * 4 + f))) i + lv (g.2.1 (i * 4 + f)) := rfl
    have s2 : sm (fun o => if lv (g.2.1 (o * 4 + f)) = 0 then 0 else 1) (i + 1) = sm (fun o => if lv (g.2.1 (o * 4 + f)) = 0 then 0 else 1) i + (if lv (g.2.1 (i * 4 + f)) = 0 then 0 else 1) := rfl
    rw [s1, s2] at nx
    by_cases c : lv (g.2.1 (i * 4 + f)) = 0
    · rw [if_pos c] at nx ⊢
      rw [Nat.add_zero] at nx
      simp only [x_X8_averageOf_68, x_X8_averageOf_69, x_X8_averageOf_72, x_X8_averageOf_73, x_X8_averageOf_74, x_X8_averageOf_76, x_X8_averageOf_79, nI_add]
      exact nx
    · rw [if_neg c] at nx ⊢
      simp only [x_X8_averageOf_68, x_X8_averageOf_69, x_X8_averageOf_72, x_X8_averageOf_73, x_X8_averageOf_74, x_X8_averageOf_76, x_X8_averageOf_79, nI_add]
      exact nx
theorem sX8_averageOf (hC : MO I D g) {f : Nat} (hf : f < 4) : mF_X8_averageOf [.ref 138, .int (nI f)] (162, I, D, pm_R P) = some (some (.double (mo (av g f))), (162, I, D, pm_R P)) := by
  obtain ⟨a1, a2⟩ := hC.2.2 f hf
  rw [en_X8_averageOf]
  unfold av
  cases hv : g.2.2.2 f with
  | some b =>
    rw [hv] at a1
    simp (disch := omega) only [x_X8_averageOf_0, x_X8_averageOf_1, x_X8_averageOf_4, x_X8_averageOf_5, x_X8_averageOf_6, x_X8_averageOf_9, x_X8_averageOf_10, x_X8_averageOf_13, x_X8_averageOf_14, x_X8_averageOf_15, a1, fb_eq0, Option.isSome_some, reduceCtorEq, if_false, a2 b hv]
    rfl
  | none =>
    rw [hv] at a1
    have hc := cntL_le g.2.1 f
    have hs := sumL_le g.2.1 f
    simp (disch := omega) only [x_X8_averageOf_0, x_X8_averageOf_1, x_X8_averageOf_4, x_X8_averageOf_5, x_X8_averageOf_6, x_X8_averageOf_9, x_X8_averageOf_10, x_X8_averageOf_13, x_X8_averageOf_14, x_X8_averageOf_15, x_X8_averageOf_16, x_X8_averageOf_17, x_X8_averageOf_18, x_X8_averageOf_19, x_X8_averageOf_21, x_X8_averageOf_22, a1, fb_eq0, Option.isSome_none, if_true]
    have := av_loop (P := P) hC hf 40 0 (by decide)
    rw [show sm (fun o => lv (g.2.1 (o * 4 + f))) 0 = 0 from rfl, show sm (fun o => if lv (g.2.1 (o * 4 + f)) = 0 then 0 else 1) 0 = 0 from rfl] at this
    rw [show (0 : Int64) = lN 0 from rfl, this]
    have e1 := (i2d_nat (n := sumL g.2.1 f) (by omega)).2.2
    have m1 : FP.i2d (nI (sumL g.2.1 f)) = mo (some (FP.i2d (nI (sumL g.2.1 f)))) := rfl
    have m2 : FP.i2d (nI (cntL g.2.1 f)) = mo (some (FP.i2d (nI (cntL g.2.1 f)))) := rfl
    have ro := sX8_realOver (μ := (162, I, D, pm_R P)) (x := some (FP.i2d (nI (sumL g.2.1 f)))) (y := some (FP.i2d (nI (cntL g.2.1 f)))) (Vo_some (fn_i2d _)) (Vo_some (fn_i2d _))
    rw [← m1, ← m2] at ro
    simp only [x_X8_averageOf_82, x_X8_averageOf_83, x_X8_averageOf_84, x_X8_averageOf_86, x_X8_averageOf_87, x_X8_averageOf_90, e1, ro, Option.bind_some, Option.toList, List.cons_append, List.nil_append]
    congr 4
    show mo (sp_over _ _) = mo (if cntL g.2.1 f = 0 then none else some _)
    by_cases h0 : cntL g.2.1 f = 0
    · rw [if_pos h0]
      have hs0 : sumL g.2.1 f = 0 := cnt0_sum 40 h0
      have : sp_over (FP.i2d (nI (sumL g.2.1 f))) (FP.i2d (nI (cntL g.2.1 f))) = none := if_pos (Or.inl ⟨(i2d_zero (by omega)).mpr hs0, (i2d_zero (by omega)).mpr h0⟩)
      rw [this]
    · rw [if_neg h0, (over_ok (by omega) (by omega) h0).1]
theorem sX8_average (hC : MO I D g) {f : Nat} (hf : f < 4) : mF_X8_average [.ref 138, .int (nI f)] (162, I, D, pm_R P) = some (some (.long (mo (av g f)).toInt64), (162, I, D, pm_R P)) := by
  rw [en_X8_average]
  have p1 : pb (inr (nI f) (3 + 1)) = 1 := pb_t (inr_of (by decide) hf)
  simp only [x_X8_average_0, x_X8_average_1, x_X8_average_2, x_X8_average_3, x_X8_average_6, x_X8_average_9, x_X8_average_10, x_X8_average_11, x_X8_average_14, x_X8_average_17, x_X8_average_20, x_X8_average_21, sIn (m := 3) (by decide), p1, sX8_averageOf hC hf, sJ_d2lb (av_Vo hC.1 f), Option.bind_some, Option.toList, List.cons_append, List.nil_append, show ¬ (1 : Int32) = 0 by decide, if_false]
theorem sX8_average_bad {x : Int32} (h : ¬ inr x 4) : mF_X8_average [.ref 138, .int x] μ = some (some (.long 0), μ) := by
  rw [en_X8_average]
  have p1 : pb (inr x (3 + 1)) = 0 := pb_f h
  simp only [x_X8_average_0, x_X8_average_1, x_X8_average_2, x_X8_average_3, x_X8_average_6, x_X8_average_9, x_X8_average_10, x_X8_average_11, x_X8_average_14, x_X8_average_17, x_X8_average_20, x_X8_average_21, sIn (m := 3) (by decide), p1, Option.bind_some, Option.toList, List.cons_append, List.nil_append, if_true]
theorem sX8_packed {l w : Nat} (hl : l ≤ 100000) (hw : w < 2) : mF_X8_packed [.ref 138, .int (nI l), .int (nI w)] μ = some (some (.int (nI (pk_a l w))), μ) := by
  rw [en_X8_packed]
  have p1 : pb (inr (nI l) (100000 + 1)) = 1 := pb_t (inr_of (by decide) (by omega))
  have p2' : pb (inr (nI w) (1 + 1)) = 1 := pb_t (inr_of (by decide) hw)
  have hb := bc_le l
  have z : (nI w = 0) = (w = 0) := propext (nI_c (by omega))
  simp only [x_X8_packed_0, x_X8_packed_1, x_X8_packed_2, x_X8_packed_4, x_X8_packed_7, x_X8_packed_10, x_X8_packed_11, x_X8_packed_12, x_X8_packed_13, x_X8_packed_16, x_X8_packed_19, x_X8_packed_20, x_X8_packed_21, x_X8_packed_22, x_X8_packed_25, x_X8_packed_26, x_X8_packed_29, x_X8_packed_32, x_X8_packed_33, x_X8_packed_36, x_X8_packed_39, sIn (m := 100000) (by decide), sIn (m := 1) (by decide), p1, p2', sX8_byteOf hl, sX8_valueOf (show bc l < 256 by omega), z, Option.bind_some, Option.toList, List.cons_append, List.nil_append, show ¬ (1 : Int32) = 0 by decide, if_false]
  unfold pk_a
  by_cases c : w = 0
  · rw [if_pos c, if_pos c]
  · rw [if_neg c, if_neg c]; rfl
theorem sX8_packed_bad {x y : Int32} (h : ¬ (inr x 100001 ∧ inr y 2)) : mF_X8_packed [.ref 138, .int x, .int y] μ = some (some (.int (-1)), μ) := by
  rw [en_X8_packed]
  simp only [x_X8_packed_0, x_X8_packed_1, x_X8_packed_2, x_X8_packed_4, x_X8_packed_7, x_X8_packed_10, x_X8_packed_11, x_X8_packed_12, x_X8_packed_13, x_X8_packed_16, x_X8_packed_19, x_X8_packed_20, x_X8_packed_21, x_X8_packed_22, x_X8_packed_25, x_X8_packed_26, x_X8_packed_29, x_X8_packed_32, x_X8_packed_33, x_X8_packed_36, x_X8_packed_39, sIn (m := 100000) (by decide), sIn (m := 1) (by decide), Option.bind_some, Option.toList, List.cons_append, List.nil_append, pb_eq0, ite_not]
  by_cases c1 : inr x 100001
  · by_cases c2 : inr y 2
    · exact absurd ⟨c1, c2⟩ h
    · rw [if_pos c1, if_neg c2]
  · rw [if_neg c1]
end MO1
