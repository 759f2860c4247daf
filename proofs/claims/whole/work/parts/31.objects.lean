/-! OBJECTS: what both sides hold of them; tell, column, given -/
def ud {α : Type} (f : Nat → α) (a : Nat) (v : α) : Nat → α := fun i => if i = a then v else f i
theorem pm_ua {α : Type} {f : Nat → Nat → α} {a b i j : Nat} {v : α} (h : i ≠ a) : pm_u f a b v i j = f i j := if_neg (fun z => h z.1)
theorem pm_ub {α : Type} {f : Nat → Nat → α} {a b i j : Nat} {v : α} (h : j ≠ b) : pm_u f a b v i j = f i j := if_neg (fun z => h z.2)
theorem pm_uc {α : Type} {f : Nat → Nat → α} {a b j : Nat} {v : α} : pm_u f a b v a j = if j = b then v else f a j := by
  unfold pm_u
  by_cases h : j = b
  · rw [if_pos ⟨rfl, h⟩, if_pos h]
  · rw [if_neg (fun z => h z.2), if_neg h]
def sm (f : Nat → Nat) : Nat → Nat
  | 0 => 0
  | n + 1 => sm f n + f n
theorem sm_congr {f g : Nat → Nat} : ∀ n, (∀ i, i < n → f i = g i) → sm f n = sm g n
  | 0, _ => rfl
  | n + 1, h => by
    show sm f n + f n = sm g n + g n
    rw [sm_congr n (fun i hi => h i (by omega)), h n (by omega)]
theorem sm_ge {f : Nat → Nat} : ∀ n i, i < n → f i ≤ sm f n
  | 0, i, h => by omega
  | n + 1, i, h => by
    show f i ≤ sm f n + f n
    by_cases e : i = n
    · rw [e]; omega
    · have := sm_ge (f := f) n i (by omega)
      omega
theorem sm_le {f : Nat → Nat} {m : Nat} (h : ∀ i, f i ≤ m) : ∀ n, sm f n ≤ n * m
  | 0 => by show 0 ≤ _; exact Nat.zero_le _
  | n + 1 => by
    show sm f n + f n ≤ _
    have h1 := sm_le h n
    have h2 := h n
    rw [Nat.succ_mul]
    omega
theorem sm_ud {f : Nat → Nat} {o v : Nat} : ∀ n, o < n → sm (ud f o v) n + f o = sm f n + v
  | 0, h => by omega
  | n + 1, h => by
    show sm (ud f o v) n + ud f o v n + f o = sm f n + f n + v
    by_cases e : o = n
    · subst e
      have : sm (ud f o v) o = sm f o := sm_congr o (fun i hi => by unfold ud; rw [if_neg (by omega)])
      rw [this]
      unfold ud
      rw [if_pos rfl]
      omega
    · have ih := sm_ud (f := f) (o := o) (v := v) n (by omega)
      have : ud f o v n = f n := by unfold ud; rw [if_neg (Ne.symm e)]
      rw [this]
      omega
/-- counts, lengths, columns, averages given -/
abbrev gO : Type := (Nat → Nat) × (Nat → Nat) × (Nat → Option UInt64) × (Nat → Option UInt64)
def sumL (len : Nat → Nat) (f : Nat) : Nat := sm (fun o => lv (len (o * 4 + f))) 40
def cntL (len : Nat → Nat) (f : Nat) : Nat := sm (fun o => if lv (len (o * 4 + f)) = 0 then 0 else 1) 40
def rtv (c : Nat) : UInt64 := if c = 0 then 0 else rc_v c
theorem rtv_fn {c : Nat} (h : c ≤ 1000) : vf_n64 (rtv c) := by
  unfold rtv
  split
  · exact fn_0
  · exact fp_fn (rc_v_fp (by omega) h)
/-- what holds of the numbers -/
def gOk (g : gO) : Prop := (∀ i, g.1 i ≤ 1000) ∧ (∀ i, g.2.1 i ≤ 100000) ∧ (∀ i, Vo (g.2.2.1 i)) ∧ ∀ f a, g.2.2.2 f = some a → vf_n64 a ∧ FP.dcmp a 0 = some .gt
/-- the class's shelf -/
def CO (I : Nat → Nat → Int32) (D : Nat → Nat → UInt64) (g : gO) : Prop := gOk g ∧ (∀ i, i < 160 → I 2 i = nI (g.1 i) ∧ D 3 i = rtv (g.1 i) ∧ I 4 i = nI (lv (g.2.1 i)) ∧ I 7 i = fb (g.2.2.1 i).isSome ∧ ∀ a, g.2.2.1 i = some a → D 8 i = a) ∧
  ∀ f, f < 4 → I 5 f = nI (sumL g.2.1 f) ∧ I 6 f = nI (cntL g.2.1 f) ∧ I 9 f = fb (g.2.2.2 f).isSome ∧ ∀ a, g.2.2.2 f = some a → D 10 f = a
/-- the model's -/
def MO (I : Nat → Nat → Int32) (D : Nat → Nat → UInt64) (g : gO) : Prop := gOk g ∧ (∀ i, i < 160 → I 139 i = nI (g.1 i) ∧ I 140 i = nI (g.2.1 i) ∧ D 141 i = mo (g.2.2.1 i)) ∧
  ∀ f, f < 4 → I 143 f = fb (g.2.2.2 f).isSome ∧ ∀ a, g.2.2.2 f = some a → D 142 f = a
/-- the shelf's rows alone change -/
def FS (I I' : Nat → Nat → Int32) (D D' : Nat → Nat → UInt64) : Prop := ∀ a b, (a < 2 ∨ 10 < a) → I' a b = I a b ∧ D' a b = D a b
theorem nI_addsub {S v w : Nat} (h : w ≤ S) : nI S + (nI v - nI w) = nI (S + v - w) := by
  have e : nI S = nI (S - w) + nI w := by rw [nI_add, Nat.sub_add_cancel h]
  rw [e, Int32.add_assoc, Int32.add_comm (nI w), Int32.sub_add_cancel, nI_add]
  congr 1
  omega
section OBJ
variable {I : Nat → Nat → Int32} {D : Nat → Nat → UInt64} {P : Nat → Nat → Option Nat} {g : gO}
theorem sX0_root {c : Nat} (hc : c ≤ 1000) {μ : pm_M} : mF_X0_rootOf [.int (nI c)] μ = some (some (.double (rtv c)), μ) := by
  unfold rtv
  by_cases h : c = 0
  · subst h
    rw [if_pos rfl]
    exact sX0_rootOf0
  · rw [if_neg h]
    exact sX0_rootOf (by omega) hc
theorem sX6_put (hC : CO I D g) {o f c l : Nat} (ho : o < 40) (hf : f < 4) (hc : c ≤ 1000) (hl : l ≤ 100000) : ∃ I' D', mF_X6_put [.ref 1, .int (nI o), .int (nI f), .int (nI c), .int (nI l)] (162, I, D, pm_R P) = some (none, (162, I', D', pm_R P)) ∧ CO I' D' (ud g.1 (o * 4 + f) c, ud g.2.1 (o * 4 + f) l, g.2.2) ∧ FS I I' D D' := by
  obtain ⟨cnt, len, col, giv⟩ := g
  obtain ⟨hg, hi, hfs⟩ := hC
  have hat : o * 4 + f < 160 := by omega
  obtain ⟨i1, i2, i3, i4, i5⟩ := hi (o * 4 + f) hat
  obtain ⟨f1, f2, f3, f4⟩ := hfs f hf
  dsimp only at i1 i2 i3 i4 i5 f1 f2 f3 f4
  have hlv := lv_le l
  have hlo := lv_le (len (o * 4 + f))
  have s1 : lv (len (o * 4 + f)) ≤ sumL len f := sm_ge (f := fun o => lv (len (o * 4 + f))) 40 o ho
  have s2 : (if lv (len (o * 4 + f)) = 0 then 0 else 1) ≤ cntL len f := sm_ge (f := fun o => if lv (len (o * 4 + f)) = 0 then 0 else 1) 40 o ho
  have key : ∀ (h : Nat → Nat), sm (fun o' => h (ud len (o * 4 + f) l (o' * 4 + f))) 40 = sm (ud (fun o' => h (len (o' * 4 + f))) o (h l)) 40 := by
    intro h
    refine sm_congr 40 (fun i hi => ?_)
    unfold ud
    by_cases e : i = o
    · subst e
      rw [if_pos rfl, if_pos rfl]
    · rw [if_neg e, if_neg (by omega)]
  have n1 : sumL len f + lv l - lv (len (o * 4 + f)) = sumL (ud len (o * 4 + f) l) f := by
    have := sm_ud (f := fun o' => lv (len (o' * 4 + f))) (o := o) (v := lv l) 40 ho
    have k := key lv
    unfold sumL
    rw [k]
    unfold sumL at s1
    try dsimp only at this s1
    omega
  have n2 : cntL len f + (if lv l = 0 then 0 else 1) - (if lv (len (o * 4 + f)) = 0 then 0 else 1) = cntL (ud len (o * 4 + f) l) f := by
    have := sm_ud (f := fun o' => if lv (len (o' * 4 + f)) = 0 then 0 else 1) (o := o) (v := if lv l = 0 then 0 else 1) 40 ho
    have k := key (fun x => if lv x = 0 then 0 else 1)
    unfold cntL
    try dsimp only at k this
    rw [k]
    unfold cntL at s2
    try dsimp only at s2
    omega
  have z1 : (nI (lv l) = 0) = (lv l = 0) := propext (nI_c (by omega))
  have z2 : (nI (lv (len (o * 4 + f))) = 0) = (lv (len (o * 4 + f)) = 0) := propext (nI_c (by omega))
  refine ⟨pm_u (pm_u (pm_u (pm_u I 5 f (nI (sumL (ud len (o * 4 + f) l) f))) 6 f (nI (cntL (ud len (o * 4 + f) l) f))) 4 (o * 4 + f) (nI (lv l))) 2 (o * 4 + f) (nI c), pm_u D 3 (o * 4 + f) (rtv c), ?_, ⟨⟨?_, ?_, hg.2.2.1, hg.2.2.2⟩, ?_, ?_⟩, ?_⟩
  · rw [en_X6_put]
    have run1 : pm_run mE_X6_put 0 [.ref 1, .int (nI o), .int (nI f), .int (nI c), .int (nI l), .retAddr 0, .retAddr 0] [] (162, I, D, pm_R P) = pm_run mE_X6_put 36 [.ref 1, .int (nI o), .int (nI f), .int (nI c), .int (nI l), .int (nI (o * 4 + f)), .int (nI (lv l))] [] (162, pm_u I 5 f (nI (sumL (ud len (o * 4 + f) l) f)), D, pm_R P) := by
      simp (disch := omega) only [x_X6_put_0, x_X6_put_1, x_X6_put_2, x_X6_put_3, x_X6_put_4, x_X6_put_5, x_X6_put_7, x_X6_put_9, x_X6_put_12, x_X6_put_15, x_X6_put_17, x_X6_put_18, x_X6_put_21, x_X6_put_22, x_X6_put_23, x_X6_put_24, x_X6_put_26, x_X6_put_27, x_X6_put_30, x_X6_put_32, x_X6_put_33, x_X6_put_34, x_X6_put_35, pk_mul, nI_add, sX3_codeOf hl, sX3_valueOf (show bc l < 256 by have := bc_le l; omega), Option.bind_some, Option.toList, List.cons_append, List.nil_append, f1, i3]
      rw [show pv (bc l) = lv l from rfl, nI_addsub s1, n1]
    rw [run1]
    have run2 : ∀ (J : Nat → Nat → Int32), J 6 f = nI (cntL len f) → J 4 (o * 4 + f) = nI (lv (len (o * 4 + f))) → pm_run mE_X6_put 36 [.ref 1, .int (nI o), .int (nI f), .int (nI c), .int (nI l), .int (nI (o * 4 + f)), .int (nI (lv l))] [] (162, J, D, pm_R P) = pm_run mE_X6_put 71 [.ref 1, .int (nI o), .int (nI f), .int (nI c), .int (nI l), .int (nI (o * 4 + f)), .int (nI (lv l))] [] (162, pm_u J 6 f (nI (cntL (ud len (o * 4 + f) l) f)), D, pm_R P) := by
      intro J j1 j2
      rw [← n2]
      simp (disch := omega) only [x_X6_put_36, x_X6_put_37, x_X6_put_40, x_X6_put_41, x_X6_put_42, x_X6_put_43, x_X6_put_45, x_X6_put_48, x_X6_put_49, x_X6_put_52, x_X6_put_53, x_X6_put_54, x_X6_put_57, x_X6_put_59, x_X6_put_60, x_X6_put_63, x_X6_put_64, x_X6_put_67, z1, j1, j2, z2]
      by_cases c1 : lv l = 0
      · by_cases c2 : lv (len (o * 4 + f)) = 0
        · simp (disch := omega) only [if_pos c1, if_pos c2, x_X6_put_68, x_X6_put_69, x_X6_put_70, nI_addsub (Nat.zero_le (cntL len f))]
        · rw [if_neg c2] at s2
          simp (disch := omega) only [if_pos c1, if_neg c2, x_X6_put_68, x_X6_put_69, x_X6_put_70, nI_addsub s2]
      · by_cases c2 : lv (len (o * 4 + f)) = 0
        · simp (disch := omega) only [if_neg c1, if_pos c2, x_X6_put_68, x_X6_put_69, x_X6_put_70, nI_addsub (Nat.zero_le (cntL len f))]
        · rw [if_neg c2] at s2
          simp (disch := omega) only [if_neg c1, if_neg c2, x_X6_put_68, x_X6_put_69, x_X6_put_70, nI_addsub s2]
    rw [run2 _ (by rw [pm_ua (by decide)]; exact f2) (by rw [pm_ua (by decide)]; exact i3)]
    simp (disch := omega) only [x_X6_put_71, x_X6_put_72, x_X6_put_75, x_X6_put_77, x_X6_put_79, x_X6_put_80, x_X6_put_81, x_X6_put_84, x_X6_put_86, x_X6_put_87, x_X6_put_88, x_X6_put_89, x_X6_put_92, x_X6_put_94, x_X6_put_95, x_X6_put_98, x_X6_put_99, sX0_root hc, Option.bind_some, Option.toList, List.cons_append, List.nil_append]
  · intro i
    show ud cnt _ _ i ≤ 1000
    unfold ud
    split
    · exact hc
    · exact hg.1 i
  · intro i
    show ud len _ _ i ≤ 100000
    unfold ud
    split
    · exact hl
    · exact hg.2.1 i
  · intro i hi2
    obtain ⟨a1, a2, a3, a4, a5⟩ := hi i hi2
    dsimp only at a1 a2 a3 a4 a5 ⊢
    have e7 : ∀ (J : Nat → Nat → Int32) (x y z w : Int32), pm_u (pm_u (pm_u (pm_u J 5 f x) 6 f y) 4 (o * 4 + f) z) 2 (o * 4 + f) w 7 i = J 7 i := fun J x y z w => by
      rw [pm_ua (by decide), pm_ua (by decide), pm_ua (by decide), pm_ua (by decide)]
    refine ⟨?_, ?_, ?_, by rw [e7]; exact a4, fun a ha => by rw [pm_ua (by decide)]; exact a5 a ha⟩
    · rw [pm_uc]
      unfold ud
      by_cases e : i = o * 4 + f
      · rw [if_pos e, if_pos e]
      · rw [if_neg e, if_neg e, pm_ua (by decide), pm_ua (by decide), pm_ua (by decide)]
        exact a1
    · rw [pm_uc]
      unfold ud
      by_cases e : i = o * 4 + f
      · rw [if_pos e, if_pos e]
      · rw [if_neg e, if_neg e]
        exact a2
    · rw [pm_ua (by decide), pm_uc]
      unfold ud
      by_cases e : i = o * 4 + f
      · rw [if_pos e, if_pos e]
      · rw [if_neg e, if_neg e, pm_ua (by decide), pm_ua (by decide)]
        exact a3
  · intro f' hf'
    obtain ⟨a1, a2, a3, a4⟩ := hfs f' hf'
    dsimp only at a1 a2 a3 a4 ⊢
    have same : f' ≠ f → sumL (ud len (o * 4 + f) l) f' = sumL len f' ∧ cntL (ud len (o * 4 + f) l) f' = cntL len f' := by
      intro hne
      have e : ∀ i, ud len (o * 4 + f) l (i * 4 + f') = len (i * 4 + f') := fun i => by
        unfold ud
        rw [if_neg (by omega)]
      constructor
      · refine sm_congr 40 (fun i hi => ?_)
        rw [e]
      · refine sm_congr 40 (fun i hi => ?_)
        rw [e]
    refine ⟨?_, ?_, ?_, fun a ha => by rw [pm_ua (by decide)]; exact a4 a ha⟩
    · rw [pm_ua (by decide), pm_ua (by decide), pm_ua (by decide), pm_uc]
      by_cases e : f' = f
      · rw [if_pos e, e]
      · rw [if_neg e, (same e).1]
        exact a1
    · rw [pm_ua (by decide), pm_ua (by decide), pm_uc]
      by_cases e : f' = f
      · rw [if_pos e, e]
      · rw [if_neg e, pm_ua (by decide), (same e).2]
        exact a2
    · rw [pm_ua (by decide), pm_ua (by decide), pm_ua (by decide), pm_ua (by decide)]
      exact a3
  · intro a b hab
    constructor
    · rw [pm_ua (by omega), pm_ua (by omega), pm_ua (by omega), pm_ua (by omega)]
    · rw [pm_ua (by omega)]
end OBJ
