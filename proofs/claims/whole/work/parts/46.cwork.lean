/-! SCORES, 1: the reckoner's numbers as they are led on; what a formula is worth by itself -/
/-- v stands for A in the class: itself, or anything while the reckoner is lost -/
def RB (A : Option UInt64) (v : UInt64) : Prop := vf_n64 v ∧ ∀ a, A = some a → v = a
theorem RB_some {a : UInt64} (h : vf_n64 a) : RB (some a) a := ⟨h, fun b hb => by cases hb; rfl⟩
theorem RB_get {p : Option UInt64} (h : Vo p) : RB p (p.getD 0) := by
  cases p with
  | none => exact ⟨fn_0, fun a h => by cases h⟩
  | some a => exact RB_some (h a rfl)
theorem RB_Vo {A : Option UInt64} {v : UInt64} (h : RB A v) : Vo A := fun a ha => by rw [← h.2 a ha]; exact h.1
theorem sq_plus {x y : UInt64} (hx : vf_n64 x) (hy : vf_n64 y) : Vo (sp_plus x y) := by
  intro a h
  unfold sp_plus at h
  split at h
  · cases h
  · rename_i c
    cases h
    exact fn_add hx hy c
theorem sq_minus {x y : UInt64} (hx : vf_n64 x) (hy : vf_n64 y) : Vo (sp_minus x y) := by
  intro a h
  unfold sp_minus at h
  split at h
  · cases h
  · rename_i c
    cases h
    exact fn_sub hx hy c
theorem sq_times {x y : UInt64} (hx : vf_n64 x) (hy : vf_n64 y) : Vo (sp_times x y) := by
  intro a h
  unfold sp_times at h
  split at h
  · cases h
  · rename_i c
    cases h
    exact fn_mul hx hy (fun z => c (Or.inl z)) (fun z => c (Or.inr z))
theorem sq_over {x y : UInt64} (hx : vf_n64 x) (hy : vf_n64 y) : Vo (sp_over x y) := by
  intro a h
  unfold sp_over at h
  split at h
  · cases h
  · rename_i c
    cases h
    exact fn_div hx hy (fun z => c (Or.inl z)) (fun z => c (Or.inr z))
theorem sm2_none_r {f : UInt64 → UInt64 → Option UInt64} {A : Option UInt64} : sm2 f A none = none := by cases A <;> rfl
theorem sm2_Vo {sp : UInt64 → UInt64 → Option UInt64} (hfn : ∀ x y, vf_n64 x → vf_n64 y → Vo (sp x y)) {A B : Option UInt64} (hA : Vo A) (hB : Vo B) : Vo (sm2 sp A B) := by
  cases A with
  | none => exact fun a h => by cases h
  | some a => cases B with
    | none => exact fun a h => by cases h
    | some b => exact hfn a b (hA a rfl) (hB b rfl)
theorem sm2_S {f : UInt64 → UInt64 → Option UInt64} {A B : Option UInt64} (h : (sm2 f A B).isNone = false) : A.isNone = false ∧ B.isNone = false := by
  cases A <;> cases B <;> simp [sm2] at h ⊢
/-- the same, and what stands for nothing has lost the reckoner -/
def LK (b : Bool) (A : Option UInt64) (v : UInt64) : Prop := RB A v ∧ (A.isNone = true → b = true)
/-- lost before, lost behind; not lost before, and something came out: not lost -/
def BS (R : Option UInt64) (b b' : Bool) : Prop := (b = true → b' = true) ∧ (R.isNone = false → b = false → b' = false)
theorem LK_some {b : Bool} {a : UInt64} (h : vf_n64 a) : LK b (some a) a := ⟨RB_some h, fun z => by cases z⟩
theorem LK_mo {b b' : Bool} {A R : Option UInt64} {v : UInt64} (h : LK b A v) (s : BS R b b') : LK b' A v := ⟨h.1, fun z => s.1 (h.2 z)⟩
theorem st_gen {sp : UInt64 → UInt64 → Option UInt64} (hfn : ∀ x y, vf_n64 x → vf_n64 y → Vo (sp x y)) {A B : Option UInt64} {x y : UInt64} {b : Bool} (hA : LK b A x) (hB : LK b B y) : LK (b || (sp x y).isNone) (sm2 sp A B) (gd (sp x y)) ∧ BS (sm2 sp A B) b (b || (sp x y).isNone) := by
  have hv : vf_n64 (gd (sp x y)) := by
    cases h : sp x y with
    | none => exact fn_0
    | some a => exact hfn x y hA.1.1 hB.1.1 a h
  have hm : b = true → (b || (sp x y).isNone) = true := fun z => by rw [z]; rfl
  cases A with
  | none => exact ⟨⟨⟨hv, fun a h => by cases h⟩, fun _ => hm (hA.2 rfl)⟩, hm, fun z => by cases z⟩
  | some a =>
    cases B with
    | none => exact ⟨⟨⟨hv, fun a h => by cases h⟩, fun _ => hm (hB.2 rfl)⟩, hm, fun z => by cases z⟩
    | some c =>
      have e1 := hA.1.2 a rfl
      have e2 := hB.1.2 c rfl
      subst e1 e2
      have e3 : sm2 sp (some x) (some y) = sp x y := rfl
      rw [e3]
      refine ⟨⟨⟨hv, fun a h => by rw [h]; rfl⟩, fun z => by rw [z, Bool.or_true]⟩, hm, fun z w => by rw [z, w]; rfl⟩
section CWK
variable {I : Nat → Nat → Int32} {D : Nat → Nat → UInt64} {P : Nat → Nat → Option Nat} {A B : Option UInt64} {x y : UInt64} {b : Bool} {μ : pm_M}
theorem st_plus (hA : LK b A x) (hB : LK b B y) : ∃ v b', mF_X4_plus [.ref 12, .double x, .double y] (162, pm_u I 12 0 (fb b), D, pm_R P) = some (some (.double v), (162, pm_u I 12 0 (fb b'), D, pm_R P)) ∧ LK b' (sm2 sp_plus A B) v ∧ BS (sm2 sp_plus A B) b b' := by
  obtain ⟨h1, h2⟩ := st_gen (fun x y => sq_plus) hA hB
  exact ⟨_, _, sX4_plus hA.1.1 hB.1.1, h1, h2⟩
theorem st_minus (hA : LK b A x) (hB : LK b B y) : ∃ v b', mF_X4_minus [.ref 12, .double x, .double y] (162, pm_u I 12 0 (fb b), D, pm_R P) = some (some (.double v), (162, pm_u I 12 0 (fb b'), D, pm_R P)) ∧ LK b' (sm2 sp_minus A B) v ∧ BS (sm2 sp_minus A B) b b' := by
  obtain ⟨h1, h2⟩ := st_gen (fun x y => sq_minus) hA hB
  exact ⟨_, _, sX4_minus hA.1.1 hB.1.1, h1, h2⟩
theorem st_times (hA : LK b A x) (hB : LK b B y) : ∃ v b', mF_X4_times [.ref 12, .double x, .double y] (162, pm_u I 12 0 (fb b), D, pm_R P) = some (some (.double v), (162, pm_u I 12 0 (fb b'), D, pm_R P)) ∧ LK b' (sm2 sp_times A B) v ∧ BS (sm2 sp_times A B) b b' := by
  obtain ⟨h1, h2⟩ := st_gen (fun x y => sq_times) hA hB
  exact ⟨_, _, sX4_times hA.1.1 hB.1.1, h1, h2⟩
theorem st_over (hA : LK b A x) (hB : LK b B y) : ∃ v b', mF_X4_over [.ref 12, .double x, .double y] (162, pm_u I 12 0 (fb b), D, pm_R P) = some (some (.double v), (162, pm_u I 12 0 (fb b'), D, pm_R P)) ∧ LK b' (sm2 sp_over A B) v ∧ BS (sm2 sp_over A B) b b' := by
  obtain ⟨h1, h2⟩ := st_gen (fun x y => sq_over) hA hB
  exact ⟨_, _, sX4_over hA.1.1 hB.1.1, h1, h2⟩
theorem sX5_saturated (hA : LK false A x) (hB : LK false B y) : ∃ v, mF_X5_saturated [.ref 11, .double x, .double y] (162, pm_u I 12 0 (fb false), D, pm_R P) = some (some (.double v), (162, pm_u I 12 0 (fb (sm2 sp_over A (sm2 sp_plus A B)).isNone), D, pm_R P)) ∧ RB (sm2 sp_over A (sm2 sp_plus A B)) v := by
  obtain ⟨v1, b1, e1, r1, s1⟩ := st_plus (I := I) (D := D) (P := P) hA hB
  obtain ⟨v2, b2, e2, r2, s2⟩ := st_over (I := I) (D := D) (P := P) (LK_mo hA s1) r1
  have hb : b2 = (sm2 sp_over A (sm2 sp_plus A B)).isNone := by
    cases h : (sm2 sp_over A (sm2 sp_plus A B)).isNone with
    | true => exact r2.2 h
    | false => exact s2.2 h (s1.2 (sm2_S h).2 rfl)
  subst hb
  refine ⟨v2, ?_, r2.1⟩
  rw [en_X5_saturated]
  simp only [x_X5_saturated_0, x_X5_saturated_1, x_X5_saturated_4, x_X5_saturated_5, x_X5_saturated_6, x_X5_saturated_9, x_X5_saturated_10, x_X5_saturated_11, x_X5_saturated_14, x_X5_saturated_17, e1, e2, Option.bind_some, Option.toList, List.cons_append, List.nil_append]
theorem CO_fr {I' : Nat → Nat → Int32} {D' : Nat → Nat → UInt64} {g : gO} (h : CO I D g) (hf : ∀ a b, 2 ≤ a → a ≤ 10 → I' a b = I a b ∧ D' a b = D a b) : CO I' D' g := by
  refine ⟨h.1, fun i hi => ?_, fun f hf2 => ?_⟩
  · obtain ⟨a1, a2, a3, a4, a5⟩ := h.2.1 i hi
    exact ⟨by rw [(hf 2 i (by decide) (by decide)).1]; exact a1, by rw [(hf 3 i (by decide) (by decide)).2]; exact a2, by rw [(hf 4 i (by decide) (by decide)).1]; exact a3, by rw [(hf 7 i (by decide) (by decide)).1]; exact a4, fun a ha => by rw [(hf 8 i (by decide) (by decide)).2]; exact a5 a ha⟩
  · obtain ⟨a1, a2, a3, a4⟩ := h.2.2 f hf2
    exact ⟨by rw [(hf 5 f (by decide) (by decide)).1]; exact a1, by rw [(hf 6 f (by decide) (by decide)).1]; exact a2, by rw [(hf 9 f (by decide) (by decide)).1]; exact a3, fun a ha => by rw [(hf 10 f (by decide) (by decide)).2]; exact a4 a ha⟩
theorem sX6_countOf {g : gO} (hC : CO I D g) {o f : Nat} (ho : o < 40) (hf : f < 4) : mF_X6_countOf [.ref 1, .int (nI o), .int (nI f)] (162, I, D, pm_R P) = some (some (.double (FP.i2d (nI (g.1 (o * 4 + f))))), (162, I, D, pm_R P)) := by
  have hi : o * 4 + f < 160 := by omega
  rw [en_X6_countOf]
  simp (disch := assumption) only [x_X6_countOf_0, x_X6_countOf_1, x_X6_countOf_4, x_X6_countOf_5, x_X6_countOf_6, x_X6_countOf_7, x_X6_countOf_8, x_X6_countOf_9, x_X6_countOf_10, x_X6_countOf_11, pk_mul, nI_add, (hC.2.1 _ hi).1]
theorem sX6_rootOfCount {g : gO} (hC : CO I D g) {o f : Nat} (ho : o < 40) (hf : f < 4) : mF_X6_rootOfCount [.ref 1, .int (nI o), .int (nI f)] (162, I, D, pm_R P) = some (some (.double (rtv (g.1 (o * 4 + f)))), (162, I, D, pm_R P)) := by
  have hi : o * 4 + f < 160 := by omega
  rw [en_X6_rootOfCount]
  simp (disch := assumption) only [x_X6_rootOfCount_0, x_X6_rootOfCount_1, x_X6_rootOfCount_4, x_X6_rootOfCount_5, x_X6_rootOfCount_6, x_X6_rootOfCount_7, x_X6_rootOfCount_8, x_X6_rootOfCount_9, x_X6_rootOfCount_10, pk_mul, nI_add, (hC.2.1 _ hi).2.1]
theorem sX6_lengthOf {g : gO} (hC : CO I D g) {o f : Nat} (ho : o < 40) (hf : f < 4) : mF_X6_lengthOf [.ref 1, .int (nI o), .int (nI f)] (162, I, D, pm_R P) = some (some (.double (FP.i2d (nI (lv (g.2.1 (o * 4 + f)))))), (162, I, D, pm_R P)) := by
  have hi : o * 4 + f < 160 := by omega
  rw [en_X6_lengthOf]
  simp (disch := assumption) only [x_X6_lengthOf_0, x_X6_lengthOf_1, x_X6_lengthOf_4, x_X6_lengthOf_5, x_X6_lengthOf_6, x_X6_lengthOf_7, x_X6_lengthOf_8, x_X6_lengthOf_9, x_X6_lengthOf_10, x_X6_lengthOf_11, pk_mul, nI_add, (hC.2.1 _ hi).2.2.1]
theorem sX6_hasColumn {g : gO} (hC : CO I D g) {o f : Nat} (ho : o < 40) (hf : f < 4) : mF_X6_hasColumn [.ref 1, .int (nI o), .int (nI f)] (162, I, D, pm_R P) = some (some (.int (fb (g.2.2.1 (o * 4 + f)).isSome)), (162, I, D, pm_R P)) := by
  have hi : o * 4 + f < 160 := by omega
  rw [en_X6_hasColumn]
  simp (disch := first | assumption | exact fb_and _) only [x_X6_hasColumn_0, x_X6_hasColumn_1, x_X6_hasColumn_4, x_X6_hasColumn_5, x_X6_hasColumn_6, x_X6_hasColumn_7, x_X6_hasColumn_8, x_X6_hasColumn_9, x_X6_hasColumn_10a, x_X6_hasColumn_10b, x_X6_hasColumn_10, pk_mul, nI_add, (hC.2.1 _ hi).2.2.2.1]
theorem sX6_columnOf {g : gO} (hC : CO I D g) {o f : Nat} (ho : o < 40) (hf : f < 4) {a : UInt64} (ha : g.2.2.1 (o * 4 + f) = some a) : mF_X6_columnOf [.ref 1, .int (nI o), .int (nI f)] (162, I, D, pm_R P) = some (some (.double a), (162, I, D, pm_R P)) := by
  have hi : o * 4 + f < 160 := by omega
  rw [en_X6_columnOf]
  simp (disch := assumption) only [x_X6_columnOf_0, x_X6_columnOf_1, x_X6_columnOf_4, x_X6_columnOf_5, x_X6_columnOf_6, x_X6_columnOf_7, x_X6_columnOf_8, x_X6_columnOf_9, x_X6_columnOf_10, pk_mul, nI_add, (hC.2.1 _ hi).2.2.2.2 a ha]
theorem CO_fl {g : gO} (hC : CO I D g) (b : Bool) : CO (pm_u I 12 0 (fb b)) D g := CO_fr hC (fun a c h1 h2 => ⟨pm_ua (by omega), rfl⟩)
theorem sX5_filled {g : gO} (hC : CO I D g) {o f : Nat} (ho : o < 40) (hf : f < 4) (h5 : I 11 5 = nI o) : ∃ v, mF_X5_filled [.ref 11, .int (nI f)] (162, pm_u I 12 0 (fb false), D, pm_R P) = some (some (.double v), (162, pm_u I 12 0 (fb (g.2.2.1 (o * 4 + f)).isNone), D, pm_R P)) ∧ RB (g.2.2.1 (o * 4 + f)) v := by
  rw [en_X5_filled]
  have hC' := CO_fl hC false
  have h5' : pm_u I 12 0 (fb false) 11 5 = nI o := by rw [pm_ua (by decide)]; exact h5
  cases hc : g.2.2.1 (o * 4 + f) with
  | none =>
    refine ⟨0, ?_, fn_0, fun a h => by cases h⟩
    simp only [x_X5_filled_0, x_X5_filled_1, x_X5_filled_4, x_X5_filled_5, x_X5_filled_8, x_X5_filled_9, x_X5_filled_12, x_X5_filled_15, x_X5_filled_16, x_X5_filled_19, x_X5_filled_20, x_X5_filled_23, x_X5_filled_24, x_X5_filled_27, x_X5_filled_30, x_X5_filled_31, x_X5_filled_34, x_X5_filled_37, h5', sX6_hasColumn hC' ho hf, hc, Option.isSome_none, fb_eq0, if_true, sX4_lose, Option.bind_some, Option.toList, List.cons_append, List.nil_append, Option.isNone_none]
  | some a =>
    refine ⟨a, ?_, RB_some (hC.1.2.2.1 _ a hc)⟩
    simp only [x_X5_filled_0, x_X5_filled_1, x_X5_filled_4, x_X5_filled_5, x_X5_filled_8, x_X5_filled_9, x_X5_filled_12, x_X5_filled_15, x_X5_filled_16, x_X5_filled_19, x_X5_filled_20, x_X5_filled_23, x_X5_filled_24, x_X5_filled_27, x_X5_filled_30, x_X5_filled_31, x_X5_filled_34, x_X5_filled_37, h5', sX6_hasColumn hC' ho hf, sX6_columnOf hC' ho hf hc, hc, Option.isSome_some, fb_eq0, reduceCtorEq, if_false, Option.bind_some, Option.toList, List.cons_append, List.nil_append, Option.isNone_some]
end CWK
