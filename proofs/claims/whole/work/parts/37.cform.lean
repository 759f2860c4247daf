/-! FORMULAS, 2: the class's formula and part -/
theorem x_X7_formula_82n {a0 a1 a2 a3 a4 a5 a6 a7 a9 a10 : Value} {st : List Value} {μ : pm_M} : pm_run mE_X7_formula 82 [a0, a1, a2, a3, a4, a5, a6, a7, .null, a9, a10] st μ = pm_run mE_X7_formula 84 [a0, a1, a2, a3, a4, a5, a6, a7, .null, a9, a10] (.null :: st) μ := pr_1 dX7_formula_82 rfl rfl rfl
theorem x_X7_formula_88n {a0 a1 a2 a3 a4 a5 a6 a7 a8 a10 : Value} {st : List Value} {μ : pm_M} : pm_run mE_X7_formula 88 [a0, a1, a2, a3, a4, a5, a6, a7, a8, .null, a10] st μ = pm_run mE_X7_formula 90 [a0, a1, a2, a3, a4, a5, a6, a7, a8, .null, a10] (.null :: st) μ := pr_1 dX7_formula_88 rfl rfl rfl
theorem x_X7_formula_125n {a0 a1 a2 a3 a4 a5 a6 a7 a9 a10 : Value} {st : List Value} {μ : pm_M} : pm_run mE_X7_formula 125 [a0, a1, a2, a3, a4, a5, a6, a7, .null, a9, a10] st μ = pm_run mE_X7_formula 127 [a0, a1, a2, a3, a4, a5, a6, a7, .null, a9, a10] (.null :: st) μ := pr_1 dX7_formula_125 rfl rfl rfl
theorem x_X7_formula_137n {a0 a1 a2 a3 a4 a5 a6 a7 a8 a10 : Value} {st : List Value} {μ : pm_M} : pm_run mE_X7_formula 137 [a0, a1, a2, a3, a4, a5, a6, a7, a8, .null, a10] st μ = pm_run mE_X7_formula 139 [a0, a1, a2, a3, a4, a5, a6, a7, a8, .null, a10] (.null :: st) μ := pr_1 dX7_formula_137 rfl rfl rfl
abbrev gF : Type := Nat × (Nat → zR)
/-- the class's rows of all formulas -/
def cF (I : Nat → Nat → Int32) (D : Nat → Nat → UInt64) (P : Nat → Nat → Option Nat) (m : Nat) (rec : Nat → zR) : Prop := ∀ k, k < m → cR I D P k (rec k)
def zAdd (rec : Nat → zR) (k a : Nat) : Nat → zR := ud (ud rec k (zW (rec k) a (rec a))) a (zY (rec a))
/-- the class's formulas' rows (and their number) alone change -/
def FC (I I' : Nat → Nat → Int32) (D D' : Nat → Nat → UInt64) : Prop := ∀ a b, a < 201 → ¬ (a = 0 ∧ b = 3) → I' a b = I a b ∧ D' a b = D a b
theorem FC_rf {I : Nat → Nat → Int32} {D : Nat → Nat → UInt64} : FC I I D D := fun _ _ _ _ => ⟨rfl, rfl⟩
theorem FC_tr {I I' I2 : Nat → Nat → Int32} {D D' D2 : Nat → Nat → UInt64} (h : FC I I' D D') (h2 : FC I' I2 D' D2) : FC I I2 D D2 := fun a b hab c => ⟨(h2 a b hab c).1.trans (h a b hab c).1, (h2 a b hab c).2.trans (h a b hab c).2⟩
theorem cR_fr {I I' : Nat → Nat → Int32} {D D' : Nat → Nat → UInt64} {P P' : Nat → Nat → Option Nat} {k : Nat} {r : zR} (h : cR I D P k r) (hI : ∀ a, 201 ≤ a → I' a k = I a k ∧ D' a k = D a k) (hP : ∀ j, P' k j = P k j) : cR I' D' P' k r := by
  obtain ⟨a1, a2, a3, a4, a5, a6, a7, a8, a9, a10, a11, a12, a13, a14⟩ := h
  refine ⟨?_, ?_, ?_, ?_, ?_, ?_, ?_, ?_, ?_, ?_, ?_, ?_, ?_, ?_⟩
  · rw [(hI _ (by decide)).1]; exact a1
  · rw [(hI _ (by decide)).1]; exact a2
  · rw [(hI _ (by decide)).1]; exact a3
  · rw [(hI _ (by decide)).2]; exact a4
  · rw [(hI _ (by decide)).2]; exact a5
  · rw [(hI _ (by decide)).1]; exact a6
  · rw [(hI _ (by decide)).1]; exact a7
  · rw [(hI _ (by decide)).1]; exact a8
  · rw [(hI _ (by decide)).1]; exact a9
  · rw [(hI _ (by decide)).1]; exact a10
  · rw [(hI _ (by decide)).1]; exact a11
  · rw [(hI _ (by decide)).1]; exact a12
  · rw [(hI _ (by decide)).1]; exact a13
  · intro j hj; rw [hP]; exact a14 j hj
section FOR2
variable {I : Nat → Nat → Int32} {D : Nat → Nat → UInt64} {P : Nat → Nat → Option Nat} {n kd : Nat} {rec : Nat → zR} {x y w : Int32} {p q : UInt64} {μ : pm_M}
theorem cF_begin (hC : cF I D P n rec) (hn : n < 60) (hkd : kd < 14) : ∃ I' D', mF_X1_begin [.ref (pm_fo n), .int (nI kd), .int x, .long p.toInt64, .long q.toInt64] (162, I, D, pm_R P) = some (none, (162, I', D', pm_R P)) ∧ cF I' D' P (n + 1) (ud rec n (zB kd x (ob p) (ob q))) ∧ FC I I' D D' ∧ ∀ b, I' 0 b = I 0 b := by
  obtain ⟨I', D', e, h1, h2⟩ := sX1_begin (I := I) (D := D) (P := P) (x := x) (p := p) (q := q) hn hkd
  refine ⟨I', D', e, fun k hk => ?_, fun a b hab _ => h2 a b (Or.inl hab), fun b => (h2 0 b (Or.inl (by decide))).1⟩
  unfold ud
  by_cases c : k = n
  · rw [if_pos c, c]; exact h1
  · rw [if_neg c]
    exact cR_fr (hC k (by omega)) (fun a _ => h2 a k (Or.inr c)) (fun _ => rfl)
theorem cF_addPart (hC : cF I D P n rec) {k a : Nat} (hn : n ≤ 60) (hk : k < n) (ha : a < n) (hak : a ≠ k) (hkd : zK (rec k) < 14) (hm : zM (rec k) < 8) : ∃ I' P', mF_X1_addPart [.ref (pm_fo k), .ref (pm_fo a)] (162, I, D, pm_R P) = some (none, (162, I', D, pm_R P')) ∧ cF I' D P' n (zAdd rec k a) ∧ FC I I' D D ∧ ∀ b, I' 0 b = I 0 b := by
  obtain ⟨I', P', e, h1, h2, h3, h4⟩ := sX1_addPart (by omega) (by omega) hak (hC k hk) (hC a ha) hkd hm
  refine ⟨I', P', e, fun b hb => ?_, fun c b hab _ => ⟨h3 c b (Or.inl hab), rfl⟩, fun b => h3 0 b (Or.inl (by decide))⟩
  unfold zAdd ud
  by_cases c : b = a
  · rw [if_pos c, c]; exact h2
  · rw [if_neg c]
    by_cases c2 : b = k
    · rw [if_pos c2, c2]; exact h1
    · rw [if_neg c2]
      exact cR_fr (hC b hb) (fun r _ => ⟨h3 r b (Or.inr ⟨c2, c⟩), rfl⟩) (fun j => h4 b j c2)
/-- the places that a kind wants -/
abbrev plc (n kd : Nat) (x y : Int32) : Prop := (1 ≤ kd ∧ kd ≤ 5 → inr x 4) ∧ (9 ≤ kd → inr x n) ∧ (kd = 13 → inr y n)
theorem sX7_isFormula (h : I 0 3 = nI n) : mF_X7_isFormula [.ref 0, .int x] (162, I, D, pm_R P) = some (some (.int (pb (inr x n))), (162, I, D, pm_R P)) := by
  rw [en_X7_isFormula]
  simp (disch := exact pb_and _) only [x_X7_isFormula_0, x_X7_isFormula_1, x_X7_isFormula_2, x_X7_isFormula_5, x_X7_isFormula_8a, x_X7_isFormula_8b, x_X7_isFormula_8, h, sX7_isIn, Option.bind_some, Option.toList, List.cons_append, List.nil_append]
theorem sX7_placesAreRight (h : I 0 3 = nI n) (hkd : kd < 14) : mF_X7_placesAreRight [.ref 0, .int (nI kd), .int x, .int y] (162, I, D, pm_R P) = some (some (.int (pb (plc n kd x y))), (162, I, D, pm_R P)) := by
  rw [en_X7_placesAreRight]
  have hb : kd < 2 ^ 31 := by omega
  have e5 := nI_eq (a := kd) (b := 5) hb (by decide)
  have e13 := nI_eq (a := kd) (b := 13) hb (by decide)
  simp (disch := first | exact pb_and _ | assumption) only [x_X7_placesAreRight_0, x_X7_placesAreRight_1, x_X7_placesAreRight_4, x_X7_placesAreRight_7, x_X7_placesAreRight_8, x_X7_placesAreRight_9, x_X7_placesAreRight_12a, x_X7_placesAreRight_12b, x_X7_placesAreRight_12, x_X7_placesAreRight_13, x_X7_placesAreRight_14, x_X7_placesAreRight_15, sX2_hasField, sX7_isIn, Option.bind_some, Option.toList, List.cons_append, List.nil_append, pb_eq0, ite_not, e5]
  by_cases c1 : 1 ≤ kd ∧ kd ≤ 4
  · rw [if_pos c1]
    have : plc n kd x y = inr x 4 := by
      apply propext
      constructor
      · intro z; exact z.1 (by omega)
      · intro z; exact ⟨fun _ => z, fun w => absurd w (by omega), fun w => absurd w (by omega)⟩
    simp only [this]
  · rw [if_neg c1]
    by_cases c5 : kd = 5
    · rw [if_pos c5]
      have : plc n kd x y = inr x 4 := by
        apply propext
        constructor
        · intro z; exact z.1 (by omega)
        · intro z; exact ⟨fun _ => z, fun w => absurd w (by omega), fun w => absurd w (by omega)⟩
      simp (disch := first | exact pb_and _ | assumption) only [x_X7_placesAreRight_18, x_X7_placesAreRight_19, x_X7_placesAreRight_20, x_X7_placesAreRight_23a, x_X7_placesAreRight_23b, x_X7_placesAreRight_23, sX7_isIn, Option.bind_some, Option.toList, List.cons_append, List.nil_append, this]
    · rw [if_neg c5]
      simp (disch := first | exact pb_and _ | assumption) only [x_X7_placesAreRight_24, x_X7_placesAreRight_25, x_X7_placesAreRight_27, e13]
      have rest : pm_run mE_X7_placesAreRight 40 [.ref 0, .int (nI kd), .int x, .int y] [] (162, I, D, pm_R P) = some (some (.int (pb (9 ≤ kd → inr x n))), (162, I, D, pm_R P)) := by
        simp (disch := first | exact pb_and _ | assumption) only [x_X7_placesAreRight_40, x_X7_placesAreRight_41, x_X7_placesAreRight_44, x_X7_placesAreRight_47, x_X7_placesAreRight_48, x_X7_placesAreRight_49, x_X7_placesAreRight_52, sX2_hasX, sX7_isFormula h, Option.bind_some, Option.toList, List.cons_append, List.nil_append, pb_eq0, ite_not]
        by_cases c9 : 9 ≤ kd ∧ kd ≤ 13
        · rw [if_pos c9]
          by_cases cx : inr x n
          · rw [if_pos cx, pb_t (fun _ => cx)]
            simp only [x_X7_placesAreRight_55, x_X7_placesAreRight_56, x_X7_placesAreRight_59, x_X7_placesAreRight_60a, x_X7_placesAreRight_60b, x_X7_placesAreRight_60]
            rfl
          · rw [if_neg cx, pb_f (fun z => cx (z c9.1))]
            simp only [x_X7_placesAreRight_59, x_X7_placesAreRight_60a, x_X7_placesAreRight_60b, x_X7_placesAreRight_60]
            rfl
        · rw [if_neg c9, pb_t (fun z => absurd z (by omega))]
          simp only [x_X7_placesAreRight_55, x_X7_placesAreRight_56, x_X7_placesAreRight_59, x_X7_placesAreRight_60a, x_X7_placesAreRight_60b, x_X7_placesAreRight_60]
          rfl
      by_cases c13 : kd = 13
      · rw [if_pos c13]
        simp (disch := first | exact pb_and _ | assumption) only [x_X7_placesAreRight_30, x_X7_placesAreRight_31, x_X7_placesAreRight_32, x_X7_placesAreRight_35, sX7_isFormula h, Option.bind_some, Option.toList, List.cons_append, List.nil_append, pb_eq0, ite_not]
        by_cases cy : inr y n
        · rw [if_pos cy, rest]
          have : plc n kd x y = (9 ≤ kd → inr x n) := by
            apply propext
            exact ⟨fun z => z.2.1, fun z => ⟨fun w => absurd w (by omega), z, fun _ => cy⟩⟩
          simp only [this]
        · rw [if_neg cy, pb_f (fun z => cy (z.2.2 c13))]
          simp only [x_X7_placesAreRight_38, x_X7_placesAreRight_39a, x_X7_placesAreRight_39b, x_X7_placesAreRight_39]
          rfl
      · rw [if_neg c13, rest]
        have : plc n kd x y = (9 ≤ kd → inr x n) := by
          apply propext
          exact ⟨fun z => z.2.1, fun z => ⟨fun w => absurd w (by omega), z, fun w => absurd w c13⟩⟩
        simp only [this]
theorem sX7_sizeOf0 : mF_X7_sizeOf [.null] μ = some (some (.int (nI 0)), μ) := by
  rw [show mF_X7_sizeOf [.null] μ = pm_run mE_X7_sizeOf 0 [.null] [] μ from rfl]
  simp only [x_X7_sizeOf_0, x_X7_sizeOf_0n, x_X7_sizeOf_1, x_X7_sizeOf_1n, x_X7_sizeOf_4, x_X7_sizeOf_5, x_X7_sizeOf_8, x_X7_sizeOf_8n, x_X7_sizeOf_9, x_X7_sizeOf_12]
theorem sX7_sizeOf {k : Nat} (hk : k < 60) {s : Int32} (h : I 209 k = s) : mF_X7_sizeOf [.ref (pm_fo k)] (162, I, D, pm_R P) = some (some (.int s), (162, I, D, pm_R P)) := by
  rw [en_X7_sizeOf]
  simp (disch := assumption) only [x_X7_sizeOf_0, x_X7_sizeOf_0n, x_X7_sizeOf_1, x_X7_sizeOf_1n, x_X7_sizeOf_4, x_X7_sizeOf_5, x_X7_sizeOf_8, x_X7_sizeOf_8n, x_X7_sizeOf_9, x_X7_sizeOf_12, h]
theorem sX7_formula_bad (h : I 0 3 = nI n) (hz : ¬ (∃ k, k < 14 ∧ x = nI k ∧ plc n k y w ∧ tk k p q)) : mF_X7_formula [.ref 0, .int x, .int y, .int w, .long p.toInt64, .long q.toInt64] (162, I, D, pm_R P) = some (some (.int (-1)), (162, I, D, pm_R P)) := by
  rw [en_X7_formula]
  simp only [x_X7_formula_0, x_X7_formula_1, x_X7_formula_3, x_X7_formula_6, sX7_isIn, Option.bind_some, Option.toList, List.cons_append, List.nil_append, pb_eq0, ite_not]
  by_cases c : inr x 14
  · rw [if_pos c]
    obtain ⟨k, hk, rfl⟩ := inr_nat (by decide) c
    simp only [x_X7_formula_9, x_X7_formula_10, x_X7_formula_11, x_X7_formula_12, x_X7_formula_13, x_X7_formula_16, sX7_placesAreRight h hk, Option.bind_some, Option.toList, List.cons_append, List.nil_append, pb_eq0, ite_not]
    by_cases c2 : plc n k y w
    · rw [if_pos c2]
      have c3 : ¬ tk k p q := fun z => hz ⟨k, hk, rfl, c2, z⟩
      simp only [x_X7_formula_19, x_X7_formula_20, x_X7_formula_22, x_X7_formula_24, x_X7_formula_27, sX2_takes hk, Option.bind_some, Option.toList, List.cons_append, List.nil_append, pb_eq0, c3, not_false_eq_true, if_true]
      simp only [x_X7_formula_30, x_X7_formula_31]
    · rw [if_neg c2]
      simp only [x_X7_formula_30, x_X7_formula_31]
  · rw [if_neg c]
    simp only [x_X7_formula_30, x_X7_formula_31]
/-- the size that a new formula would have -/
def zSz (rec : Nat → zR) (kd xn yn : Nat) : Int32 := nI 1 + (if 9 ≤ kd then (zA (rec xn)).1 else nI 0) + (if kd = 13 then (zA (rec yn)).1 else nI 0)
/-- all formulas with a new one -/
def zNew (rec : Nat → zR) (n kd : Nat) (x : Int32) (p q : Option UInt64) (xn yn : Nat) : Nat → zR :=
  if kd = 13 then zAdd (zAdd (ud rec n (zB kd x p q)) n xn) n yn else if 9 ≤ kd then zAdd (ud rec n (zB kd x p q)) n xn else ud rec n (zB kd x p q)
end FOR2
