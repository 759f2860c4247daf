/-! SCORES, 12: top: both sides -/
/-- one object goes ahead of another -/
def ahB (fl : Nat → Bool) (vl : Nat → UInt64) (i o : Nat) : Bool := if fl i = fl o then (if fl i = true ∨ FP.dcmp (vl i) (vl o) = some .eq then decide (i < o) else decide (FP.dcmp (vl i) (vl o) = some .gt)) else fl o
def cnt (fl : Nat → Bool) (vl : Nat → UInt64) (o : Nat) : Nat → Nat
  | 0 => 0
  | i + 1 => cnt fl vl o i + (if ahB fl vl i o = true then 1 else 0)
def tpF (fl : Nat → Bool) (vl : Nat → UInt64) (k : Nat) : Nat → Nat → Int32
  | 0, _ => -1
  | c + 1, o => if cnt fl vl o 40 = k then nI o else tpF fl vl k c (o + 1)
def flO (g : gO) (nF : Nat) (rec : Nat → zR) (k o : Nat) : Bool := !decide ((scv g nF rec k o).2.1 = 0)
def vlO (g : gO) (nF : Nat) (rec : Nat → zR) (k o : Nat) : UInt64 := (scv g nF rec k o).2.2.2
def tpA (g : gO) (nF : Nat) (rec : Nat → zR) (k j : Nat) : Int32 := tpF (flO g nF rec k) (vlO g nF rec k) j 40 0
theorem cnt_le (fl : Nat → Bool) (vl : Nat → UInt64) (o : Nat) : ∀ i, cnt fl vl o i ≤ i
  | 0 => Nat.le_refl _
  | i + 1 => by
    have h := cnt_le fl vl o i
    show cnt fl vl o i + (if ahB fl vl i o = true then 1 else 0) ≤ i + 1
    split <;> omega
theorem fbQ (a b : Bool) : (fb a = fb b) = (a = b) := by cases a <;> cases b <;> decide
theorem fbF : fb false = nI 0 := rfl
theorem flO_f {g : gO} {nF : Nat} {rec : Nat → zR} {k o : Nat} : flO g nF rec k o = false ↔ (scv g nF rec k o).2.1 = 0 := by
  unfold flO
  by_cases c : (scv g nF rec k o).2.1 = 0
  · simp [c]
  · simp [c]
section TOP
variable {I : Nat → Nat → Int32} {D : Nat → Nat → UInt64} {P : Nat → Nat → Option Nat} {fl : Nat → Bool} {vl : Nat → UInt64}
/-- ranked: rows a, b -/
def rkd (a b : Nat) (fl : Nat → Bool) (vl : Nat → UInt64) (I : Nat → Nat → Int32) (D : Nat → Nat → UInt64) (n : Nat) : Prop := ∀ i, i < n → I a i = fb (fl i) ∧ (fl i = false → D b i = vl i)
theorem sX7_goesAhead (h : rkd 137 136 fl vl I D 40) {i o : Nat} (hi : i < 40) (ho : o < 40) : mF_X7_goesAhead [.ref 0, .int (nI i), .int (nI o)] (162, I, D, pm_R P) = some (some (.int (fb (ahB fl vl i o))), (162, I, D, pm_R P)) := by
  obtain ⟨a1, a2⟩ := h i hi
  obtain ⟨b1, b2⟩ := h o ho
  have elt : (nI o ≤ nI i) = (o ≤ i) := propext (nI_leI (by omega) (by omega))
  rw [en_X7_goesAhead]
  cases ci : fl i with
  | true =>
    rw [ci] at a1
    cases co : fl o with
    | true =>
      rw [co] at b1
      by_cases c : i < o
      · have e : ahB fl vl i o = true := by simp [ahB, ci, co, c]
        have c' : ¬ o ≤ i := by omega
        simp (disch := first | assumption | decide) only [x_X7_goesAhead_0, x_X7_goesAhead_1, x_X7_goesAhead_4, x_X7_goesAhead_5, x_X7_goesAhead_6, x_X7_goesAhead_7, x_X7_goesAhead_10, x_X7_goesAhead_11, x_X7_goesAhead_12, x_X7_goesAhead_22, x_X7_goesAhead_23, x_X7_goesAhead_26, x_X7_goesAhead_27, x_X7_goesAhead_28, x_X7_goesAhead_47, x_X7_goesAhead_48, x_X7_goesAhead_49, x_X7_goesAhead_52, x_X7_goesAhead_53, x_X7_goesAhead_56, x_X7_goesAhead_57a, x_X7_goesAhead_57b, x_X7_goesAhead_57, a1, b1, if_true, fb_eq0, reduceCtorEq, if_false, elt, c', show fb (ahB fl vl i o) = nI 1 from (by rw [e]; rfl)]
      · have e : ahB fl vl i o = false := by simp [ahB, ci, co, c]
        have c' : o ≤ i := by omega
        simp (disch := first | assumption | decide) only [x_X7_goesAhead_0, x_X7_goesAhead_1, x_X7_goesAhead_4, x_X7_goesAhead_5, x_X7_goesAhead_6, x_X7_goesAhead_7, x_X7_goesAhead_10, x_X7_goesAhead_11, x_X7_goesAhead_12, x_X7_goesAhead_22, x_X7_goesAhead_23, x_X7_goesAhead_26, x_X7_goesAhead_27, x_X7_goesAhead_28, x_X7_goesAhead_47, x_X7_goesAhead_48, x_X7_goesAhead_49, x_X7_goesAhead_52, x_X7_goesAhead_53, x_X7_goesAhead_56, x_X7_goesAhead_57a, x_X7_goesAhead_57b, x_X7_goesAhead_57, a1, b1, if_true, fb_eq0, reduceCtorEq, if_false, elt, c', show fb (ahB fl vl i o) = nI 0 from (by rw [e]; rfl)]
    | false =>
      rw [co] at b1
      have e : ahB fl vl i o = false := by simp [ahB, ci, co]
      simp (disch := first | assumption | decide | exact fb_and _) only [x_X7_goesAhead_0, x_X7_goesAhead_1, x_X7_goesAhead_4, x_X7_goesAhead_5, x_X7_goesAhead_6, x_X7_goesAhead_7, x_X7_goesAhead_10, x_X7_goesAhead_11, x_X7_goesAhead_12, x_X7_goesAhead_15, x_X7_goesAhead_16, x_X7_goesAhead_19, x_X7_goesAhead_20, x_X7_goesAhead_21a, x_X7_goesAhead_21b, x_X7_goesAhead_21, a1, b1, fbQ, reduceCtorEq, if_false, e]
  | false =>
    rw [ci] at a1
    cases co : fl o with
    | true =>
      rw [co] at b1
      have e : ahB fl vl i o = true := by simp [ahB, ci, co]
      simp (disch := first | assumption | decide | exact fb_and _) only [x_X7_goesAhead_0, x_X7_goesAhead_1, x_X7_goesAhead_4, x_X7_goesAhead_5, x_X7_goesAhead_6, x_X7_goesAhead_7, x_X7_goesAhead_10, x_X7_goesAhead_11, x_X7_goesAhead_12, x_X7_goesAhead_15, x_X7_goesAhead_16, x_X7_goesAhead_19, x_X7_goesAhead_20, x_X7_goesAhead_21a, x_X7_goesAhead_21b, x_X7_goesAhead_21, a1, b1, fbQ, reduceCtorEq, if_false, e]
    | false =>
      rw [co] at b1
      have v1 := a2 ci
      have v2 := b2 co
      by_cases q : FP.dcmp (vl i) (vl o) = some .eq
      · by_cases c : i < o
        · have e : ahB fl vl i o = true := by simp [ahB, ci, co, c, q]
          have c' : ¬ o ≤ i := by omega
          simp (disch := first | assumption | decide) only [x_X7_goesAhead_0, x_X7_goesAhead_1, x_X7_goesAhead_4, x_X7_goesAhead_5, x_X7_goesAhead_6, x_X7_goesAhead_7, x_X7_goesAhead_10, x_X7_goesAhead_11, x_X7_goesAhead_12, x_X7_goesAhead_22, x_X7_goesAhead_23, x_X7_goesAhead_26, x_X7_goesAhead_27, x_X7_goesAhead_28, x_X7_goesAhead_31, x_X7_goesAhead_32, x_X7_goesAhead_35, x_X7_goesAhead_36, x_X7_goesAhead_37, x_X7_goesAhead_38, x_X7_goesAhead_41, x_X7_goesAhead_42, x_X7_goesAhead_43, x_X7_goesAhead_44, x_X7_goesAhead_47, x_X7_goesAhead_48, x_X7_goesAhead_49, x_X7_goesAhead_52, x_X7_goesAhead_53, x_X7_goesAhead_56, x_X7_goesAhead_57a, x_X7_goesAhead_57b, x_X7_goesAhead_57, a1, b1, if_true, fb_eq0, v1, v2, cl_eq, q, if_false, elt, c', show fb (ahB fl vl i o) = nI 1 from (by rw [e]; rfl)]
        · have e : ahB fl vl i o = false := by simp [ahB, ci, co, c, q]
          have c' : o ≤ i := by omega
          simp (disch := first | assumption | decide) only [x_X7_goesAhead_0, x_X7_goesAhead_1, x_X7_goesAhead_4, x_X7_goesAhead_5, x_X7_goesAhead_6, x_X7_goesAhead_7, x_X7_goesAhead_10, x_X7_goesAhead_11, x_X7_goesAhead_12, x_X7_goesAhead_22, x_X7_goesAhead_23, x_X7_goesAhead_26, x_X7_goesAhead_27, x_X7_goesAhead_28, x_X7_goesAhead_31, x_X7_goesAhead_32, x_X7_goesAhead_35, x_X7_goesAhead_36, x_X7_goesAhead_37, x_X7_goesAhead_38, x_X7_goesAhead_41, x_X7_goesAhead_42, x_X7_goesAhead_43, x_X7_goesAhead_44, x_X7_goesAhead_47, x_X7_goesAhead_48, x_X7_goesAhead_49, x_X7_goesAhead_52, x_X7_goesAhead_53, x_X7_goesAhead_56, x_X7_goesAhead_57a, x_X7_goesAhead_57b, x_X7_goesAhead_57, a1, b1, if_true, fb_eq0, v1, v2, cl_eq, q, elt, c', show fb (ahB fl vl i o) = nI 0 from (by rw [e]; rfl)]
      · by_cases c : FP.dcmp (vl i) (vl o) = some .gt
        · have e : ahB fl vl i o = true := by simp [ahB, ci, co, c]
          simp (disch := first | assumption | decide) only [x_X7_goesAhead_0, x_X7_goesAhead_1, x_X7_goesAhead_4, x_X7_goesAhead_5, x_X7_goesAhead_6, x_X7_goesAhead_7, x_X7_goesAhead_10, x_X7_goesAhead_11, x_X7_goesAhead_12, x_X7_goesAhead_22, x_X7_goesAhead_23, x_X7_goesAhead_26, x_X7_goesAhead_27, x_X7_goesAhead_28, x_X7_goesAhead_31, x_X7_goesAhead_32, x_X7_goesAhead_35, x_X7_goesAhead_36, x_X7_goesAhead_37, x_X7_goesAhead_38, x_X7_goesAhead_41, x_X7_goesAhead_42, x_X7_goesAhead_43, x_X7_goesAhead_44, x_X7_goesAhead_58, x_X7_goesAhead_59, x_X7_goesAhead_62, x_X7_goesAhead_63, x_X7_goesAhead_64, x_X7_goesAhead_65, x_X7_goesAhead_68, x_X7_goesAhead_69, x_X7_goesAhead_70, x_X7_goesAhead_71, x_X7_goesAhead_74, x_X7_goesAhead_75, x_X7_goesAhead_78, x_X7_goesAhead_79a, x_X7_goesAhead_79b, x_X7_goesAhead_79, a1, b1, if_true, fb_eq0, v1, v2, cl_eq, cl_le, c, reduceCtorEq, Option.some.injEq, not_true, if_false, show fb (ahB fl vl i o) = nI 1 from (by rw [e]; rfl)]
        · have e : ahB fl vl i o = false := by simp [ahB, ci, co, c, q]
          simp (disch := first | assumption | decide) only [x_X7_goesAhead_0, x_X7_goesAhead_1, x_X7_goesAhead_4, x_X7_goesAhead_5, x_X7_goesAhead_6, x_X7_goesAhead_7, x_X7_goesAhead_10, x_X7_goesAhead_11, x_X7_goesAhead_12, x_X7_goesAhead_22, x_X7_goesAhead_23, x_X7_goesAhead_26, x_X7_goesAhead_27, x_X7_goesAhead_28, x_X7_goesAhead_31, x_X7_goesAhead_32, x_X7_goesAhead_35, x_X7_goesAhead_36, x_X7_goesAhead_37, x_X7_goesAhead_38, x_X7_goesAhead_41, x_X7_goesAhead_42, x_X7_goesAhead_43, x_X7_goesAhead_44, x_X7_goesAhead_58, x_X7_goesAhead_59, x_X7_goesAhead_62, x_X7_goesAhead_63, x_X7_goesAhead_64, x_X7_goesAhead_65, x_X7_goesAhead_68, x_X7_goesAhead_69, x_X7_goesAhead_70, x_X7_goesAhead_71, x_X7_goesAhead_74, x_X7_goesAhead_75, x_X7_goesAhead_78, x_X7_goesAhead_79a, x_X7_goesAhead_79b, x_X7_goesAhead_79, a1, b1, if_true, fb_eq0, v1, v2, cl_eq, cl_le, q, c, not_false_eq_true, if_false, show fb (ahB fl vl i o) = nI 0 from (by rw [e]; rfl)]
theorem hm_loop (h : rkd 137 136 fl vl I D 40) {o : Nat} (ho : o < 40) : ∀ c i, i + c = 40 → pm_run mE_X7_howManyAheadOf 4 [.ref 0, .int (nI o), .int (nI (cnt fl vl o i)), .int (nI i)] [] (162, I, D, pm_R P) = some (some (.int (nI (cnt fl vl o 40))), (162, I, D, pm_R P)) := by
  intro c
  induction c with
  | zero =>
    intro i hi
    have e : i = 40 := by omega
    subst e
    have hle : nI 40 ≤ nI 40 := by decide
    simp only [x_X7_howManyAheadOf_4, x_X7_howManyAheadOf_5, x_X7_howManyAheadOf_7, x_X7_howManyAheadOf_28, x_X7_howManyAheadOf_29, hle, if_true]
  | succ c ih =>
    intro i hi
    have hlt : ¬ nI 40 ≤ nI i := nI_ge (by omega) (by decide)
    rw [← ih (i + 1) (by omega)]
    have eg := sX7_goesAhead (P := P) h (show i < 40 by omega) ho
    have es : cnt fl vl o (i + 1) = cnt fl vl o i + (if ahB fl vl i o = true then 1 else 0) := rfl
    rw [es]
    by_cases c1 : ahB fl vl i o = true
    · rw [c1] at eg
      rw [if_pos c1]
      simp only [x_X7_howManyAheadOf_4, x_X7_howManyAheadOf_5, x_X7_howManyAheadOf_7, x_X7_howManyAheadOf_10, x_X7_howManyAheadOf_11, x_X7_howManyAheadOf_12, x_X7_howManyAheadOf_13, x_X7_howManyAheadOf_16, x_X7_howManyAheadOf_19, x_X7_howManyAheadOf_22, x_X7_howManyAheadOf_25, hlt, if_false, eg, fb_eq0, reduceCtorEq, nI_add, Option.bind_some, Option.toList, List.cons_append, List.nil_append]
    · rw [Bool.not_eq_true] at c1
      rw [c1] at eg ⊢
      simp only [x_X7_howManyAheadOf_4, x_X7_howManyAheadOf_5, x_X7_howManyAheadOf_7, x_X7_howManyAheadOf_10, x_X7_howManyAheadOf_11, x_X7_howManyAheadOf_12, x_X7_howManyAheadOf_13, x_X7_howManyAheadOf_16, x_X7_howManyAheadOf_22, x_X7_howManyAheadOf_25, hlt, if_false, eg, fb_eq0, if_true, reduceCtorEq, nI_add, Nat.add_zero, Option.bind_some, Option.toList, List.cons_append, List.nil_append]
theorem sX7_howMany (h : rkd 137 136 fl vl I D 40) {o : Nat} (ho : o < 40) : mF_X7_howManyAheadOf [.ref 0, .int (nI o)] (162, I, D, pm_R P) = some (some (.int (nI (cnt fl vl o 40))), (162, I, D, pm_R P)) := by
  rw [← hm_loop (P := P) h ho 40 0 rfl, en_X7_howManyAheadOf]
  simp only [x_X7_howManyAheadOf_0, x_X7_howManyAheadOf_1, x_X7_howManyAheadOf_2, x_X7_howManyAheadOf_3]
  rfl
theorem ct_loop {a1 : Value} (h : rkd 137 136 fl vl I D 40) {k : Nat} (hk : k < 40) : ∀ c o, o + c = 40 → pm_run mE_X7_top 76 [.ref 0, a1, .int (nI k), .int (nI o)] [] (162, I, D, pm_R P) = some (some (.int (tpF fl vl k c o)), (162, I, D, pm_R P)) := by
  intro c
  induction c with
  | zero =>
    intro o hi
    have e : o = 40 := by omega
    subst e
    have hle : nI 40 ≤ nI 40 := by decide
    simp only [x_X7_top_76, x_X7_top_77, x_X7_top_79, x_X7_top_99, x_X7_top_100, hle, if_true]
    rfl
  | succ c ih =>
    intro o hi
    have hlt : ¬ nI 40 ≤ nI o := nI_ge (by omega) (by decide)
    have eg := sX7_howMany (P := P) h (show o < 40 by omega)
    have hc := cnt_le fl vl o 40
    have es : tpF fl vl k (c + 1) o = if cnt fl vl o 40 = k then nI o else tpF fl vl k c (o + 1) := rfl
    rw [es]
    by_cases c1 : cnt fl vl o 40 = k
    · rw [if_pos c1]
      rw [c1] at eg
      simp only [x_X7_top_76, x_X7_top_77, x_X7_top_79, x_X7_top_82, x_X7_top_83, x_X7_top_84, x_X7_top_87, x_X7_top_88, x_X7_top_91, x_X7_top_92, hlt, if_false, eg, if_true, Option.bind_some, Option.toList, List.cons_append, List.nil_append]
    · rw [if_neg c1, ← ih (o + 1) (by omega)]
      have c2 : ¬ nI (cnt fl vl o 40) = nI k := fun z => c1 ((nI_eq (by omega) (by omega)).mp z)
      simp only [x_X7_top_76, x_X7_top_77, x_X7_top_79, x_X7_top_82, x_X7_top_83, x_X7_top_84, x_X7_top_87, x_X7_top_88, x_X7_top_93, x_X7_top_96, hlt, if_false, eg, c2, nI_add, Option.bind_some, Option.toList, List.cons_append, List.nil_append]
theorem andT : nI 1 &&& 1 = fb true := by decide
theorem andF : nI 0 &&& 1 = fb false := by decide
theorem ct_fill {g : gO} {nF : Nat} {rec : Nat → zR} {k : Nat} {a2 : Value} (hO : zOk nF rec) (hn : nF ≤ 60) (hk : k < nF) : ∀ c o (I : Nat → Nat → Int32) (D : Nat → Nat → UInt64), o + c = 40 → cY g nF rec I D P → rkd 137 136 (flO g nF rec k) (vlO g nF rec k) I D o → ∃ I' D', pm_run mE_X7_top 21 [.ref 0, .int (nI k), a2, .int (nI o)] [] (162, I, D, pm_R P) = pm_run mE_X7_top 74 [.ref 0, .int (nI k), a2, .int (nI 40)] [] (162, I', D', pm_R P) ∧ rkd 137 136 (flO g nF rec k) (vlO g nF rec k) I' D' 40 ∧ (∀ a j, a ≠ 11 → a ≠ 12 → a ≠ 137 → I' a j = I a j) ∧ ∀ a j, a ≠ 13 → a ≠ 136 → D' a j = D a j := by
  intro c
  induction c with
  | zero =>
    intro o I D hi hY hR
    have e : o = 40 := by omega
    subst e
    have hle : nI 40 ≤ nI 40 := by decide
    refine ⟨I, D, ?_, hR, fun _ _ _ _ _ => rfl, fun _ _ _ _ => rfl⟩
    simp only [x_X7_top_21, x_X7_top_22, x_X7_top_24, hle, if_true]
  | succ c ih =>
    intro o I D hi hY hR
    have ho : o < 40 := by omega
    have hlt : ¬ nI 40 ≤ nI o := nI_ge ho (by decide)
    have hk60 : k < 60 := by omega
    have hlt4 := scv_lt g nF rec k o
    obtain ⟨v, I1, D1, e, f1, f2, f3, f4, f5⟩ := sX5_valueOf (P := P) hO hn hY hk ho
    have hY' : cY g nF rec (pm_u I1 137 o (fb (flO g nF rec k o))) (pm_u D1 136 o v) P := cY_fr hY (fun a j h => ⟨by rw [pm_ua (by omega)]; exact f4 a j (by omega) (by omega), by rw [pm_ua (by omega)]; exact f5 a j (by omega)⟩)
    have hR' : rkd 137 136 (flO g nF rec k) (vlO g nF rec k) (pm_u I1 137 o (fb (flO g nF rec k o))) (pm_u D1 136 o v) (o + 1) := by
      intro i hi2
      by_cases ci : i = o
      · subst ci
        rw [pm_us, pm_us]
        exact ⟨rfl, fun z => f3 (flO_f.mp z)⟩
      · rw [pm_ub ci, pm_ub ci, f4 137 i (by decide) (by decide), f5 136 i (by decide)]
        exact hR i (by omega)
    obtain ⟨I', D', e2, g1, g2, g3⟩ := ih (o + 1) _ _ (by omega) hY' hR'
    refine ⟨I', D', ?_, g1, fun a j h1 h2 h3 => ?_, fun a j h1 h2 => ?_⟩
    · rw [← e2]
      by_cases c0 : (scv g nF rec k o).2.1 = 0
      · have c' : I1 11 0 = 0 := by rw [f1.1, c0]; exact nI_0
        rw [flO_f.mpr c0]
        simp (disch := first | assumption | decide) only [x_X7_top_21, x_X7_top_22, x_X7_top_24, x_X7_top_27, x_X7_top_28, x_X7_top_31, x_X7_top_32, x_X7_top_33, x_X7_top_36, x_X7_top_37, x_X7_top_40, x_X7_top_41, x_X7_top_42, x_X7_top_43, x_X7_top_46, x_X7_top_47, x_X7_top_48, x_X7_top_51, x_X7_top_52, x_X7_top_53, x_X7_top_56, x_X7_top_59, x_X7_top_66, x_X7_top_67, x_X7_top_68, x_X7_top_71, hlt, if_false, e, c', if_true, andF, nI_add, Option.bind_some, Option.toList, List.cons_append, List.nil_append]
      · have c' : ¬ I1 11 0 = 0 := fun z => c0 ((nIz (by omega)).mp (by rw [← f1.1]; exact z))
        have ct : flO g nF rec k o = true := by
          cases h : flO g nF rec k o with
          | true => rfl
          | false => exact absurd (flO_f.mp h) c0
        rw [ct]
        simp (disch := first | assumption | decide) only [x_X7_top_21, x_X7_top_22, x_X7_top_24, x_X7_top_27, x_X7_top_28, x_X7_top_31, x_X7_top_32, x_X7_top_33, x_X7_top_36, x_X7_top_37, x_X7_top_40, x_X7_top_41, x_X7_top_42, x_X7_top_43, x_X7_top_46, x_X7_top_47, x_X7_top_48, x_X7_top_51, x_X7_top_52, x_X7_top_53, x_X7_top_56, x_X7_top_59, x_X7_top_62, x_X7_top_63, x_X7_top_66, x_X7_top_67, x_X7_top_68, x_X7_top_71, hlt, if_false, e, c', andT, nI_add, Option.bind_some, Option.toList, List.cons_append, List.nil_append]
    · rw [g2 a j h1 h2 h3, pm_ua h3]
      exact f4 a j h1 h2
    · rw [g3 a j h1 h2, pm_ua h2]
      exact f5 a j h1
theorem sX7_top_bad {nF : Nat} {x y : Int32} (h : I 0 3 = nI nF) (hz : ¬ (inr x nF ∧ inr y 40)) : mF_X7_top [.ref 0, .int x, .int y] (162, I, D, pm_R P) = some (some (.int (-1)), (162, I, D, pm_R P)) := by
  rw [en_X7_top]
  have hin : ∀ μ : pm_M, mF_X7_isIn [.int y, .int (nI 40)] μ = some (some (.int (pb (inr y 40))), μ) := fun μ => sX7_isIn
  by_cases c1 : inr x nF
  · have c2 : ¬ inr y 40 := fun z => hz ⟨c1, z⟩
    simp only [x_X7_top_0, x_X7_top_1, x_X7_top_2, x_X7_top_5, x_X7_top_8, x_X7_top_9, x_X7_top_11, x_X7_top_14, x_X7_top_17, x_X7_top_18, sX7_isFormula h, hin, pb_t c1, pb_f c2, show ¬ (1 : Int32) = 0 by decide, if_true, if_false, Option.bind_some, Option.toList, List.cons_append, List.nil_append]
  · simp only [x_X7_top_0, x_X7_top_1, x_X7_top_2, x_X7_top_5, x_X7_top_17, x_X7_top_18, sX7_isFormula h, pb_f c1, if_true, Option.bind_some, Option.toList, List.cons_append, List.nil_append]
theorem sX7_top {g : gO} {nF : Nat} {rec : Nat → zR} {k j : Nat} (hO : zOk nF rec) (hn : nF ≤ 60) (hY : cY g nF rec I D P) (h : I 0 3 = nI nF) (hk : k < nF) (hj : j < 40) : ∃ I' D', mF_X7_top [.ref 0, .int (nI k), .int (nI j)] (162, I, D, pm_R P) = some (some (.int (tpA g nF rec k j)), (162, I', D', pm_R P)) ∧ (∀ a i, a ≠ 11 → a ≠ 12 → a ≠ 137 → I' a i = I a i) ∧ ∀ a i, a ≠ 13 → a ≠ 136 → D' a i = D a i := by
  obtain ⟨I', D', e, f1, f2, f3⟩ := ct_fill (P := P) (a2 := .int (nI j)) hO hn hk 40 0 I D rfl hY (fun i hi => absurd hi (Nat.not_lt_zero i))
  have e2 := ct_loop (P := P) (a1 := .int (nI k)) f1 hj 40 0 rfl
  have hin : ∀ μ : pm_M, mF_X7_isIn [.int (nI j), .int (nI 40)] μ = some (some (.int (pb (inr (nI j) 40))), μ) := fun μ => sX7_isIn
  refine ⟨I', D', ?_, f2, f3⟩
  rw [en_X7_top]
  simp only [x_X7_top_0, x_X7_top_1, x_X7_top_2, x_X7_top_5, x_X7_top_8, x_X7_top_9, x_X7_top_11, x_X7_top_14, x_X7_top_19, x_X7_top_20, sX7_isFormula h, hin, pb_t (inr_of (show nF < 2 ^ 31 by omega) hk), pb_t (inr_of (show 40 < 2 ^ 31 by decide) hj), show ¬ (1 : Int32) = 0 by decide, if_false, Option.bind_some, Option.toList, List.cons_append, List.nil_append]
  rw [e]
  simp only [x_X7_top_74, x_X7_top_75]
  exact e2
end TOP
