/-! FORMULAS: what both sides hold of them -/
/-- size, leans, are all parts safe, what all parts rise with -/
abbrev zA4 : Type := Int32 × Int32 × Bool × Int32
/-- kind, place, p, q, how many parts, the parts, is it a part, what the parts add up to -/
abbrev zR : Type := Nat × Int32 × Option UInt64 × Option UInt64 × Nat × (Nat → Nat) × Bool × zA4
abbrev zK (r : zR) : Nat := r.1
abbrev zL (r : zR) : Int32 := r.2.1
abbrev zP (r : zR) : Option UInt64 := r.2.2.1
abbrev zQ (r : zR) : Option UInt64 := r.2.2.2.1
abbrev zM (r : zR) : Nat := r.2.2.2.2.1
abbrev zT (r : zR) : Nat → Nat := r.2.2.2.2.2.1
abbrev zI (r : zR) : Bool := r.2.2.2.2.2.2.1
abbrev zA (r : zR) : zA4 := r.2.2.2.2.2.2.2
def lowO (p : Option UInt64) : Bool := match p with
  | some a => decide (FP.dcmp a 0 = some .lt)
  | none => false
def zsfv (kd : Nat) (p : Option UInt64) (aS : Bool) : Bool := if kd = 0 then !(lowO p) else if kd = 5 then false else if kd = 12 ∨ kd = 13 then aS else true
def zrk (kd : Nat) (aS : Bool) (aR : Int32) : Int32 := if kd = 7 then (if aS = true then aR else nI 0) else if kd = 10 ∨ kd = 11 ∨ kd = 13 then nI 0 else aR
def zrsv (kd : Nat) (a : zA4) : Int32 := nI 15 &&& ((a.2.1 ^^^ (-1)) ||| zrk kd a.2.2.1 a.2.2.2)
/-- safe, rises -/
def zsf (r : zR) : Bool := zsfv (zK r) (zP r) (zA r).2.2.1
def zrs (r : zR) : Int32 := zrsv (zK r) (zA r)
def zac0 (kd : Nat) (pl : Int32) : zA4 := (nI 1, (if 1 ≤ kd ∧ kd ≤ 4 then nI 1 <<< (pl &&& 31) else nI 0), true, nI 15)
def zacS (a : zA4) (r : zR) : zA4 := (a.1 + (zA r).1, a.2.1 ||| (zA r).2.1, a.2.2.1 && zsf r, a.2.2.2 &&& zrs r)
/-- the class's row of a formula -/
def cR (I : Nat → Nat → Int32) (D : Nat → Nat → UInt64) (P : Nat → Nat → Option Nat) (k : Nat) (r : zR) : Prop :=
  I 201 k = nI (zK r) ∧ I 202 k = zL r ∧ I 203 k = fb (zP r).isSome ∧ D 204 k = (zP r).getD 0 ∧ D 205 k = (zQ r).getD 0 ∧ I 207 k = nI (zM r) ∧ I 208 k = fb (zI r) ∧ I 209 k = (zA r).1 ∧ I 210 k = fb (zsf r) ∧ I 211 k = (zA r).2.1 ∧ I 212 k = zrs r ∧ I 213 k = fb (zA r).2.2.1 ∧ I 214 k = (zA r).2.2.2 ∧ ∀ j, j < zM r → P k j = some (pm_fo (zT r j))
section FOR
variable {I : Nat → Nat → Int32} {D : Nat → Nat → UInt64} {P : Nat → Nat → Option Nat} {k kd : Nat} {p : Option UInt64} {aS : Bool} {aR ln : Int32}
theorem sX1_isSafe (hk : k < 60) (hkd : kd < 14) (h1 : I 201 k = nI kd) (h2 : I 203 k = fb p.isSome) (h3 : D 204 k = p.getD 0) (h4 : I 213 k = fb aS) : mF_X1_isSafe [.ref (pm_fo k)] (162, I, D, pm_R P) = some (some (.int (fb (zsfv kd p aS))), (162, I, D, pm_R P)) := by
  rw [en_X1_isSafe]
  simp (disch := assumption) only [x_X1_isSafe_0, x_X1_isSafe_0n, x_X1_isSafe_1, h1]
  rw [x_X1_isSafe_4 (by omega)]
  unfold zsfv
  by_cases c0 : kd = 0
  · rw [if_pos c0, if_pos c0]
    simp (disch := assumption) only [x_X1_isSafe_48, x_X1_isSafe_48n, x_X1_isSafe_49, x_X1_isSafe_52, h2, fb_eq0]
    cases p with
    | none => simp only [Option.isSome_none, if_true, x_X1_isSafe_64, x_X1_isSafe_65, x_X1_isSafe_68, x_X1_isSafe_69a, x_X1_isSafe_69b, x_X1_isSafe_69, lowO]; rfl
    | some a =>
      simp (disch := assumption) only [Option.isSome_some, reduceCtorEq, if_false, x_X1_isSafe_55, x_X1_isSafe_55n, x_X1_isSafe_56, x_X1_isSafe_59, x_X1_isSafe_60, x_X1_isSafe_61, h3, cg_lt]
      by_cases c : FP.dcmp a 0 = some .lt
      · rw [if_pos (show FP.dcmp ((some a).getD 0) 0 = some .lt from c)]
        simp only [x_X1_isSafe_68, x_X1_isSafe_69a, x_X1_isSafe_69b, x_X1_isSafe_69, lowO, c]
        rfl
      · rw [if_neg (show ¬ FP.dcmp ((some a).getD 0) 0 = some .lt from c)]
        simp only [x_X1_isSafe_64, x_X1_isSafe_65, x_X1_isSafe_68, x_X1_isSafe_69a, x_X1_isSafe_69b, x_X1_isSafe_69, lowO, c]
        rfl
  · rw [if_neg c0, if_neg c0]
    by_cases c5 : kd = 5
    · rw [if_pos c5, if_pos c5]
      simp only [x_X1_isSafe_70, x_X1_isSafe_71a, x_X1_isSafe_71b, x_X1_isSafe_71]
      rfl
    · rw [if_neg c5, if_neg c5]
      by_cases c12 : kd = 12 ∨ kd = 13
      · rw [if_pos c12]
        have e : (if kd = 12 then pm_run mE_X1_isSafe 72 [.ref (pm_fo k)] [] (162, I, D, pm_R P) else if kd = 13 then pm_run mE_X1_isSafe 72 [.ref (pm_fo k)] [] (162, I, D, pm_R P) else pm_run mE_X1_isSafe 77 [.ref (pm_fo k)] [] (162, I, D, pm_R P)) = pm_run mE_X1_isSafe 72 [.ref (pm_fo k)] [] (162, I, D, pm_R P) := by
          rcases c12 with c | c
          · rw [if_pos c]
          · rw [if_neg (by omega), if_pos c]
        rw [e]
        simp (disch := assumption) only [x_X1_isSafe_72, x_X1_isSafe_73, h4]
        rw [x_X1_isSafe_76 (fb_and _)]
      · rw [if_neg c12, if_neg (fun z => c12 (Or.inl z)), if_neg (fun z => c12 (Or.inr z))]
        simp only [x_X1_isSafe_77, x_X1_isSafe_78a, x_X1_isSafe_78b, x_X1_isSafe_78]
        rfl
theorem sX1_risesByKind (hk : k < 60) (hkd : kd < 14) (h1 : I 201 k = nI kd) (h4 : I 213 k = fb aS) (h5 : I 214 k = aR) : mF_X1_risesByKind [.ref (pm_fo k)] (162, I, D, pm_R P) = some (some (.int (zrk kd aS aR)), (162, I, D, pm_R P)) := by
  rw [en_X1_risesByKind]
  simp (disch := assumption) only [x_X1_risesByKind_0, x_X1_risesByKind_0n, x_X1_risesByKind_1, h1]
  rw [x_X1_risesByKind_4 (by omega)]
  have e0 : pm_run mE_X1_risesByKind 64 [.ref (pm_fo k)] [] (162, I, D, pm_R P) = some (some (.int (nI 0)), (162, I, D, pm_R P)) := by
    simp only [x_X1_risesByKind_64, x_X1_risesByKind_65]
  have eR : pm_run mE_X1_risesByKind 66 [.ref (pm_fo k)] [] (162, I, D, pm_R P) = some (some (.int aR), (162, I, D, pm_R P)) := by
    simp (disch := assumption) only [x_X1_risesByKind_66, x_X1_risesByKind_66n, x_X1_risesByKind_67, x_X1_risesByKind_70, h5]
  rw [e0, eR]
  unfold zrk
  by_cases c7 : kd = 7
  · rw [if_pos c7, if_pos c7]
    simp (disch := assumption) only [x_X1_risesByKind_48, x_X1_risesByKind_48n, x_X1_risesByKind_49, x_X1_risesByKind_52, h4, fb_eq0]
    cases aS with
    | false => simp only [if_true, x_X1_risesByKind_62, x_X1_risesByKind_63, reduceCtorEq, if_false]
    | true => simp (disch := assumption) only [reduceCtorEq, if_false, if_true, x_X1_risesByKind_55, x_X1_risesByKind_55n, x_X1_risesByKind_56, x_X1_risesByKind_59, x_X1_risesByKind_62, x_X1_risesByKind_63, h5]
  · rw [if_neg c7, if_neg c7]
    by_cases c : kd = 10 ∨ kd = 11 ∨ kd = 13
    · rw [if_pos c, if_neg (by omega), if_neg (by omega)]
      by_cases c10 : kd = 10
      · rw [if_pos c10]
      · rw [if_neg c10]
        by_cases c11 : kd = 11
        · rw [if_pos c11]
        · rw [if_neg c11, if_neg (by omega), if_pos (by omega)]
    · rw [if_neg c]
      split
      · rfl
      · split
        · rfl
        · rw [if_neg (by omega), if_neg (by omega)]
          split
          · rfl
          · rw [if_neg (by omega)]
theorem sX1_prove (hk : k < 60) (hkd : kd < 14) (h1 : I 201 k = nI kd) (h2 : I 203 k = fb p.isSome) (h3 : D 204 k = p.getD 0) (h4 : I 213 k = fb aS) (h5 : I 214 k = aR) {sz : Int32} (h6 : I 211 k = ln) : mF_X1_prove [.ref (pm_fo k)] (162, I, D, pm_R P) = some (none, (162, pm_u (pm_u I 210 k (fb (zsfv kd p aS))) 212 k (zrsv kd (sz, ln, aS, aR)), D, pm_R P)) := by
  rw [en_X1_prove]
  have e := sX1_risesByKind (aR := aR) (aS := aS) (I := pm_u I 210 k (fb (zsfv kd p aS))) (D := D) (P := P) hk hkd (by rw [pm_ua (by decide)]; exact h1) (by rw [pm_ua (by decide)]; exact h4) (by rw [pm_ua (by decide)]; exact h5)
  have e2 : pm_u I 210 k (fb (zsfv kd p aS)) 211 k = ln := by rw [pm_ua (by decide)]; exact h6
  simp (disch := first | assumption | exact fb_and _) only [x_X1_prove_0, x_X1_prove_0n, x_X1_prove_1, x_X1_prove_1n, x_X1_prove_2, x_X1_prove_5, x_X1_prove_8, x_X1_prove_8n, x_X1_prove_9, x_X1_prove_11, x_X1_prove_11n, x_X1_prove_12, x_X1_prove_15, x_X1_prove_16, x_X1_prove_17, x_X1_prove_17n, x_X1_prove_18, x_X1_prove_21, x_X1_prove_22, x_X1_prove_23, x_X1_prove_26, sX1_isSafe hk hkd h1 h2 h3 h4, e, e2, Option.bind_some, Option.toList, List.cons_append, List.nil_append]
  rfl
/-- a formula just begun -/
def zB (kd : Nat) (x : Int32) (p q : Option UInt64) : zR := (kd, x, p, q, 0, (fun _ => 0), false, zac0 kd x)
theorem sX1_begin (hk : k < 60) (hkd : kd < 14) {x : Int32} {p q : UInt64} : ∃ I' D', mF_X1_begin [.ref (pm_fo k), .int (nI kd), .int x, .long p.toInt64, .long q.toInt64] (162, I, D, pm_R P) = some (none, (162, I', D', pm_R P)) ∧ (cR I' D' P k (zB kd x (ob p) (ob q)) ∧ ∀ a b, (a < 201 ∨ b ≠ k) → I' a b = I a b ∧ D' a b = D a b) := by
  rw [en_X1_begin]
  obtain ⟨J, F, run1, f1, f2, f3, f4, f5, f6, f7, f8, f9, f10, f11, fr⟩ : ∃ J F, pm_run mE_X1_begin 0 [.ref (pm_fo k), .int (nI kd), .int x, .long p.toInt64, .retAddr 1, .long q.toInt64, .retAddr 1] [] (162, I, D, pm_R P) = pm_run mE_X1_begin 103 [.ref (pm_fo k), .int (nI kd), .int x, .long p.toInt64, .retAddr 1, .long q.toInt64, .retAddr 1] [.ref (pm_fo k)] (162, J, F, pm_R P) ∧ J 201 k = nI kd ∧ J 202 k = x ∧ J 203 k = fb (ob p).isSome ∧ F 204 k = (ob p).getD 0 ∧ F 205 k = (ob q).getD 0 ∧ J 207 k = nI 0 ∧ J 208 k = fb false ∧ J 209 k = nI 1 ∧ J 211 k = (if 1 ≤ kd ∧ kd ≤ 4 then nI 1 <<< (x &&& 31) else nI 0) ∧ J 213 k = fb true ∧ J 214 k = nI 15 ∧ ∀ a b, (a < 201 ∨ b ≠ k) → J a b = I a b ∧ F a b = D a b := by
    have hb : kd < 2 ^ 31 := by omega
    have n10 : ¬ (1 : Int32) = 0 := by decide
    by_cases c1 : fnn p <;> by_cases c2 : fnn q <;> by_cases c3 : 1 ≤ kd ∧ kd ≤ 4 <;>
    · simp (disch := first | assumption | decide) only [x_X1_begin_0, x_X1_begin_0n, x_X1_begin_1, x_X1_begin_2, x_X1_begin_5, x_X1_begin_5n, x_X1_begin_6, x_X1_begin_7, x_X1_begin_10, x_X1_begin_10n, x_X1_begin_11, x_X1_begin_12, x_X1_begin_15, x_X1_begin_18, x_X1_begin_18n, x_X1_begin_19, x_X1_begin_19n, x_X1_begin_20, x_X1_begin_23, x_X1_begin_26, x_X1_begin_27, x_X1_begin_30, x_X1_begin_33, x_X1_begin_34, x_X1_begin_37, x_X1_begin_37n, x_X1_begin_38, x_X1_begin_40, x_X1_begin_43, x_X1_begin_46, x_X1_begin_48, x_X1_begin_51, x_X1_begin_54, x_X1_begin_55, x_X1_begin_58, x_X1_begin_58n, x_X1_begin_59, x_X1_begin_60, x_X1_begin_63, x_X1_begin_63n, x_X1_begin_64, x_X1_begin_65, x_X1_begin_68, x_X1_begin_68n, x_X1_begin_69, x_X1_begin_70, x_X1_begin_73, x_X1_begin_73n, x_X1_begin_74, x_X1_begin_75, x_X1_begin_78, x_X1_begin_81, x_X1_begin_82, x_X1_begin_83, x_X1_begin_84, x_X1_begin_87, x_X1_begin_88, x_X1_begin_91, x_X1_begin_91n, x_X1_begin_92, x_X1_begin_93, x_X1_begin_96, x_X1_begin_96n, x_X1_begin_97, x_X1_begin_99, x_X1_begin_102, x_X1_begin_102n, sX0_isNumber, sX0_fromBits, sX2_hasField, pb, c1, c2, c3, if_true, if_false, n10, pm_us, Option.bind_some, Option.toList, List.cons_append, List.nil_append]
      refine ⟨_, _, rfl, ?_, ?_, ?_, ?_, ?_, ?_, ?_, ?_, ?_, ?_, ?_, fun a b hab => ⟨?_, ?_⟩⟩
      · simp [pm_u]
      · simp [pm_u]
      · simp [pm_u, ob, c1, fb]; try rfl
      · simp [pm_u, ob, c1]
      · simp [pm_u, ob, c2]
      · simp [pm_u]
      · simp [pm_u, fb]; try rfl
      · simp [pm_u]
      · simp [pm_u, c3]
      · simp [pm_u, fb]; try rfl
      · simp [pm_u]
      · rcases hab with h | h
        · have : ∀ n, 201 ≤ n → ¬ a = n := fun n hn => by omega
          simp [pm_u, this]
        · simp [pm_u, h]
      · rcases hab with h | h
        · have : ∀ n, 201 ≤ n → ¬ a = n := fun n hn => by omega
          simp [pm_u, this]
        · simp [pm_u, h]
  have e := sX1_prove (P := P) (aR := nI 15) (aS := true) (sz := nI 1) (p := ob p) hk hkd f1 f3 f4 f10 f11 f9
  rw [run1]
  simp (disch := first | assumption | decide) only [x_X1_begin_103, x_X1_begin_106, e, Option.bind_some, Option.toList, List.cons_append, List.nil_append]
  refine ⟨_, _, rfl, ⟨?_, ?_, ?_, f4, f5, ?_, ?_, ?_, ?_, ?_, ?_, ?_, ?_, fun j hj => absurd hj (Nat.not_lt_zero j)⟩, fun a b hab => ⟨?_, (fr a b hab).2⟩⟩
  · rw [pm_ua (by decide), pm_ua (by decide)]; exact f1
  · rw [pm_ua (by decide), pm_ua (by decide)]; exact f2
  · rw [pm_ua (by decide), pm_ua (by decide)]; exact f3
  · rw [pm_ua (by decide), pm_ua (by decide)]; exact f6
  · rw [pm_ua (by decide), pm_ua (by decide)]; exact f7
  · rw [pm_ua (by decide), pm_ua (by decide)]; exact f8
  · rw [pm_ua (by decide), pm_us]; rfl
  · rw [pm_ua (by decide), pm_ua (by decide)]; exact f9
  · rw [pm_us]; rfl
  · rw [pm_ua (by decide), pm_ua (by decide)]; exact f10
  · rw [pm_ua (by decide), pm_ua (by decide)]; exact f11
  · rcases hab with h | h
    · rw [pm_ua (by omega), pm_ua (by omega)]; exact (fr a b (Or.inl h)).1
    · rw [pm_ub h, pm_ub h]; exact (fr a b (Or.inr h)).1
/-- with one part more -/
def zW (r : zR) (a : Nat) (ra : zR) : zR := (zK r, zL r, zP r, zQ r, zM r + 1, ud (zT r) (zM r) a, zI r, zacS (zA r) ra)
/-- being a part -/
def zY (r : zR) : zR := (zK r, zL r, zP r, zQ r, zM r, zT r, true, zA r)
theorem sX1_addPart {r ra : zR} {a : Nat} (hk : k < 60) (ha : a < 60) (hak : a ≠ k) (hr : cR I D P k r) (hra : cR I D P a ra) (hkd : zK r < 14) (hm : zM r < 8) : ∃ I' P', mF_X1_addPart [.ref (pm_fo k), .ref (pm_fo a)] (162, I, D, pm_R P) = some (none, (162, I', D, pm_R P')) ∧ (cR I' D P' k (zW r a ra) ∧ cR I' D P' a (zY ra) ∧ (∀ c b, (c < 201 ∨ (b ≠ k ∧ b ≠ a)) → I' c b = I c b) ∧ ∀ b j, b ≠ k → P' b j = P b j) := by
  obtain ⟨a1, a2, a3, a4, a5, a6, a7, a8, a9, a10, a11, a12, a13, a14⟩ := hr
  obtain ⟨b1, b2, b3, b4, b5, b6, b7, b8, b9, b10, b11, b12, b13, b14⟩ := hra
  rw [en_X1_addPart]
  obtain ⟨J, run1, f1⟩ : ∃ J, pm_run mE_X1_addPart 0 [.ref (pm_fo k), .ref (pm_fo a)] [] (162, I, D, pm_R P) = pm_run mE_X1_addPart 88 [.ref (pm_fo k), .ref (pm_fo a)] [.ref (pm_fo k)] (162, J, D, pm_R (pm_u P k (zM r) (some (pm_fo a)))) ∧ J = pm_u (pm_u (pm_u (pm_u (pm_u (pm_u I 207 k (nI (zM r + 1))) 208 a (nI 1)) 209 k (zacS (zA r) ra).1) 211 k (zacS (zA r) ra).2.1) 213 k (fb (zacS (zA r) ra).2.2.1)) 214 k (zacS (zA r) ra).2.2.2 := by
    simp (disch := first | assumption | decide) only [x_X1_addPart_0, x_X1_addPart_0n, x_X1_addPart_1, x_X1_addPart_4, x_X1_addPart_4n, x_X1_addPart_5, x_X1_addPart_8, x_X1_addPart_8n, x_X1_addPart_9, x_X1_addPart_10, x_X1_addPart_10n, x_X1_addPart_11i, x_X1_addPart_11, x_X1_addPart_12, x_X1_addPart_15, x_X1_addPart_16, x_X1_addPart_17, x_X1_addPart_20, x_X1_addPart_20n, x_X1_addPart_21, x_X1_addPart_22, x_X1_addPart_25, x_X1_addPart_25n, x_X1_addPart_26i, x_X1_addPart_26, x_X1_addPart_27, x_X1_addPart_30, x_X1_addPart_30n, x_X1_addPart_31, x_X1_addPart_34, x_X1_addPart_35, x_X1_addPart_38, x_X1_addPart_38n, x_X1_addPart_39i, x_X1_addPart_39, x_X1_addPart_40, x_X1_addPart_43, x_X1_addPart_43n, x_X1_addPart_44, x_X1_addPart_47, x_X1_addPart_48, x_X1_addPart_51, x_X1_addPart_51n, x_X1_addPart_52, x_X1_addPart_52n, x_X1_addPart_53, x_X1_addPart_56, pm_ua, a6, a8, b8, a10, b10, a12, nI_add, fb_eq0]
    cases hS : (zA r).2.2.1 with
    | false =>
      simp (disch := first | assumption | decide) only [if_true, x_X1_addPart_70, x_X1_addPart_71, x_X1_addPart_74, x_X1_addPart_74n, x_X1_addPart_75i, x_X1_addPart_75, x_X1_addPart_76, x_X1_addPart_79, x_X1_addPart_79n, x_X1_addPart_80, x_X1_addPart_83, x_X1_addPart_84, x_X1_addPart_87, x_X1_addPart_87n, pm_ua, a13, b11]
      refine ⟨_, rfl, ?_⟩
      simp only [zacS, hS, Bool.false_and]
      rfl
    | true =>
      simp (disch := first | assumption | decide) only [reduceCtorEq, if_false, x_X1_addPart_59, x_X1_addPart_59n, x_X1_addPart_60, x_X1_addPart_63, pm_ua, b9, fb_eq0]
      cases hT : zsf ra with
      | false =>
        simp (disch := first | assumption | decide) only [if_true, x_X1_addPart_70, x_X1_addPart_71, x_X1_addPart_74, x_X1_addPart_74n, x_X1_addPart_75i, x_X1_addPart_75, x_X1_addPart_76, x_X1_addPart_79, x_X1_addPart_79n, x_X1_addPart_80, x_X1_addPart_83, x_X1_addPart_84, x_X1_addPart_87, x_X1_addPart_87n, pm_ua, a13, b11]
        refine ⟨_, rfl, ?_⟩
        simp only [zacS, hS, hT, Bool.true_and]
        rfl
      | true =>
        simp (disch := first | assumption | decide) only [reduceCtorEq, if_false, x_X1_addPart_66, x_X1_addPart_67, x_X1_addPart_71, x_X1_addPart_74, x_X1_addPart_74n, x_X1_addPart_75i, x_X1_addPart_75, x_X1_addPart_76, x_X1_addPart_79, x_X1_addPart_79n, x_X1_addPart_80, x_X1_addPart_83, x_X1_addPart_84, x_X1_addPart_87, x_X1_addPart_87n, pm_ua, a13, b11]
        refine ⟨_, rfl, ?_⟩
        simp only [zacS, hS, hT, Bool.true_and]
        rfl
  have e := sX1_prove (P := pm_u P k (zM r) (some (pm_fo a))) (I := J) (D := D) (aR := (zacS (zA r) ra).2.2.2) (aS := (zacS (zA r) ra).2.2.1) (ln := (zacS (zA r) ra).2.1) (sz := (zacS (zA r) ra).1) (p := zP r) hk hkd (by subst f1; simp [pm_u]; exact a1) (by subst f1; simp [pm_u]; exact a3) a4 (by subst f1; simp [pm_u]) (by subst f1; simp [pm_u]) (by subst f1; simp [pm_u])
  rw [run1]
  simp (disch := first | assumption | decide) only [x_X1_addPart_88, x_X1_addPart_91, e, Option.bind_some, Option.toList, List.cons_append, List.nil_append]
  subst f1
  refine ⟨_, _, rfl, ⟨?_, ?_, ?_, a4, a5, ?_, ?_, ?_, ?_, ?_, ?_, ?_, ?_, ?_⟩, ⟨?_, ?_, ?_, b4, b5, ?_, ?_, ?_, ?_, ?_, ?_, ?_, ?_, ?_⟩, ?_, ?_⟩
  · simpa [pm_u, zW] using a1
  · simpa [pm_u, zW] using a2
  · simpa [pm_u, zW] using a3
  · simp [pm_u, zW]
  · simpa [pm_u, zW, Ne.symm hak] using a7
  · simp [pm_u, zW]
  · simp [pm_u]; rfl
  · simp [pm_u, zW]
  · simp [pm_u]; rfl
  · simp [pm_u, zW]
  · simp [pm_u, zW]
  · intro j hj
    show pm_u P k (zM r) (some (pm_fo a)) k j = some (pm_fo (ud (zT r) (zM r) a j))
    rw [pm_uc]
    unfold ud
    by_cases c : j = zM r
    · rw [if_pos c, if_pos c]
    · rw [if_neg c, if_neg c]
      exact a14 j (by have : j < zM r + 1 := hj; omega)
  · simp [pm_u, hak]; exact b1
  · simp [pm_u, hak]; exact b2
  · simp [pm_u, hak]; exact b3
  · simp [pm_u, hak]; exact b6
  · simp [pm_u]; rfl
  · simp [pm_u, hak]; exact b8
  · simp [pm_u, hak]; exact b9
  · simp [pm_u, hak]; exact b10
  · simp [pm_u, hak]; exact b11
  · simp [pm_u, hak]; exact b12
  · simp [pm_u, hak]; exact b13
  · intro j hj
    rw [show pm_u P k (zM r) (some (pm_fo a)) a j = P a j from if_neg (fun z => hak z.1)]
    exact b14 j hj
  · intro c b h
    rcases h with h | h
    · have : ∀ n, 201 ≤ n → ¬ c = n := fun n hn => by omega
      simp [pm_u, this]
    · simp [pm_u, h.1, h.2]
  · intro b j h
    exact if_neg (fun z => h z.1)
end FOR
