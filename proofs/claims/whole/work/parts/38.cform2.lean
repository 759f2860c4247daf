/-! FORMULAS, 3: the class's formula, part, about, partOf, forget -/
theorem ud_s {α : Type} {f : Nat → α} {a : Nat} {v : α} : ud f a v a = v := if_pos rfl
theorem ud_n {α : Type} {f : Nat → α} {a b : Nat} {v : α} (h : b ≠ a) : ud f a v b = f b := if_neg h
theorem zAdd_k {rec : Nat → zR} {k a : Nat} (h : a ≠ k) : zAdd rec k a k = zW (rec k) a (rec a) := by
  unfold zAdd
  rw [ud_n (Ne.symm h), ud_s]
section FOR3
variable {I : Nat → Nat → Int32} {D : Nat → Nat → UInt64} {P : Nat → Nat → Option Nat} {n kd xn yn : Nat} {rec : Nat → zR} {x y : Int32} {p q : UInt64} {μ : pm_M}
theorem cfo_1 (h : I 0 3 = nI n) (hn : n ≤ 60) (hk : kd < 14) (hp : plc n kd x y) (ht : tk kd p q) : pm_run mE_X7_formula 0 [.ref 0, .int (nI kd), .int x, .int y, .long p.toInt64, .retAddr 1, .long q.toInt64, .retAddr 1, .retAddr 0, .retAddr 0, .retAddr 0] [] (162, I, D, pm_R P) = if n < 60 then pm_run mE_X7_formula 44 [.ref 0, .int (nI kd), .int x, .int y, .long p.toInt64, .retAddr 1, .long q.toInt64, .retAddr 1, .retAddr 0, .retAddr 0, .retAddr 0] [] (162, I, D, pm_R P) else some (some (.int (-3)), (162, I, D, pm_R P)) := by
  have k1 : pb (0 ≤ nI kd ∧ nI kd < nI 14) = 1 := pb_t (inr_of (n := 14) (by decide) hk)
  simp only [x_X7_formula_0, x_X7_formula_1, x_X7_formula_3, x_X7_formula_6, x_X7_formula_9, x_X7_formula_10, x_X7_formula_11, x_X7_formula_12, x_X7_formula_13, x_X7_formula_16, x_X7_formula_19, x_X7_formula_20, x_X7_formula_22, x_X7_formula_24, x_X7_formula_27, x_X7_formula_30, x_X7_formula_31, x_X7_formula_32, x_X7_formula_33, x_X7_formula_36, x_X7_formula_38, sX7_isIn, k1, sX7_placesAreRight h hk, sX2_takes hk, pb_t hp, pb_t ht, Option.bind_some, Option.toList, List.cons_append, List.nil_append, show ¬ (1 : Int32) = 0 by decide, if_false, h, nI_ltI (show n < 2 ^ 31 by omega) (show 60 < 2 ^ 31 by decide)]
  simp only [x_X7_formula_41, x_X7_formula_43]
theorem sX7_formula_full (h : I 0 3 = nI 60) (hk : kd < 14) (hp : plc 60 kd x y) (ht : tk kd p q) : mF_X7_formula [.ref 0, .int (nI kd), .int x, .int y, .long p.toInt64, .long q.toInt64] (162, I, D, pm_R P) = some (some (.int (-3)), (162, I, D, pm_R P)) := by
  rw [en_X7_formula, cfo_1 h (by decide) hk hp ht, if_neg (by decide)]
abbrev cfoV (c : Bool) (k : Nat) : Value := if c = true then .ref (pm_fo k) else .null
theorem cfo_2 (hC : cF I D P n rec) (hn : n < 60) (hk : kd < 14) (hx : 9 ≤ kd → x = nI xn ∧ xn < n) (hy : kd = 13 → y = nI yn ∧ yn < n) : pm_run mE_X7_formula 44 [.ref 0, .int (nI kd), .int x, .int y, .long p.toInt64, .retAddr 1, .long q.toInt64, .retAddr 1, .retAddr 0, .retAddr 0, .retAddr 0] [] (162, I, D, pm_R P) = if zSz rec kd xn yn ≤ nI 200 then pm_run mE_X7_formula 103 [.ref 0, .int (nI kd), .int x, .int y, .long p.toInt64, .retAddr 1, .long q.toInt64, .retAddr 1, cfoV (decide (9 ≤ kd)) xn, cfoV (decide (kd = 13)) yn, .retAddr 0] [] (162, I, D, pm_R P) else some (some (.int (-3)), (162, I, D, pm_R P)) := by
  have hb : kd < 2 ^ 31 := by omega
  have e13 := nI_eq (a := kd) (b := 13) hb (by decide)
  unfold zSz cfoV
  have e9 : (9 ≤ kd ∧ kd ≤ 13) = (9 ≤ kd) := propext ⟨fun z => z.1, fun z => ⟨z, by omega⟩⟩
  simp only [x_X7_formula_44, x_X7_formula_45, x_X7_formula_48, sX2_hasX hb, Option.bind_some, Option.toList, List.cons_append, List.nil_append, pb_eq0, ite_not, e9]
  by_cases c9 : 9 ≤ kd
  · obtain ⟨rfl, hxn⟩ := hx c9
    have hx6 : xn < 60 := by omega
    have sx := sX7_sizeOf (I := I) (D := D) (P := P) hx6 (hC xn hxn).2.2.2.2.2.2.2.1
    by_cases c13 : kd = 13
    · obtain ⟨rfl, hyn⟩ := hy c13
      have hy6 : yn < 60 := by omega
      have sy := sX7_sizeOf (I := I) (D := D) (P := P) hy6 (hC yn hyn).2.2.2.2.2.2.2.1
      simp (disch := assumption) only [c9, if_true, decide_true, x_X7_formula_51, x_X7_formula_52, x_X7_formula_55, x_X7_formula_56, x_X7_formula_57, x_X7_formula_60, x_X7_formula_61, x_X7_formula_61n, x_X7_formula_63, x_X7_formula_64, x_X7_formula_66, e13, c13, x_X7_formula_69, x_X7_formula_70, x_X7_formula_73, x_X7_formula_74, x_X7_formula_75, x_X7_formula_78, x_X7_formula_79, x_X7_formula_79n, x_X7_formula_81, x_X7_formula_82, x_X7_formula_84, x_X7_formula_87, x_X7_formula_88, x_X7_formula_90, x_X7_formula_93, x_X7_formula_94, x_X7_formula_97, x_X7_formula_100, x_X7_formula_102, sx, sy, Option.bind_some, Option.toList, List.cons_append, List.nil_append]
      simp only [show (9 : Nat) ≤ 13 by decide, decide_true, if_true, x_X7_formula_66, x_X7_formula_69, x_X7_formula_70, x_X7_formula_73, x_X7_formula_74, x_X7_formula_75, x_X7_formula_78, x_X7_formula_79, x_X7_formula_79n, x_X7_formula_81, x_X7_formula_82, x_X7_formula_84, x_X7_formula_87, x_X7_formula_88, x_X7_formula_90, x_X7_formula_93, x_X7_formula_94, x_X7_formula_97, x_X7_formula_100, x_X7_formula_102, x_X7_formula_69, x_X7_formula_70, x_X7_formula_73, x_X7_formula_74, x_X7_formula_75, hy6, sx, sy, Option.bind_some, Option.toList, List.cons_append, List.nil_append]
    · simp (disch := assumption) only [c9, if_true, decide_true, decide_false, x_X7_formula_51, x_X7_formula_52, x_X7_formula_55, x_X7_formula_56, x_X7_formula_57, x_X7_formula_60, x_X7_formula_61, x_X7_formula_61n, x_X7_formula_63, x_X7_formula_64, x_X7_formula_66, e13, c13, if_false, x_X7_formula_78, x_X7_formula_79, x_X7_formula_79n, x_X7_formula_81, x_X7_formula_82, x_X7_formula_84, x_X7_formula_87, x_X7_formula_88, x_X7_formula_90, x_X7_formula_93, x_X7_formula_94, x_X7_formula_97, x_X7_formula_100, x_X7_formula_102, x_X7_formula_88n, sx, sX7_sizeOf0, Option.bind_some, Option.toList, List.cons_append, List.nil_append, Bool.false_eq_true]
  · have c13 : ¬ kd = 13 := by omega
    simp (disch := assumption) only [c9, if_false, decide_false, x_X7_formula_60, x_X7_formula_61, x_X7_formula_61n, x_X7_formula_63, x_X7_formula_64, x_X7_formula_66, e13, c13, x_X7_formula_78, x_X7_formula_79, x_X7_formula_79n, x_X7_formula_81, x_X7_formula_82, x_X7_formula_84, x_X7_formula_87, x_X7_formula_88, x_X7_formula_90, x_X7_formula_93, x_X7_formula_94, x_X7_formula_97, x_X7_formula_100, x_X7_formula_102, x_X7_formula_82n, x_X7_formula_88n, sX7_sizeOf0, Option.bind_some, Option.toList, List.cons_append, List.nil_append, Bool.false_eq_true]
theorem sX7_formula_big (hC : cF I D P n rec) (h : I 0 3 = nI n) (hn : n < 60) (hk : kd < 14) (hp : plc n kd x y) (ht : tk kd p q) (hx : 9 ≤ kd → x = nI xn ∧ xn < n) (hy : kd = 13 → y = nI yn ∧ yn < n) (hs : ¬ zSz rec kd xn yn ≤ nI 200) : mF_X7_formula [.ref 0, .int (nI kd), .int x, .int y, .long p.toInt64, .long q.toInt64] (162, I, D, pm_R P) = some (some (.int (-3)), (162, I, D, pm_R P)) := by
  rw [en_X7_formula, cfo_1 h (by omega) hk hp ht, if_pos hn, cfo_2 hC hn hk hx hy, if_neg hs]
theorem sX7_formula (hC : cF I D P n rec) (h : I 0 3 = nI n) (hnum : I 200 n = nI n) (hn : n < 60) (hk : kd < 14) (hp : plc n kd x y) (ht : tk kd p q) (hx : 9 ≤ kd → x = nI xn ∧ xn < n) (hy : kd = 13 → y = nI yn ∧ yn < n) (hs : zSz rec kd xn yn ≤ nI 200) : ∃ I' D' P', mF_X7_formula [.ref 0, .int (nI kd), .int x, .int y, .long p.toInt64, .long q.toInt64] (162, I, D, pm_R P) = some (some (.int (nI n)), (162, I', D', pm_R P')) ∧ cF I' D' P' (n + 1) (zNew rec n kd x (ob p) (ob q) xn yn) ∧ I' 0 3 = nI (n + 1) ∧ FC I I' D D' := by
  rw [en_X7_formula, cfo_1 h (by omega) hk hp ht, if_pos hn, cfo_2 hC hn hk hx hy, if_pos hs]
  obtain ⟨I1, D1, e1, h1, f1, z1⟩ := cF_begin (x := x) (p := p) (q := q) hC hn hk
  have fin : ∀ (I2 : Nat → Nat → Int32) (D2 : Nat → Nat → UInt64) (P2 : Nat → Nat → Option Nat) (rec2 : Nat → zR) (v8 v9 : Value), cF I2 D2 P2 (n + 1) rec2 → FC I I2 D D2 → (∀ b, I2 0 b = I 0 b) → ∃ I' D' P', pm_run mE_X7_formula 149 [.ref 0, .int (nI kd), .int x, .int y, .long p.toInt64, .retAddr 1, .long q.toInt64, .retAddr 1, v8, v9, .ref (pm_fo n)] [] (162, I2, D2, pm_R P2) = some (some (.int (nI n)), (162, I', D', pm_R P')) ∧ cF I' D' P' (n + 1) rec2 ∧ I' 0 3 = nI (n + 1) ∧ FC I I' D D' := by
    intro I2 D2 P2 rec2 v8 v9 g1 g2 g3
    have e3 : I2 0 3 = nI n := by rw [g3]; exact h
    have e4 : pm_u I2 0 3 (nI (n + 1)) 200 n = nI n := by rw [pm_ua (by decide), (g2 200 n (by decide) (by omega)).1]; exact hnum
    simp (disch := assumption) only [x_X7_formula_149, x_X7_formula_150i, x_X7_formula_150, x_X7_formula_151, x_X7_formula_154, x_X7_formula_155, x_X7_formula_156, x_X7_formula_159, x_X7_formula_159n, x_X7_formula_161, x_X7_formula_164, e3, nI_add, e4]
    refine ⟨_, _, _, rfl, fun k hk2 => cR_fr (g1 k hk2) (fun a ha => ⟨pm_ua (by omega), rfl⟩) (fun _ => rfl), pm_us _ _ _ _, fun a b hab c => ⟨?_, (g2 a b hab c).2⟩⟩
    rw [show pm_u I2 0 3 (nI (n + 1)) a b = I2 a b from if_neg c]
    exact (g2 a b hab c).1
  unfold zNew cfoV
  by_cases c9 : 9 ≤ kd
  · obtain ⟨rfl, hxn⟩ := hx c9
    have hx6 : xn < 60 := by omega
    obtain ⟨I2, P2, e2, h2, f2, z2⟩ := cF_addPart h1 (by omega) (k := n) (a := xn) (by omega) (by omega) (by omega) (by rw [ud_s]; exact hk) (by rw [ud_s]; exact (by decide : (0 : Nat) < 8))
    have e1' := e1
    by_cases c13 : kd = 13
    · obtain ⟨rfl, hyn⟩ := hy c13
      have hy6 : yn < 60 := by omega
      obtain ⟨I3, P3, e3, h3, f3, z3⟩ := cF_addPart h2 (by omega) (k := n) (a := yn) (by omega) (by omega) (by omega) (by rw [zAdd_k (by omega), ud_s]; exact hk) (by rw [zAdd_k (by omega), ud_s]; exact (by decide : 0 + 1 < 8))
      obtain ⟨I', D', P', r1, r2, r3, r4⟩ := fin I3 D1 P3 _ (.ref (pm_fo xn)) (.ref (pm_fo yn)) h3 (FC_tr f1 (FC_tr f2 f3)) (fun b => (z3 b).trans ((z2 b).trans (z1 b)))
      rw [if_pos c13]
      refine ⟨I', D', P', ?_, r2, r3, r4⟩
      rw [← r1]
      simp (disch := assumption) only [c9, c13, decide_true, if_true] at e1 ⊢
      simp (disch := assumption) only [show (9 : Nat) ≤ 13 by decide, decide_true, if_true, x_X7_formula_103, x_X7_formula_104, x_X7_formula_107, x_X7_formula_108, x_X7_formula_111, x_X7_formula_112, x_X7_formula_112n, x_X7_formula_114, x_X7_formula_114n, x_X7_formula_116, x_X7_formula_117, x_X7_formula_118, x_X7_formula_120, x_X7_formula_122, x_X7_formula_125, x_X7_formula_127, x_X7_formula_127n, x_X7_formula_130, x_X7_formula_130n, x_X7_formula_132, x_X7_formula_134, x_X7_formula_137, x_X7_formula_139, x_X7_formula_139n, x_X7_formula_142, x_X7_formula_142n, x_X7_formula_144, x_X7_formula_146, h, e1, e2, e3, Option.bind_some, Option.toList, List.cons_append, List.nil_append]
    · obtain ⟨I', D', P', r1, r2, r3, r4⟩ := fin I2 D1 P2 _ (.ref (pm_fo xn)) .null h2 (FC_tr f1 f2) (fun b => (z2 b).trans (z1 b))
      rw [if_neg c13, if_pos c9]
      refine ⟨I', D', P', ?_, r2, r3, r4⟩
      rw [← r1]
      simp (disch := assumption) only [c9, c13, decide_true, decide_false, if_true, Bool.false_eq_true, if_false, x_X7_formula_103, x_X7_formula_104, x_X7_formula_107, x_X7_formula_108, x_X7_formula_111, x_X7_formula_112, x_X7_formula_112n, x_X7_formula_114, x_X7_formula_114n, x_X7_formula_116, x_X7_formula_117, x_X7_formula_118, x_X7_formula_120, x_X7_formula_122, x_X7_formula_125, x_X7_formula_127, x_X7_formula_127n, x_X7_formula_130, x_X7_formula_130n, x_X7_formula_132, x_X7_formula_134, x_X7_formula_137, x_X7_formula_139, x_X7_formula_139n, x_X7_formula_142, x_X7_formula_142n, x_X7_formula_144, x_X7_formula_146, x_X7_formula_137n, h, e1, e2, Option.bind_some, Option.toList, List.cons_append, List.nil_append]
  · have c13 : ¬ kd = 13 := by omega
    obtain ⟨I', D', P', r1, r2, r3, r4⟩ := fin I1 D1 P _ .null .null h1 f1 z1
    rw [if_neg c13, if_neg c9]
    refine ⟨I', D', P', ?_, r2, r3, r4⟩
    rw [← r1]
    simp (disch := assumption) only [c9, c13, decide_false, Bool.false_eq_true, if_false, x_X7_formula_103, x_X7_formula_104, x_X7_formula_107, x_X7_formula_108, x_X7_formula_111, x_X7_formula_112, x_X7_formula_112n, x_X7_formula_114, x_X7_formula_114n, x_X7_formula_116, x_X7_formula_117, x_X7_formula_118, x_X7_formula_120, x_X7_formula_122, x_X7_formula_125, x_X7_formula_127, x_X7_formula_127n, x_X7_formula_130, x_X7_formula_130n, x_X7_formula_132, x_X7_formula_134, x_X7_formula_137, x_X7_formula_139, x_X7_formula_139n, x_X7_formula_142, x_X7_formula_142n, x_X7_formula_144, x_X7_formula_146, x_X7_formula_125n, x_X7_formula_137n, h, e1, Option.bind_some, Option.toList, List.cons_append, List.nil_append]
end FOR3
