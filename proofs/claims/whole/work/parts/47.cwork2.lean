/-! SCORES, 2: the class's workAlone, workParts -/
/-- sums, products of the parts' values -/
def al (kd : Nat) (w : Nat → UInt64) : Nat → Option UInt64
  | 0 => if kd = 7 then some 4607182418800017408 else some 0
  | j + 1 => if kd = 7 then sm2 sp_times (al kd w j) (some (w j)) else if kd < 9 then sm2 sp_plus (al kd w j) (some (w j)) else some (w j)
/-- the greatest -/
def be (w : Nat → UInt64) : Nat → UInt64
  | 0 => 0
  | j + 1 => if j = 0 then w 0 else sp_gr (be w j) (w j)
theorem be_fn {w : Nat → UInt64} : ∀ m, (∀ j, j < m → vf_n64 (w j)) → vf_n64 (be w m)
  | 0, _ => fn_0
  | j + 1, h => by
    unfold be
    split
    · exact h 0 (by omega)
    · exact sp_gr_fn (be_fn j (fun i hi => h i (by omega))) (h j (by omega))
theorem al_Vo {kd : Nat} {w : Nat → UInt64} : ∀ m, (∀ j, j < m → vf_n64 (w j)) → Vo (al kd w m)
  | 0, _ => by
    unfold al
    split
    · exact Vo_some fn_1
    · exact Vo_some fn_0
  | j + 1, h => by
    have h1 := al_Vo (kd := kd) j (fun i hi => h i (by omega))
    have h2 : Vo (some (w j)) := Vo_some (h j (by omega))
    unfold al
    split
    · exact sm2_Vo (fun x y => sq_times) h1 h2
    · split
      · exact sm2_Vo (fun x y => sq_plus) h1 h2
      · exact h2
def sp_abs (a : UInt64) : UInt64 := if FP.dcmp a 0 = some .lt then FP.dneg a else a
def sp_pos (a : UInt64) : UInt64 := if FP.dcmp a 0 = some .gt then a else 0
/-- normed -/
def zno (n l : UInt64) (a p q : Option UInt64) : Option UInt64 := sm2 sp_over (sm2 sp_times (some n) (sm2 sp_plus p (some 4607182418800017408))) (sm2 sp_plus (some n) (sm2 sp_times p (sm2 sp_plus (sm2 sp_minus (some 4607182418800017408) q) (sm2 sp_times q (sm2 sp_over (some l) a)))))
def zbe (m s p : Option UInt64) : Option UInt64 := sm2 sp_plus m (sm2 sp_times p (sm2 sp_minus s m))
def zde (x p q : Option UInt64) : Option UInt64 := (sm2 sp_over (sm2 sp_minus q ((sm2 sp_minus x p).map sp_abs)) q).map sp_pos
def znr (r : Option UInt64) : Option UInt64 := sm2 sp_over (some 4607182418800017408) (sm2 sp_plus (some 4607182418800017408) (sm2 sp_times r r))
def zne (x p q : Option UInt64) : Option UInt64 := znr (sm2 sp_over (sm2 sp_minus x p) q)
theorem LK_map {b : Bool} {A : Option UInt64} {v : UInt64} {f : UInt64 → UInt64} (hf : ∀ a, vf_n64 a → vf_n64 (f a)) (h : LK b A v) : LK b (A.map f) (f v) := by
  refine ⟨⟨hf _ h.1.1, fun a ha => ?_⟩, fun z => h.2 ?_⟩
  · cases A with
    | none => cases ha
    | some c => cases ha; rw [h.1.2 c rfl]
  · cases A with
    | none => rfl
    | some c => cases z
theorem abs_fn (a : UInt64) (h : vf_n64 a) : vf_n64 (sp_abs a) := by
  unfold sp_abs
  split
  · exact fn_neg h
  · exact h
theorem pos_fn (a : UInt64) (h : vf_n64 a) : vf_n64 (sp_pos a) := by
  unfold sp_pos
  split
  · exact h
  · exact fn_0
theorem map_N {A : Option UInt64} {f : UInt64 → UInt64} : (A.map f).isNone = A.isNone := by cases A <;> rfl
section CWP
variable {I : Nat → Nat → Int32} {D : Nat → Nat → UInt64} {P : Nat → Nat → Option Nat} {A B C : Option UInt64} {x y z : UInt64} {b : Bool} {μ : pm_M} {g : gO}
theorem sX5_normed (hC : CO I D g) {o f k : Nat} (ho : o < 40) (hf : f < 4) (hk : k < 60) (h5 : I 11 5 = nI o) (h2 : I 202 k = nI f) {p q : UInt64} (hp : vf_n64 p) (hq : vf_n64 q) (h4 : D 204 k = p) (h6 : D 205 k = q) : ∃ v, mF_X5_normed [.ref 11, .ref (pm_fo k)] (162, pm_u I 12 0 (fb false), D, pm_R P) = some (some (.double v), (162, pm_u I 12 0 (fb (zno (FP.i2d (nI (g.1 (o * 4 + f)))) (FP.i2d (nI (lv (g.2.1 (o * 4 + f))))) (av g f) (some p) (some q)).isNone), D, pm_R P)) ∧ RB (zno (FP.i2d (nI (g.1 (o * 4 + f)))) (FP.i2d (nI (lv (g.2.1 (o * 4 + f))))) (av g f) (some p) (some q)) v := by
  rw [en_X5_normed]
  have u5 : ∀ c, pm_u I 12 0 (fb c) 11 5 = nI o := fun c => by rw [pm_ua (by decide)]; exact h5
  have u2 : ∀ c, pm_u I 12 0 (fb c) 202 k = nI f := fun c => by rw [pm_ua (by decide)]; exact h2
  have ua : ∀ c, CO (pm_u I 12 0 (fb c)) D g := CO_fl hC
  cases ha : av g f with
  | none =>
    have e : ∀ n l, zno n l none (some p) (some q) = none := fun n l => by
      unfold zno
      simp only [sm2_none_r]
    refine ⟨0, ?_, fn_0, fun a h => by rw [e] at h; cases h⟩
    simp (disch := assumption) only [x_X5_normed_0, x_X5_normed_0n, x_X5_normed_1, x_X5_normed_4, x_X5_normed_5, x_X5_normed_6, x_X5_normed_9, x_X5_normed_10, x_X5_normed_13, x_X5_normed_16, x_X5_normed_17, x_X5_normed_20, x_X5_normed_23, u2, sX6_hasAverage (ua _) hf, ha, Option.isSome_none, fb_eq0, if_true, sX4_lose, Option.bind_some, Option.toList, List.cons_append, List.nil_append]
    rw [e]
    rfl
  | some a =>
    obtain ⟨v1, b1, e1, r1, s1⟩ := st_over (I := I) (D := D) (P := P) (b := false) (LK_some (fn_i2d (nI (lv (g.2.1 (o * 4 + f)))))) (LK_some (av_Vo hC.1 f a ha))
    obtain ⟨v2, b2, e2, r2, s2⟩ := st_minus (I := I) (D := D) (P := P) (b := b1) (LK_some fn_1) (LK_some hq)
    obtain ⟨v3, b3, e3, r3, s3⟩ := st_times (I := I) (D := D) (P := P) (LK_some hq) (LK_mo r1 s2)
    obtain ⟨v4, b4, e4, r4, s4⟩ := st_plus (I := I) (D := D) (P := P) (LK_mo r2 s3) r3
    obtain ⟨v5, b5, e5, r5, s5⟩ := st_plus (I := I) (D := D) (P := P) (b := b4) (LK_some hp) (LK_some fn_1)
    obtain ⟨v6, b6, e6, r6, s6⟩ := st_times (I := I) (D := D) (P := P) (LK_some (fn_i2d (nI (g.1 (o * 4 + f))))) r5
    obtain ⟨v7, b7, e7, r7, s7⟩ := st_times (I := I) (D := D) (P := P) (LK_some hp) (LK_mo (LK_mo r4 s5) s6)
    obtain ⟨v8, b8, e8, r8, s8⟩ := st_plus (I := I) (D := D) (P := P) (LK_some (fn_i2d (nI (g.1 (o * 4 + f))))) r7
    obtain ⟨v9, b9, e9, r9, s9⟩ := st_over (I := I) (D := D) (P := P) (LK_mo (LK_mo r6 s7) s8) r8
    have hb : b9 = (zno (FP.i2d (nI (g.1 (o * 4 + f)))) (FP.i2d (nI (lv (g.2.1 (o * 4 + f))))) (some a) (some p) (some q)).isNone := by
      unfold zno
      cases h : (sm2 sp_over (sm2 sp_times (some (FP.i2d (nI (g.1 (o * 4 + f))))) (sm2 sp_plus (some p) (some 4607182418800017408))) (sm2 sp_plus (some (FP.i2d (nI (g.1 (o * 4 + f))))) (sm2 sp_times (some p) (sm2 sp_plus (sm2 sp_minus (some 4607182418800017408) (some q)) (sm2 sp_times (some q) (sm2 sp_over (some (FP.i2d (nI (lv (g.2.1 (o * 4 + f)))))) (some a))))))).isNone with
      | true => exact r9.2 h
      | false =>
        have h6 := (sm2_S h).1
        have h8 := (sm2_S h).2
        have h5 := (sm2_S h6).2
        have h7 := (sm2_S h8).2
        have h4 := (sm2_S h7).2
        have h2 := (sm2_S h4).1
        have h3 := (sm2_S h4).2
        have h1 := (sm2_S h3).2
        exact s9.2 h (s8.2 h8 (s7.2 h7 (s6.2 h6 (s5.2 h5 (s4.2 h4 (s3.2 h3 (s2.2 h2 (s1.2 h1 rfl))))))))
    subst hb
    refine ⟨v9, ?_, r9.1⟩
    simp (disch := assumption) only [x_X5_normed_0, x_X5_normed_0n, x_X5_normed_1, x_X5_normed_4, x_X5_normed_5, x_X5_normed_6, x_X5_normed_9, x_X5_normed_10, x_X5_normed_13, x_X5_normed_24, x_X5_normed_25, x_X5_normed_28, x_X5_normed_29, x_X5_normed_32, x_X5_normed_33, x_X5_normed_36, x_X5_normed_37, x_X5_normed_37n, x_X5_normed_38, x_X5_normed_41, x_X5_normed_43, x_X5_normed_43n, x_X5_normed_44, x_X5_normed_47, x_X5_normed_49, x_X5_normed_50, x_X5_normed_53, x_X5_normed_54, x_X5_normed_57, x_X5_normed_58, x_X5_normed_61, x_X5_normed_62, x_X5_normed_65, x_X5_normed_66, x_X5_normed_69, x_X5_normed_70, x_X5_normed_73, x_X5_normed_76, x_X5_normed_78, x_X5_normed_79, x_X5_normed_82, x_X5_normed_83, x_X5_normed_86, x_X5_normed_87, x_X5_normed_89, x_X5_normed_92, x_X5_normed_93, x_X5_normed_96, x_X5_normed_98, x_X5_normed_100, x_X5_normed_103, x_X5_normed_106, x_X5_normed_108, x_X5_normed_109, x_X5_normed_112, x_X5_normed_113, x_X5_normed_114, x_X5_normed_117, x_X5_normed_119, x_X5_normed_120, x_X5_normed_123, x_X5_normed_126, x_X5_normed_128, x_X5_normed_129, x_X5_normed_132, x_X5_normed_134, x_X5_normed_135, x_X5_normed_138, x_X5_normed_139, x_X5_normed_140, x_X5_normed_143, x_X5_normed_145, x_X5_normed_147, x_X5_normed_150, x_X5_normed_153, x_X5_normed_156, u2, u5, sX6_hasAverage (ua _) hf, ha, Option.isSome_some, fb_eq0, reduceCtorEq, if_false, sX6_countOf (ua _) ho hf, sX6_lengthOf (ua _) ho hf, sX6_averageOf (ua _) hf ha, h4, h6, e1, e2, e3, e4, e5, e6, e7, e8, e9, Option.bind_some, Option.toList, List.cons_append, List.nil_append]
/-- the values of m parts from row on -/
def pvs (D : Nat → Nat → UInt64) (row : Nat) (w : Nat → UInt64) (m : Nat) : Prop := row + m ≤ 480 ∧ ∀ j, j < m → D 13 (row + j) = w j ∧ vf_n64 (w j)
theorem sum_loop {row m kd : Nat} {w : Nat → UInt64} (hw : pvs D row w m) (hm : m ≤ 8) (h7 : kd ≠ 7) (h9 : kd < 9) : ∀ c i v, i + c = m → RB (al kd w i) v → ∃ v', pm_run mE_X5_sum 5 [.ref 11, .int (nI row), .int (nI m), .double v, .retAddr 1, .int (nI i)] [] (162, pm_u I 12 0 (fb (al kd w i).isNone), D, pm_R P) = some (some (.double v'), (162, pm_u I 12 0 (fb (al kd w m).isNone), D, pm_R P)) ∧ RB (al kd w m) v' := by
  intro c
  induction c with
  | zero =>
    intro i v hi hr
    have e : i = m := by omega
    subst e
    refine ⟨v, ?_, hr⟩
    have hle : nI i ≤ nI i := nI_le (Nat.le_refl _) (by omega)
    simp only [x_X5_sum_5, x_X5_sum_7, x_X5_sum_8, x_X5_sum_35, x_X5_sum_36, hle, if_true]
  | succ c ih =>
    intro i v hi hr
    have hlt : ¬ nI m ≤ nI i := nI_ge (by omega) (by omega)
    obtain ⟨h0, h1⟩ := hw
    obtain ⟨h2, h3⟩ := h1 i (by omega)
    have hn : row + i < 480 := by omega
    obtain ⟨v1, b1, e1, r1, s1⟩ := st_plus (I := I) (D := D) (P := P) (⟨hr, fun z => z⟩ : LK (al kd w i).isNone (al kd w i) v) (LK_some h3)
    have ea : al kd w (i + 1) = sm2 sp_plus (al kd w i) (some (w i)) := by
      show (if kd = 7 then sm2 sp_times (al kd w i) (some (w i)) else if kd < 9 then sm2 sp_plus (al kd w i) (some (w i)) else some (w i)) = _
      rw [if_neg h7, if_pos h9]
    rw [← ea] at r1 s1
    have hb : b1 = (al kd w (i + 1)).isNone := by
      cases h : (al kd w (i + 1)).isNone with
      | true => exact r1.2 h
      | false => exact s1.2 h (by rw [ea] at h; exact (sm2_S h).1)
    subst hb
    obtain ⟨v', e', r'⟩ := ih (i + 1) v1 (by omega) r1.1
    refine ⟨v', ?_, r'⟩
    rw [← e']
    simp (disch := assumption) only [x_X5_sum_5, x_X5_sum_7, x_X5_sum_8, x_X5_sum_11, x_X5_sum_12, x_X5_sum_15, x_X5_sum_16, x_X5_sum_17, x_X5_sum_20, x_X5_sum_21, x_X5_sum_23, x_X5_sum_24, x_X5_sum_25, x_X5_sum_28, x_X5_sum_29, x_X5_sum_32, hlt, if_false, nI_add, h2, e1, Option.bind_some, Option.toList, List.cons_append, List.nil_append]
theorem sX5_sum {row m kd : Nat} {w : Nat → UInt64} (hw : pvs D row w m) (hm : m ≤ 8) (h7 : kd ≠ 7) (h9 : kd < 9) : ∃ v', mF_X5_sum [.ref 11, .int (nI row), .int (nI m)] (162, pm_u I 12 0 (fb false), D, pm_R P) = some (some (.double v'), (162, pm_u I 12 0 (fb (al kd w m).isNone), D, pm_R P)) ∧ RB (al kd w m) v' := by
  have e0 : al kd w 0 = some 0 := if_neg h7
  obtain ⟨v', e, r⟩ := sum_loop (I := I) (P := P) hw hm h7 h9 m 0 0 (by omega) (by rw [e0]; exact RB_some fn_0)
  refine ⟨v', ?_, r⟩
  rw [← e, e0, en_X5_sum]
  simp only [x_X5_sum_0, x_X5_sum_1, x_X5_sum_2, x_X5_sum_3, Option.isNone_some]
theorem product_loop {row m : Nat} {w : Nat → UInt64} (hw : pvs D row w m) (hm : m ≤ 8) : ∀ c i v, i + c = m → RB (al 7 w i) v → ∃ v', pm_run mE_X5_product 5 [.ref 11, .int (nI row), .int (nI m), .double v, .retAddr 1, .int (nI i)] [] (162, pm_u I 12 0 (fb (al 7 w i).isNone), D, pm_R P) = some (some (.double v'), (162, pm_u I 12 0 (fb (al 7 w m).isNone), D, pm_R P)) ∧ RB (al 7 w m) v' := by
  intro c
  induction c with
  | zero =>
    intro i v hi hr
    have e : i = m := by omega
    subst e
    refine ⟨v, ?_, hr⟩
    have hle : nI i ≤ nI i := nI_le (Nat.le_refl _) (by omega)
    simp only [x_X5_product_5, x_X5_product_7, x_X5_product_8, x_X5_product_35, x_X5_product_36, hle, if_true]
  | succ c ih =>
    intro i v hi hr
    have hlt : ¬ nI m ≤ nI i := nI_ge (by omega) (by omega)
    obtain ⟨h0, h1⟩ := hw
    obtain ⟨h2, h3⟩ := h1 i (by omega)
    have hn : row + i < 480 := by omega
    obtain ⟨v1, b1, e1, r1, s1⟩ := st_times (I := I) (D := D) (P := P) (⟨hr, fun z => z⟩ : LK (al 7 w i).isNone (al 7 w i) v) (LK_some h3)
    have ea : al 7 w (i + 1) = sm2 sp_times (al 7 w i) (some (w i)) := rfl
    rw [← ea] at r1 s1
    have hb : b1 = (al 7 w (i + 1)).isNone := by
      cases h : (al 7 w (i + 1)).isNone with
      | true => exact r1.2 h
      | false => exact s1.2 h (by rw [ea] at h; exact (sm2_S h).1)
    subst hb
    obtain ⟨v', e', r'⟩ := ih (i + 1) v1 (by omega) r1.1
    refine ⟨v', ?_, r'⟩
    rw [← e']
    simp (disch := assumption) only [x_X5_product_5, x_X5_product_7, x_X5_product_8, x_X5_product_11, x_X5_product_12, x_X5_product_15, x_X5_product_16, x_X5_product_17, x_X5_product_20, x_X5_product_21, x_X5_product_23, x_X5_product_24, x_X5_product_25, x_X5_product_28, x_X5_product_29, x_X5_product_32, hlt, if_false, nI_add, h2, e1, Option.bind_some, Option.toList, List.cons_append, List.nil_append]
theorem sX5_product {row m : Nat} {w : Nat → UInt64} (hw : pvs D row w m) (hm : m ≤ 8) : ∃ v', mF_X5_product [.ref 11, .int (nI row), .int (nI m)] (162, pm_u I 12 0 (fb false), D, pm_R P) = some (some (.double v'), (162, pm_u I 12 0 (fb (al 7 w m).isNone), D, pm_R P)) ∧ RB (al 7 w m) v' := by
  have e0 : al 7 w 0 = some 4607182418800017408 := rfl
  obtain ⟨v', e, r⟩ := product_loop (I := I) (P := P) hw hm m 0 4607182418800017408 (by omega) (by rw [e0]; exact RB_some fn_1)
  refine ⟨v', ?_, r⟩
  rw [← e, e0, en_X5_product]
  simp only [x_X5_product_0, x_X5_product_1, x_X5_product_2, x_X5_product_3, Option.isNone_some]
def bm (w : Nat → UInt64) (i : Nat) : UInt64 := if i = 0 then w 0 else be w i
theorem gr_self {a : UInt64} (h : vf_n64 a) : sp_gr a a = a := by
  unfold sp_gr
  rw [if_pos (feq_refl h)]
  split
  · rfl
  · rfl
theorem bm_S {w : Nat → UInt64} {i : Nat} (h : vf_n64 (w i)) : sp_gr (bm w i) (w i) = bm w (i + 1) := by
  unfold bm
  rw [if_neg (by omega : ¬ i + 1 = 0)]
  show _ = if i = 0 then w 0 else sp_gr (be w i) (w i)
  by_cases c : i = 0
  · subst c
    rw [if_pos rfl, if_pos rfl, gr_self h]
  · rw [if_neg c, if_neg c]
theorem bm_fn {w : Nat → UInt64} {m : Nat} (hm : 0 < m) (h : ∀ j, j < m → vf_n64 (w j)) (i : Nat) (hi : i ≤ m) : vf_n64 (bm w i) := by
  unfold bm
  split
  · exact h 0 hm
  · exact be_fn i (fun j hj => h j (by omega))
theorem best_loop {row m : Nat} {w : Nat → UInt64} {q : UInt64} (hw : pvs D row w m) (hm : m ≤ 8) (h0 : 0 < m) : ∀ c i v, i + c = m → RB (al 8 w i) v → ∃ v', pm_run mE_X5_best 14 [.ref 11, .int (nI row), .int (nI m), .double q, .retAddr 1, .double (bm w i), .retAddr 1, .double v, .retAddr 1, .int (nI i)] [] (162, pm_u I 12 0 (fb (al 8 w i).isNone), D, pm_R P) = pm_run mE_X5_best 62 [.ref 11, .int (nI row), .int (nI m), .double q, .retAddr 1, .double (bm w m), .retAddr 1, .double v', .retAddr 1, .int (nI m)] [] (162, pm_u I 12 0 (fb (al 8 w m).isNone), D, pm_R P) ∧ RB (al 8 w m) v' := by
  intro c
  induction c with
  | zero =>
    intro i v hi hr
    have e : i = m := by omega
    subst e
    refine ⟨v, ?_, hr⟩
    have hle : nI i ≤ nI i := nI_le (Nat.le_refl _) (by omega)
    simp only [x_X5_best_14, x_X5_best_16, x_X5_best_17, hle, if_true]
  | succ c ih =>
    intro i v hi hr
    have hlt : ¬ nI m ≤ nI i := nI_ge (by omega) (by omega)
    have hfn := bm_fn h0 (fun j hj => (hw.2 j hj).2) i (by omega)
    obtain ⟨h1, h2⟩ := hw
    obtain ⟨h2, h3⟩ := h2 i (by omega)
    have hn : row + i < 480 := by omega
    obtain ⟨v1, b1, e1, r1, s1⟩ := st_plus (I := I) (D := D) (P := P) (⟨hr, fun z => z⟩ : LK (al 8 w i).isNone (al 8 w i) v) (LK_some h3)
    have ea : al 8 w (i + 1) = sm2 sp_plus (al 8 w i) (some (w i)) := rfl
    rw [← ea] at r1 s1
    have hb : b1 = (al 8 w (i + 1)).isNone := by
      cases h : (al 8 w (i + 1)).isNone with
      | true => exact r1.2 h
      | false => exact s1.2 h (by rw [ea] at h; exact (sm2_S h).1)
    subst hb
    obtain ⟨v', e', r'⟩ := ih (i + 1) v1 (by omega) r1.1
    refine ⟨v', ?_, r'⟩
    rw [← e']
    simp (disch := assumption) only [x_X5_best_14, x_X5_best_16, x_X5_best_17, x_X5_best_20, x_X5_best_22, x_X5_best_23, x_X5_best_26, x_X5_best_27, x_X5_best_29, x_X5_best_30, x_X5_best_31, x_X5_best_34, x_X5_best_36, x_X5_best_37, x_X5_best_40, x_X5_best_42, x_X5_best_43, x_X5_best_46, x_X5_best_47, x_X5_best_49, x_X5_best_50, x_X5_best_51, x_X5_best_54, x_X5_best_56, x_X5_best_59, hlt, if_false, nI_add, h2, sX0_greaterOf hfn h3, bm_S h3, e1, Option.bind_some, Option.toList, List.cons_append, List.nil_append]
theorem sX5_best {row m : Nat} {w : Nat → UInt64} {q : UInt64} (hq : vf_n64 q) (hw : pvs D row w m) (hm : m ≤ 8) (h0 : 0 < m) : ∃ v', mF_X5_best [.ref 11, .int (nI row), .int (nI m), .double q] (162, pm_u I 12 0 (fb false), D, pm_R P) = some (some (.double v'), (162, pm_u I 12 0 (fb (zbe (some (be w m)) (al 8 w m) (some q)).isNone), D, pm_R P)) ∧ RB (zbe (some (be w m)) (al 8 w m) (some q)) v' := by
  have e0 : al 8 w 0 = some 0 := rfl
  have eb : bm w m = be w m := if_neg (by omega)
  have e1 : bm w 0 = w 0 := rfl
  have hfb : vf_n64 (be w m) := be_fn m (fun j hj => (hw.2 j hj).2)
  obtain ⟨v', e, r⟩ := best_loop (I := I) (P := P) (q := q) hw hm h0 m 0 0 (by omega) (by rw [e0]; exact RB_some fn_0)
  obtain ⟨v1, b1, f1, r1, s1⟩ := st_minus (I := I) (D := D) (P := P) (⟨r, fun z => z⟩ : LK (al 8 w m).isNone (al 8 w m) v') (LK_some hfb)
  obtain ⟨v2, b2, f2, r2, s2⟩ := st_times (I := I) (D := D) (P := P) (LK_some hq) r1
  obtain ⟨v3, b3, f3, r3, s3⟩ := st_plus (I := I) (D := D) (P := P) (LK_some hfb) r2
  have hb : b3 = (zbe (some (be w m)) (al 8 w m) (some q)).isNone := by
    cases h : (zbe (some (be w m)) (al 8 w m) (some q)).isNone with
    | true => exact r3.2 h
    | false =>
      have h2 := (sm2_S h).2
      have h1 := (sm2_S h2).2
      exact s3.2 h (s2.2 h2 (s1.2 h1 (sm2_S h1).1))
  subst hb
  refine ⟨v3, ?_, r3.1⟩
  rw [en_X5_best]
  obtain ⟨g0, g1⟩ := hw
  have g2 := (g1 0 h0).1
  rw [Nat.add_zero] at g2
  have hn : row < 480 := by omega
  rw [e0, e1, eb] at e
  simp only [Option.isNone_some] at e
  simp (disch := assumption) only [x_X5_best_0, x_X5_best_1, x_X5_best_4, x_X5_best_5, x_X5_best_6, x_X5_best_8, x_X5_best_9, x_X5_best_11, x_X5_best_12, g2]
  rw [e]
  simp only [x_X5_best_62, x_X5_best_63, x_X5_best_66, x_X5_best_68, x_X5_best_69, x_X5_best_72, x_X5_best_73, x_X5_best_74, x_X5_best_77, x_X5_best_79, x_X5_best_81, x_X5_best_84, x_X5_best_87, x_X5_best_90, f1, f2, f3, Option.bind_some, Option.toList, List.cons_append, List.nil_append]
theorem sX5_decay {p q : UInt64} (hx : vf_n64 x) (hp : vf_n64 p) (hq : vf_n64 q) : ∃ v', mF_X5_decay [.ref 11, .double x, .double p, .double q] (162, pm_u I 12 0 (fb false), D, pm_R P) = some (some (.double v'), (162, pm_u I 12 0 (fb (zde (some x) (some p) (some q)).isNone), D, pm_R P)) ∧ RB (zde (some x) (some p) (some q)) v' := by
  obtain ⟨v1, b1, f1, r1, s1⟩ := st_minus (I := I) (D := D) (P := P) (b := false) (LK_some hx) (LK_some hp)
  obtain ⟨v2, b2, f2, r2, s2⟩ := st_minus (I := I) (D := D) (P := P) (LK_some hq) (LK_map abs_fn r1)
  obtain ⟨v3, b3, f3, r3, s3⟩ := st_over (I := I) (D := D) (P := P) r2 (LK_some hq)
  have hb : b3 = (zde (some x) (some p) (some q)).isNone := by
    unfold zde
    rw [map_N]
    cases h : (sm2 sp_over (sm2 sp_minus (some q) ((sm2 sp_minus (some x) (some p)).map sp_abs)) (some q)).isNone with
    | true => exact r3.2 h
    | false =>
      have h2 := (sm2_S h).1
      have h1 := (sm2_S h2).2
      rw [map_N] at h1
      exact s3.2 h (s2.2 h2 (s1.2 h1 rfl))
  subst hb
  refine ⟨sp_pos v3, ?_, (LK_map pos_fn r3).1⟩
  rw [en_X5_decay]
  have fa : ∀ ν : pm_M, mF_X0_sizeOf [.double v1] ν = some (some (.double (sp_abs v1)), ν) := fun ν => sX0_sizeOf
  simp only [x_X5_decay_0, x_X5_decay_1, x_X5_decay_4, x_X5_decay_5, x_X5_decay_6, x_X5_decay_9, x_X5_decay_12, x_X5_decay_14, x_X5_decay_15, x_X5_decay_18, x_X5_decay_19, x_X5_decay_22, x_X5_decay_24, x_X5_decay_26, x_X5_decay_29, x_X5_decay_31, x_X5_decay_34, f1, fa, f2, f3, Option.bind_some, Option.toList, List.cons_append, List.nil_append]
  simp only [x_X5_decay_36, x_X5_decay_38, x_X5_decay_39, x_X5_decay_40, x_X5_decay_43, x_X5_decay_45, x_X5_decay_48, x_X5_decay_49, cl_le]
  unfold sp_pos
  by_cases c : FP.dcmp v3 0 = some .gt
  · simp only [c, not_true, if_false, if_true]
  · simp only [c, not_false_eq_true, if_true, if_false]
theorem sX5_near {p q : UInt64} (hx : vf_n64 x) (hp : vf_n64 p) (hq : vf_n64 q) : ∃ v', mF_X5_near [.ref 11, .double x, .double p, .double q] (162, pm_u I 12 0 (fb false), D, pm_R P) = some (some (.double v'), (162, pm_u I 12 0 (fb (zne (some x) (some p) (some q)).isNone), D, pm_R P)) ∧ RB (zne (some x) (some p) (some q)) v' := by
  obtain ⟨v1, b1, f1, r1, s1⟩ := st_minus (I := I) (D := D) (P := P) (b := false) (LK_some hx) (LK_some hp)
  obtain ⟨v2, b2, f2, r2, s2⟩ := st_over (I := I) (D := D) (P := P) r1 (LK_some hq)
  obtain ⟨v3, b3, f3, r3, s3⟩ := st_times (I := I) (D := D) (P := P) r2 r2
  obtain ⟨v4, b4, f4, r4, s4⟩ := st_plus (I := I) (D := D) (P := P) (LK_some fn_1) r3
  obtain ⟨v5, b5, f5, r5, s5⟩ := st_over (I := I) (D := D) (P := P) (LK_some fn_1) r4
  have hb : b5 = (zne (some x) (some p) (some q)).isNone := by
    cases h : (zne (some x) (some p) (some q)).isNone with
    | true => exact r5.2 h
    | false =>
      unfold zne znr at h
      have h4 := (sm2_S h).2
      have h3 := (sm2_S h4).2
      have h2 := (sm2_S h3).1
      have h1 := (sm2_S h2).1
      exact s5.2 h (s4.2 h4 (s3.2 h3 (s2.2 h2 (s1.2 h1 rfl))))
  subst hb
  refine ⟨v5, ?_, r5.1⟩
  rw [en_X5_near]
  simp only [x_X5_near_0, x_X5_near_1, x_X5_near_4, x_X5_near_5, x_X5_near_8, x_X5_near_9, x_X5_near_10, x_X5_near_13, x_X5_near_15, x_X5_near_18, x_X5_near_20, x_X5_near_21, x_X5_near_24, x_X5_near_25, x_X5_near_26, x_X5_near_29, x_X5_near_30, x_X5_near_31, x_X5_near_34, x_X5_near_36, x_X5_near_38, x_X5_near_41, x_X5_near_44, x_X5_near_47, f1, f2, f3, f4, f5, Option.bind_some, Option.toList, List.cons_append, List.nil_append]
end CWP
