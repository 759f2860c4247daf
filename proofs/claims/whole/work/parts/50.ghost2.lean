/-! SCORES, 5: how a formula is asked; the class's fail, judge -/
/-- how many asked, how many caught, the deepest -/
abbrev zS : Type := Int32 × Int32 × Int32
/-- the failure (0: none), the culprit, the value -/
abbrev zV : Type := Nat × Nat × UInt64
def bump (s : zS) (d : Nat) : zS := (s.1 + nI 1, s.2.1, if nI d ≤ s.2.2 then s.2.2 else nI d)
def ctch (s : zS) : zS := (s.1, s.2.1 + nI 1, s.2.2)
def zjd (r : zR) (k : Nat) (A : Option UInt64) : zV := match A with
  | none => (if zK r = 5 then 1 else 2, k, 0)
  | some a => if (6 ≤ zK r ∧ zK r ≤ 9) ∧ FP.dcmp a 0 = some .lt then (3, k, 0) else (0, k, a)
/-- the parts one by one, until one fails -/
def evp (F : Nat → zS → zS × zV) (t : Nat → Nat) (s : zS) : Nat → zS × (Nat × Nat) × (Nat → UInt64)
  | 0 => (s, (0, 0), fun _ => 0)
  | j + 1 => if (evp F t s j).2.1.1 = 0 then ((F (t j) (evp F t s j).1).1, ((F (t j) (evp F t s j).1).2.1, (F (t j) (evp F t s j).1).2.2.1), ud (evp F t s j).2.2 j (F (t j) (evp F t s j).1).2.2.2) else evp F t s j
/-- behind the parts -/
def evf (g : gO) (r : zR) (k o : Nat) (q : zS × (Nat × Nat) × (Nat → UInt64)) : zS × zV := if q.2.1.1 = 0 then (q.1, zjd r k (evw g r o q.2.2)) else (q.1, (q.2.1.1, q.2.1.2, 0))
def ev (g : gO) (rec : Nat → zR) (o : Nat) : Nat → Nat → Nat → zS → zS × zV
  | 0, k, _, s => (s, (2, k, 0))
  | n + 1, k, d, s => if zK (rec k) = 13 then
      (if (ev g rec o n (zT (rec k) 0) (d + 1) (bump s d)).2.1 = 0 then ev g rec o n (zT (rec k) 0) (d + 1) (bump s d) else ev g rec o n (zT (rec k) 1) (d + 1) (ctch (ev g rec o n (zT (rec k) 0) (d + 1) (bump s d)).1))
    else evf g (rec k) k o (evp (fun k' s' => ev g rec o n k' (d + 1) s') (zT (rec k)) (bump s d) (zM (rec k)))
theorem evp_0 {F : Nat → zS → zS × zV} {t : Nat → Nat} {s : zS} : evp F t s 0 = (s, (0, 0), fun _ => 0) := rfl
theorem evp_S {F : Nat → zS → zS × zV} {t : Nat → Nat} {s : zS} {j : Nat} (h : (evp F t s j).2.1.1 = 0) : evp F t s (j + 1) = ((F (t j) (evp F t s j).1).1, ((F (t j) (evp F t s j).1).2.1, (F (t j) (evp F t s j).1).2.2.1), ud (evp F t s j).2.2 j (F (t j) (evp F t s j).1).2.2.2) := if_pos h
theorem evp_stop {F : Nat → zS → zS × zV} {t : Nat → Nat} {s : zS} {j : Nat} (h : ¬ (evp F t s j).2.1.1 = 0) : ∀ i, evp F t s (j + i) = evp F t s j
  | 0 => rfl
  | i + 1 => by
    have ih := evp_stop h i
    show (if (evp F t s (j + i)).2.1.1 = 0 then _ else evp F t s (j + i)) = _
    rw [ih, if_neg h]
theorem zjd_lt (r : zR) (k : Nat) (A : Option UInt64) : (zjd r k A).1 < 4 := by
  unfold zjd
  cases A with
  | none => dsimp only; split <;> simp
  | some a => dsimp only; split <;> simp
theorem ev_lt (g : gO) (rec : Nat → zR) (o : Nat) : ∀ n k d s, (ev g rec o n k d s).2.1 < 4 := by
  intro n
  induction n with
  | zero => intro k d s; exact (by decide : (2 : Nat) < 4)
  | succ n ih =>
    intro k d s
    unfold ev
    split
    · split
      · exact ih _ _ _
      · exact ih _ _ _
    · have hp : ∀ m, (evp (fun k' s' => ev g rec o n k' (d + 1) s') (zT (rec k)) (bump s d) m).2.1.1 < 4 := by
        intro m
        induction m with
        | zero => exact (by decide : (0 : Nat) < 4)
        | succ m im =>
          unfold evp
          split
          · exact ih _ _ _
          · exact im
      unfold evf
      split
      · exact zjd_lt _ _ _
      · exact hp _
/-- what the class tells of the culprit -/
def cul (v : zV) : Int32 := if v.1 = 0 then -9 else nI v.2.1
/-- the scorer -/
def cS (I : Nat → Nat → Int32) (f : Nat) (c : Int32) (s : zS) : Prop := I 11 0 = nI f ∧ I 11 1 = c ∧ I 11 2 = s.1 ∧ I 11 3 = s.2.1 ∧ I 11 4 = s.2.2
/-- what asking leaves as it was: the parts' values before b, and all else -/
def cFr (I I' : Nat → Nat → Int32) (D D' : Nat → Nat → UInt64) (b : Nat) : Prop := (∀ a j, a ≠ 11 → a ≠ 12 → I' a j = I a j) ∧ (∀ j, 5 ≤ j → I' 11 j = I 11 j) ∧ (∀ a j, a ≠ 13 → D' a j = D a j) ∧ ∀ j, j < b → D' 13 j = D 13 j
theorem cFr_rf {I : Nat → Nat → Int32} {D : Nat → Nat → UInt64} {b : Nat} : cFr I I D D b := ⟨fun _ _ _ _ => rfl, fun _ _ => rfl, fun _ _ _ => rfl, fun _ _ => rfl⟩
theorem cFr_tr {I I' I2 : Nat → Nat → Int32} {D D' D2 : Nat → Nat → UInt64} {b b2 : Nat} (h : cFr I I' D D' b) (h2 : cFr I' I2 D' D2 b2) (hb : b ≤ b2) : cFr I I2 D D2 b := ⟨fun a j h1 h3 => (h2.1 a j h1 h3).trans (h.1 a j h1 h3), fun j h1 => (h2.2.1 j h1).trans (h.2.1 j h1), fun a j h1 => (h2.2.2.1 a j h1).trans (h.2.2.1 a j h1), fun j h1 => (h2.2.2.2 j (by omega)).trans (h.2.2.2 j h1)⟩
/-- the class's objects and formulas -/
def cX (g : gO) (nF : Nat) (rec : Nat → zR) (o : Nat) (I : Nat → Nat → Int32) (D : Nat → Nat → UInt64) (P : Nat → Nat → Option Nat) : Prop := CO I D g ∧ cF I D P nF rec ∧ (∀ k, k < 60 → I 200 k = nI k) ∧ I 11 5 = nI o
theorem cX_fr {g : gO} {nF : Nat} {rec : Nat → zR} {o b : Nat} {I I' : Nat → Nat → Int32} {D D' : Nat → Nat → UInt64} {P : Nat → Nat → Option Nat} (h : cX g nF rec o I D P) (hf : cFr I I' D D' b) : cX g nF rec o I' D' P := by
  refine ⟨CO_fr h.1 (fun a j h1 h2 => ⟨hf.1 a j (by omega) (by omega), hf.2.2.1 a j (by omega)⟩), fun k hk => cR_fr (h.2.1 k hk) (fun a h1 => ⟨hf.1 a k (by omega) (by omega), hf.2.2.1 a k (by omega)⟩) (fun j => rfl), fun k hk => ?_, ?_⟩
  · rw [hf.1 200 k (by decide) (by decide)]
    exact h.2.2.1 k hk
  · rw [hf.2.1 5 (by decide)]
    exact h.2.2.2
section CFA
variable {I : Nat → Nat → Int32} {D : Nat → Nat → UInt64} {P : Nat → Nat → Option Nat} {k : Nat} {r : zR}
theorem sX5_fail {c : Int32} (hk : k < 60) (h : I 200 k = nI k) : mF_X5_fail [.ref 11, .ref (pm_fo k), .int c] (162, I, D, pm_R P) = some (some (.double 0), (162, pm_u (pm_u I 11 0 c) 11 1 (nI k), D, pm_R P)) := by
  rw [en_X5_fail]
  have e : pm_u I 11 0 c 200 k = nI k := by rw [pm_ua (by decide)]; exact h
  simp (disch := assumption) only [x_X5_fail_0, x_X5_fail_1, x_X5_fail_2, x_X5_fail_5, x_X5_fail_6, x_X5_fail_6n, x_X5_fail_7, x_X5_fail_10, x_X5_fail_13, x_X5_fail_14, e]
theorem sX5_judge (hk : k < 60) (h : I 200 k = nI k) (h1 : I 201 k = nI (zK r)) (hkd : zK r < 14) {A : Option UInt64} {v : UInt64} (hv : RB A v) {s : zS} (hs : cS I 0 (-9) s) : ∃ v' I', mF_X5_judge [.ref 11, .ref (pm_fo k), .double v] (162, pm_u I 12 0 (fb A.isNone), D, pm_R P) = some (some (.double v'), (162, I', D, pm_R P)) ∧ (∀ a j, a ≠ 11 → a ≠ 12 → I' a j = I a j) ∧ (∀ j, 5 ≤ j → I' 11 j = I 11 j) ∧ cS I' (zjd r k A).1 (cul (zjd r k A)) s ∧ vf_n64 v' ∧ ((zjd r k A).1 = 0 → v' = (zjd r k A).2.2) := by
  have u0 : ∀ c, pm_u I 12 0 (fb c) 200 k = nI k := fun c => by rw [pm_ua (by decide)]; exact h
  have u1 : ∀ c, pm_u I 12 0 (fb c) 201 k = nI (zK r) := fun c => by rw [pm_ua (by decide)]; exact h1
  obtain ⟨s0, s1, s2, s3, s4⟩ := hs
  have fin : ∀ (c : Nat) (b : Bool), (∀ a j, a ≠ 11 → a ≠ 12 → pm_u (pm_u (pm_u I 12 0 (fb b)) 11 0 (nI c)) 11 1 (nI k) a j = I a j) ∧ (∀ j, 5 ≤ j → pm_u (pm_u (pm_u I 12 0 (fb b)) 11 0 (nI c)) 11 1 (nI k) 11 j = I 11 j) ∧ cS (pm_u (pm_u (pm_u I 12 0 (fb b)) 11 0 (nI c)) 11 1 (nI k)) c (nI k) s := by
    intro c b
    refine ⟨fun a j g1 g2 => by rw [pm_ua g1, pm_ua g1, pm_ua g2], fun j g1 => by rw [pm_ub (by omega), pm_ub (by omega), pm_ua (by decide)], ?_, ?_, ?_, ?_, ?_⟩
    · rw [pm_ub (by decide), pm_us]
    · rw [pm_us]
    · rw [pm_ub (by decide), pm_ub (by decide), pm_ua (by decide)]; exact s2
    · rw [pm_ub (by decide), pm_ub (by decide), pm_ua (by decide)]; exact s3
    · rw [pm_ub (by decide), pm_ub (by decide), pm_ua (by decide)]; exact s4
  rw [en_X5_judge]
  cases A with
  | none =>
    have z : zjd r k none = (if zK r = 5 then 1 else 2, k, 0) := rfl
    rw [z]
    by_cases c5 : zK r = 5
    · refine ⟨0, _, ?_, (fin 1 true).1, (fin 1 true).2.1, ?_, fn_0, fun y => ?_⟩
      · simp (disch := first | assumption | decide) only [x_X5_judge_0, x_X5_judge_1, x_X5_judge_4, x_X5_judge_7, x_X5_judge_10, x_X5_judge_11, x_X5_judge_11n, x_X5_judge_12, x_X5_judge_12n, x_X5_judge_13, x_X5_judge_16, x_X5_judge_17, x_X5_judge_20, x_X5_judge_21, x_X5_judge_24, x_X5_judge_25, x_X5_judge_28, sX4_isLost, Option.isNone_none, fb_eq0, reduceCtorEq, if_false, u1, c5, if_true, sX5_fail hk (u0 true), Option.bind_some, Option.toList, List.cons_append, List.nil_append]
      · rw [if_pos c5]
        exact (fin 1 true).2.2
      · rw [if_pos c5] at y
    · have n5 : ¬ nI (zK r) = nI 5 := by rw [nI_eq (by omega) (by decide)]; exact c5
      refine ⟨0, _, ?_, (fin 2 true).1, (fin 2 true).2.1, ?_, fn_0, fun y => ?_⟩
      · simp (disch := first | assumption | decide) only [x_X5_judge_0, x_X5_judge_1, x_X5_judge_4, x_X5_judge_7, x_X5_judge_10, x_X5_judge_11, x_X5_judge_11n, x_X5_judge_12, x_X5_judge_12n, x_X5_judge_13, x_X5_judge_16, x_X5_judge_17, x_X5_judge_20, x_X5_judge_21, x_X5_judge_24, x_X5_judge_25, x_X5_judge_28, sX4_isLost, Option.isNone_none, fb_eq0, reduceCtorEq, if_false, u1, n5, sX5_fail hk (u0 true), Option.bind_some, Option.toList, List.cons_append, List.nil_append]
      · rw [if_neg c5]
        exact (fin 2 true).2.2
      · rw [if_neg c5] at y
  | some a =>
    have ea := hv.2 a rfl
    subst ea
    have z : zjd r k (some v) = if (6 ≤ zK r ∧ zK r ≤ 9) ∧ FP.dcmp v 0 = some .lt then (3, k, 0) else (0, k, v) := rfl
    rw [z]
    have hfb : ∀ μ : pm_M, mF_X2_failsBelow [.int (nI (zK r))] μ = some (some (.int (pb (6 ≤ zK r ∧ zK r ≤ 9))), μ) := fun μ => sX2_failsBelow (by omega)
    by_cases c : (6 ≤ zK r ∧ zK r ≤ 9) ∧ FP.dcmp v 0 = some .lt
    · rw [if_pos c]
      refine ⟨0, _, ?_, (fin 3 false).1, (fin 3 false).2.1, (fin 3 false).2.2, fn_0, fun y => by cases y⟩
      simp (disch := first | assumption | decide) only [x_X5_judge_0, x_X5_judge_1, x_X5_judge_4, x_X5_judge_7, x_X5_judge_29, x_X5_judge_29n, x_X5_judge_30, x_X5_judge_33, x_X5_judge_36, x_X5_judge_39, x_X5_judge_40, x_X5_judge_41, x_X5_judge_42, x_X5_judge_45, x_X5_judge_46, x_X5_judge_46n, x_X5_judge_47, x_X5_judge_48, x_X5_judge_51, sX4_isLost, Option.isNone_some, fb_eq0, if_true, u1, hfb, pb_eq0, c.1, c.2, cg_ge, and_self, not_true, if_false, sX5_fail hk (u0 false), Option.bind_some, Option.toList, List.cons_append, List.nil_append]
    · rw [if_neg c]
      refine ⟨v, pm_u I 12 0 (fb false), ?_, fun a j g1 g2 => by rw [pm_ua g2], fun j g1 => by rw [pm_ua (by decide)], ⟨?_, ?_, ?_, ?_, ?_⟩, hv.1, fun _ => rfl⟩
      · by_cases c2 : 6 ≤ zK r ∧ zK r ≤ 9
        · have c3 : ¬ FP.dcmp v 0 = some .lt := fun y => c ⟨c2, y⟩
          simp (disch := first | assumption | decide) only [x_X5_judge_0, x_X5_judge_1, x_X5_judge_4, x_X5_judge_7, x_X5_judge_29, x_X5_judge_29n, x_X5_judge_30, x_X5_judge_33, x_X5_judge_36, x_X5_judge_39, x_X5_judge_40, x_X5_judge_41, x_X5_judge_42, x_X5_judge_52, x_X5_judge_53, sX4_isLost, Option.isNone_some, fb_eq0, if_true, u1, hfb, pb_eq0, c2, c3, cg_ge, and_self, not_true, not_false_eq_true, if_false, Option.bind_some, Option.toList, List.cons_append, List.nil_append]
        · simp (disch := first | assumption | decide) only [x_X5_judge_0, x_X5_judge_1, x_X5_judge_4, x_X5_judge_7, x_X5_judge_29, x_X5_judge_29n, x_X5_judge_30, x_X5_judge_33, x_X5_judge_36, x_X5_judge_52, x_X5_judge_53, sX4_isLost, Option.isNone_some, fb_eq0, if_true, u1, hfb, pb_eq0, c2, not_false_eq_true, Option.bind_some, Option.toList, List.cons_append, List.nil_append]
      · rw [pm_ua (by decide)]; exact s0
      · rw [pm_ua (by decide)]; exact s1
      · rw [pm_ua (by decide)]; exact s2
      · rw [pm_ua (by decide)]; exact s3
      · rw [pm_ua (by decide)]; exact s4
end CFA
