/-! RUNS, instruction by instruction: rewriting rules -/
/-- a truth as an int -/
def pb (c : Prop) [Decidable c] : Int32 := if c then 1 else 0
theorem pb_t {c : Prop} [Decidable c] (h : c) : pb c = 1 := if_pos h
theorem pb_f {c : Prop} [Decidable c] (h : ¬ c) : pb c = 0 := if_neg h
theorem pb_and (c : Prop) [Decidable c] : pb c &&& 1 = pb c := by
  unfold pb
  split <;> rfl
theorem pb_eq0 (c : Prop) [Decidable c] : (pb c = 0) = ¬ c := by
  unfold pb
  split <;> simp [*]
theorem pb_ne0 (c : Prop) [Decidable c] : (¬ pb c = 0) = c := by
  unfold pb
  split <;> simp [*]
def pm_fo (k : Nat) : Nat := 15 + 2 * k
def pm_po (k : Nat) : Nat := 16 + 2 * k
theorem pm_k_fo : ∀ k, k < 60 → pm_k (pm_fo k) = (0, 15) := by decide +kernel
theorem pm_k_po : ∀ k, k < 60 → pm_k (pm_po k) = (13, 8) := by decide +kernel
theorem pm_l_fo {k s : Nat} (h : k < 60) : pm_l (pm_fo k) s = (200 + s, k) := by
  unfold pm_l
  rw [pm_k_fo k h, if_pos rfl]
  unfold pm_fo
  have : (15 + 2 * k - 15) / 2 = k := by omega
  rw [this]
/-- the references as they stay: P k j is part j of Formula k -/
def pm_R0 (i j : Nat) : Option Nat := match i with
  | 0 => (match j with
    | 0 => some 1
    | 1 => some 11
    | 2 => some 14
    | 4 => some 135
    | 5 => some 136
    | 6 => some 137
    | _ => none)
  | 1 => if j < 9 then some (2 + j) else none
  | 11 => (match j with
    | 6 => some 1
    | 7 => some 12
    | 8 => some 13
    | _ => none)
  | 14 => if j < 60 then some (pm_fo j) else none
  | _ => none
def pm_R1 (j : Nat) : Option Nat := if j < 5 then some (139 + j) else if 6 ≤ j ∧ j ≤ 20 then some (138 + j) else if 29 ≤ j ∧ j ≤ 31 then some (130 + j) else none
def pm_R (P : Nat → Nat → Option Nat) (i j : Nat) : Option Nat := if i < 15 then pm_R0 i j else if i < 135 then (if i % 2 = 0 then P ((i - 16) / 2) j else none) else if i = 138 then pm_R1 j else if i = 206 then (if j < 60 then some (pm_po j) else none) else none
section RULES
variable {E : pm_E} {pc len : Nat} {L st : List Value} {μ : pm_M}
theorem pr_1 {i : ClassFile.Instr} {pc' : Nat} {L' st' : List Value} (hd : decode (pm_Ec E) pc = .ok (i, len)) (hw : pm_w i len = true) (hr : pm_r E i st = none) (h : pm_s1 i pc L st = some (pc', L', st')) : pm_run E pc L st μ = pm_run E pc' L' st' μ := by
  refine pm_run_step hd hw hr (t := (pc', L', st', μ)) ?_
  unfold pm_s
  rw [h]
theorem pr_2 {i : ClassFile.Instr} {t : pm_S} (hd : decode (pm_Ec E) pc = .ok (i, len)) (hw : pm_w i len = true) (hr : pm_r E i st = none) (h1 : pm_s1 i pc L st = none) (h : pm_s2 E i pc L st μ = some t) : pm_run E pc L st μ = pm_run E t.1 t.2.1 t.2.2.1 t.2.2.2 := by
  refine pm_run_step hd hw hr (t := t) ?_
  unfold pm_s
  rw [h1]
  exact h
theorem pr_if {i : ClassFile.Instr} {t : Nat} {st' : List Value} {P : Prop} [Decidable P] {bo : Bool} (hd : decode (pm_Ec E) pc = .ok (i, len)) (hw : pm_w i len = true) (hr : pm_r E i st = none) (h : pm_s1 i pc L st = some (if bo = true then t else pc + 3, L, st')) (hP : bo = decide P) : pm_run E pc L st μ = if P then pm_run E t L st' μ else pm_run E (pc + 3) L st' μ := by
  rw [pr_1 hd hw hr h]
  subst hP
  by_cases hp : P
  · simp [hp]
  · simp [hp]
theorem pr_ifn {i : ClassFile.Instr} {t : Nat} {st' : List Value} {P : Prop} [Decidable P] {bo : Bool} (hd : decode (pm_Ec E) pc = .ok (i, len)) (hw : pm_w i len = true) (hr : pm_r E i st = none) (h : pm_s1 i pc L st = some (if bo = true then t else pc + 3, L, st')) (hP : bo = !decide P) : pm_run E pc L st μ = if P then pm_run E (pc + 3) L st' μ else pm_run E t L st' μ := by
  rw [pr_1 hd hw hr h]
  subst hP
  by_cases hp : P
  · simp [hp]
  · simp [hp]
theorem pr_ret {i : ClassFile.Instr} {r : Option Value} (hd : decode (pm_Ec E) pc = .ok (i, len)) (hw : pm_w i len = true) (hr : pm_r E i st = some r) : pm_run E pc L st μ = some (r, μ) := pm_run_ret hd hw hr
theorem pr_zret {x : Int32} (hd : decode (pm_Ec E) pc = .ok (.ireturn, 1)) (hE : pm_Er E = some .boolean) (hx : x &&& 1 = x) : pm_run E pc L [.int x] μ = some (some (.int x), μ) := by
  refine pm_run_ret hd rfl ?_
  unfold pm_r
  simp only [hE, hx, if_true]
theorem pr_get {k i c f : Nat} {v : Value} (hd : decode (pm_Ec E) pc = .ok (.getfield k, 3)) (hg : pm_Eg E k = some (c, f)) (hk : (pm_k i).1 = c) (hi : i < μ.1) (hv : pm_g μ i f (pm_ty c f) = v) : pm_run E pc L (.ref i :: st) μ = pm_run E (pc + 3) L (v :: st) μ := by
  subst hv
  exact pr_2 hd rfl rfl rfl (t := (pc + 3, L, _ :: st, μ)) (by simp only [pm_s2, hg, hk, hi, and_self, if_true])
theorem pr_put {k i c f : Nat} {v : Value} {μ' : pm_M} (hd : decode (pm_Ec E) pc = .ok (.putfield k, 3)) (hg : pm_Ep E k = some (c, f)) (hk : (pm_k i).1 = c) (hi : i < μ.1) (hv : pm_p μ i f (pm_ty c f) v = some μ') : pm_run E pc L (v :: .ref i :: st) μ = pm_run E (pc + 3) L st μ' := by
  exact pr_2 hd rfl rfl rfl (t := (pc + 3, L, st, μ')) (by simp only [pm_s2, hg, hk, hi, and_self, if_true, hv, Option.map_some])
theorem pr_V {k n c i : Nat} {F : pm_F} {as rest : List Value} (hd : decode (pm_Ec E) pc = .ok (.invokevirtual k, 3)) (hf : pm_Ef E k = some (0, n, c, F)) (hs : st.drop n = .ref i :: rest) (ha : (st.take n).reverse = as) (hk : (pm_k i).1 = c) (hi : i < μ.1) (hr : rest.length ≤ 4) : pm_run E pc L st μ = (F (.ref i :: as) μ).bind fun r => pm_run E (pc + 3) L (r.1.toList ++ rest) r.2 := by
  subst ha
  cases hF : F (.ref i :: (st.take n).reverse) μ with
  | none => exact pm_run_none hd rfl rfl (by simp only [pm_s, pm_s1, pm_s2, hf, hs, hk, hi, hr, and_self, if_true, hF, Option.map_none])
  | some r => exact pr_2 hd rfl rfl rfl (t := (pc + 3, L, r.1.toList ++ rest, r.2)) (by simp only [pm_s2, hf, hs, hk, hi, hr, and_self, if_true, hF, Option.map_some])
theorem pr_S {k n c : Nat} {F : pm_F} {as rest : List Value} (hd : decode (pm_Ec E) pc = .ok (.invokestatic k, 3)) (hn : pm_En E k = none) (hf : pm_Ef E k = some (1, n, c, F)) (hs : st.drop n = rest) (ha : (st.take n).reverse = as) (hl : n ≤ st.length) (hr : rest.length ≤ 4) : pm_run E pc L st μ = (F as μ).bind fun r => pm_run E (pc + 3) L (r.1.toList ++ rest) r.2 := by
  subst ha
  subst hs
  cases hF : F (st.take n).reverse μ with
  | none => exact pm_run_none hd rfl rfl (by simp only [pm_s, pm_s1, pm_s2, hf, hn, hl, hr, and_self, if_true, hF, Option.map_none])
  | some r => exact pr_2 hd rfl rfl rfl (t := (pc + 3, L, r.1.toList ++ st.drop n, r.2)) (by simp only [pm_s2, hf, hn, hl, hr, and_self, if_true, hF, Option.map_some])
theorem pr_I {k n c i : Nat} {F : pm_F} {as rest : List Value} (hd : decode (pm_Ec E) pc = .ok (.invokespecial k, 3)) (hn : pm_En E k = none) (hf : pm_Ef E k = some (2, n, c, F)) (hs : st.drop n = .ref i :: rest) (ha : (st.take n).reverse = as) (hi : i < μ.1) (hr : rest.length ≤ 4) : pm_run E pc L st μ = (F (.ref i :: as) μ).bind fun r => pm_run E (pc + 3) L (r.1.toList ++ rest) r.2 := by
  subst ha
  cases hF : F (.ref i :: (st.take n).reverse) μ with
  | none => exact pm_run_none hd rfl rfl (by simp only [pm_s, pm_s1, pm_s2, hf, hn, hs, hi, hr, and_self, if_true, hF, Option.map_none])
  | some r => exact pr_2 hd rfl rfl rfl (t := (pc + 3, L, r.1.toList ++ rest, r.2)) (by simp only [pm_s2, hf, hn, hs, hi, hr, and_self, if_true, hF, Option.map_some])
end RULES
