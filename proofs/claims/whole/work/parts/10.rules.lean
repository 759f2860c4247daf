/-! RUNS, instruction by instruction: rewriting rules -/
/-- a truth as an int -/
def pb (c : Prop) [Decidable c] : Int32 := if c then 1 else 0
theorem pb_t {c : Prop} [Decidable c] (h : c) : pb c = 1 := if_pos h
theorem pb_f {c : Prop} [Decidable c] (h : ¬ c) : pb c = 0 := if_neg h
theorem pb_and (c : Prop) [Decidable c] : pb c &&& 1 = pb c := by
  unfold pb
  split <;> rfl
theorem pb_eq0 (c : Prop) [Decidable c] : (pb c = 0) = ¬ c := by
  unfold pb
  split <;> simp [*]
theorem pb_ne0 (c : Prop) [Decidable c] : (¬ pb c = 0) = c := by
  unfold pb
  split <;> simp [*]
def pm_fo (k : Nat) : Nat := 15 + 2 * k
def pm_po (k : Nat) : Nat := 16 + 2 * k
theorem pm_k_fo : ∀ k, k < 60 → pm_k (pm_fo k) = (0, 15) := by decide +kernel
theorem pm_k_po : ∀ k, k < 60 → pm_k (pm_po k) = (13, 8) := by decide +kernel
theorem pm_l_fo {k s : Nat} (h : k < 60) : pm_l (pm_fo k) s = (200 + s, k) := by
  unfold pm_l
  rw [pm_k_fo k h, if_pos rfl]
  unfold pm_fo
  have : (15 + 2 * k - 15) / 2 = k := by omega
  rw [this]
/-- the references as they stay: P k j is part j of Formula k -/
def pm_R0 (i j : Nat) : Option Nat := match i with
  | 0 => (match j with
    | 0 => some 1
    | 1 => some 11
    | 2 => some 14
    | 4 => some 135
    | 5 => some 136
    | 6 => some 137
    | _ => none)
  | 1 => if j < 9 then some (2 + j) else none
  | 11 => (match j with
    | 6 => some 1
    | 7 => some 12
    | 8 => some 13
    | _ => none)
  | 14 => if j < 60 then some (pm_fo j) else none
  | _ => none
def pm_R1 (j : Nat) : Option Nat := if j < 5 then some (139 + j) else if 6 ≤ j ∧ j ≤ 20 then some (138 + j) else if 29 ≤ j ∧ j ≤ 31 then some (130 + j) else none
def pm_R (P : Nat → Nat → Option Nat) (i j : Nat) : Option Nat := if i < 15 then pm_R0 i j else if i < 135 then (if i % 2 = 0 then P ((i - 16) / 2) j else none) else if i = 138 then pm_R1 j else if i = 206 then (if j < 60 then some (pm_po j) else none) else none
section RULES
variable {E : pm_E} {pc len : Nat} {L st : List Value} {μ : pm_M}
theorem pr_1 {i : ClassFile.Instr} {pc' : Nat} {L' st' : List Value} (hd : decode (pm_Ec E) pc = .ok (i, len)) (hw : pm_w i len = true) (hr : pm_r E i st = none) (h : pm_s1 i pc L st = some (pc', L', st')) : pm_run E pc L st μ = pm_run E pc' L' st' μ := by
  refine pm_run_step hd hw hr (t := (pc', L', st', μ)) ?_
  unfold pm_s
  rw [h]
theorem pr_2 {i : ClassFile.Instr} {t : pm_S} (hd : decode (pm_Ec E) pc = .ok (i, len)) (hw : pm_w i len = true) (hr : pm_r E i st = none) (h1 : pm_s1 i pc L st = none) (h : pm_s2 E i pc L st μ = some t) : pm_run E pc L st μ = pm_run E t.1 t.2.1 t.2.2.1 t.2.2.2 := by
  refine pm_run_step hd hw hr (t := t) ?_
  unfold pm_s
  rw [h1]
  exact h
theorem pr_if {i : ClassFile.Instr} {t : Nat} {st' : List Value} {P : Prop} [Decidable P] {bo : Bool} (hd : decode (pm_Ec E) pc = .ok (i, len)) (hw : pm_w i len = true) (hr : pm_r E i st = none) (h : pm_s1 i pc L st = some (if bo = true then t else pc + 3, L, st')) (hP : bo = decide P) : pm_run E pc L st μ = if P then pm_run E t L st' μ else pm_run E (pc + 3) L st' μ := by
  rw [pr_1 hd hw hr h]
  subst hP
  by_cases hp : P
  · simp [hp]
  · simp [hp]
theorem pr_ifn {i : ClassFile.Instr} {t : Nat} {st' : List Value} {P : Prop} [Decidable P] {bo : Bool} (hd : decode (pm_Ec E) pc = .ok (i, len)) (hw : pm_w i len = true) (hr : pm_r E i st = none) (h : pm_s1 i pc L st = some (if bo = true then t else pc + 3, L, st')) (hP : bo = !decide P) : pm_run E pc L st μ = if P then pm_run E (pc + 3) L st' μ else pm_run E t L st' μ := by
  rw [pr_1 hd hw hr h]
  subst hP
  by_cases hp : P
  · simp [hp]
  · simp [hp]
theorem pr_ret {i : ClassFile.Instr} {r : Option Value} (hd : decode (pm_Ec E) pc = .ok (i, len)) (hw : pm_w i len = true) (hr : pm_r E i st = some r) : pm_run E pc L st μ = some (r, μ) := pm_run_ret hd hw hr
theorem pr_zret {x : Int32} (hd : decode (pm_Ec E) pc = .ok (.ireturn, 1)) (hE : pm_Er E = some .boolean) (hx : x &&& 1 = x) : pm_run E pc L [.int x] μ = some (some (.int x), μ) := by
  refine pm_run_ret hd rfl ?_
  unfold pm_r
  simp only [hE, hx, if_true]
theorem pr_get {k i c f : Nat} {v : Value} (hd : decode (pm_Ec E) pc = .ok (.getfield k, 3)) (hg : pm_Eg E k = some (c, f)) (hk : (pm_k i).1 = c) (hi : i < μ.1) (hv : pm_g μ i f (pm_ty c f) = v) : pm_run E pc L (.ref i :: st) μ = pm_run E (pc + 3) L (v :: st) μ := by
  subst hv
  exact pr_2 hd rfl rfl rfl (t := (pc + 3, L, _ :: st, μ)) (by simp only [pm_s2, hg, hk, hi, and_self, if_true])
theorem pr_put {k i c f : Nat} {v : Value} {μ' : pm_M} (hd : decode (pm_Ec E) pc = .ok (.putfield k, 3)) (hg : pm_Ep E k = some (c, f)) (hk : (pm_k i).1 = c) (hi : i < μ.1) (hv : pm_p μ i f (pm_ty c f) v = some μ') : pm_run E pc L (v :: .ref i :: st) μ = pm_run E (pc + 3) L st μ' := by
  exact pr_2 hd rfl rfl rfl (t := (pc + 3, L, st, μ')) (by simp only [pm_s2, hg, hk, hi, and_self, if_true, hv, Option.map_some])
theorem pr_V {k n c i : Nat} {F : pm_F} {as rest : List Value} (hd : decode (pm_Ec E) pc = .ok (.invokevirtual k, 3)) (hf : pm_Ef E k = some (0, n, c, F)) (hs : st.drop n = .ref i :: rest) (ha : (st.take n).reverse = as) (hk : (pm_k i).1 = c) (hi : i < μ.1) (hr : rest.length ≤ 4) : pm_run E pc L st μ = (F (.ref i :: as) μ).bind fun r => pm_run E (pc + 3) L (r.1.toList ++ rest) r.2 := by
  subst ha
  cases hF : F (.ref i :: (st.take n).reverse) μ with
  | none => exact pm_run_none hd rfl rfl (by simp only [pm_s, pm_s1, pm_s2, hf, hs, hk, hi, hr, and_self, if_true, hF, Option.map_none])
  | some r => exact pr_2 hd rfl rfl rfl (t := (pc + 3, L, r.1.toList ++ rest, r.2)) (by simp only [pm_s2, hf, hs, hk, hi, hr, and_self, if_true, hF, Option.map_some])
theorem pr_S {k n c : Nat} {F : pm_F} {as rest : List Value} (hd : decode (pm_Ec E) pc = .ok (.invokestatic k, 3)) (hn : pm_En E k = none) (hf : pm_Ef E k = some (1, n, c, F)) (hs : st.drop n = rest) (ha : (st.take n).reverse = as) (hl : n ≤ st.length) (hr : rest.length ≤ 4) : pm_run E pc L st μ = (F as μ).bind fun r => pm_run E (pc + 3) L (r.1.toList ++ rest) r.2 := by
  subst ha
  subst hs
  cases hF : F (st.take n).reverse μ with
  | none => exact pm_run_none hd rfl rfl (by simp only [pm_s, pm_s1, pm_s2, hf, hn, hl, hr, and_self, if_true, hF, Option.map_none])
  | some r => exact pr_2 hd rfl rfl rfl (t := (pc + 3, L, r.1.toList ++ st.drop n, r.2)) (by simp only [pm_s2, hf, hn, hl, hr, and_self, if_true, hF, Option.map_some])
theorem pr_I {k n c i : Nat} {F : pm_F} {as rest : List Value} (hd : decode (pm_Ec E) pc = .ok (.invokespecial k, 3)) (hn : pm_En E k = none) (hf : pm_Ef E k = some (2, n, c, F)) (hs : st.drop n = .ref i :: rest) (ha : (st.take n).reverse = as) (hi : i < μ.1) (hr : rest.length ≤ 4) : pm_run E pc L st μ = (F (.ref i :: as) μ).bind fun r => pm_run E (pc + 3) L (r.1.toList ++ rest) r.2 := by
  subst ha
  cases hF : F (.ref i :: (st.take n).reverse) μ with
  | none => exact pm_run_none hd rfl rfl (by simp only [pm_s, pm_s1, pm_s2, hf, hn, hs, hi, hr, and_self, if_true, hF, Option.map_none])
  | some r => exact pr_2 hd rfl rfl rfl (t := (pc + 3, L, r.1.toList ++ rest, r.2)) (by simp only [pm_s2, hf, hn, hs, hi, hr, and_self, if_true, hF, Option.map_some])
end RULES
section RULESM
variable {E : pm_E} {pc len : Nat} {L st : List Value} {I : Nat → Nat → Int32} {D : Nat → Nat → UInt64} {R P : Nat → Nat → Option Nat} {m i n : Nat}
theorem pr_iald (hd : decode (pm_Ec E) pc = .ok (.iaload, 1)) (hk : pm_k i = (10, m)) (hi : i < 162) (hn : n < m) (hm : m < 2 ^ 31) : pm_run E pc L (.int (nI n) :: .ref i :: st) (162, I, D, R) = pm_run E (pc + 1) L (.int (I i n) :: st) (162, I, D, R) := by
  refine pr_2 hd rfl rfl rfl (t := (pc + 1, L, .int (I i n) :: st, (162, I, D, R))) ?_
  have h2 : i ≠ 9999 := by omega
  simp only [pm_s2, hk, hi, h2, nI_pos (Nat.lt_trans hn hm), Nat.not_le.mpr hn, or_self, nI_clamp (Nat.lt_trans hn hm), and_self, if_true, if_false]
theorem pr_zald (hd : decode (pm_Ec E) pc = .ok (.baload, 1)) (hk : pm_k i = (11, m)) (hi : i < 162) (hn : n < m) (hm : m < 2 ^ 31) : pm_run E pc L (.int (nI n) :: .ref i :: st) (162, I, D, R) = pm_run E (pc + 1) L (.int (I i n) :: st) (162, I, D, R) := by
  refine pr_2 hd rfl rfl rfl (t := (pc + 1, L, .int (I i n) :: st, (162, I, D, R))) ?_
  simp only [pm_s2, hk, hi, nI_pos (Nat.lt_trans hn hm), Nat.not_le.mpr hn, or_self, nI_clamp (Nat.lt_trans hn hm), and_self, if_true, if_false]
theorem pr_dald (hd : decode (pm_Ec E) pc = .ok (.daload, 1)) (hk : pm_k i = (12, m)) (hi : i < 162) (hn : n < m) (hm : m < 2 ^ 31) : pm_run E pc L (.int (nI n) :: .ref i :: st) (162, I, D, R) = pm_run E (pc + 1) L (.double (D i n) :: st) (162, I, D, R) := by
  refine pr_2 hd rfl rfl rfl (t := (pc + 1, L, .double (D i n) :: st, (162, I, D, R))) ?_
  simp only [pm_s2, hk, hi, nI_pos (Nat.lt_trans hn hm), Nat.not_le.mpr hn, or_self, nI_clamp (Nat.lt_trans hn hm), and_self, if_true, if_false]
theorem pr_aald14 (hd : decode (pm_Ec E) pc = .ok (.aaload, 1)) (hn : n < 60) : pm_run E pc L (.int (nI n) :: .ref 14 :: st) (162, I, D, pm_R P) = pm_run E (pc + 1) L (.ref (pm_fo n) :: st) (162, I, D, pm_R P) := by
  refine pr_2 hd rfl rfl rfl (t := (pc + 1, L, .ref (pm_fo n) :: st, (162, I, D, pm_R P))) ?_
  have e : pm_R P 14 n = some (pm_fo n) := by simp [pm_R, pm_R0, hn]
  have hk : pm_k 14 = (13, 60) := rfl
  have h14 : (14 : Nat) < 162 := by decide
  simp only [pm_s2, hk, h14, nI_pos (show n < 2 ^ 31 by omega), Nat.not_le.mpr hn, or_self, nI_clamp (show n < 2 ^ 31 by omega), e, pm_o, and_self, if_true, if_false]
theorem pm_R_po {k : Nat} (h : k < 60) : pm_R P (pm_po k) n = P k n := by
  unfold pm_R pm_po
  rw [if_neg (by omega), if_pos (by omega), if_pos (by omega)]
  congr 1
  omega
theorem pr_aaldP {k : Nat} (hd : decode (pm_Ec E) pc = .ok (.aaload, 1)) (h : k < 60) (hn : n < 8) : pm_run E pc L (.int (nI n) :: .ref (pm_po k) :: st) (162, I, D, pm_R P) = pm_run E (pc + 1) L (pm_o (P k n) :: st) (162, I, D, pm_R P) := by
  refine pr_2 hd rfl rfl rfl (t := (pc + 1, L, pm_o (P k n) :: st, (162, I, D, pm_R P))) ?_
  have h3 : pm_po k < 162 := by unfold pm_po; omega
  simp only [pm_s2, pm_k_po k h, nI_pos (show n < 2 ^ 31 by omega), Nat.not_le.mpr hn, or_self, nI_clamp (show n < 2 ^ 31 by omega), pm_R_po h, h3, and_self, if_true, if_false]
theorem pr_iast {x : Int32} (hd : decode (pm_Ec E) pc = .ok (.iastore, 1)) (hk : pm_k i = (10, m)) (hi : i < 162) (hn : n < m) (hm : m < 2 ^ 31) : pm_run E pc L (.int x :: .int (nI n) :: .ref i :: st) (162, I, D, R) = pm_run E (pc + 1) L st (162, pm_u I i n x, D, R) := by
  refine pr_2 hd rfl rfl rfl (t := (pc + 1, L, st, (162, pm_u I i n x, D, R))) ?_
  simp only [pm_s2, hk, hi, nI_pos (Nat.lt_trans hn hm), Nat.not_le.mpr hn, or_self, nI_clamp (Nat.lt_trans hn hm), and_self, if_true, if_false, pm_wI]
theorem pr_zast {x : Int32} (hd : decode (pm_Ec E) pc = .ok (.bastore, 1)) (hk : pm_k i = (11, m)) (hi : i < 162) (hn : n < m) (hm : m < 2 ^ 31) : pm_run E pc L (.int x :: .int (nI n) :: .ref i :: st) (162, I, D, R) = pm_run E (pc + 1) L st (162, pm_u I i n (x &&& 1), D, R) := by
  refine pr_2 hd rfl rfl rfl (t := (pc + 1, L, st, (162, pm_u I i n (x &&& 1), D, R))) ?_
  simp only [pm_s2, hk, hi, nI_pos (Nat.lt_trans hn hm), Nat.not_le.mpr hn, or_self, nI_clamp (Nat.lt_trans hn hm), and_self, if_true, if_false, pm_wI]
theorem pr_dast {x : UInt64} (hd : decode (pm_Ec E) pc = .ok (.dastore, 1)) (hk : pm_k i = (12, m)) (hi : i < 162) (hn : n < m) (hm : m < 2 ^ 31) : pm_run E pc L (.double x :: .int (nI n) :: .ref i :: st) (162, I, D, R) = pm_run E (pc + 1) L st (162, I, pm_u D i n x, R) := by
  refine pr_2 hd rfl rfl rfl (t := (pc + 1, L, st, (162, I, pm_u D i n x, R))) ?_
  simp only [pm_s2, hk, hi, nI_pos (Nat.lt_trans hn hm), Nat.not_le.mpr hn, or_self, nI_clamp (Nat.lt_trans hn hm), and_self, if_true, if_false, pm_wD]
theorem pm_R_set {k v : Nat} (h : k < 60) : pm_u (pm_R P) (pm_po k) n (some v) = pm_R (pm_u P k n (some v)) := by
  funext a c
  by_cases e : a = pm_po k
  · subst e
    rw [pm_R_po h]
    unfold pm_u
    by_cases e2 : c = n
    · simp [e2]
    · simp [e2, pm_R_po h]
  · have e1 : pm_u (pm_R P) (pm_po k) n (some v) a c = pm_R P a c := by simp [pm_u, e]
    rw [e1]
    unfold pm_R
    split
    · rfl
    · split
      · split
        · have : (a - 16) / 2 ≠ k := by unfold pm_po at e; omega
          simp [pm_u, this]
        · rfl
      · rfl
theorem pr_aastP {k g : Nat} (hd : decode (pm_Ec E) pc = .ok (.aastore, 1)) (h : k < 60) (hn : n < 8) (hg : g < 60) : pm_run E pc L (.ref (pm_fo g) :: .int (nI n) :: .ref (pm_po k) :: st) (162, I, D, pm_R P) = pm_run E (pc + 1) L st (162, I, D, pm_R (pm_u P k n (some (pm_fo g)))) := by
  refine pr_2 hd rfl rfl rfl (t := (pc + 1, L, st, (162, I, D, pm_R (pm_u P k n (some (pm_fo g)))))) ?_
  have h3 : pm_po k < 162 := by unfold pm_po; omega
  have h4 : pm_fo g < 162 := by unfold pm_fo; omega
  simp only [pm_s2, pm_k_po k h, pm_k_fo g hg, nI_pos (show n < 2 ^ 31 by omega), Nat.not_le.mpr hn, or_self, nI_clamp (show n < 2 ^ 31 by omega), h3, h4, and_self, if_true, if_false, pm_wR, pm_R_set h]
end RULESM
