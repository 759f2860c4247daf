/-! THE PURE MACHINE IS SOUND, 1: instructions without memory -/
/-- a value of the machine as the heap has it: object k lies at b0 + k, the script at b -/
def pm_v (b0 b : Nat) (v : Value) : Value := match v with
  | .ref k => .ref (if k = 9999 then b else b0 + k)
  | v => v
theorem pm_v_cat (b0 b : Nat) (v : Value) : (pm_v b0 b v).category = v.category := by cases v <;> rfl
/-- the locals hold what the machine's list says; what is 'second' or unset says nothing -/
def pm_lh (b0 b : Nat) (ls : Array Slot) (nL : Nat) (L : List Value) : Prop := ls.size = nL ∧ L.length = nL ∧ lv_wf ls ∧ ∀ (i : Nat) (v : Value), L[i]? = some v → (∀ k, v ≠ .retAddr k) → (v.category = 2 → L[i + 1]? = some (.retAddr 1)) → ls[i]? = some (.val (pm_v b0 b v))
def pm_lok (L : List Value) (i : Nat) : Bool := match L[i]? with
  | some (.retAddr _) => false
  | some v => v.category == 1 || L[i + 1]? == some (.retAddr 1)
  | none => false
def pm_lvl (b0 b : Nat) (L : List Value) : List (Nat × Value) := (List.range L.length).filterMap fun i => if pm_lok L i = true then some (i, pm_v b0 b (pm_at L i)) else none
theorem pm_cat12 (v : Value) : v.category = 1 ∨ v.category = 2 := by cases v <;> simp [Value.category]
theorem pm_at_get {L : List Value} {i : Nat} {v : Value} (h : L[i]? = some v) : pm_at L i = v := by simp [pm_at, List.getD, h]
theorem pm_get_at {L : List Value} {i : Nat} {v : Value} (h : pm_at L i = v) (hv : ∀ k, v ≠ .retAddr k) : L[i]? = some v := by
  unfold pm_at List.getD at h
  cases e : L[i]? with
  | none => rw [e] at h; exact absurd h.symm (hv 0)
  | some w => rw [e] at h; exact congrArg some h
theorem pm_get_at1 {L : List Value} {i : Nat} (h : pm_at L i = .retAddr 1) : L[i]? = some (.retAddr 1) := by
  unfold pm_at List.getD at h
  cases e : L[i]? with
  | none => rw [e] at h; cases h
  | some w => rw [e] at h; exact congrArg some h
theorem pm_lvl_mem {b0 b : Nat} {L : List Value} {q : Nat × Value} (h : q ∈ pm_lvl b0 b L) : ∃ v, L[q.1]? = some v ∧ q.2 = pm_v b0 b v ∧ (∀ k, v ≠ .retAddr k) ∧ (v.category = 2 → L[q.1 + 1]? = some (.retAddr 1)) := by
  unfold pm_lvl at h
  obtain ⟨i, -, hi⟩ := List.mem_filterMap.mp h
  split at hi
  · rename_i hok
    cases hi
    unfold pm_lok at hok
    split at hok
    · cases hok
    · rename_i v hne e
      refine ⟨v, e, ?_, ?_, ?_⟩
      · show pm_v b0 b (pm_at L i) = _
        rw [pm_at_get e]
      · intro k hk
        exact hne k hk
      · intro hc
        simp only [Bool.or_eq_true, beq_iff_eq] at hok
        rcases hok with h1 | h1
        · omega
        · exact h1
    · cases hok
  · cases hi
theorem pm_mem_lvl {b0 b : Nat} {L : List Value} {i : Nat} {v : Value} (h : L[i]? = some v) (hv : ∀ k, v ≠ .retAddr k) (hc : v.category = 2 → L[i + 1]? = some (.retAddr 1)) : (i, pm_v b0 b v) ∈ pm_lvl b0 b L := by
  unfold pm_lvl
  refine List.mem_filterMap.mpr ⟨i, List.mem_range.mpr (List.getElem?_eq_some_iff.mp h).1, ?_⟩
  have hok : pm_lok L i = true := by
    unfold pm_lok
    rw [h]
    cases v with
    | retAddr k => exact absurd rfl (hv k)
    | long x => simp [hc rfl]
    | double x => simp [hc rfl]
    | _ => simp [Value.category]
  rw [if_pos hok, pm_at_get h]
theorem pm_lh_has {b0 b nL : Nat} {ls : Array Slot} {L : List Value} (h : pm_lh b0 b ls nL L) : lv_has ls nL (pm_lvl b0 b L) := by
  refine ⟨h.1, h.2.2.1, fun q hq => ?_⟩
  obtain ⟨v, h1, h2, h3, h4⟩ := pm_lvl_mem hq
  rw [h2]
  exact h.2.2.2 _ _ h1 h3 h4
theorem pm_lh_get {b0 b nL : Nat} {ls : Array Slot} {L : List Value} (h : pm_lh b0 b ls nL L) {i : Nat} {v : Value} (hv : pm_at L i = v) (hr : ∀ k, v ≠ .retAddr k) (hc : v.category = 1) : ls[i]? = some (.val (pm_v b0 b v)) :=
  h.2.2.2 i v (pm_get_at hv hr) hr (fun e => by omega)
theorem pm_lh_get2 {b0 b nL : Nat} {ls : Array Slot} {L : List Value} (h : pm_lh b0 b ls nL L) {i : Nat} {v : Value} (hv : pm_at L i = v) (hr : ∀ k, v ≠ .retAddr k) (hc : pm_at L (i + 1) = .retAddr 1) : ls[i]? = some (.val (pm_v b0 b v)) :=
  h.2.2.2 i v (pm_get_at hv hr) hr (fun _ => pm_get_at1 hc)
theorem pm_lh_set1 {b0 b nL i : Nat} {L : List Value} {v : Value} {ls ls' : Array Slot} (h : pm_lh b0 b ls nL L) (hi : i < L.length) (hc : v.category = 1) (hr : ∀ k, v ≠ .retAddr k)
    (hl : lv_has ls' nL ((i, pm_v b0 b v) :: (pm_lvl b0 b L).filter (fun q => !(q.1 == i) && !(q.1 + 1 == i && q.2.category == 2)))) : pm_lh b0 b ls' nL (L.set i v) := by
  refine ⟨hl.1, by rw [List.length_set]; exact h.2.1, hl.2.1, fun j w hj hw hc2 => ?_⟩
  by_cases e : i = j
  · subst e
    rw [List.getElem?_set_self hi] at hj
    cases hj
    exact hl.2.2 (i, pm_v b0 b v) List.mem_cons_self
  · rw [List.getElem?_set_ne e] at hj
    have hc3 : w.category = 2 → i ≠ j + 1 ∧ L[j + 1]? = some (.retAddr 1) := by
      intro z
      have z2 := hc2 z
      by_cases e2 : i = j + 1
      · subst e2
        rw [List.getElem?_set_self hi] at z2
        cases z2
        exact absurd rfl (hr 1)
      · rw [List.getElem?_set_ne e2] at z2
        exact ⟨e2, z2⟩
    refine hl.2.2 (j, pm_v b0 b w) (List.mem_cons_of_mem _ (List.mem_filter.mpr ⟨pm_mem_lvl hj hw (fun z => (hc3 z).2), ?_⟩))
    rcases pm_cat12 w with z | z
    · simp [pm_v_cat, z, Ne.symm e]
    · simp [pm_v_cat, z, Ne.symm e, Ne.symm (hc3 z).1]
theorem pm_lh_set2 {b0 b nL i : Nat} {L : List Value} {v : Value} {ls ls' : Array Slot} (h : pm_lh b0 b ls nL L) (hi : i + 1 < L.length) (hc : v.category = 2)
    (hl : lv_has ls' nL ((i, pm_v b0 b v) :: (pm_lvl b0 b L).filter (fun q => !(q.1 == i) && (!(q.1 == i + 1) && !(q.1 + 1 == i && q.2.category == 2))))) : pm_lh b0 b ls' nL ((L.set i v).set (i + 1) (.retAddr 1)) := by
  refine ⟨hl.1, by rw [List.length_set, List.length_set]; exact h.2.1, hl.2.1, fun j w hj hw hc2 => ?_⟩
  by_cases e1 : i + 1 = j
  · subst e1
    rw [List.getElem?_set_self (by rw [List.length_set]; exact hi)] at hj
    cases hj
    exact absurd rfl (hw 1)
  · rw [List.getElem?_set_ne e1] at hj
    by_cases e : i = j
    · subst e
      rw [List.getElem?_set_self (by omega)] at hj
      cases hj
      exact hl.2.2 (i, pm_v b0 b v) List.mem_cons_self
    · rw [List.getElem?_set_ne e] at hj
      have hc3 : w.category = 2 → i ≠ j + 1 ∧ L[j + 1]? = some (.retAddr 1) := by
        intro z
        have z2 := hc2 z
        rw [List.getElem?_set_ne (by omega)] at z2
        by_cases e2 : i = j + 1
        · subst e2
          rw [List.getElem?_set_self (by omega)] at z2
          cases z2
          cases hc
        · rw [List.getElem?_set_ne e2] at z2
          exact ⟨e2, z2⟩
      refine hl.2.2 (j, pm_v b0 b w) (List.mem_cons_of_mem _ (List.mem_filter.mpr ⟨pm_mem_lvl hj hw (fun z => (hc3 z).2), ?_⟩))
      rcases pm_cat12 w with z | z
      · simp [pm_v_cat, z, Ne.symm e, Ne.symm e1]
      · simp [pm_v_cat, z, Ne.symm e, Ne.symm e1, Ne.symm (hc3 z).1]
section PMS
variable {p : Program} {l : Launch} {e : Env} {R : Room} {s : State} {m : MethodId} {args : Array Value} {below : List Frame} {meth : Method} {c : Code} {H : Heap} {locs : List Loc} {cells slots : Nat} {Q : State → Prop}
variable {cc : ByteArray} {pc pc' nL len b0 b : Nat} {ls : Array Slot} {L L' st st' : List Value}

theorem pm_q_iconst (hx : p.tables.exec = Jvm.exec) (hb : c.code = cc) {n : Int} (hd : decode cc pc = .ok (.iconst n, len)) (hw : pm_w (.iconst n) len = true) (h : pm_s1 (.iconst n) pc L st = some (pc', L', st')) (hl : pm_lh b0 b ls nL L) (kk : ∀ ls' : Array Slot, pm_lh b0 b ls' nL L' → W p l e R s m args below meth c H locs cells slots Q (F0 m pc' ls' (st'.map (pm_v b0 b)))) : W p l e R s m args below meth c H locs cells slots Q (F0 m pc ls (st.map (pm_v b0 b))) := by
  have hn : len = 1 := by simpa [pm_w] using hw
  subst hn
  simp only [pm_s1] at h
  cases h
  exact lv_iconst hx hb hd rfl (kk ls hl)
theorem pm_q_bipush (hx : p.tables.exec = Jvm.exec) (hb : c.code = cc) {n : Int} (hd : decode cc pc = .ok (.bipush n, len)) (hw : pm_w (.bipush n) len = true) (h : pm_s1 (.bipush n) pc L st = some (pc', L', st')) (hl : pm_lh b0 b ls nL L) (kk : ∀ ls' : Array Slot, pm_lh b0 b ls' nL L' → W p l e R s m args below meth c H locs cells slots Q (F0 m pc' ls' (st'.map (pm_v b0 b)))) : W p l e R s m args below meth c H locs cells slots Q (F0 m pc ls (st.map (pm_v b0 b))) := by
  have hn : len = 2 := by simpa [pm_w] using hw
  subst hn
  simp only [pm_s1] at h
  cases h
  exact lv_bipush hx hb hd rfl (kk ls hl)
theorem pm_q_sipush (hx : p.tables.exec = Jvm.exec) (hb : c.code = cc) {n : Int} (hd : decode cc pc = .ok (.sipush n, len)) (hw : pm_w (.sipush n) len = true) (h : pm_s1 (.sipush n) pc L st = some (pc', L', st')) (hl : pm_lh b0 b ls nL L) (kk : ∀ ls' : Array Slot, pm_lh b0 b ls' nL L' → W p l e R s m args below meth c H locs cells slots Q (F0 m pc' ls' (st'.map (pm_v b0 b)))) : W p l e R s m args below meth c H locs cells slots Q (F0 m pc ls (st.map (pm_v b0 b))) := by
  have hn : len = 3 := by simpa [pm_w] using hw
  subst hn
  simp only [pm_s1] at h
  cases h
  exact lv_sipush hx hb hd rfl (kk ls hl)
theorem pm_q_lconst (hx : p.tables.exec = Jvm.exec) (hb : c.code = cc) {n : Fin 2} (hd : decode cc pc = .ok (.lconst n, len)) (hw : pm_w (.lconst n) len = true) (h : pm_s1 (.lconst n) pc L st = some (pc', L', st')) (hl : pm_lh b0 b ls nL L) (kk : ∀ ls' : Array Slot, pm_lh b0 b ls' nL L' → W p l e R s m args below meth c H locs cells slots Q (F0 m pc' ls' (st'.map (pm_v b0 b)))) : W p l e R s m args below meth c H locs cells slots Q (F0 m pc ls (st.map (pm_v b0 b))) := by
  have hn : len = 1 := by simpa [pm_w] using hw
  subst hn
  simp only [pm_s1] at h
  cases h
  exact lv_lconst hx hb hd rfl (kk ls hl)
theorem pm_q_aconst_null (hx : p.tables.exec = Jvm.exec) (hb : c.code = cc) (hd : decode cc pc = .ok (.aconst_null, len)) (hw : pm_w (.aconst_null) len = true) (h : pm_s1 (.aconst_null) pc L st = some (pc', L', st')) (hl : pm_lh b0 b ls nL L) (kk : ∀ ls' : Array Slot, pm_lh b0 b ls' nL L' → W p l e R s m args below meth c H locs cells slots Q (F0 m pc' ls' (st'.map (pm_v b0 b)))) : W p l e R s m args below meth c H locs cells slots Q (F0 m pc ls (st.map (pm_v b0 b))) := by
  have hn : len = 1 := by simpa [pm_w] using hw
  subst hn
  simp only [pm_s1] at h
  cases h
  exact lv_null hx hb hd (kk ls hl)
theorem pm_q_dconst (hx : p.tables.exec = Jvm.exec) (hb : c.code = cc) {n : Fin 2} (hd : decode cc pc = .ok (.dconst n, len)) (hw : pm_w (.dconst n) len = true) (h : pm_s1 (.dconst n) pc L st = some (pc', L', st')) (hl : pm_lh b0 b ls nL L) (kk : ∀ ls' : Array Slot, pm_lh b0 b ls' nL L' → W p l e R s m args below meth c H locs cells slots Q (F0 m pc' ls' (st'.map (pm_v b0 b)))) : W p l e R s m args below meth c H locs cells slots Q (F0 m pc ls (st.map (pm_v b0 b))) := by
  have hn : len = 1 := by simpa [pm_w] using hw
  subst hn
  simp only [pm_s1] at h
  cases h
  rcases (by omega : n = 0 ∨ n = 1) with rfl | rfl
  · exact lv_dconst0 hx hb hd (kk ls hl)
  · exact lv_dconst1 hx hb hd (kk ls hl)
theorem pm_q_iload_n (hx : p.tables.exec = Jvm.exec) (hb : c.code = cc) {k : Fin 4} (hd : decode cc pc = .ok (.iload_n k, len)) (hw : pm_w (.iload_n k) len = true) (h : pm_s1 (.iload_n k) pc L st = some (pc', L', st')) (hl : pm_lh b0 b ls nL L) (kk : ∀ ls' : Array Slot, pm_lh b0 b ls' nL L' → W p l e R s m args below meth c H locs cells slots Q (F0 m pc' ls' (st'.map (pm_v b0 b)))) : W p l e R s m args below meth c H locs cells slots Q (F0 m pc ls (st.map (pm_v b0 b))) := by
  have hn : len = 1 := by simpa [pm_w] using hw
  subst hn
  simp only [pm_s1] at h
  split at h
  · rename_i x hv
    cases h
    exact lv_iload_n hx hb hd rfl (pm_lh_get hl hv (fun _ z => by cases z) rfl) (kk ls hl)
  · cases h
theorem pm_q_iload (hx : p.tables.exec = Jvm.exec) (hb : c.code = cc) {k : Nat} (hd : decode cc pc = .ok (.iload k, len)) (hw : pm_w (.iload k) len = true) (h : pm_s1 (.iload k) pc L st = some (pc', L', st')) (hl : pm_lh b0 b ls nL L) (kk : ∀ ls' : Array Slot, pm_lh b0 b ls' nL L' → W p l e R s m args below meth c H locs cells slots Q (F0 m pc' ls' (st'.map (pm_v b0 b)))) : W p l e R s m args below meth c H locs cells slots Q (F0 m pc ls (st.map (pm_v b0 b))) := by
  have hn : len = 2 := by simpa [pm_w] using hw
  subst hn
  simp only [pm_s1] at h
  split at h
  · rename_i x hv
    cases h
    exact lv_iload hx hb hd (pm_lh_get hl hv (fun _ z => by cases z) rfl) (kk ls hl)
  · cases h
theorem pm_q_lload_n (hx : p.tables.exec = Jvm.exec) (hb : c.code = cc) {k : Fin 4} (hd : decode cc pc = .ok (.lload_n k, len)) (hw : pm_w (.lload_n k) len = true) (h : pm_s1 (.lload_n k) pc L st = some (pc', L', st')) (hl : pm_lh b0 b ls nL L) (kk : ∀ ls' : Array Slot, pm_lh b0 b ls' nL L' → W p l e R s m args below meth c H locs cells slots Q (F0 m pc' ls' (st'.map (pm_v b0 b)))) : W p l e R s m args below meth c H locs cells slots Q (F0 m pc ls (st.map (pm_v b0 b))) := by
  have hn : len = 1 := by simpa [pm_w] using hw
  subst hn
  simp only [pm_s1] at h
  split at h
  · rename_i x hv hv2
    cases h
    exact lv_lload_n hx hb hd rfl (pm_lh_get2 hl hv (fun _ z => by cases z) hv2) (kk ls hl)
  · cases h
theorem pm_q_lload (hx : p.tables.exec = Jvm.exec) (hb : c.code = cc) {k : Nat} (hd : decode cc pc = .ok (.lload k, len)) (hw : pm_w (.lload k) len = true) (h : pm_s1 (.lload k) pc L st = some (pc', L', st')) (hl : pm_lh b0 b ls nL L) (kk : ∀ ls' : Array Slot, pm_lh b0 b ls' nL L' → W p l e R s m args below meth c H locs cells slots Q (F0 m pc' ls' (st'.map (pm_v b0 b)))) : W p l e R s m args below meth c H locs cells slots Q (F0 m pc ls (st.map (pm_v b0 b))) := by
  have hn : len = 2 := by simpa [pm_w] using hw
  subst hn
  simp only [pm_s1] at h
  split at h
  · rename_i x hv hv2
    cases h
    exact lv_lload hx hb hd (pm_lh_get2 hl hv (fun _ z => by cases z) hv2) (kk ls hl)
  · cases h
theorem pm_q_dload_n (hx : p.tables.exec = Jvm.exec) (hb : c.code = cc) {k : Fin 4} (hd : decode cc pc = .ok (.dload_n k, len)) (hw : pm_w (.dload_n k) len = true) (h : pm_s1 (.dload_n k) pc L st = some (pc', L', st')) (hl : pm_lh b0 b ls nL L) (kk : ∀ ls' : Array Slot, pm_lh b0 b ls' nL L' → W p l e R s m args below meth c H locs cells slots Q (F0 m pc' ls' (st'.map (pm_v b0 b)))) : W p l e R s m args below meth c H locs cells slots Q (F0 m pc ls (st.map (pm_v b0 b))) := by
  have hn : len = 1 := by simpa [pm_w] using hw
  subst hn
  simp only [pm_s1] at h
  split at h
  · rename_i x hv hv2
    cases h
    exact lv_dload_n hx hb hd rfl (pm_lh_get2 hl hv (fun _ z => by cases z) hv2) (kk ls hl)
  · cases h
theorem pm_q_dload (hx : p.tables.exec = Jvm.exec) (hb : c.code = cc) {k : Nat} (hd : decode cc pc = .ok (.dload k, len)) (hw : pm_w (.dload k) len = true) (h : pm_s1 (.dload k) pc L st = some (pc', L', st')) (hl : pm_lh b0 b ls nL L) (kk : ∀ ls' : Array Slot, pm_lh b0 b ls' nL L' → W p l e R s m args below meth c H locs cells slots Q (F0 m pc' ls' (st'.map (pm_v b0 b)))) : W p l e R s m args below meth c H locs cells slots Q (F0 m pc ls (st.map (pm_v b0 b))) := by
  have hn : len = 2 := by simpa [pm_w] using hw
  subst hn
  simp only [pm_s1] at h
  split at h
  · rename_i x hv hv2
    cases h
    exact lv_dload hx hb hd (pm_lh_get2 hl hv (fun _ z => by cases z) hv2) (kk ls hl)
  · cases h
theorem pm_q_aload_n (hx : p.tables.exec = Jvm.exec) (hb : c.code = cc) {k : Fin 4} (hd : decode cc pc = .ok (.aload_n k, len)) (hw : pm_w (.aload_n k) len = true) (h : pm_s1 (.aload_n k) pc L st = some (pc', L', st')) (hl : pm_lh b0 b ls nL L) (kk : ∀ ls' : Array Slot, pm_lh b0 b ls' nL L' → W p l e R s m args below meth c H locs cells slots Q (F0 m pc' ls' (st'.map (pm_v b0 b)))) : W p l e R s m args below meth c H locs cells slots Q (F0 m pc ls (st.map (pm_v b0 b))) := by
  have hn : len = 1 := by simpa [pm_w] using hw
  subst hn
  simp only [pm_s1] at h
  split at h
  · rename_i x hv
    cases h
    exact lv_aload_n hx hb hd rfl (pm_lh_get hl hv (fun _ z => by cases z) rfl) (kk ls hl)
  · rename_i hv
    cases h
    exact lv_aload_nN hx hb hd rfl (pm_lh_get hl hv (fun _ z => by cases z) rfl) (kk ls hl)
  · cases h
theorem pm_q_aload (hx : p.tables.exec = Jvm.exec) (hb : c.code = cc) {k : Nat} (hd : decode cc pc = .ok (.aload k, len)) (hw : pm_w (.aload k) len = true) (h : pm_s1 (.aload k) pc L st = some (pc', L', st')) (hl : pm_lh b0 b ls nL L) (kk : ∀ ls' : Array Slot, pm_lh b0 b ls' nL L' → W p l e R s m args below meth c H locs cells slots Q (F0 m pc' ls' (st'.map (pm_v b0 b)))) : W p l e R s m args below meth c H locs cells slots Q (F0 m pc ls (st.map (pm_v b0 b))) := by
  have hn : len = 2 := by simpa [pm_w] using hw
  subst hn
  simp only [pm_s1] at h
  split at h
  · rename_i x hv
    cases h
    exact lv_aload hx hb hd (pm_lh_get hl hv (fun _ z => by cases z) rfl) (kk ls hl)
  · rename_i hv
    cases h
    exact lv_aloadN hx hb hd (pm_lh_get hl hv (fun _ z => by cases z) rfl) (kk ls hl)
  · cases h
theorem pm_q_istore_n (hx : p.tables.exec = Jvm.exec) (hb : c.code = cc) {k : Fin 4} (hd : decode cc pc = .ok (.istore_n k, len)) (hw : pm_w (.istore_n k) len = true) (h : pm_s1 (.istore_n k) pc L st = some (pc', L', st')) (hl : pm_lh b0 b ls nL L) (kk : ∀ ls' : Array Slot, pm_lh b0 b ls' nL L' → W p l e R s m args below meth c H locs cells slots Q (F0 m pc' ls' (st'.map (pm_v b0 b)))) : W p l e R s m args below meth c H locs cells slots Q (F0 m pc ls (st.map (pm_v b0 b))) := by
  have hn : len = 1 := by simpa [pm_w] using hw
  subst hn
  simp only [pm_s1] at h
  split at h
  · rename_i x r
    split at h
    · rename_i hi
      cases h
      exact lv_istore_n hx hb hd rfl (pm_lh_has hl) (hl.2.1 ▸ hi) rfl (fun ls' h2 => kk ls' (pm_lh_set1 (v := .int x) hl hi rfl (fun _ z => by cases z) h2))
    · cases h
  · cases h
theorem pm_q_lstore_n (hx : p.tables.exec = Jvm.exec) (hb : c.code = cc) {k : Fin 4} (hd : decode cc pc = .ok (.lstore_n k, len)) (hw : pm_w (.lstore_n k) len = true) (h : pm_s1 (.lstore_n k) pc L st = some (pc', L', st')) (hl : pm_lh b0 b ls nL L) (kk : ∀ ls' : Array Slot, pm_lh b0 b ls' nL L' → W p l e R s m args below meth c H locs cells slots Q (F0 m pc' ls' (st'.map (pm_v b0 b)))) : W p l e R s m args below meth c H locs cells slots Q (F0 m pc ls (st.map (pm_v b0 b))) := by
  have hn : len = 1 := by simpa [pm_w] using hw
  subst hn
  simp only [pm_s1] at h
  split at h
  · rename_i x r
    split at h
    · rename_i hi
      cases h
      exact lv_lstore_n hx hb hd rfl (pm_lh_has hl) (hl.2.1 ▸ hi) rfl (fun ls' h2 => kk ls' (pm_lh_set2 (v := .long x) hl hi rfl h2))
    · cases h
  · cases h
theorem pm_q_dstore_n (hx : p.tables.exec = Jvm.exec) (hb : c.code = cc) {k : Fin 4} (hd : decode cc pc = .ok (.dstore_n k, len)) (hw : pm_w (.dstore_n k) len = true) (h : pm_s1 (.dstore_n k) pc L st = some (pc', L', st')) (hl : pm_lh b0 b ls nL L) (kk : ∀ ls' : Array Slot, pm_lh b0 b ls' nL L' → W p l e R s m args below meth c H locs cells slots Q (F0 m pc' ls' (st'.map (pm_v b0 b)))) : W p l e R s m args below meth c H locs cells slots Q (F0 m pc ls (st.map (pm_v b0 b))) := by
  have hn : len = 1 := by simpa [pm_w] using hw
  subst hn
  simp only [pm_s1] at h
  split at h
  · rename_i x r
    split at h
    · rename_i hi
      cases h
      exact lv_dstore_n hx hb hd rfl (pm_lh_has hl) (hl.2.1 ▸ hi) rfl (fun ls' h2 => kk ls' (pm_lh_set2 (v := .double x) hl hi rfl h2))
    · cases h
  · cases h
theorem pm_q_astore_n (hx : p.tables.exec = Jvm.exec) (hb : c.code = cc) {k : Fin 4} (hd : decode cc pc = .ok (.astore_n k, len)) (hw : pm_w (.astore_n k) len = true) (h : pm_s1 (.astore_n k) pc L st = some (pc', L', st')) (hl : pm_lh b0 b ls nL L) (kk : ∀ ls' : Array Slot, pm_lh b0 b ls' nL L' → W p l e R s m args below meth c H locs cells slots Q (F0 m pc' ls' (st'.map (pm_v b0 b)))) : W p l e R s m args below meth c H locs cells slots Q (F0 m pc ls (st.map (pm_v b0 b))) := by
  have hn : len = 1 := by simpa [pm_w] using hw
  subst hn
  simp only [pm_s1] at h
  split at h
  · rename_i x r
    split at h
    · rename_i hi
      cases h
      exact lv_astore_n hx hb hd rfl (pm_lh_has hl) (hl.2.1 ▸ hi) rfl (fun ls' h2 => kk ls' (pm_lh_set1 (v := .ref x) hl hi rfl (fun _ z => by cases z) h2))
    · cases h
  · rename_i r
    split at h
    · rename_i hi
      cases h
      exact lv_astore_nN hx hb hd rfl (pm_lh_has hl) (hl.2.1 ▸ hi) rfl (fun ls' h2 => kk ls' (pm_lh_set1 (v := .null) hl hi rfl (fun _ z => by cases z) h2))
    · cases h
  · cases h
theorem pm_q_istore (hx : p.tables.exec = Jvm.exec) (hb : c.code = cc) {k : Nat} (hd : decode cc pc = .ok (.istore k, len)) (hw : pm_w (.istore k) len = true) (h : pm_s1 (.istore k) pc L st = some (pc', L', st')) (hl : pm_lh b0 b ls nL L) (kk : ∀ ls' : Array Slot, pm_lh b0 b ls' nL L' → W p l e R s m args below meth c H locs cells slots Q (F0 m pc' ls' (st'.map (pm_v b0 b)))) : W p l e R s m args below meth c H locs cells slots Q (F0 m pc ls (st.map (pm_v b0 b))) := by
  have hn : len = 2 := by simpa [pm_w] using hw
  subst hn
  simp only [pm_s1] at h
  split at h
  · rename_i x r
    split at h
    · rename_i hi
      cases h
      exact lv_istore hx hb hd (pm_lh_has hl) (hl.2.1 ▸ hi) rfl (fun ls' h2 => kk ls' (pm_lh_set1 (v := .int x) hl hi rfl (fun _ z => by cases z) h2))
    · cases h
  · cases h
theorem pm_q_lstore (hx : p.tables.exec = Jvm.exec) (hb : c.code = cc) {k : Nat} (hd : decode cc pc = .ok (.lstore k, len)) (hw : pm_w (.lstore k) len = true) (h : pm_s1 (.lstore k) pc L st = some (pc', L', st')) (hl : pm_lh b0 b ls nL L) (kk : ∀ ls' : Array Slot, pm_lh b0 b ls' nL L' → W p l e R s m args below meth c H locs cells slots Q (F0 m pc' ls' (st'.map (pm_v b0 b)))) : W p l e R s m args below meth c H locs cells slots Q (F0 m pc ls (st.map (pm_v b0 b))) := by
  have hn : len = 2 := by simpa [pm_w] using hw
  subst hn
  simp only [pm_s1] at h
  split at h
  · rename_i x r
    split at h
    · rename_i hi
      cases h
      exact lv_lstore hx hb hd (pm_lh_has hl) (hl.2.1 ▸ hi) rfl (fun ls' h2 => kk ls' (pm_lh_set2 (v := .long x) hl hi rfl h2))
    · cases h
  · cases h
theorem pm_q_dstore (hx : p.tables.exec = Jvm.exec) (hb : c.code = cc) {k : Nat} (hd : decode cc pc = .ok (.dstore k, len)) (hw : pm_w (.dstore k) len = true) (h : pm_s1 (.dstore k) pc L st = some (pc', L', st')) (hl : pm_lh b0 b ls nL L) (kk : ∀ ls' : Array Slot, pm_lh b0 b ls' nL L' → W p l e R s m args below meth c H locs cells slots Q (F0 m pc' ls' (st'.map (pm_v b0 b)))) : W p l e R s m args below meth c H locs cells slots Q (F0 m pc ls (st.map (pm_v b0 b))) := by
  have hn : len = 2 := by simpa [pm_w] using hw
  subst hn
  simp only [pm_s1] at h
  split at h
  · rename_i x r
    split at h
    · rename_i hi
      cases h
      exact lv_dstore hx hb hd (pm_lh_has hl) (hl.2.1 ▸ hi) rfl (fun ls' h2 => kk ls' (pm_lh_set2 (v := .double x) hl hi rfl h2))
    · cases h
  · cases h
theorem pm_q_astore (hx : p.tables.exec = Jvm.exec) (hb : c.code = cc) {k : Nat} (hd : decode cc pc = .ok (.astore k, len)) (hw : pm_w (.astore k) len = true) (h : pm_s1 (.astore k) pc L st = some (pc', L', st')) (hl : pm_lh b0 b ls nL L) (kk : ∀ ls' : Array Slot, pm_lh b0 b ls' nL L' → W p l e R s m args below meth c H locs cells slots Q (F0 m pc' ls' (st'.map (pm_v b0 b)))) : W p l e R s m args below meth c H locs cells slots Q (F0 m pc ls (st.map (pm_v b0 b))) := by
  have hn : len = 2 := by simpa [pm_w] using hw
  subst hn
  simp only [pm_s1] at h
  split at h
  · rename_i x r
    split at h
    · rename_i hi
      cases h
      exact lv_astore hx hb hd (pm_lh_has hl) (hl.2.1 ▸ hi) rfl (fun ls' h2 => kk ls' (pm_lh_set1 (v := .ref x) hl hi rfl (fun _ z => by cases z) h2))
    · cases h
  · rename_i r
    split at h
    · rename_i hi
      cases h
      exact lv_astoreN hx hb hd (pm_lh_has hl) (hl.2.1 ▸ hi) rfl (fun ls' h2 => kk ls' (pm_lh_set1 (v := .null) hl hi rfl (fun _ z => by cases z) h2))
    · cases h
  · cases h
theorem pm_q_iinc (hx : p.tables.exec = Jvm.exec) (hb : c.code = cc) {k : Nat} {n : Int} (hd : decode cc pc = .ok (.iinc k n, len)) (hw : pm_w (.iinc k n) len = true) (h : pm_s1 (.iinc k n) pc L st = some (pc', L', st')) (hl : pm_lh b0 b ls nL L) (kk : ∀ ls' : Array Slot, pm_lh b0 b ls' nL L' → W p l e R s m args below meth c H locs cells slots Q (F0 m pc' ls' (st'.map (pm_v b0 b)))) : W p l e R s m args below meth c H locs cells slots Q (F0 m pc ls (st.map (pm_v b0 b))) := by
  have hn : len = 3 := by simpa [pm_w] using hw
  subst hn
  simp only [pm_s1] at h
  split at h
  · rename_i x hv
    split at h
    · rename_i hi
      cases h
      obtain ⟨q, hq⟩ := List.getElem?_of_mem (pm_mem_lvl (b0 := b0) (b := b) (pm_get_at hv (fun _ z => by cases z)) (fun _ z => by cases z) (fun z => by cases z))
      exact lv_iinc hx hb hd (pm_lh_has hl) hq rfl (hl.2.1 ▸ hi) rfl (fun ls' h2 => kk ls' (pm_lh_set1 (v := .int (x + Int32.ofInt n)) hl hi rfl (fun _ z => by cases z) h2))
    · cases h
  · cases h
theorem pm_q_iadd (hx : p.tables.exec = Jvm.exec) (hb : c.code = cc) (hd : decode cc pc = .ok (.iadd, len)) (hw : pm_w (.iadd) len = true) (h : pm_s1 (.iadd) pc L st = some (pc', L', st')) (hl : pm_lh b0 b ls nL L) (kk : ∀ ls' : Array Slot, pm_lh b0 b ls' nL L' → W p l e R s m args below meth c H locs cells slots Q (F0 m pc' ls' (st'.map (pm_v b0 b)))) : W p l e R s m args below meth c H locs cells slots Q (F0 m pc ls (st.map (pm_v b0 b))) := by
  have hn : len = 1 := by simpa [pm_w] using hw
  subst hn
  simp only [pm_s1] at h
  split at h
  · cases h
    exact lv_iadd hx hb hd (kk ls hl)
  · cases h
theorem pm_q_isub (hx : p.tables.exec = Jvm.exec) (hb : c.code = cc) (hd : decode cc pc = .ok (.isub, len)) (hw : pm_w (.isub) len = true) (h : pm_s1 (.isub) pc L st = some (pc', L', st')) (hl : pm_lh b0 b ls nL L) (kk : ∀ ls' : Array Slot, pm_lh b0 b ls' nL L' → W p l e R s m args below meth c H locs cells slots Q (F0 m pc' ls' (st'.map (pm_v b0 b)))) : W p l e R s m args below meth c H locs cells slots Q (F0 m pc ls (st.map (pm_v b0 b))) := by
  have hn : len = 1 := by simpa [pm_w] using hw
  subst hn
  simp only [pm_s1] at h
  split at h
  · cases h
    exact lv_isub hx hb hd (kk ls hl)
  · cases h
theorem pm_q_imul (hx : p.tables.exec = Jvm.exec) (hb : c.code = cc) (hd : decode cc pc = .ok (.imul, len)) (hw : pm_w (.imul) len = true) (h : pm_s1 (.imul) pc L st = some (pc', L', st')) (hl : pm_lh b0 b ls nL L) (kk : ∀ ls' : Array Slot, pm_lh b0 b ls' nL L' → W p l e R s m args below meth c H locs cells slots Q (F0 m pc' ls' (st'.map (pm_v b0 b)))) : W p l e R s m args below meth c H locs cells slots Q (F0 m pc ls (st.map (pm_v b0 b))) := by
  have hn : len = 1 := by simpa [pm_w] using hw
  subst hn
  simp only [pm_s1] at h
  split at h
  · cases h
    exact lv_imul hx hb hd (kk ls hl)
  · cases h
theorem pm_q_ineg (hx : p.tables.exec = Jvm.exec) (hb : c.code = cc) (hd : decode cc pc = .ok (.ineg, len)) (hw : pm_w (.ineg) len = true) (h : pm_s1 (.ineg) pc L st = some (pc', L', st')) (hl : pm_lh b0 b ls nL L) (kk : ∀ ls' : Array Slot, pm_lh b0 b ls' nL L' → W p l e R s m args below meth c H locs cells slots Q (F0 m pc' ls' (st'.map (pm_v b0 b)))) : W p l e R s m args below meth c H locs cells slots Q (F0 m pc ls (st.map (pm_v b0 b))) := by
  have hn : len = 1 := by simpa [pm_w] using hw
  subst hn
  simp only [pm_s1] at h
  split at h
  · cases h
    exact lv_ineg hx hb hd (kk ls hl)
  · cases h
theorem pm_q_ishl (hx : p.tables.exec = Jvm.exec) (hb : c.code = cc) (hd : decode cc pc = .ok (.ishl, len)) (hw : pm_w (.ishl) len = true) (h : pm_s1 (.ishl) pc L st = some (pc', L', st')) (hl : pm_lh b0 b ls nL L) (kk : ∀ ls' : Array Slot, pm_lh b0 b ls' nL L' → W p l e R s m args below meth c H locs cells slots Q (F0 m pc' ls' (st'.map (pm_v b0 b)))) : W p l e R s m args below meth c H locs cells slots Q (F0 m pc ls (st.map (pm_v b0 b))) := by
  have hn : len = 1 := by simpa [pm_w] using hw
  subst hn
  simp only [pm_s1] at h
  split at h
  · cases h
    exact lv_ishl hx hb hd (kk ls hl)
  · cases h
theorem pm_q_ishr (hx : p.tables.exec = Jvm.exec) (hb : c.code = cc) (hd : decode cc pc = .ok (.ishr, len)) (hw : pm_w (.ishr) len = true) (h : pm_s1 (.ishr) pc L st = some (pc', L', st')) (hl : pm_lh b0 b ls nL L) (kk : ∀ ls' : Array Slot, pm_lh b0 b ls' nL L' → W p l e R s m args below meth c H locs cells slots Q (F0 m pc' ls' (st'.map (pm_v b0 b)))) : W p l e R s m args below meth c H locs cells slots Q (F0 m pc ls (st.map (pm_v b0 b))) := by
  have hn : len = 1 := by simpa [pm_w] using hw
  subst hn
  simp only [pm_s1] at h
  split at h
  · cases h
    exact lv_ishr hx hb hd (kk ls hl)
  · cases h
theorem pm_q_iand (hx : p.tables.exec = Jvm.exec) (hb : c.code = cc) (hd : decode cc pc = .ok (.iand, len)) (hw : pm_w (.iand) len = true) (h : pm_s1 (.iand) pc L st = some (pc', L', st')) (hl : pm_lh b0 b ls nL L) (kk : ∀ ls' : Array Slot, pm_lh b0 b ls' nL L' → W p l e R s m args below meth c H locs cells slots Q (F0 m pc' ls' (st'.map (pm_v b0 b)))) : W p l e R s m args below meth c H locs cells slots Q (F0 m pc ls (st.map (pm_v b0 b))) := by
  have hn : len = 1 := by simpa [pm_w] using hw
  subst hn
  simp only [pm_s1] at h
  split at h
  · cases h
    exact lv_iand hx hb hd (kk ls hl)
  · cases h
theorem pm_q_ior (hx : p.tables.exec = Jvm.exec) (hb : c.code = cc) (hd : decode cc pc = .ok (.ior, len)) (hw : pm_w (.ior) len = true) (h : pm_s1 (.ior) pc L st = some (pc', L', st')) (hl : pm_lh b0 b ls nL L) (kk : ∀ ls' : Array Slot, pm_lh b0 b ls' nL L' → W p l e R s m args below meth c H locs cells slots Q (F0 m pc' ls' (st'.map (pm_v b0 b)))) : W p l e R s m args below meth c H locs cells slots Q (F0 m pc ls (st.map (pm_v b0 b))) := by
  have hn : len = 1 := by simpa [pm_w] using hw
  subst hn
  simp only [pm_s1] at h
  split at h
  · cases h
    exact lv_ior hx hb hd (kk ls hl)
  · cases h
theorem pm_q_ixor (hx : p.tables.exec = Jvm.exec) (hb : c.code = cc) (hd : decode cc pc = .ok (.ixor, len)) (hw : pm_w (.ixor) len = true) (h : pm_s1 (.ixor) pc L st = some (pc', L', st')) (hl : pm_lh b0 b ls nL L) (kk : ∀ ls' : Array Slot, pm_lh b0 b ls' nL L' → W p l e R s m args below meth c H locs cells slots Q (F0 m pc' ls' (st'.map (pm_v b0 b)))) : W p l e R s m args below meth c H locs cells slots Q (F0 m pc ls (st.map (pm_v b0 b))) := by
  have hn : len = 1 := by simpa [pm_w] using hw
  subst hn
  simp only [pm_s1] at h
  split at h
  · cases h
    exact lv_ixor hx hb hd (kk ls hl)
  · cases h
theorem pm_q_i2d (hx : p.tables.exec = Jvm.exec) (hb : c.code = cc) (hd : decode cc pc = .ok (.i2d, len)) (hw : pm_w (.i2d) len = true) (h : pm_s1 (.i2d) pc L st = some (pc', L', st')) (hl : pm_lh b0 b ls nL L) (kk : ∀ ls' : Array Slot, pm_lh b0 b ls' nL L' → W p l e R s m args below meth c H locs cells slots Q (F0 m pc' ls' (st'.map (pm_v b0 b)))) : W p l e R s m args below meth c H locs cells slots Q (F0 m pc ls (st.map (pm_v b0 b))) := by
  have hn : len = 1 := by simpa [pm_w] using hw
  subst hn
  simp only [pm_s1] at h
  split at h
  · cases h
    exact lv_i2d hx hb hd (kk ls hl)
  · cases h
theorem pm_q_l2d (hx : p.tables.exec = Jvm.exec) (hb : c.code = cc) (hd : decode cc pc = .ok (.l2d, len)) (hw : pm_w (.l2d) len = true) (h : pm_s1 (.l2d) pc L st = some (pc', L', st')) (hl : pm_lh b0 b ls nL L) (kk : ∀ ls' : Array Slot, pm_lh b0 b ls' nL L' → W p l e R s m args below meth c H locs cells slots Q (F0 m pc' ls' (st'.map (pm_v b0 b)))) : W p l e R s m args below meth c H locs cells slots Q (F0 m pc ls (st.map (pm_v b0 b))) := by
  have hn : len = 1 := by simpa [pm_w] using hw
  subst hn
  simp only [pm_s1] at h
  split at h
  · cases h
    exact lv_l2d hx hb hd (kk ls hl)
  · cases h
theorem pm_q_d2l (hx : p.tables.exec = Jvm.exec) (hb : c.code = cc) (hd : decode cc pc = .ok (.d2l, len)) (hw : pm_w (.d2l) len = true) (h : pm_s1 (.d2l) pc L st = some (pc', L', st')) (hl : pm_lh b0 b ls nL L) (kk : ∀ ls' : Array Slot, pm_lh b0 b ls' nL L' → W p l e R s m args below meth c H locs cells slots Q (F0 m pc' ls' (st'.map (pm_v b0 b)))) : W p l e R s m args below meth c H locs cells slots Q (F0 m pc ls (st.map (pm_v b0 b))) := by
  have hn : len = 1 := by simpa [pm_w] using hw
  subst hn
  simp only [pm_s1] at h
  split at h
  · cases h
    exact lv_d2l hx hb hd (kk ls hl)
  · cases h
theorem pm_q_ladd (hx : p.tables.exec = Jvm.exec) (hb : c.code = cc) (hd : decode cc pc = .ok (.ladd, len)) (hw : pm_w (.ladd) len = true) (h : pm_s1 (.ladd) pc L st = some (pc', L', st')) (hl : pm_lh b0 b ls nL L) (kk : ∀ ls' : Array Slot, pm_lh b0 b ls' nL L' → W p l e R s m args below meth c H locs cells slots Q (F0 m pc' ls' (st'.map (pm_v b0 b)))) : W p l e R s m args below meth c H locs cells slots Q (F0 m pc ls (st.map (pm_v b0 b))) := by
  have hn : len = 1 := by simpa [pm_w] using hw
  subst hn
  simp only [pm_s1] at h
  split at h
  · cases h
    exact lv_ladd hx hb hd (kk ls hl)
  · cases h
theorem pm_q_lsub (hx : p.tables.exec = Jvm.exec) (hb : c.code = cc) (hd : decode cc pc = .ok (.lsub, len)) (hw : pm_w (.lsub) len = true) (h : pm_s1 (.lsub) pc L st = some (pc', L', st')) (hl : pm_lh b0 b ls nL L) (kk : ∀ ls' : Array Slot, pm_lh b0 b ls' nL L' → W p l e R s m args below meth c H locs cells slots Q (F0 m pc' ls' (st'.map (pm_v b0 b)))) : W p l e R s m args below meth c H locs cells slots Q (F0 m pc ls (st.map (pm_v b0 b))) := by
  have hn : len = 1 := by simpa [pm_w] using hw
  subst hn
  simp only [pm_s1] at h
  split at h
  · cases h
    exact lv_lsub hx hb hd (kk ls hl)
  · cases h
theorem pm_q_lmul (hx : p.tables.exec = Jvm.exec) (hb : c.code = cc) (hd : decode cc pc = .ok (.lmul, len)) (hw : pm_w (.lmul) len = true) (h : pm_s1 (.lmul) pc L st = some (pc', L', st')) (hl : pm_lh b0 b ls nL L) (kk : ∀ ls' : Array Slot, pm_lh b0 b ls' nL L' → W p l e R s m args below meth c H locs cells slots Q (F0 m pc' ls' (st'.map (pm_v b0 b)))) : W p l e R s m args below meth c H locs cells slots Q (F0 m pc ls (st.map (pm_v b0 b))) := by
  have hn : len = 1 := by simpa [pm_w] using hw
  subst hn
  simp only [pm_s1] at h
  split at h
  · cases h
    exact lv_lmul hx hb hd (kk ls hl)
  · cases h
theorem pm_q_land (hx : p.tables.exec = Jvm.exec) (hb : c.code = cc) (hd : decode cc pc = .ok (.land, len)) (hw : pm_w (.land) len = true) (h : pm_s1 (.land) pc L st = some (pc', L', st')) (hl : pm_lh b0 b ls nL L) (kk : ∀ ls' : Array Slot, pm_lh b0 b ls' nL L' → W p l e R s m args below meth c H locs cells slots Q (F0 m pc' ls' (st'.map (pm_v b0 b)))) : W p l e R s m args below meth c H locs cells slots Q (F0 m pc ls (st.map (pm_v b0 b))) := by
  have hn : len = 1 := by simpa [pm_w] using hw
  subst hn
  simp only [pm_s1] at h
  split at h
  · cases h
    exact lv_land hx hb hd (kk ls hl)
  · cases h
theorem pm_q_lor (hx : p.tables.exec = Jvm.exec) (hb : c.code = cc) (hd : decode cc pc = .ok (.lor, len)) (hw : pm_w (.lor) len = true) (h : pm_s1 (.lor) pc L st = some (pc', L', st')) (hl : pm_lh b0 b ls nL L) (kk : ∀ ls' : Array Slot, pm_lh b0 b ls' nL L' → W p l e R s m args below meth c H locs cells slots Q (F0 m pc' ls' (st'.map (pm_v b0 b)))) : W p l e R s m args below meth c H locs cells slots Q (F0 m pc ls (st.map (pm_v b0 b))) := by
  have hn : len = 1 := by simpa [pm_w] using hw
  subst hn
  simp only [pm_s1] at h
  split at h
  · cases h
    exact lv_lor hx hb hd (kk ls hl)
  · cases h
theorem pm_q_dneg (hx : p.tables.exec = Jvm.exec) (hb : c.code = cc) (hd : decode cc pc = .ok (.dneg, len)) (hw : pm_w (.dneg) len = true) (h : pm_s1 (.dneg) pc L st = some (pc', L', st')) (hl : pm_lh b0 b ls nL L) (kk : ∀ ls' : Array Slot, pm_lh b0 b ls' nL L' → W p l e R s m args below meth c H locs cells slots Q (F0 m pc' ls' (st'.map (pm_v b0 b)))) : W p l e R s m args below meth c H locs cells slots Q (F0 m pc ls (st.map (pm_v b0 b))) := by
  have hn : len = 1 := by simpa [pm_w] using hw
  subst hn
  simp only [pm_s1] at h
  split at h
  · cases h
    exact lv_dneg hx hb hd (kk ls hl)
  · cases h
theorem pm_q_i2l (hx : p.tables.exec = Jvm.exec) (hb : c.code = cc) (hd : decode cc pc = .ok (.i2l, len)) (hw : pm_w (.i2l) len = true) (h : pm_s1 (.i2l) pc L st = some (pc', L', st')) (hl : pm_lh b0 b ls nL L) (kk : ∀ ls' : Array Slot, pm_lh b0 b ls' nL L' → W p l e R s m args below meth c H locs cells slots Q (F0 m pc' ls' (st'.map (pm_v b0 b)))) : W p l e R s m args below meth c H locs cells slots Q (F0 m pc ls (st.map (pm_v b0 b))) := by
  have hn : len = 1 := by simpa [pm_w] using hw
  subst hn
  simp only [pm_s1] at h
  split at h
  · cases h
    exact lv_i2l hx hb hd rfl (kk ls hl)
  · cases h
theorem pm_q_l2i (hx : p.tables.exec = Jvm.exec) (hb : c.code = cc) (hd : decode cc pc = .ok (.l2i, len)) (hw : pm_w (.l2i) len = true) (h : pm_s1 (.l2i) pc L st = some (pc', L', st')) (hl : pm_lh b0 b ls nL L) (kk : ∀ ls' : Array Slot, pm_lh b0 b ls' nL L' → W p l e R s m args below meth c H locs cells slots Q (F0 m pc' ls' (st'.map (pm_v b0 b)))) : W p l e R s m args below meth c H locs cells slots Q (F0 m pc ls (st.map (pm_v b0 b))) := by
  have hn : len = 1 := by simpa [pm_w] using hw
  subst hn
  simp only [pm_s1] at h
  split at h
  · cases h
    exact lv_l2i hx hb hd rfl (kk ls hl)
  · cases h
theorem pm_q_lshl (hx : p.tables.exec = Jvm.exec) (hb : c.code = cc) (hd : decode cc pc = .ok (.lshl, len)) (hw : pm_w (.lshl) len = true) (h : pm_s1 (.lshl) pc L st = some (pc', L', st')) (hl : pm_lh b0 b ls nL L) (kk : ∀ ls' : Array Slot, pm_lh b0 b ls' nL L' → W p l e R s m args below meth c H locs cells slots Q (F0 m pc' ls' (st'.map (pm_v b0 b)))) : W p l e R s m args below meth c H locs cells slots Q (F0 m pc ls (st.map (pm_v b0 b))) := by
  have hn : len = 1 := by simpa [pm_w] using hw
  subst hn
  simp only [pm_s1] at h
  split at h
  · cases h
    exact lv_lshl hx hb hd rfl (kk ls hl)
  · cases h
theorem pm_q_lshr (hx : p.tables.exec = Jvm.exec) (hb : c.code = cc) (hd : decode cc pc = .ok (.lshr, len)) (hw : pm_w (.lshr) len = true) (h : pm_s1 (.lshr) pc L st = some (pc', L', st')) (hl : pm_lh b0 b ls nL L) (kk : ∀ ls' : Array Slot, pm_lh b0 b ls' nL L' → W p l e R s m args below meth c H locs cells slots Q (F0 m pc' ls' (st'.map (pm_v b0 b)))) : W p l e R s m args below meth c H locs cells slots Q (F0 m pc ls (st.map (pm_v b0 b))) := by
  have hn : len = 1 := by simpa [pm_w] using hw
  subst hn
  simp only [pm_s1] at h
  split at h
  · cases h
    exact lv_lshr hx hb hd rfl (kk ls hl)
  · cases h
theorem pm_q_lushr (hx : p.tables.exec = Jvm.exec) (hb : c.code = cc) (hd : decode cc pc = .ok (.lushr, len)) (hw : pm_w (.lushr) len = true) (h : pm_s1 (.lushr) pc L st = some (pc', L', st')) (hl : pm_lh b0 b ls nL L) (kk : ∀ ls' : Array Slot, pm_lh b0 b ls' nL L' → W p l e R s m args below meth c H locs cells slots Q (F0 m pc' ls' (st'.map (pm_v b0 b)))) : W p l e R s m args below meth c H locs cells slots Q (F0 m pc ls (st.map (pm_v b0 b))) := by
  have hn : len = 1 := by simpa [pm_w] using hw
  subst hn
  simp only [pm_s1] at h
  split at h
  · cases h
    exact lv_lushr hx hb hd rfl (kk ls hl)
  · cases h
theorem pm_q_lcmp (hx : p.tables.exec = Jvm.exec) (hb : c.code = cc) (hd : decode cc pc = .ok (.lcmp, len)) (hw : pm_w (.lcmp) len = true) (h : pm_s1 (.lcmp) pc L st = some (pc', L', st')) (hl : pm_lh b0 b ls nL L) (kk : ∀ ls' : Array Slot, pm_lh b0 b ls' nL L' → W p l e R s m args below meth c H locs cells slots Q (F0 m pc' ls' (st'.map (pm_v b0 b)))) : W p l e R s m args below meth c H locs cells slots Q (F0 m pc ls (st.map (pm_v b0 b))) := by
  have hn : len = 1 := by simpa [pm_w] using hw
  subst hn
  simp only [pm_s1] at h
  split at h
  · cases h
    exact W.lcmp hx hb hd (kk ls hl)
  · cases h
theorem pm_q_dcmp (hx : p.tables.exec = Jvm.exec) (hb : c.code = cc) {op : ClassFile.CmpOp} (hd : decode cc pc = .ok (.dcmp op, len)) (hw : pm_w (.dcmp op) len = true) (h : pm_s1 (.dcmp op) pc L st = some (pc', L', st')) (hl : pm_lh b0 b ls nL L) (kk : ∀ ls' : Array Slot, pm_lh b0 b ls' nL L' → W p l e R s m args below meth c H locs cells slots Q (F0 m pc' ls' (st'.map (pm_v b0 b)))) : W p l e R s m args below meth c H locs cells slots Q (F0 m pc ls (st.map (pm_v b0 b))) := by
  have hn : len = 1 := by simpa [pm_w] using hw
  subst hn
  simp only [pm_s1] at h
  split at h
  · cases h
    exact lv_dcmp hx hb hd (kk ls hl)
  · cases h
theorem pm_q_idiv (hx : p.tables.exec = Jvm.exec) (hb : c.code = cc) (hd : decode cc pc = .ok (.idiv, len)) (hw : pm_w (.idiv) len = true) (h : pm_s1 (.idiv) pc L st = some (pc', L', st')) (hl : pm_lh b0 b ls nL L) (kk : ∀ ls' : Array Slot, pm_lh b0 b ls' nL L' → W p l e R s m args below meth c H locs cells slots Q (F0 m pc' ls' (st'.map (pm_v b0 b)))) : W p l e R s m args below meth c H locs cells slots Q (F0 m pc ls (st.map (pm_v b0 b))) := by
  have hn : len = 1 := by simpa [pm_w] using hw
  subst hn
  simp only [pm_s1] at h
  split at h
  · split at h
    · cases h
    · rename_i hne
      cases h
      exact lv_idiv hx hb hd hne (kk ls hl)
  · cases h
theorem pm_q_irem (hx : p.tables.exec = Jvm.exec) (hb : c.code = cc) (hd : decode cc pc = .ok (.irem, len)) (hw : pm_w (.irem) len = true) (h : pm_s1 (.irem) pc L st = some (pc', L', st')) (hl : pm_lh b0 b ls nL L) (kk : ∀ ls' : Array Slot, pm_lh b0 b ls' nL L' → W p l e R s m args below meth c H locs cells slots Q (F0 m pc' ls' (st'.map (pm_v b0 b)))) : W p l e R s m args below meth c H locs cells slots Q (F0 m pc ls (st.map (pm_v b0 b))) := by
  have hn : len = 1 := by simpa [pm_w] using hw
  subst hn
  simp only [pm_s1] at h
  split at h
  · split at h
    · cases h
    · rename_i hne
      cases h
      exact lv_irem hx hb hd hne (kk ls hl)
  · cases h
theorem pm_q_ldiv (hx : p.tables.exec = Jvm.exec) (hb : c.code = cc) (hd : decode cc pc = .ok (.ldiv, len)) (hw : pm_w (.ldiv) len = true) (h : pm_s1 (.ldiv) pc L st = some (pc', L', st')) (hl : pm_lh b0 b ls nL L) (kk : ∀ ls' : Array Slot, pm_lh b0 b ls' nL L' → W p l e R s m args below meth c H locs cells slots Q (F0 m pc' ls' (st'.map (pm_v b0 b)))) : W p l e R s m args below meth c H locs cells slots Q (F0 m pc ls (st.map (pm_v b0 b))) := by
  have hn : len = 1 := by simpa [pm_w] using hw
  subst hn
  simp only [pm_s1] at h
  split at h
  · split at h
    · cases h
    · rename_i hne
      cases h
      exact lv_ldiv hx hb hd hne (kk ls hl)
  · cases h
theorem pm_q_dadd (hx : p.tables.exec = Jvm.exec) (hb : c.code = cc) (hd : decode cc pc = .ok (.dadd, len)) (hw : pm_w (.dadd) len = true) (h : pm_s1 (.dadd) pc L st = some (pc', L', st')) (hl : pm_lh b0 b ls nL L) (kk : ∀ ls' : Array Slot, pm_lh b0 b ls' nL L' → W p l e R s m args below meth c H locs cells slots Q (F0 m pc' ls' (st'.map (pm_v b0 b)))) : W p l e R s m args below meth c H locs cells slots Q (F0 m pc ls (st.map (pm_v b0 b))) := by
  have hn : len = 1 := by simpa [pm_w] using hw
  subst hn
  simp only [pm_s1] at h
  split at h
  · split at h
    · rename_i hne
      cases h
      exact lv_dadd hx hb hd hne (kk ls hl)
    · cases h
  · cases h
theorem pm_q_dsub (hx : p.tables.exec = Jvm.exec) (hb : c.code = cc) (hd : decode cc pc = .ok (.dsub, len)) (hw : pm_w (.dsub) len = true) (h : pm_s1 (.dsub) pc L st = some (pc', L', st')) (hl : pm_lh b0 b ls nL L) (kk : ∀ ls' : Array Slot, pm_lh b0 b ls' nL L' → W p l e R s m args below meth c H locs cells slots Q (F0 m pc' ls' (st'.map (pm_v b0 b)))) : W p l e R s m args below meth c H locs cells slots Q (F0 m pc ls (st.map (pm_v b0 b))) := by
  have hn : len = 1 := by simpa [pm_w] using hw
  subst hn
  simp only [pm_s1] at h
  split at h
  · split at h
    · rename_i hne
      cases h
      exact lv_dsub hx hb hd hne (kk ls hl)
    · cases h
  · cases h
theorem pm_q_dmul (hx : p.tables.exec = Jvm.exec) (hb : c.code = cc) (hd : decode cc pc = .ok (.dmul, len)) (hw : pm_w (.dmul) len = true) (h : pm_s1 (.dmul) pc L st = some (pc', L', st')) (hl : pm_lh b0 b ls nL L) (kk : ∀ ls' : Array Slot, pm_lh b0 b ls' nL L' → W p l e R s m args below meth c H locs cells slots Q (F0 m pc' ls' (st'.map (pm_v b0 b)))) : W p l e R s m args below meth c H locs cells slots Q (F0 m pc ls (st.map (pm_v b0 b))) := by
  have hn : len = 1 := by simpa [pm_w] using hw
  subst hn
  simp only [pm_s1] at h
  split at h
  · split at h
    · rename_i hne
      cases h
      exact lv_dmul hx hb hd hne (kk ls hl)
    · cases h
  · cases h
theorem pm_q_ddiv (hx : p.tables.exec = Jvm.exec) (hb : c.code = cc) (hd : decode cc pc = .ok (.ddiv, len)) (hw : pm_w (.ddiv) len = true) (h : pm_s1 (.ddiv) pc L st = some (pc', L', st')) (hl : pm_lh b0 b ls nL L) (kk : ∀ ls' : Array Slot, pm_lh b0 b ls' nL L' → W p l e R s m args below meth c H locs cells slots Q (F0 m pc' ls' (st'.map (pm_v b0 b)))) : W p l e R s m args below meth c H locs cells slots Q (F0 m pc ls (st.map (pm_v b0 b))) := by
  have hn : len = 1 := by simpa [pm_w] using hw
  subst hn
  simp only [pm_s1] at h
  split at h
  · split at h
    · rename_i hne
      cases h
      exact lv_ddiv hx hb hd hne (kk ls hl)
    · cases h
  · cases h
theorem pm_q_dup (hx : p.tables.exec = Jvm.exec) (hb : c.code = cc) (hd : decode cc pc = .ok (.dup, len)) (hw : pm_w (.dup) len = true) (h : pm_s1 (.dup) pc L st = some (pc', L', st')) (hl : pm_lh b0 b ls nL L) (kk : ∀ ls' : Array Slot, pm_lh b0 b ls' nL L' → W p l e R s m args below meth c H locs cells slots Q (F0 m pc' ls' (st'.map (pm_v b0 b)))) : W p l e R s m args below meth c H locs cells slots Q (F0 m pc ls (st.map (pm_v b0 b))) := by
  have hn : len = 1 := by simpa [pm_w] using hw
  subst hn
  simp only [pm_s1] at h
  split at h
  · cases h
    exact lv_dup hx hb hd rfl (kk ls hl)
  · cases h
    exact lv_dup hx hb hd rfl (kk ls hl)
  · cases h
theorem pm_q_dup2 (hx : p.tables.exec = Jvm.exec) (hb : c.code = cc) (hd : decode cc pc = .ok (.dup2, len)) (hw : pm_w (.dup2) len = true) (h : pm_s1 (.dup2) pc L st = some (pc', L', st')) (hl : pm_lh b0 b ls nL L) (kk : ∀ ls' : Array Slot, pm_lh b0 b ls' nL L' → W p l e R s m args below meth c H locs cells slots Q (F0 m pc' ls' (st'.map (pm_v b0 b)))) : W p l e R s m args below meth c H locs cells slots Q (F0 m pc ls (st.map (pm_v b0 b))) := by
  have hn : len = 1 := by simpa [pm_w] using hw
  subst hn
  simp only [pm_s1] at h
  split at h
  · cases h
    exact lv_dup2_11 hx hb hd rfl rfl (kk ls hl)
  · cases h
    exact lv_dup2_2 hx hb hd rfl (kk ls hl)
  · cases h
theorem pm_q_pop (hx : p.tables.exec = Jvm.exec) (hb : c.code = cc) (hd : decode cc pc = .ok (.pop, len)) (hw : pm_w (.pop) len = true) (h : pm_s1 (.pop) pc L st = some (pc', L', st')) (hl : pm_lh b0 b ls nL L) (kk : ∀ ls' : Array Slot, pm_lh b0 b ls' nL L' → W p l e R s m args below meth c H locs cells slots Q (F0 m pc' ls' (st'.map (pm_v b0 b)))) : W p l e R s m args below meth c H locs cells slots Q (F0 m pc ls (st.map (pm_v b0 b))) := by
  have hn : len = 1 := by simpa [pm_w] using hw
  subst hn
  simp only [pm_s1] at h
  split at h
  · cases h
    exact lv_pop hx hb hd rfl (kk ls hl)
  · cases h
theorem pm_t_eq {off : Int} {t : Nat} (h : pm_t pc off = some t) : (pc : Int) + off = (t : Int) := by
  unfold pm_t at h
  split at h
  · cases h
    omega
  · cases h
theorem pm_q_goto (hx : p.tables.exec = Jvm.exec) (hb : c.code = cc) {off : Int} (hd : decode cc pc = .ok (.goto off, len)) (hw : pm_w (.goto off) len = true) (h : pm_s1 (.goto off) pc L st = some (pc', L', st')) (hl : pm_lh b0 b ls nL L) (kk : ∀ ls' : Array Slot, pm_lh b0 b ls' nL L' → W p l e R s m args below meth c H locs cells slots Q (F0 m pc' ls' (st'.map (pm_v b0 b)))) : W p l e R s m args below meth c H locs cells slots Q (F0 m pc ls (st.map (pm_v b0 b))) := by
  have hn : len = 3 := by simpa [pm_w] using hw
  subst hn
  simp only [pm_s1] at h
  obtain ⟨t, ht, h⟩ := Option.map_eq_some_iff.mp h
  cases h
  exact lv_goto hx hb hd (pm_t_eq ht) (kk ls hl)
theorem pm_q_ifCond (hx : p.tables.exec = Jvm.exec) (hb : c.code = cc) {cd : ClassFile.Cond} {off : Int} (hd : decode cc pc = .ok (.ifCond cd off, len)) (hw : pm_w (.ifCond cd off) len = true) (h : pm_s1 (.ifCond cd off) pc L st = some (pc', L', st')) (hl : pm_lh b0 b ls nL L) (kk : ∀ ls' : Array Slot, pm_lh b0 b ls' nL L' → W p l e R s m args below meth c H locs cells slots Q (F0 m pc' ls' (st'.map (pm_v b0 b)))) : W p l e R s m args below meth c H locs cells slots Q (F0 m pc ls (st.map (pm_v b0 b))) := by
  have hn : len = 3 := by simpa [pm_w] using hw
  subst hn
  simp only [pm_s1] at h
  split at h
  · rename_i x r
    obtain ⟨t, ht, h⟩ := Option.map_eq_some_iff.mp h
    cases h
    cases cd with
    | eq =>
      refine lv_if_eq hx hb hd (pm_t_eq ht) (fun hc => ?_) (fun hc => ?_)
      · have e : pm_c .eq x 0 = true := by simp [pm_c, hc]
        simp only [e, if_true] at kk
        exact kk ls hl
      · have e : pm_c .eq x 0 = false := by simp [pm_c, hc]
        simp only [e] at kk
        exact kk ls hl
    | ne =>
      refine lv_if_ne hx hb hd (pm_t_eq ht) (fun hc => ?_) (fun hc => ?_)
      · have e : pm_c .ne x 0 = true := by simp [pm_c, hc]
        simp only [e, if_true] at kk
        exact kk ls hl
      · have e : pm_c .ne x 0 = false := by simp [pm_c, hc]
        simp only [e] at kk
        exact kk ls hl
    | lt =>
      refine lv_if_lt hx hb hd (pm_t_eq ht) (fun hc => ?_) (fun hc => ?_)
      · have e : pm_c .lt x 0 = true := by simp [pm_c, hc]
        simp only [e, if_true] at kk
        exact kk ls hl
      · have e : pm_c .lt x 0 = false := by simp [pm_c, hc]
        simp only [e] at kk
        exact kk ls hl
    | ge =>
      refine lv_if_ge hx hb hd (pm_t_eq ht) (fun hc => ?_) (fun hc => ?_)
      · have e : pm_c .ge x 0 = true := by simp [pm_c, hc]
        simp only [e, if_true] at kk
        exact kk ls hl
      · have e : pm_c .ge x 0 = false := by simp [pm_c, hc]
        simp only [e] at kk
        exact kk ls hl
    | gt =>
      refine lv_if_gt hx hb hd (pm_t_eq ht) (fun hc => ?_) (fun hc => ?_)
      · have e : pm_c .gt x 0 = true := by simp [pm_c, hc]
        simp only [e, if_true] at kk
        exact kk ls hl
      · have e : pm_c .gt x 0 = false := by simp [pm_c, hc]
        simp only [e] at kk
        exact kk ls hl
    | le =>
      refine lv_if_le hx hb hd (pm_t_eq ht) (fun hc => ?_) (fun hc => ?_)
      · have e : pm_c .le x 0 = true := by simp [pm_c, hc]
        simp only [e, if_true] at kk
        exact kk ls hl
      · have e : pm_c .le x 0 = false := by simp [pm_c, hc]
        simp only [e] at kk
        exact kk ls hl
  · cases h
theorem pm_q_if_icmp (hx : p.tables.exec = Jvm.exec) (hb : c.code = cc) {cd : ClassFile.Cond} {off : Int} (hd : decode cc pc = .ok (.if_icmp cd off, len)) (hw : pm_w (.if_icmp cd off) len = true) (h : pm_s1 (.if_icmp cd off) pc L st = some (pc', L', st')) (hl : pm_lh b0 b ls nL L) (kk : ∀ ls' : Array Slot, pm_lh b0 b ls' nL L' → W p l e R s m args below meth c H locs cells slots Q (F0 m pc' ls' (st'.map (pm_v b0 b)))) : W p l e R s m args below meth c H locs cells slots Q (F0 m pc ls (st.map (pm_v b0 b))) := by
  have hn : len = 3 := by simpa [pm_w] using hw
  subst hn
  simp only [pm_s1] at h
  split at h
  · rename_i y x r
    obtain ⟨t, ht, h⟩ := Option.map_eq_some_iff.mp h
    cases h
    cases cd with
    | eq =>
      refine lv_icmp_eq hx hb hd (pm_t_eq ht) (fun hc => ?_) (fun hc => ?_)
      · have e : pm_c .eq x y = true := by simp [pm_c, hc]
        simp only [e, if_true] at kk
        exact kk ls hl
      · have e : pm_c .eq x y = false := by simp [pm_c, hc]
        simp only [e] at kk
        exact kk ls hl
    | ne =>
      refine lv_icmp_ne hx hb hd (pm_t_eq ht) (fun hc => ?_) (fun hc => ?_)
      · have e : pm_c .ne x y = true := by simp [pm_c, hc]
        simp only [e, if_true] at kk
        exact kk ls hl
      · have e : pm_c .ne x y = false := by simp [pm_c, hc]
        simp only [e] at kk
        exact kk ls hl
    | lt =>
      refine lv_icmp_lt hx hb hd (pm_t_eq ht) (fun hc => ?_) (fun hc => ?_)
      · have e : pm_c .lt x y = true := by simp [pm_c, hc]
        simp only [e, if_true] at kk
        exact kk ls hl
      · have e : pm_c .lt x y = false := by simp [pm_c, hc]
        simp only [e] at kk
        exact kk ls hl
    | ge =>
      refine lv_icmp_ge hx hb hd (pm_t_eq ht) (fun hc => ?_) (fun hc => ?_)
      · have e : pm_c .ge x y = true := by simp [pm_c, hc]
        simp only [e, if_true] at kk
        exact kk ls hl
      · have e : pm_c .ge x y = false := by simp [pm_c, hc]
        simp only [e] at kk
        exact kk ls hl
    | gt =>
      refine lv_icmp_gt hx hb hd (pm_t_eq ht) (fun hc => ?_) (fun hc => ?_)
      · have e : pm_c .gt x y = true := by simp [pm_c, hc]
        simp only [e, if_true] at kk
        exact kk ls hl
      · have e : pm_c .gt x y = false := by simp [pm_c, hc]
        simp only [e] at kk
        exact kk ls hl
    | le =>
      refine lv_icmp_le hx hb hd (pm_t_eq ht) (fun hc => ?_) (fun hc => ?_)
      · have e : pm_c .le x y = true := by simp [pm_c, hc]
        simp only [e, if_true] at kk
        exact kk ls hl
      · have e : pm_c .le x y = false := by simp [pm_c, hc]
        simp only [e] at kk
        exact kk ls hl
  · cases h
theorem pm_q_ifnull (hx : p.tables.exec = Jvm.exec) (hb : c.code = cc) {off : Int} (hd : decode cc pc = .ok (.ifnull off, len)) (hw : pm_w (.ifnull off) len = true) (h : pm_s1 (.ifnull off) pc L st = some (pc', L', st')) (hl : pm_lh b0 b ls nL L) (kk : ∀ ls' : Array Slot, pm_lh b0 b ls' nL L' → W p l e R s m args below meth c H locs cells slots Q (F0 m pc' ls' (st'.map (pm_v b0 b)))) : W p l e R s m args below meth c H locs cells slots Q (F0 m pc ls (st.map (pm_v b0 b))) := by
  have hn : len = 3 := by simpa [pm_w] using hw
  subst hn
  simp only [pm_s1] at h
  split at h
  · cases h
    exact lv_ifnull hx hb hd (kk ls hl)
  · obtain ⟨t, ht, h⟩ := Option.map_eq_some_iff.mp h
    cases h
    exact lv_ifnullN hx hb hd (pm_t_eq ht) (kk ls hl)
  · cases h
theorem pm_q_ifnonnull (hx : p.tables.exec = Jvm.exec) (hb : c.code = cc) {off : Int} (hd : decode cc pc = .ok (.ifnonnull off, len)) (hw : pm_w (.ifnonnull off) len = true) (h : pm_s1 (.ifnonnull off) pc L st = some (pc', L', st')) (hl : pm_lh b0 b ls nL L) (kk : ∀ ls' : Array Slot, pm_lh b0 b ls' nL L' → W p l e R s m args below meth c H locs cells slots Q (F0 m pc' ls' (st'.map (pm_v b0 b)))) : W p l e R s m args below meth c H locs cells slots Q (F0 m pc ls (st.map (pm_v b0 b))) := by
  have hn : len = 3 := by simpa [pm_w] using hw
  subst hn
  simp only [pm_s1] at h
  split at h
  · obtain ⟨t, ht, h⟩ := Option.map_eq_some_iff.mp h
    cases h
    exact lv_ifnonnull hx hb hd (pm_t_eq ht) (kk ls hl)
  · cases h
    exact lv_ifnonnullN hx hb hd (kk ls hl)
  · cases h
theorem pm_q_tableswitch (hx : p.tables.exec = Jvm.exec) (hb : c.code = cc) {d lo hi : Int} {offs : Array Int} (hd : decode cc pc = .ok (.tableswitch d lo hi offs, len)) (hw : pm_w (.tableswitch d lo hi offs) len = true) (h : pm_s1 (.tableswitch d lo hi offs) pc L st = some (pc', L', st')) (hl : pm_lh b0 b ls nL L) (kk : ∀ ls' : Array Slot, pm_lh b0 b ls' nL L' → W p l e R s m args below meth c H locs cells slots Q (F0 m pc' ls' (st'.map (pm_v b0 b)))) : W p l e R s m args below meth c H locs cells slots Q (F0 m pc ls (st.map (pm_v b0 b))) := by
  simp only [pm_s1] at h
  split at h
  · obtain ⟨off, ho, h⟩ := Option.bind_eq_some_iff.mp h
    obtain ⟨t, ht, h⟩ := Option.map_eq_some_iff.mp h
    cases h
    unfold pm_sw at ho
    split at ho
    · rename_i hc
      cases ho
      exact lv_tableOut hx hb hd hc (pm_t_eq ht) (kk ls hl)
    · rename_i hc
      exact lv_tableIn hx hb hd (fun z => hc (Or.inl z)) (fun z => hc (Or.inr z)) ho (pm_t_eq ht) (kk ls hl)
  · cases h
theorem pm_q_lookupswitch (hx : p.tables.exec = Jvm.exec) (hb : c.code = cc) {d : Int} {ps : Array (Int × Int)} (hd : decode cc pc = .ok (.lookupswitch d ps, len)) (hw : pm_w (.lookupswitch d ps) len = true) (h : pm_s1 (.lookupswitch d ps) pc L st = some (pc', L', st')) (hl : pm_lh b0 b ls nL L) (kk : ∀ ls' : Array Slot, pm_lh b0 b ls' nL L' → W p l e R s m args below meth c H locs cells slots Q (F0 m pc' ls' (st'.map (pm_v b0 b)))) : W p l e R s m args below meth c H locs cells slots Q (F0 m pc ls (st.map (pm_v b0 b))) := by
  simp only [pm_s1] at h
  split at h
  · split at h
    · rename_i hp
      obtain ⟨t, ht, h⟩ := Option.map_eq_some_iff.mp h
      cases h
      exact lv_lookup hx hb hd hp rfl (pm_t_eq ht) (kk ls hl)
    · cases h
  · cases h
theorem pm_s1_sound (hx : p.tables.exec = Jvm.exec) (hb : c.code = cc) {i : ClassFile.Instr} (hd : decode cc pc = .ok (i, len)) (hw : pm_w i len = true) (h : pm_s1 i pc L st = some (pc', L', st')) (hl : pm_lh b0 b ls nL L) (kk : ∀ ls' : Array Slot, pm_lh b0 b ls' nL L' → W p l e R s m args below meth c H locs cells slots Q (F0 m pc' ls' (st'.map (pm_v b0 b)))) : W p l e R s m args below meth c H locs cells slots Q (F0 m pc ls (st.map (pm_v b0 b))) := by
  cases i
  case iconst => exact pm_q_iconst hx hb hd hw h hl kk
  case bipush => exact pm_q_bipush hx hb hd hw h hl kk
  case sipush => exact pm_q_sipush hx hb hd hw h hl kk
  case lconst => exact pm_q_lconst hx hb hd hw h hl kk
  case aconst_null => exact pm_q_aconst_null hx hb hd hw h hl kk
  case dconst => exact pm_q_dconst hx hb hd hw h hl kk
  case iload_n => exact pm_q_iload_n hx hb hd hw h hl kk
  case iload => exact pm_q_iload hx hb hd hw h hl kk
  case lload_n => exact pm_q_lload_n hx hb hd hw h hl kk
  case lload => exact pm_q_lload hx hb hd hw h hl kk
  case dload_n => exact pm_q_dload_n hx hb hd hw h hl kk
  case dload => exact pm_q_dload hx hb hd hw h hl kk
  case aload_n => exact pm_q_aload_n hx hb hd hw h hl kk
  case aload => exact pm_q_aload hx hb hd hw h hl kk
  case istore_n => exact pm_q_istore_n hx hb hd hw h hl kk
  case lstore_n => exact pm_q_lstore_n hx hb hd hw h hl kk
  case dstore_n => exact pm_q_dstore_n hx hb hd hw h hl kk
  case astore_n => exact pm_q_astore_n hx hb hd hw h hl kk
  case istore => exact pm_q_istore hx hb hd hw h hl kk
  case lstore => exact pm_q_lstore hx hb hd hw h hl kk
  case dstore => exact pm_q_dstore hx hb hd hw h hl kk
  case astore => exact pm_q_astore hx hb hd hw h hl kk
  case iinc => exact pm_q_iinc hx hb hd hw h hl kk
  case iadd => exact pm_q_iadd hx hb hd hw h hl kk
  case isub => exact pm_q_isub hx hb hd hw h hl kk
  case imul => exact pm_q_imul hx hb hd hw h hl kk
  case ineg => exact pm_q_ineg hx hb hd hw h hl kk
  case ishl => exact pm_q_ishl hx hb hd hw h hl kk
  case ishr => exact pm_q_ishr hx hb hd hw h hl kk
  case iand => exact pm_q_iand hx hb hd hw h hl kk
  case ior => exact pm_q_ior hx hb hd hw h hl kk
  case ixor => exact pm_q_ixor hx hb hd hw h hl kk
  case i2d => exact pm_q_i2d hx hb hd hw h hl kk
  case l2d => exact pm_q_l2d hx hb hd hw h hl kk
  case d2l => exact pm_q_d2l hx hb hd hw h hl kk
  case ladd => exact pm_q_ladd hx hb hd hw h hl kk
  case lsub => exact pm_q_lsub hx hb hd hw h hl kk
  case lmul => exact pm_q_lmul hx hb hd hw h hl kk
  case land => exact pm_q_land hx hb hd hw h hl kk
  case lor => exact pm_q_lor hx hb hd hw h hl kk
  case dneg => exact pm_q_dneg hx hb hd hw h hl kk
  case i2l => exact pm_q_i2l hx hb hd hw h hl kk
  case l2i => exact pm_q_l2i hx hb hd hw h hl kk
  case lshl => exact pm_q_lshl hx hb hd hw h hl kk
  case lshr => exact pm_q_lshr hx hb hd hw h hl kk
  case lushr => exact pm_q_lushr hx hb hd hw h hl kk
  case lcmp => exact pm_q_lcmp hx hb hd hw h hl kk
  case dcmp => exact pm_q_dcmp hx hb hd hw h hl kk
  case idiv => exact pm_q_idiv hx hb hd hw h hl kk
  case irem => exact pm_q_irem hx hb hd hw h hl kk
  case ldiv => exact pm_q_ldiv hx hb hd hw h hl kk
  case dadd => exact pm_q_dadd hx hb hd hw h hl kk
  case dsub => exact pm_q_dsub hx hb hd hw h hl kk
  case dmul => exact pm_q_dmul hx hb hd hw h hl kk
  case ddiv => exact pm_q_ddiv hx hb hd hw h hl kk
  case dup => exact pm_q_dup hx hb hd hw h hl kk
  case dup2 => exact pm_q_dup2 hx hb hd hw h hl kk
  case pop => exact pm_q_pop hx hb hd hw h hl kk
  case goto => exact pm_q_goto hx hb hd hw h hl kk
  case ifCond => exact pm_q_ifCond hx hb hd hw h hl kk
  case if_icmp => exact pm_q_if_icmp hx hb hd hw h hl kk
  case ifnull => exact pm_q_ifnull hx hb hd hw h hl kk
  case ifnonnull => exact pm_q_ifnonnull hx hb hd hw h hl kk
  case tableswitch => exact pm_q_tableswitch hx hb hd hw h hl kk
  case lookupswitch => exact pm_q_lookupswitch hx hb hd hw h hl kk
  all_goals (simp [pm_s1] at h)
end PMS
