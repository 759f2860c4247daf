/-! THE PURE MACHINE IS SOUND, 6: a run, a method -/
theorem pm_callmono {l : Launch} {fr lo : Nat} {own : String} {ini : Bool} {E : pm_E} (hE : pm_Ok l fr lo own ini E) : ∀ k q, pm_Ef E k = some q → ∀ a μ r, q.2.2.2 a μ = some r → μ.1 ≤ r.2.1 := by
  intro k q hk a μ r hr
  obtain ⟨y, cc, maxL, ret, fr', lo', hM, -⟩ := hE.2.2.2.1 k q hk
  exact (hM (fun _ => 0, fun _ _ => 0) (fun _ => 0) 0 0 a μ r.2 r.1 hr).1
theorem pm_s_mono {E : pm_E} {i : ClassFile.Instr} {pc : Nat} {L st : List Value} {μ : pm_M} {t : pm_S} (hF : ∀ k q, pm_Ef E k = some q → ∀ a μ r, q.2.2.2 a μ = some r → μ.1 ≤ r.2.1) (h : pm_s E i pc L st μ = some t) : μ.1 ≤ t.2.2.2.1 := by
  unfold pm_s at h
  split at h
  · cases h
    exact Nat.le_refl _
  · exact pm_s2_mono hF h
theorem pm_x_mono {E : pm_E} (hF : ∀ k q, pm_Ef E k = some q → ∀ a μ r, q.2.2.2 a μ = some r → μ.1 ≤ r.2.1) : ∀ (n pc : Nat) (L st : List Value) (μ : pm_M) (r : Option Value × pm_M), pm_x E n pc L st μ = some r → μ.1 ≤ r.2.1 := by
  intro n
  induction n with
  | zero => intro pc L st μ r h; cases h
  | succ n ih =>
    intro pc L st μ r h
    unfold pm_x at h
    split at h
    · split at h
      · split at h
        · cases h
          exact Nat.le_refl _
        · split at h
          · rename_i t ht
            exact Nat.le_trans (pm_s_mono hF ht) (ih _ _ _ _ _ h)
          · cases h
      · cases h
    · cases h
section PMR
variable {p : Program} {l : Launch} {e : Env} {R : Room} {s : State} {m : MethodId} {args : Array Value} {below : List Frame} {meth : Method} {c : Code} {Q : State → Prop}
variable {nL b0 b : Nat} {D : va_G} {cA : Nat → ClassId} {μ' : pm_M} {n0 : Nat} {own : String} {E : pm_E} {ini : Bool}
theorem pm_sound (hX : pm_X p l R s m args meth c own E D cA b0 b ini nL) {r : Option Value} (hR : μ'.1 - n0 ≤ R.cells ∧ pm_Sz μ'.1 - pm_Sz n0 ≤ R.slots)
    (hret : ∀ (pc len : Nat) (i : ClassFile.Instr) (st : List Value) (H : Heap) (locs : List Loc) (ls : Array Slot), decode (pm_Ec E) pc = .ok (i, len) → pm_w i len = true → pm_r E i st = some r → pm_H D cA b0 b μ' H → va_S (fun q => b0 ≤ q) s.heap H locs → W p l e R s m args below meth c H locs (μ'.1 - n0) (pm_Sz μ'.1 - pm_Sz n0) Q (F0 m pc ls (st.map (pm_v b0 b)))) :
    ∀ (n pc : Nat) (L st : List Value) (μ : pm_M) (H : Heap) (locs : List Loc) (ls : Array Slot), pm_x E n pc L st μ = some (r, μ') → pm_H D cA b0 b μ H → va_S (fun q => b0 ≤ q) s.heap H locs → pm_lh b0 b ls nL L → n0 ≤ μ.1 → W p l e R s m args below meth c H locs (μ.1 - n0) (pm_Sz μ.1 - pm_Sz n0) Q (F0 m pc ls (st.map (pm_v b0 b))) := by
  have hF := pm_callmono hX.2.2.2.2.2.2.1
  intro n
  induction n with
  | zero => intro pc L st μ H locs ls h; cases h
  | succ n ih =>
    intro pc L st μ H locs ls h hH hS hl hn0
    unfold pm_x at h
    split at h
    · rename_i q hd
      obtain ⟨i, len⟩ := q
      split at h
      · rename_i hw
        split at h
        · rename_i r2 hr2
          cases h
          exact hret pc len i st H locs ls hd hw hr2 hH hS
        · split at h
          · rename_i t ht
            unfold pm_s at ht
            split at ht
            · rename_i q2 hq2
              cases ht
              exact pm_s1_sound hX.1 hX.2.1 hd hw hq2 hl (fun ls' hl' => ih _ _ _ _ H locs ls' h hH hS hl' hn0)
            · obtain ⟨pc1, L1, st1, μ1⟩ := t
              have h1 := pm_s2_mono hF ht
              have h2 := pm_x_mono hF _ _ _ _ _ _ h
              dsimp only at h1 h2 h
              have h3 := pm_Sz_mono h2
              exact pm_s2_sound hX hH hS hl.1 hd hw ht hn0 ⟨by omega, by omega⟩ (fun eL H1 locs1 g1 g2 => by
                subst eL
                exact ih _ _ _ _ H1 locs1 ls h g1 g2 hl (Nat.le_trans hn0 h1))
          · cases h
      · cases h
    · cases h
end PMR
theorem pm_e_len (b0 b : Nat) : ∀ a : List Value, (pm_e a).length = (lg_sl (a.map (pm_v b0 b))).length
  | [] => rfl
  | v :: vs => by
    have ih := pm_e_len b0 b vs
    cases v <;> simp [pm_e, lg_sl, pm_v, Value.category] at ih ⊢ <;> omega
theorem pm_e_at (b0 b : Nat) : ∀ (a : List Value) (i : Nat) (v : Value), (pm_e a)[i]? = some v → (∀ k, v ≠ .retAddr k) → (lg_sl (a.map (pm_v b0 b)))[i]? = some (.val (pm_v b0 b v))
  | [], i, v, h, _ => by simp [pm_e] at h
  | w :: vs, i, v, h, hv => by
    have ih := pm_e_at b0 b vs
    by_cases hc : w.category = 2
    · have e1 : pm_e (w :: vs) = w :: .retAddr 1 :: pm_e vs := by cases w <;> simp [Value.category] at hc <;> rfl
      have e2 : lg_sl ((w :: vs).map (pm_v b0 b)) = .val (pm_v b0 b w) :: .second :: lg_sl (vs.map (pm_v b0 b)) := by
        simp [lg_sl, pm_v_cat, hc]
      rw [e1] at h
      rw [e2]
      match i, h with
      | 0, h => simp at h ⊢; rw [h]
      | 1, h => simp at h; exact absurd h.symm (hv 1)
      | i + 2, h => simp at h ⊢; exact ih i v h hv
    · have e1 : pm_e (w :: vs) = w :: pm_e vs := by cases w <;> simp [Value.category] at hc <;> rfl
      have e2 : lg_sl ((w :: vs).map (pm_v b0 b)) = .val (pm_v b0 b w) :: lg_sl (vs.map (pm_v b0 b)) := by
        simp [lg_sl, pm_v_cat, hc]
      rw [e1] at h
      rw [e2]
      match i, h with
      | 0, h => simp at h ⊢; rw [h]
      | i + 1, h => simp at h ⊢; exact ih i v h hv
theorem pm_entry (b0 b : Nat) (a : List Value) {n : Nat} (h : (pm_e a).length ≤ n) : pm_lh b0 b ((lg_sl (a.map (pm_v b0 b)) ++ List.replicate (n - (lg_sl (a.map (pm_v b0 b))).length) Slot.unset).toArray) n (pm_e a ++ List.replicate (n - (pm_e a).length) (.retAddr 0)) := by
  have hlen := pm_e_len b0 b a
  have hL := lv_entry (a.map (pm_v b0 b)) (n := n) (by omega)
  refine ⟨hL.1, by simp; omega, hL.2.1, fun i v hi hv hc => ?_⟩
  by_cases hlt : i < (pm_e a).length
  · rw [List.getElem?_append_left hlt] at hi
    have := pm_e_at b0 b a i v hi hv
    rw [List.getElem?_toArray, List.getElem?_append_left (by omega)]
    exact this
  · rw [List.getElem?_append_right (by omega)] at hi
    have := List.eq_of_mem_replicate (List.mem_of_getElem? hi)
    exact absurd this (hv 0)
set_option maxHeartbeats 1000000 in
/-- a method does what its function says -/
theorem pm_met {l : Launch} {y : MethodName} {maxL fr lo : Nat} {own : String} {E : pm_E} {ini : Bool} (hy : plainName y.cls = true) (hyo : y.cls = own) (hE : pm_Ok l fr lo own ini E) (hx0 : pm_Ex E = none) (hini : ini = true → y.name = "<init>") : pm_Met l y (pm_Ec E) maxL (pm_Er E) fr lo (pm_fn E maxL) := by
  intro D cA b0 b a μ μ' r hF
  unfold pm_fn at hF
  split at hF
  · rename_i hlen
    obtain ⟨n, hF⟩ := pm_run_iff.mp hF
    have hmono := pm_x_mono (pm_callmono hE) _ _ _ _ _ _ hF
    refine ⟨hmono, ?_⟩
    refine Met.ofW (cc := pm_Ec E) (maxL := maxL) (ret := pm_Er E) hy rfl ?_
    intro p e s m args below meth c s₁ B hml hv
    obtain ⟨rfl, hH, hK⟩ := hv
    have hts0 := atoms_spec (ws := Cond.code y (pm_Ec E) maxL (pm_Er E) :: pm_T) B.pre
    have hts : ∀ w ∈ pm_T, w.before _ s = true := fun w h => hts0 w (List.mem_cons_of_mem _ h)
    have hown : s.vm.findClass own = some m.cls := hyo ▸ findClass_of_methodNamed B.named
    have hlocks := B.notSynchronized
    have hname := (name_of_methodNamed B.named B.method).1
    have hr := B.returns
    have hX : pm_X p l ({ frames := fr, cells := μ'.1 - μ.1, slots := pm_Sz μ'.1 - pm_Sz μ.1, locals := lo }) s m (a.map (pm_v b0 b)).toArray meth c own E D cA b0 b ini maxL :=
      ⟨B.exec, B.bytes, hml, hown, hts, hK, hE, fun h => hname.trans (hini h), fun q hq => by rw [hx0] at hq; cases hq⟩
    rw [lg_entry_eq]
    have hS : va_S (fun q => b0 ≤ q) s.heap s.heap [] := va_S.rf
    have K := pm_sound (Q := MQ below (fun (_ : Array Value) (st : State) (o : Outcome) (t : State) => (o = .returned (r.map (pm_v b0 b)) ∧ pm_H D cA b0 b μ' t.heap) ∧ va_F (fun q => b0 ≤ q) st t) (a.map (pm_v b0 b)).toArray s (μ'.1 - μ.1) (pm_Sz μ'.1 - pm_Sz μ.1) (fun q => b0 ≤ q)) (e := e) (below := below) (n0 := μ.1) (r := r) hX ⟨Nat.le_refl _, Nat.le_refl _⟩ ?_ n 0 _ [] μ s.heap [] _ hF hH hS (pm_entry b0 b a hlen) (Nat.le_refl _)
    · rw [Nat.sub_self, Nat.sub_self] at K
      exact K
    · intro pc len i st H locs ls hd hw hr2 hH2 hS2
      have fin : ∀ t : State, t.heap = H → s.WarmedH t.vm → (Outcome.returned (r.map (pm_v b0 b)) = .returned (r.map (pm_v b0 b)) ∧ pm_H D cA b0 b μ' t.heap) ∧ va_F (fun q => b0 ≤ q) s t := fun t ht _ => ⟨⟨rfl, by rw [ht]; exact hH2⟩, hS2.F ht⟩
      unfold pm_r at hr2
      split at hr2
      · have hn : len = 1 := by simpa [pm_w] using hw
        subst hn
        split at hr2
        · rename_i he
          cases hr2
          exact W.vret B.exec B.bytes (hr.trans he) fin hS2.2.2 hd
        · cases hr2
      · have hn : len = 1 := by simpa [pm_w] using hw
        subst hn
        split at hr2
        · rename_i he
          cases hr2
          exact W.iret B.exec B.bytes (hr.trans he) fin hS2.2.2 hd
        · rename_i x he
          split at hr2
          · rename_i hb1
            cases hr2
            exact W.zret B.exec B.bytes (hr.trans he) (congrArg Value.int hb1) fin hS2.2.2 hd
          · cases hr2
        · cases hr2
      · have hn : len = 1 := by simpa [pm_w] using hw
        subst hn
        split at hr2
        · rename_i he
          cases hr2
          exact W.lret B.exec B.bytes (hr.trans he) fin hS2.2.2 hd
        · cases hr2
      · have hn : len = 1 := by simpa [pm_w] using hw
        subst hn
        split at hr2
        · rename_i he
          cases hr2
          exact W.dret B.exec B.bytes (hr.trans he) fin hS2.2.2 hd
        · cases hr2
      · cases hr2
  · cases hF
