/-! THE PURE MACHINE IS SOUND, 5: every instruction, every run, every method -/
theorem pm_s2_mono {E : pm_E} {i : ClassFile.Instr} {pc : Nat} {L st : List Value} {μ : pm_M} {t : pm_S} (hF : ∀ k q, pm_Ef E k = some q → ∀ a μ r, q.2.2.2 a μ = some r → μ.1 ≤ r.2.1) (h : pm_s2 E i pc L st μ = some t) : μ.1 ≤ t.2.2.2.1 := by
  unfold pm_s2 at h
  split at h
  all_goals (repeat' split at h)
  all_goals first
    | (cases h; done)
    | (cases h; exact Nat.le_refl _)
    | (cases h; exact Nat.le_succ _)
    | (obtain ⟨r, hr, e⟩ := Option.map_eq_some_iff.mp h; cases e; first | exact hF _ _ (by assumption) _ _ _ hr | exact Nat.le_of_eq (pm_p_one hr).symm)
theorem pm_acI : Cond.arrayClass .int ∈ pm_T := pm_Ti (by decide +kernel) rfl
theorem pm_acZ : Cond.arrayClass .boolean ∈ pm_T := pm_Ti (by decide +kernel) rfl
theorem pm_acD : Cond.arrayClass .double ∈ pm_T := pm_Ti (by decide +kernel) rfl
/-- what a walk stands on -/
def pm_X (p : Program) (l : Launch) (R : Room) (s : State) (m : MethodId) (args : Array Value) (meth : Method) (c : Code) (own : String) (E : pm_E) (D : va_G) (cA : Nat → ClassId) (b0 b : Nat) (ini : Bool) (nL : Nat) : Prop :=
  p.tables.exec = Jvm.exec ∧ c.code = pm_Ec E ∧ c.maxLocals = nL ∧ s.vm.findClass own = some m.cls ∧ (∀ w ∈ pm_T, w.before args s = true) ∧ pm_K D cA s ∧ pm_Ok l R.frames R.locals own ini E ∧ (ini = true → meth.name = "<init>") ∧ (∀ q, pm_Ex E = some q → va_X b q.1 q.2 s s.heap ∧ b < s.heap.size ∧ b < b0)
section PMW
variable {p : Program} {l : Launch} {e : Env} {R : Room} {s : State} {m : MethodId} {args : Array Value} {below : List Frame} {meth : Method} {c : Code} {H : Heap} {locs : List Loc} {Q : State → Prop}
variable {pc pc' nL len b0 b : Nat} {ls : Array Slot} {D : va_G} {cA : Nat → ClassId} {μ μ1 : pm_M} {n0 : Nat} {own : String} {E : pm_E} {ini : Bool} {L L' st st' : List Value}
theorem pm_y_ldc {k : Nat} (hX : pm_X p l R s m args meth c own E D cA b0 b ini nL) (hH : pm_H D cA b0 b μ H) (hS : va_S (fun q => b0 ≤ q) s.heap H locs) (hls : ls.size = nL) (hd : decode (pm_Ec E) pc = .ok (.ldc k, len)) (hw : pm_w (.ldc k) len = true) (h : pm_s2 E (.ldc k) pc L st μ = some (pc', L', st', μ1)) (hn0 : n0 ≤ μ.1) (hR : μ1.1 - n0 ≤ R.cells ∧ pm_Sz μ1.1 - pm_Sz n0 ≤ R.slots)
    (kk : L' = L → ∀ (H1 : Heap) (locs1 : List Loc), pm_H D cA b0 b μ1 H1 → va_S (fun q => b0 ≤ q) s.heap H1 locs1 → W p l e R s m args below meth c H1 locs1 (μ1.1 - n0) (pm_Sz μ1.1 - pm_Sz n0) Q (F0 m pc' ls (st'.map (pm_v b0 b)))) : W p l e R s m args below meth c H locs (μ.1 - n0) (pm_Sz μ.1 - pm_Sz n0) Q (F0 m pc ls (st.map (pm_v b0 b))) := by
  obtain ⟨hx, hb, hml, hown, hts, hK, hE, hin, hscr⟩ := hX
  have hn : len = 2 := by simpa [pm_w] using hw
  subst hn
  simp only [pm_s2] at h
  split at h
  · rename_i x hk
    cases h
    exact lv_ldc hx hb hown (hts _ (hE.2.2.1 _ _ hk)) hd (kk rfl H locs hH hS)
  · cases h
theorem pm_y_ldc2_w {k : Nat} (hX : pm_X p l R s m args meth c own E D cA b0 b ini nL) (hH : pm_H D cA b0 b μ H) (hS : va_S (fun q => b0 ≤ q) s.heap H locs) (hls : ls.size = nL) (hd : decode (pm_Ec E) pc = .ok (.ldc2_w k, len)) (hw : pm_w (.ldc2_w k) len = true) (h : pm_s2 E (.ldc2_w k) pc L st μ = some (pc', L', st', μ1)) (hn0 : n0 ≤ μ.1) (hR : μ1.1 - n0 ≤ R.cells ∧ pm_Sz μ1.1 - pm_Sz n0 ≤ R.slots)
    (kk : L' = L → ∀ (H1 : Heap) (locs1 : List Loc), pm_H D cA b0 b μ1 H1 → va_S (fun q => b0 ≤ q) s.heap H1 locs1 → W p l e R s m args below meth c H1 locs1 (μ1.1 - n0) (pm_Sz μ1.1 - pm_Sz n0) Q (F0 m pc' ls (st'.map (pm_v b0 b)))) : W p l e R s m args below meth c H locs (μ.1 - n0) (pm_Sz μ.1 - pm_Sz n0) Q (F0 m pc ls (st.map (pm_v b0 b))) := by
  obtain ⟨hx, hb, hml, hown, hts, hK, hE, hin, hscr⟩ := hX
  have hn : len = 3 := by simpa [pm_w] using hw
  subst hn
  simp only [pm_s2] at h
  split at h
  · rename_i x hk
    cases h
    exact lv_ldc2 hx hb hown (hts _ (hE.2.2.1 _ _ hk)) hd (kk rfl H locs hH hS)
  · rename_i x hk
    cases h
    exact lv_ldc2d hx hb hown (hts _ (hE.2.2.1 _ _ hk)) hd (kk rfl H locs hH hS)
  · cases h
theorem pm_y_getfield {k : Nat} (hX : pm_X p l R s m args meth c own E D cA b0 b ini nL) (hH : pm_H D cA b0 b μ H) (hS : va_S (fun q => b0 ≤ q) s.heap H locs) (hls : ls.size = nL) (hd : decode (pm_Ec E) pc = .ok (.getfield k, len)) (hw : pm_w (.getfield k) len = true) (h : pm_s2 E (.getfield k) pc L st μ = some (pc', L', st', μ1)) (hn0 : n0 ≤ μ.1) (hR : μ1.1 - n0 ≤ R.cells ∧ pm_Sz μ1.1 - pm_Sz n0 ≤ R.slots)
    (kk : L' = L → ∀ (H1 : Heap) (locs1 : List Loc), pm_H D cA b0 b μ1 H1 → va_S (fun q => b0 ≤ q) s.heap H1 locs1 → W p l e R s m args below meth c H1 locs1 (μ1.1 - n0) (pm_Sz μ1.1 - pm_Sz n0) Q (F0 m pc' ls (st'.map (pm_v b0 b)))) : W p l e R s m args below meth c H locs (μ.1 - n0) (pm_Sz μ.1 - pm_Sz n0) Q (F0 m pc ls (st.map (pm_v b0 b))) := by
  obtain ⟨hx, hb, hml, hown, hts, hK, hE, hin, hscr⟩ := hX
  have hn : len = 3 := by simpa [pm_w] using hw
  subst hn
  simp only [pm_s2] at h
  split at h
  · rename_i i st0 q hk
    split at h
    · rename_i hc
      cases h
      obtain ⟨f1, f2, f3⟩ := hE.1 _ _ hk
      exact pm_getf hx hb hown hts hK hH hc.1 hc.2 f1 f2 f3 hd (kk rfl H locs hH hS)
    · cases h
  · cases h
theorem pm_y_putfield {k : Nat} (hX : pm_X p l R s m args meth c own E D cA b0 b ini nL) (hH : pm_H D cA b0 b μ H) (hS : va_S (fun q => b0 ≤ q) s.heap H locs) (hls : ls.size = nL) (hd : decode (pm_Ec E) pc = .ok (.putfield k, len)) (hw : pm_w (.putfield k) len = true) (h : pm_s2 E (.putfield k) pc L st μ = some (pc', L', st', μ1)) (hn0 : n0 ≤ μ.1) (hR : μ1.1 - n0 ≤ R.cells ∧ pm_Sz μ1.1 - pm_Sz n0 ≤ R.slots)
    (kk : L' = L → ∀ (H1 : Heap) (locs1 : List Loc), pm_H D cA b0 b μ1 H1 → va_S (fun q => b0 ≤ q) s.heap H1 locs1 → W p l e R s m args below meth c H1 locs1 (μ1.1 - n0) (pm_Sz μ1.1 - pm_Sz n0) Q (F0 m pc' ls (st'.map (pm_v b0 b)))) : W p l e R s m args below meth c H locs (μ.1 - n0) (pm_Sz μ.1 - pm_Sz n0) Q (F0 m pc ls (st.map (pm_v b0 b))) := by
  obtain ⟨hx, hb, hml, hown, hts, hK, hE, hin, hscr⟩ := hX
  have hn : len = 3 := by simpa [pm_w] using hw
  subst hn
  simp only [pm_s2] at h
  split at h
  · rename_i v i st0 q hk
    split at h
    · rename_i hc
      obtain ⟨μ2, hp, e1⟩ := Option.map_eq_some_iff.mp h
      cases e1
      obtain ⟨⟨f1, f2, f3⟩, f4⟩ := hE.2.1 _ _ hk
      have e2 := pm_p_one hp
      rw [e2] at kk
      exact pm_putf hx hb hown hts hK hH hS hc.1 hc.2 f1 f2 f3 (f4.imp id (fun z => ⟨hin z.1, z.2⟩)) hp hd (kk rfl)
    · cases h
  · cases h
theorem pm_y_iaload (hX : pm_X p l R s m args meth c own E D cA b0 b ini nL) (hH : pm_H D cA b0 b μ H) (hS : va_S (fun q => b0 ≤ q) s.heap H locs) (hls : ls.size = nL) (hd : decode (pm_Ec E) pc = .ok (.iaload, len)) (hw : pm_w (.iaload) len = true) (h : pm_s2 E (.iaload) pc L st μ = some (pc', L', st', μ1)) (hn0 : n0 ≤ μ.1) (hR : μ1.1 - n0 ≤ R.cells ∧ pm_Sz μ1.1 - pm_Sz n0 ≤ R.slots)
    (kk : L' = L → ∀ (H1 : Heap) (locs1 : List Loc), pm_H D cA b0 b μ1 H1 → va_S (fun q => b0 ≤ q) s.heap H1 locs1 → W p l e R s m args below meth c H1 locs1 (μ1.1 - n0) (pm_Sz μ1.1 - pm_Sz n0) Q (F0 m pc' ls (st'.map (pm_v b0 b)))) : W p l e R s m args below meth c H locs (μ.1 - n0) (pm_Sz μ.1 - pm_Sz n0) Q (F0 m pc ls (st.map (pm_v b0 b))) := by
  obtain ⟨hx, hb, hml, hown, hts, hK, hE, hin, hscr⟩ := hX
  have hn : len = 1 := by simpa [pm_w] using hw
  subst hn
  simp only [pm_s2] at h
  split at h
  · split at h
    · rename_i j i st0 hi
      subst hi
      split at h
      · rename_i q hq
        split at h
        · cases h
        · rename_i hin2
          cases h
          obtain ⟨x1, x2, x3⟩ := hscr _ hq
          exact va_sld hx hb x1 x2 (Nat.not_le.mpr x3) hS hin2 hd (kk rfl H locs hH hS)
      · cases h
    · split at h
      · rename_i hc
        split at h
        · cases h
        · rename_i hin2
          cases h
          exact pm_iald hx hb hK hH hc.1 hc.2 hin2 hd (kk rfl H locs hH hS)
      · cases h
  · cases h
theorem pm_y_baload (hX : pm_X p l R s m args meth c own E D cA b0 b ini nL) (hH : pm_H D cA b0 b μ H) (hS : va_S (fun q => b0 ≤ q) s.heap H locs) (hls : ls.size = nL) (hd : decode (pm_Ec E) pc = .ok (.baload, len)) (hw : pm_w (.baload) len = true) (h : pm_s2 E (.baload) pc L st μ = some (pc', L', st', μ1)) (hn0 : n0 ≤ μ.1) (hR : μ1.1 - n0 ≤ R.cells ∧ pm_Sz μ1.1 - pm_Sz n0 ≤ R.slots)
    (kk : L' = L → ∀ (H1 : Heap) (locs1 : List Loc), pm_H D cA b0 b μ1 H1 → va_S (fun q => b0 ≤ q) s.heap H1 locs1 → W p l e R s m args below meth c H1 locs1 (μ1.1 - n0) (pm_Sz μ1.1 - pm_Sz n0) Q (F0 m pc' ls (st'.map (pm_v b0 b)))) : W p l e R s m args below meth c H locs (μ.1 - n0) (pm_Sz μ.1 - pm_Sz n0) Q (F0 m pc ls (st.map (pm_v b0 b))) := by
  obtain ⟨hx, hb, hml, hown, hts, hK, hE, hin, hscr⟩ := hX
  have hn : len = 1 := by simpa [pm_w] using hw
  subst hn
  simp only [pm_s2] at h
  split at h
  · split at h
    · rename_i hc
      split at h
      · cases h
      · rename_i hin2
        cases h
        exact pm_zald hx hb hK hH hc.1 hc.2 hin2 hd (kk rfl H locs hH hS)
    · cases h
  · cases h
theorem pm_y_daload (hX : pm_X p l R s m args meth c own E D cA b0 b ini nL) (hH : pm_H D cA b0 b μ H) (hS : va_S (fun q => b0 ≤ q) s.heap H locs) (hls : ls.size = nL) (hd : decode (pm_Ec E) pc = .ok (.daload, len)) (hw : pm_w (.daload) len = true) (h : pm_s2 E (.daload) pc L st μ = some (pc', L', st', μ1)) (hn0 : n0 ≤ μ.1) (hR : μ1.1 - n0 ≤ R.cells ∧ pm_Sz μ1.1 - pm_Sz n0 ≤ R.slots)
    (kk : L' = L → ∀ (H1 : Heap) (locs1 : List Loc), pm_H D cA b0 b μ1 H1 → va_S (fun q => b0 ≤ q) s.heap H1 locs1 → W p l e R s m args below meth c H1 locs1 (μ1.1 - n0) (pm_Sz μ1.1 - pm_Sz n0) Q (F0 m pc' ls (st'.map (pm_v b0 b)))) : W p l e R s m args below meth c H locs (μ.1 - n0) (pm_Sz μ.1 - pm_Sz n0) Q (F0 m pc ls (st.map (pm_v b0 b))) := by
  obtain ⟨hx, hb, hml, hown, hts, hK, hE, hin, hscr⟩ := hX
  have hn : len = 1 := by simpa [pm_w] using hw
  subst hn
  simp only [pm_s2] at h
  split at h
  · split at h
    · rename_i hc
      split at h
      · cases h
      · rename_i hin2
        cases h
        exact pm_dald hx hb hK hH hc.1 hc.2 hin2 hd (kk rfl H locs hH hS)
    · cases h
  · cases h
theorem pm_y_aaload (hX : pm_X p l R s m args meth c own E D cA b0 b ini nL) (hH : pm_H D cA b0 b μ H) (hS : va_S (fun q => b0 ≤ q) s.heap H locs) (hls : ls.size = nL) (hd : decode (pm_Ec E) pc = .ok (.aaload, len)) (hw : pm_w (.aaload) len = true) (h : pm_s2 E (.aaload) pc L st μ = some (pc', L', st', μ1)) (hn0 : n0 ≤ μ.1) (hR : μ1.1 - n0 ≤ R.cells ∧ pm_Sz μ1.1 - pm_Sz n0 ≤ R.slots)
    (kk : L' = L → ∀ (H1 : Heap) (locs1 : List Loc), pm_H D cA b0 b μ1 H1 → va_S (fun q => b0 ≤ q) s.heap H1 locs1 → W p l e R s m args below meth c H1 locs1 (μ1.1 - n0) (pm_Sz μ1.1 - pm_Sz n0) Q (F0 m pc' ls (st'.map (pm_v b0 b)))) : W p l e R s m args below meth c H locs (μ.1 - n0) (pm_Sz μ.1 - pm_Sz n0) Q (F0 m pc ls (st.map (pm_v b0 b))) := by
  obtain ⟨hx, hb, hml, hown, hts, hK, hE, hin, hscr⟩ := hX
  have hn : len = 1 := by simpa [pm_w] using hw
  subst hn
  simp only [pm_s2] at h
  split at h
  · split at h
    · rename_i hc
      split at h
      · cases h
      · rename_i hin2
        cases h
        exact pm_aald hx hb hK hH hc.1 hc.2 hin2 hd (kk rfl H locs hH hS)
    · cases h
  · cases h
theorem pm_y_iastore (hX : pm_X p l R s m args meth c own E D cA b0 b ini nL) (hH : pm_H D cA b0 b μ H) (hS : va_S (fun q => b0 ≤ q) s.heap H locs) (hls : ls.size = nL) (hd : decode (pm_Ec E) pc = .ok (.iastore, len)) (hw : pm_w (.iastore) len = true) (h : pm_s2 E (.iastore) pc L st μ = some (pc', L', st', μ1)) (hn0 : n0 ≤ μ.1) (hR : μ1.1 - n0 ≤ R.cells ∧ pm_Sz μ1.1 - pm_Sz n0 ≤ R.slots)
    (kk : L' = L → ∀ (H1 : Heap) (locs1 : List Loc), pm_H D cA b0 b μ1 H1 → va_S (fun q => b0 ≤ q) s.heap H1 locs1 → W p l e R s m args below meth c H1 locs1 (μ1.1 - n0) (pm_Sz μ1.1 - pm_Sz n0) Q (F0 m pc' ls (st'.map (pm_v b0 b)))) : W p l e R s m args below meth c H locs (μ.1 - n0) (pm_Sz μ.1 - pm_Sz n0) Q (F0 m pc ls (st.map (pm_v b0 b))) := by
  obtain ⟨hx, hb, hml, hown, hts, hK, hE, hin, hscr⟩ := hX
  have hn : len = 1 := by simpa [pm_w] using hw
  subst hn
  simp only [pm_s2] at h
  split at h
  · split at h
    · rename_i hc
      split at h
      · cases h
      · rename_i hin2
        cases h
        exact pm_iast hx hb hK hH hS hc.1 hc.2 hin2 hd (kk rfl)
    · cases h
  · cases h
theorem pm_y_bastore (hX : pm_X p l R s m args meth c own E D cA b0 b ini nL) (hH : pm_H D cA b0 b μ H) (hS : va_S (fun q => b0 ≤ q) s.heap H locs) (hls : ls.size = nL) (hd : decode (pm_Ec E) pc = .ok (.bastore, len)) (hw : pm_w (.bastore) len = true) (h : pm_s2 E (.bastore) pc L st μ = some (pc', L', st', μ1)) (hn0 : n0 ≤ μ.1) (hR : μ1.1 - n0 ≤ R.cells ∧ pm_Sz μ1.1 - pm_Sz n0 ≤ R.slots)
    (kk : L' = L → ∀ (H1 : Heap) (locs1 : List Loc), pm_H D cA b0 b μ1 H1 → va_S (fun q => b0 ≤ q) s.heap H1 locs1 → W p l e R s m args below meth c H1 locs1 (μ1.1 - n0) (pm_Sz μ1.1 - pm_Sz n0) Q (F0 m pc' ls (st'.map (pm_v b0 b)))) : W p l e R s m args below meth c H locs (μ.1 - n0) (pm_Sz μ.1 - pm_Sz n0) Q (F0 m pc ls (st.map (pm_v b0 b))) := by
  obtain ⟨hx, hb, hml, hown, hts, hK, hE, hin, hscr⟩ := hX
  have hn : len = 1 := by simpa [pm_w] using hw
  subst hn
  simp only [pm_s2] at h
  split at h
  · split at h
    · rename_i hc
      split at h
      · cases h
      · rename_i hin2
        cases h
        exact pm_zast hx hb hK hH hS hc.1 hc.2 hin2 hd (kk rfl)
    · cases h
  · cases h
theorem pm_y_dastore (hX : pm_X p l R s m args meth c own E D cA b0 b ini nL) (hH : pm_H D cA b0 b μ H) (hS : va_S (fun q => b0 ≤ q) s.heap H locs) (hls : ls.size = nL) (hd : decode (pm_Ec E) pc = .ok (.dastore, len)) (hw : pm_w (.dastore) len = true) (h : pm_s2 E (.dastore) pc L st μ = some (pc', L', st', μ1)) (hn0 : n0 ≤ μ.1) (hR : μ1.1 - n0 ≤ R.cells ∧ pm_Sz μ1.1 - pm_Sz n0 ≤ R.slots)
    (kk : L' = L → ∀ (H1 : Heap) (locs1 : List Loc), pm_H D cA b0 b μ1 H1 → va_S (fun q => b0 ≤ q) s.heap H1 locs1 → W p l e R s m args below meth c H1 locs1 (μ1.1 - n0) (pm_Sz μ1.1 - pm_Sz n0) Q (F0 m pc' ls (st'.map (pm_v b0 b)))) : W p l e R s m args below meth c H locs (μ.1 - n0) (pm_Sz μ.1 - pm_Sz n0) Q (F0 m pc ls (st.map (pm_v b0 b))) := by
  obtain ⟨hx, hb, hml, hown, hts, hK, hE, hin, hscr⟩ := hX
  have hn : len = 1 := by simpa [pm_w] using hw
  subst hn
  simp only [pm_s2] at h
  split at h
  · split at h
    · rename_i hc
      split at h
      · cases h
      · rename_i hin2
        cases h
        exact pm_dast hx hb hK hH hS hc.1 hc.2 hin2 hd (kk rfl)
    · cases h
  · cases h
theorem pm_y_aastore (hX : pm_X p l R s m args meth c own E D cA b0 b ini nL) (hH : pm_H D cA b0 b μ H) (hS : va_S (fun q => b0 ≤ q) s.heap H locs) (hls : ls.size = nL) (hd : decode (pm_Ec E) pc = .ok (.aastore, len)) (hw : pm_w (.aastore) len = true) (h : pm_s2 E (.aastore) pc L st μ = some (pc', L', st', μ1)) (hn0 : n0 ≤ μ.1) (hR : μ1.1 - n0 ≤ R.cells ∧ pm_Sz μ1.1 - pm_Sz n0 ≤ R.slots)
    (kk : L' = L → ∀ (H1 : Heap) (locs1 : List Loc), pm_H D cA b0 b μ1 H1 → va_S (fun q => b0 ≤ q) s.heap H1 locs1 → W p l e R s m args below meth c H1 locs1 (μ1.1 - n0) (pm_Sz μ1.1 - pm_Sz n0) Q (F0 m pc' ls (st'.map (pm_v b0 b)))) : W p l e R s m args below meth c H locs (μ.1 - n0) (pm_Sz μ.1 - pm_Sz n0) Q (F0 m pc ls (st.map (pm_v b0 b))) := by
  obtain ⟨hx, hb, hml, hown, hts, hK, hE, hin, hscr⟩ := hX
  have hn : len = 1 := by simpa [pm_w] using hw
  subst hn
  simp only [pm_s2] at h
  split at h
  · split at h
    · rename_i hc
      split at h
      · cases h
      · rename_i hin2
        cases h
        exact pm_aast hx hb hK hH hS hc.1.1 hc.1.2 hc.2.1 hc.2.2 hin2 hd (kk rfl)
    · cases h
  · cases h
theorem pm_y_arraylength (hX : pm_X p l R s m args meth c own E D cA b0 b ini nL) (hH : pm_H D cA b0 b μ H) (hS : va_S (fun q => b0 ≤ q) s.heap H locs) (hls : ls.size = nL) (hd : decode (pm_Ec E) pc = .ok (.arraylength, len)) (hw : pm_w (.arraylength) len = true) (h : pm_s2 E (.arraylength) pc L st μ = some (pc', L', st', μ1)) (hn0 : n0 ≤ μ.1) (hR : μ1.1 - n0 ≤ R.cells ∧ pm_Sz μ1.1 - pm_Sz n0 ≤ R.slots)
    (kk : L' = L → ∀ (H1 : Heap) (locs1 : List Loc), pm_H D cA b0 b μ1 H1 → va_S (fun q => b0 ≤ q) s.heap H1 locs1 → W p l e R s m args below meth c H1 locs1 (μ1.1 - n0) (pm_Sz μ1.1 - pm_Sz n0) Q (F0 m pc' ls (st'.map (pm_v b0 b)))) : W p l e R s m args below meth c H locs (μ.1 - n0) (pm_Sz μ.1 - pm_Sz n0) Q (F0 m pc ls (st.map (pm_v b0 b))) := by
  obtain ⟨hx, hb, hml, hown, hts, hK, hE, hin, hscr⟩ := hX
  have hn : len = 1 := by simpa [pm_w] using hw
  subst hn
  simp only [pm_s2] at h
  split at h
  · split at h
    · rename_i i st0 hi
      subst hi
      split at h
      · rename_i q hq
        cases h
        obtain ⟨x1, x2, x3⟩ := hscr _ hq
        exact va_slen hx hb x1 x2 (Nat.not_le.mpr x3) hS hd (kk rfl H locs hH hS)
      · cases h
    · cases h
  · cases h
theorem pm_y_new {k : Nat} (hX : pm_X p l R s m args meth c own E D cA b0 b ini nL) (hH : pm_H D cA b0 b μ H) (hS : va_S (fun q => b0 ≤ q) s.heap H locs) (hls : ls.size = nL) (hd : decode (pm_Ec E) pc = .ok (.new k, len)) (hw : pm_w (.new k) len = true) (h : pm_s2 E (.new k) pc L st μ = some (pc', L', st', μ1)) (hn0 : n0 ≤ μ.1) (hR : μ1.1 - n0 ≤ R.cells ∧ pm_Sz μ1.1 - pm_Sz n0 ≤ R.slots)
    (kk : L' = L → ∀ (H1 : Heap) (locs1 : List Loc), pm_H D cA b0 b μ1 H1 → va_S (fun q => b0 ≤ q) s.heap H1 locs1 → W p l e R s m args below meth c H1 locs1 (μ1.1 - n0) (pm_Sz μ1.1 - pm_Sz n0) Q (F0 m pc' ls (st'.map (pm_v b0 b)))) : W p l e R s m args below meth c H locs (μ.1 - n0) (pm_Sz μ.1 - pm_Sz n0) Q (F0 m pc ls (st.map (pm_v b0 b))) := by
  obtain ⟨hx, hb, hml, hown, hts, hK, hE, hin, hscr⟩ := hX
  have hn : len = 3 := by simpa [pm_w] using hw
  subst hn
  simp only [pm_s2] at h
  split at h
  · rename_i cc hk
    split at h
    · rename_i hc
      cases h
      have hSz : pm_Sz (μ.1 + 1) = pm_Sz μ.1 + (pm_k μ.1).2 := rfl
      have hm := pm_Sz_mono hn0
      have ec : μ.1 - n0 + 1 = μ.1 + 1 - n0 := by omega
      have es : pm_Sz μ.1 - pm_Sz n0 + (pm_k μ.1).2 = pm_Sz (μ.1 + 1) - pm_Sz n0 := by omega
      exact pm_newobj hx hb hown hts hK hH hS hc.1 hc.2 (hE.2.2.2.2.1 _ _ hk) (by rw [ec]; exact hR.1) (by rw [es]; exact hR.2) hd (fun H1 g1 g2 => by rw [ec, es]; exact kk rfl H1 locs g1 g2)
    · cases h
  · cases h
theorem pm_y_newarray {t : ClassFile.ArrayType} (hX : pm_X p l R s m args meth c own E D cA b0 b ini nL) (hH : pm_H D cA b0 b μ H) (hS : va_S (fun q => b0 ≤ q) s.heap H locs) (hls : ls.size = nL) (hd : decode (pm_Ec E) pc = .ok (.newarray t, len)) (hw : pm_w (.newarray t) len = true) (h : pm_s2 E (.newarray t) pc L st μ = some (pc', L', st', μ1)) (hn0 : n0 ≤ μ.1) (hR : μ1.1 - n0 ≤ R.cells ∧ pm_Sz μ1.1 - pm_Sz n0 ≤ R.slots)
    (kk : L' = L → ∀ (H1 : Heap) (locs1 : List Loc), pm_H D cA b0 b μ1 H1 → va_S (fun q => b0 ≤ q) s.heap H1 locs1 → W p l e R s m args below meth c H1 locs1 (μ1.1 - n0) (pm_Sz μ1.1 - pm_Sz n0) Q (F0 m pc' ls (st'.map (pm_v b0 b)))) : W p l e R s m args below meth c H locs (μ.1 - n0) (pm_Sz μ.1 - pm_Sz n0) Q (F0 m pc ls (st.map (pm_v b0 b))) := by
  obtain ⟨hx, hb, hml, hown, hts, hK, hE, hin, hscr⟩ := hX
  have hn : len = 2 := by simpa [pm_w] using hw
  subst hn
  simp only [pm_s2] at h
  split at h
  · rename_i n st0
    split at h
    · rename_i hc
      cases h
      have hSz : pm_Sz (μ.1 + 1) = pm_Sz μ.1 + (pm_k μ.1).2 := rfl
      have hm := pm_Sz_mono hn0
      have ec : μ.1 - n0 + 1 = μ.1 + 1 - n0 := by omega
      have es : pm_Sz μ.1 - pm_Sz n0 + (pm_k μ.1).2 = pm_Sz (μ.1 + 1) - pm_Sz n0 := by omega
      rcases hc.1 with ⟨rfl, h2⟩ | ⟨rfl, h2⟩ | ⟨rfl, h2⟩
      · exact pm_newarr (k := 10) (ty := .int) (atype := .int) hx hb rfl (hts _ pm_acI) hH hS (by omega) (hK.1.2 0 _ rfl).2 (fun t => by simp [pm_et, h2, Op.newarray.typeOf]) (by decide) h2 (by omega) hc.2.1 hc.2.2 (by rw [ec]; exact hR.1) (by rw [es]; exact hR.2) hd (fun H1 g1 g2 => by rw [ec, es]; exact kk rfl H1 locs g1 g2)
      · exact pm_newarr (k := 11) (ty := .boolean) (atype := .boolean) hx hb rfl (hts _ pm_acZ) hH hS (by omega) (hK.1.2 1 _ rfl).2 (fun t => by simp [pm_et, h2, Op.newarray.typeOf]) (by decide) h2 (by omega) hc.2.1 hc.2.2 (by rw [ec]; exact hR.1) (by rw [es]; exact hR.2) hd (fun H1 g1 g2 => by rw [ec, es]; exact kk rfl H1 locs g1 g2)
      · exact pm_newarr (k := 12) (ty := .double) (atype := .double) hx hb rfl (hts _ pm_acD) hH hS (by omega) (hK.1.2 2 _ rfl).2 (fun t => by simp [pm_et, h2, Op.newarray.typeOf]) (by decide) h2 (by omega) hc.2.1 hc.2.2 (by rw [ec]; exact hR.1) (by rw [es]; exact hR.2) hd (fun H1 g1 g2 => by rw [ec, es]; exact kk rfl H1 locs g1 g2)
    · cases h
  · cases h
theorem pm_y_anewarray {k : Nat} (hX : pm_X p l R s m args meth c own E D cA b0 b ini nL) (hH : pm_H D cA b0 b μ H) (hS : va_S (fun q => b0 ≤ q) s.heap H locs) (hls : ls.size = nL) (hd : decode (pm_Ec E) pc = .ok (.anewarray k, len)) (hw : pm_w (.anewarray k) len = true) (h : pm_s2 E (.anewarray k) pc L st μ = some (pc', L', st', μ1)) (hn0 : n0 ≤ μ.1) (hR : μ1.1 - n0 ≤ R.cells ∧ pm_Sz μ1.1 - pm_Sz n0 ≤ R.slots)
    (kk : L' = L → ∀ (H1 : Heap) (locs1 : List Loc), pm_H D cA b0 b μ1 H1 → va_S (fun q => b0 ≤ q) s.heap H1 locs1 → W p l e R s m args below meth c H1 locs1 (μ1.1 - n0) (pm_Sz μ1.1 - pm_Sz n0) Q (F0 m pc' ls (st'.map (pm_v b0 b)))) : W p l e R s m args below meth c H locs (μ.1 - n0) (pm_Sz μ.1 - pm_Sz n0) Q (F0 m pc ls (st.map (pm_v b0 b))) := by
  obtain ⟨hx, hb, hml, hown, hts, hK, hE, hin, hscr⟩ := hX
  have hn : len = 3 := by simpa [pm_w] using hw
  subst hn
  simp only [pm_s2] at h
  split at h
  · rename_i n st0 cc hk
    split at h
    · rename_i hc
      cases h
      obtain ⟨h13, hc⟩ := hc
      have hO13 : pm_Oko own k 13 := by
        rcases h13 with h13 | h13
        · subst h13
          exact hE.2.2.2.2.1 _ _ hk
        · subst h13
          exact ⟨fun z => absurd z (by decide), fun _ => ((hE.2.2.2.2.1 _ _ hk).1 (by decide)).1⟩
      have hSz : pm_Sz (μ.1 + 1) = pm_Sz μ.1 + (pm_k μ.1).2 := rfl
      have hm := pm_Sz_mono hn0
      have ec : μ.1 - n0 + 1 = μ.1 + 1 - n0 := by omega
      have es : pm_Sz μ.1 - pm_Sz n0 + (pm_k μ.1).2 = pm_Sz (μ.1 + 1) - pm_Sz n0 := by omega
      exact pm_newrefs hx hb hown hts hK hH hS hO13 hc.1 hc.2.1 hc.2.2 (by rw [ec]; exact hR.1) (by rw [es]; exact hR.2) hd (fun H1 g1 g2 => by rw [ec, es]; exact kk rfl H1 locs g1 g2)
    · cases h
  · cases h
theorem pm_y_invokevirtual {k : Nat} (hX : pm_X p l R s m args meth c own E D cA b0 b ini nL) (hH : pm_H D cA b0 b μ H) (hS : va_S (fun q => b0 ≤ q) s.heap H locs) (hls : ls.size = nL) (hd : decode (pm_Ec E) pc = .ok (.invokevirtual k, len)) (hw : pm_w (.invokevirtual k) len = true) (h : pm_s2 E (.invokevirtual k) pc L st μ = some (pc', L', st', μ1)) (hn0 : n0 ≤ μ.1) (hR : μ1.1 - n0 ≤ R.cells ∧ pm_Sz μ1.1 - pm_Sz n0 ≤ R.slots)
    (kk : L' = L → ∀ (H1 : Heap) (locs1 : List Loc), pm_H D cA b0 b μ1 H1 → va_S (fun q => b0 ≤ q) s.heap H1 locs1 → W p l e R s m args below meth c H1 locs1 (μ1.1 - n0) (pm_Sz μ1.1 - pm_Sz n0) Q (F0 m pc' ls (st'.map (pm_v b0 b)))) : W p l e R s m args below meth c H locs (μ.1 - n0) (pm_Sz μ.1 - pm_Sz n0) Q (F0 m pc ls (st.map (pm_v b0 b))) := by
  obtain ⟨hx, hb, hml, hown, hts, hK, hE, hin, hscr⟩ := hX
  have hn : len = 3 := by simpa [pm_w] using hw
  subst hn
  simp only [pm_s2] at h
  split at h
  · rename_i q hk
    split at h
    · rename_i htag
      split at h
      · rename_i i rest hst
        split at h
        · rename_i hc
          obtain ⟨⟨r, μ2⟩, hr, e1⟩ := Option.map_eq_some_iff.mp h
          cases e1
          obtain ⟨y, cb, maxL, ret, fr2, lo2, hM, c1, c2, c3, c4, c5, c6, c7, c8, c9⟩ := hE.2.2.2.1 _ _ hk
          obtain ⟨hmon, hMet⟩ := hM D cA b0 b _ _ _ _ hr
          have hm := pm_Sz_mono hn0
          have hm2 := pm_Sz_mono hmon
          have ec : μ.1 - n0 + (μ2.1 - μ.1) = μ2.1 - n0 := by omega
          have es : pm_Sz μ.1 - pm_Sz n0 + (pm_Sz μ2.1 - pm_Sz μ.1) = pm_Sz μ2.1 - pm_Sz n0 := by omega
          obtain ⟨v1, v2, v3, v4, v5⟩ := c7 htag
          have hlt := pm_lt hH hc.1.2
          have hlen : (st.take q.2.1).length = q.2.1 := by
            rw [List.length_take]
            have : (st.drop q.2.1).length ≠ 0 := by rw [hst]; simp
            rw [List.length_drop] at this
            omega
          have hsplit : st = st.take q.2.1 ++ .ref i :: rest := by rw [← hst, List.take_append_drop]
          have hmap : st.map (pm_v b0 b) = ((st.take q.2.1).reverse.map (pm_v b0 b)).reverse ++ .ref (b0 + i) :: rest.map (pm_v b0 b) := by
            conv => lhs; rw [hsplit]
            rw [List.map_append, List.map_cons, pm_ref hlt, List.map_reverse, List.reverse_reverse]
          obtain ⟨cellV, o1, o2, o3, -⟩ := pm_obj hH hc.1.2 hc.1.1 v1
          have hws : ∀ w ∈ wsV own k (pm_cn q.2.2.1) y (Cond.code y cb maxL ret :: pm_T), w ∈ pm_T := by
            intro w hw
            rcases List.mem_append.mp hw with hw | hw
            · simp only [List.mem_cons, List.not_mem_nil, or_false] at hw
              rcases hw with rfl | rfl | rfl | rfl
              · exact v3
              · exact v4
              · exact v5
              · rw [← v2]; exact c4
            · rcases List.mem_cons.mp hw with rfl | hw
              · exact c3
              · exact hw
          have hrun := va_runV (R := R) (meth := meth) (below := below) (e := e) (locs := locs) (cells := μ.1 - n0) (slots := pm_Sz μ.1 - pm_Sz n0) (H := H) (b := b0 + i) (As := (st.take q.2.1).reverse.map (pm_v b0 b)) (rest := rest.map (pm_v b0 b)) (g := F0 m pc ls (st.map (pm_v b0 b))) ⟨hx, hb, hml, hown, hts⟩ hMet (cwV q.2.1 hts (pm_goodIn hws) rfl rfl rfl ⟨v2, c5.1, c5.2, c6⟩ ⟨c1, c2⟩) ⟨pm_blind, ⟨cellV, o1, by rw [o3]; rfl, by rw [o2]; exact (hK.1.1 _ _ (pm_vw v1)).2.1⟩, fun U hU hW => ⟨by rw [List.map_cons, pm_ref hlt], by rw [hU]; exact hH, pm_K.warm hW hK⟩⟩ rfl (by rw [List.length_map, List.length_reverse, hlen]) hls hmap (lv_room (pm_catsV _ _ _ hc.2)) hd ⟨by rw [ec]; exact hR.1, by rw [es]; exact hR.2⟩
          refine pm_call (a := #[]) hrun hS (fun H1 locs1 g1 g2 => ?_)
          rw [ec, es]
          have g := kk rfl H1 locs1 g1 g2
          rw [List.map_append] at g
          rw [show (Option.map (pm_v b0 b) r).toList = List.map (pm_v b0 b) r.toList by cases r <;> rfl]
          exact g
        · cases h
      · cases h
    · cases h
  · cases h
theorem pm_y_invokestatic {k : Nat} (hX : pm_X p l R s m args meth c own E D cA b0 b ini nL) (hH : pm_H D cA b0 b μ H) (hS : va_S (fun q => b0 ≤ q) s.heap H locs) (hls : ls.size = nL) (hd : decode (pm_Ec E) pc = .ok (.invokestatic k, len)) (hw : pm_w (.invokestatic k) len = true) (h : pm_s2 E (.invokestatic k) pc L st μ = some (pc', L', st', μ1)) (hn0 : n0 ≤ μ.1) (hR : μ1.1 - n0 ≤ R.cells ∧ pm_Sz μ1.1 - pm_Sz n0 ≤ R.slots)
    (kk : L' = L → ∀ (H1 : Heap) (locs1 : List Loc), pm_H D cA b0 b μ1 H1 → va_S (fun q => b0 ≤ q) s.heap H1 locs1 → W p l e R s m args below meth c H1 locs1 (μ1.1 - n0) (pm_Sz μ1.1 - pm_Sz n0) Q (F0 m pc' ls (st'.map (pm_v b0 b)))) : W p l e R s m args below meth c H locs (μ.1 - n0) (pm_Sz μ.1 - pm_Sz n0) Q (F0 m pc ls (st.map (pm_v b0 b))) := by
  obtain ⟨hx, hb, hml, hown, hts, hK, hE, hin, hscr⟩ := hX
  have hn : len = 3 := by simpa [pm_w] using hw
  subst hn
  simp only [pm_s2] at h
  have hrl : (7 : Nat) + 8 ≤ R.locals := by have := hE.2.2.2.2.2.2.2; omega
  split at h
  · rename_i hk
    obtain ⟨k1, k2, k3, k4⟩ := (hE.2.2.2.2.2.1 _ _ hk).1 rfl
    split at h
    · rename_i x rest
      split at h
      · rename_i hc
        cases h
        have h8 := pm_catsV b0 b rest hc.1
        exact vn_l2d hx hb (hml.trans hls.symm) hown (hts _ k1) (hts _ k2) (hts _ k3) (hts _ k4) hc.2 hE.2.2.2.2.2.2.1 (by have := hE.2.2.2.2.2.2.2; omega) hd (kk rfl H locs hH hS)
      · cases h
    · cases h
  · rename_i hk
    obtain ⟨k1, k2, k3, k4⟩ := (hE.2.2.2.2.2.1 _ _ hk).2.1 rfl
    split at h
    · rename_i x rest
      split at h
      · rename_i hc
        cases h
        have h8 := pm_catsV b0 b rest hc
        exact vn_d2l hx hb (hml.trans hls.symm) hown (hts _ k1) (hts _ k2) (hts _ k3) (hts _ k4) hE.2.2.2.2.2.2.1 (by have := hE.2.2.2.2.2.2.2; omega) hd (kk rfl H locs hH hS)
      · cases h
    · cases h
  · cases h
  · split at h
    · rename_i q hk
      split at h
      · rename_i hc
        obtain ⟨⟨r, μ2⟩, hr, e1⟩ := Option.map_eq_some_iff.mp h
        cases e1
        obtain ⟨y, cb, maxL, ret, fr2, lo2, hM, c1, c2, c3, c4, c5, c6, c7, c8, c9⟩ := hE.2.2.2.1 _ _ hk
        obtain ⟨hmon, hMet⟩ := hM D cA b0 b _ _ _ _ hr
        have hm := pm_Sz_mono hn0
        have hm2 := pm_Sz_mono hmon
        have ec : μ.1 - n0 + (μ2.1 - μ.1) = μ2.1 - n0 := by omega
        have es : pm_Sz μ.1 - pm_Sz n0 + (pm_Sz μ2.1 - pm_Sz μ.1) = pm_Sz μ2.1 - pm_Sz n0 := by omega
        obtain ⟨v3, v4⟩ := c8 hc.1
        have hlen : (st.take q.2.1).length = q.2.1 := by
          rw [List.length_take]
          have := hc.2.1
          omega
        have hmap : st.map (pm_v b0 b) = ((st.take q.2.1).reverse.map (pm_v b0 b)).reverse ++ (st.drop q.2.1).map (pm_v b0 b) := by
          rw [List.map_reverse, List.reverse_reverse, ← List.map_append, List.take_append_drop]
        have hws : ∀ w ∈ va_wsS own k y (Cond.code y cb maxL ret :: pm_T), w ∈ pm_T := by
          intro w hw
          rcases List.mem_append.mp hw with hw | hw
          · simp only [List.mem_cons, List.not_mem_nil, or_false] at hw
            rcases hw with rfl | rfl | rfl
            · exact v3
            · exact v4
            · exact c4
          · rcases List.mem_cons.mp hw with rfl | hw
            · exact c3
            · exact hw
        have hrun := va_runS (R := R) (meth := meth) (below := below) (e := e) (locs := locs) (cells := μ.1 - n0) (slots := pm_Sz μ.1 - pm_Sz n0) (H := H) (As := (st.take q.2.1).reverse.map (pm_v b0 b)) (rest := (st.drop q.2.1).map (pm_v b0 b)) (g := F0 m pc ls (st.map (pm_v b0 b))) ⟨hx, hb, hml, hown, hts⟩ hMet (va_cwS q.2.1 hts (pm_goodIn hws) rfl rfl rfl ⟨c5.1, c5.2, c6⟩ ⟨c1, c2⟩) ⟨pm_blind, fun U hU hW => ⟨rfl, by rw [hU]; exact hH, pm_K.warm hW hK⟩⟩ rfl (by rw [List.length_map, List.length_reverse, hlen]) hls hmap (lv_room (pm_catsV _ _ _ hc.2.2)) hd ⟨by rw [ec]; exact hR.1, by rw [es]; exact hR.2⟩
        refine pm_call (a := #[]) hrun hS (fun H1 locs1 g1 g2 => ?_)
        rw [ec, es]
        have g := kk rfl H1 locs1 g1 g2
        rw [List.map_append] at g
        rw [show (Option.map (pm_v b0 b) r).toList = List.map (pm_v b0 b) r.toList by cases r <;> rfl]
        exact g
      · cases h
    · cases h
theorem pm_y_invokespecial {k : Nat} (hX : pm_X p l R s m args meth c own E D cA b0 b ini nL) (hH : pm_H D cA b0 b μ H) (hS : va_S (fun q => b0 ≤ q) s.heap H locs) (hls : ls.size = nL) (hd : decode (pm_Ec E) pc = .ok (.invokespecial k, len)) (hw : pm_w (.invokespecial k) len = true) (h : pm_s2 E (.invokespecial k) pc L st μ = some (pc', L', st', μ1)) (hn0 : n0 ≤ μ.1) (hR : μ1.1 - n0 ≤ R.cells ∧ pm_Sz μ1.1 - pm_Sz n0 ≤ R.slots)
    (kk : L' = L → ∀ (H1 : Heap) (locs1 : List Loc), pm_H D cA b0 b μ1 H1 → va_S (fun q => b0 ≤ q) s.heap H1 locs1 → W p l e R s m args below meth c H1 locs1 (μ1.1 - n0) (pm_Sz μ1.1 - pm_Sz n0) Q (F0 m pc' ls (st'.map (pm_v b0 b)))) : W p l e R s m args below meth c H locs (μ.1 - n0) (pm_Sz μ.1 - pm_Sz n0) Q (F0 m pc ls (st.map (pm_v b0 b))) := by
  obtain ⟨hx, hb, hml, hown, hts, hK, hE, hin, hscr⟩ := hX
  have hn : len = 3 := by simpa [pm_w] using hw
  subst hn
  simp only [pm_s2] at h
  split at h
  · rename_i hk
    obtain ⟨k1, k2, k3⟩ := (hE.2.2.2.2.2.1 _ _ hk).2.2 rfl
    split at h
    · rename_i i rest
      split at h
      · rename_i hc
        cases h
        have h8 := pm_catsV b0 b st' hc
        refine W.objInit hx hb hown (hts _ k1) (hts _ k2) (hts _ k3) rfl (by rw [hml]; exact hls) rfl hd hE.2.2.2.2.2.2.1 ?_ (kk rfl H locs hH hS)
        have := hE.2.2.2.2.2.2.2
        show 2 * 0 + _ + 12 ≤ _
        omega
      · cases h
    · cases h
  · cases h
  · split at h
    · rename_i q hk
      split at h
      · rename_i htag
        split at h
        · rename_i i rest hst
          split at h
          · rename_i hc
            obtain ⟨⟨r, μ2⟩, hr, e1⟩ := Option.map_eq_some_iff.mp h
            cases e1
            obtain ⟨y, cb, maxL, ret, fr2, lo2, hM, c1, c2, c3, c4, c5, c6, c7, c8, c9⟩ := hE.2.2.2.1 _ _ hk
            obtain ⟨hmon, hMet⟩ := hM D cA b0 b _ _ _ _ hr
            have hm := pm_Sz_mono hn0
            have hm2 := pm_Sz_mono hmon
            have ec : μ.1 - n0 + (μ2.1 - μ.1) = μ2.1 - n0 := by omega
            have es : pm_Sz μ.1 - pm_Sz n0 + (pm_Sz μ2.1 - pm_Sz μ.1) = pm_Sz μ2.1 - pm_Sz n0 := by omega
            obtain ⟨v1, v2, v4, v3⟩ := c9 htag
            subst v2
            have hlt := pm_lt hH hc.1
            have hlen : (st.take q.2.1).length = q.2.1 := by
              rw [List.length_take]
              have : (st.drop q.2.1).length ≠ 0 := by rw [hst]; simp
              rw [List.length_drop] at this
              omega
            have hsplit : st = st.take q.2.1 ++ .ref i :: rest := by rw [← hst, List.take_append_drop]
            have hmap : st.map (pm_v b0 b) = ((st.take q.2.1).reverse.map (pm_v b0 b)).reverse ++ .ref (b0 + i) :: rest.map (pm_v b0 b) := by
              conv => lhs; rw [hsplit]
              rw [List.map_append, List.map_cons, pm_ref hlt, List.map_reverse, List.reverse_reverse]
            have hG : GoodIn pm_T (Cond.code y cb maxL none :: pm_T) := pm_goodIn (fun w hw => by
              rcases List.mem_cons.mp hw with rfl | hw
              · exact c3
              · exact hw)
            rcases v3 with v3 | ⟨host, v3⟩
            · have hrun := va_runI (R := R) (meth := meth) (below := below) (e := e) (locs := locs) (cells := μ.1 - n0) (slots := pm_Sz μ.1 - pm_Sz n0) (H := H) (b := b0 + i) (As := (st.take q.2.1).reverse.map (pm_v b0 b)) (rest := rest.map (pm_v b0 b)) (g := F0 m pc ls (st.map (pm_v b0 b))) ⟨hx, hb, hml, hown, hts⟩ hMet (cwI q.2.1 hts hG rfl rfl rfl (hts _ c4) (hts _ v3) (hts _ v4) v1 ⟨c5.1, c5.2, c6⟩ ⟨c1, c2⟩) ⟨pm_blind, fun U hU hW => ⟨by rw [List.map_cons, pm_ref hlt], by rw [hU]; exact hH, pm_K.warm hW hK⟩⟩ rfl (by rw [List.length_map, List.length_reverse, hlen]) hls hmap (lv_room (pm_catsV _ _ _ hc.2)) hd ⟨by rw [ec]; exact hR.1, by rw [es]; exact hR.2⟩
              refine pm_call (a := #[]) hrun hS (fun H1 locs1 g1 g2 => ?_)
              rw [ec, es]
              have g := kk rfl H1 locs1 g1 g2
              rw [List.map_append] at g
              rw [show (Option.map (pm_v b0 b) r).toList = List.map (pm_v b0 b) r.toList by cases r <;> rfl]
              exact g
            · have hrun := va_runIN (host := host) (R := R) (meth := meth) (below := below) (e := e) (locs := locs) (cells := μ.1 - n0) (slots := pm_Sz μ.1 - pm_Sz n0) (H := H) (b := b0 + i) (As := (st.take q.2.1).reverse.map (pm_v b0 b)) (rest := rest.map (pm_v b0 b)) (g := F0 m pc ls (st.map (pm_v b0 b))) ⟨hx, hb, hml, hown, hts⟩ hMet ⟨va_cnB q.2.1 hts hG rfl rfl rfl (by rw [v3]; exact hK.2.2) (hts _ c4) ⟨c5.1, c5.2, c6⟩ ⟨c1, c2⟩, v1, hts _ v4⟩ ⟨pm_blind, fun U hU hW => ⟨by rw [List.map_cons, pm_ref hlt], by rw [hU]; exact hH, pm_K.warm hW hK⟩⟩ rfl (by rw [List.length_map, List.length_reverse, hlen]) hls hmap (lv_room (pm_catsV _ _ _ hc.2)) hd ⟨by rw [ec]; exact hR.1, by rw [es]; exact hR.2⟩
              refine pm_call (a := #[]) hrun hS (fun H1 locs1 g1 g2 => ?_)
              rw [ec, es]
              have g := kk rfl H1 locs1 g1 g2
              rw [List.map_append] at g
              rw [show (Option.map (pm_v b0 b) r).toList = List.map (pm_v b0 b) r.toList by cases r <;> rfl]
              exact g
          · cases h
        · cases h
      · cases h
    · cases h
theorem pm_s2_sound {i : ClassFile.Instr} (hX : pm_X p l R s m args meth c own E D cA b0 b ini nL) (hH : pm_H D cA b0 b μ H) (hS : va_S (fun q => b0 ≤ q) s.heap H locs) (hls : ls.size = nL) (hd : decode (pm_Ec E) pc = .ok (i, len)) (hw : pm_w (i) len = true) (h : pm_s2 E (i) pc L st μ = some (pc', L', st', μ1)) (hn0 : n0 ≤ μ.1) (hR : μ1.1 - n0 ≤ R.cells ∧ pm_Sz μ1.1 - pm_Sz n0 ≤ R.slots)
    (kk : L' = L → ∀ (H1 : Heap) (locs1 : List Loc), pm_H D cA b0 b μ1 H1 → va_S (fun q => b0 ≤ q) s.heap H1 locs1 → W p l e R s m args below meth c H1 locs1 (μ1.1 - n0) (pm_Sz μ1.1 - pm_Sz n0) Q (F0 m pc' ls (st'.map (pm_v b0 b)))) : W p l e R s m args below meth c H locs (μ.1 - n0) (pm_Sz μ.1 - pm_Sz n0) Q (F0 m pc ls (st.map (pm_v b0 b))) := by
  cases i
  case ldc => exact pm_y_ldc hX hH hS hls hd hw h hn0 hR kk
  case ldc2_w => exact pm_y_ldc2_w hX hH hS hls hd hw h hn0 hR kk
  case getfield => exact pm_y_getfield hX hH hS hls hd hw h hn0 hR kk
  case putfield => exact pm_y_putfield hX hH hS hls hd hw h hn0 hR kk
  case iaload => exact pm_y_iaload hX hH hS hls hd hw h hn0 hR kk
  case baload => exact pm_y_baload hX hH hS hls hd hw h hn0 hR kk
  case daload => exact pm_y_daload hX hH hS hls hd hw h hn0 hR kk
  case aaload => exact pm_y_aaload hX hH hS hls hd hw h hn0 hR kk
  case iastore => exact pm_y_iastore hX hH hS hls hd hw h hn0 hR kk
  case bastore => exact pm_y_bastore hX hH hS hls hd hw h hn0 hR kk
  case dastore => exact pm_y_dastore hX hH hS hls hd hw h hn0 hR kk
  case aastore => exact pm_y_aastore hX hH hS hls hd hw h hn0 hR kk
  case arraylength => exact pm_y_arraylength hX hH hS hls hd hw h hn0 hR kk
  case new => exact pm_y_new hX hH hS hls hd hw h hn0 hR kk
  case newarray => exact pm_y_newarray hX hH hS hls hd hw h hn0 hR kk
  case anewarray => exact pm_y_anewarray hX hH hS hls hd hw h hn0 hR kk
  case invokevirtual => exact pm_y_invokevirtual hX hH hS hls hd hw h hn0 hR kk
  case invokestatic => exact pm_y_invokestatic hX hH hS hls hd hw h hn0 hR kk
  case invokespecial => exact pm_y_invokespecial hX hH hS hls hd hw h hn0 hR kk
  all_goals (simp [pm_s2] at h)
end PMW
