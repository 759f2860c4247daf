/-! THE PURE MACHINE IS SOUND, 4: objects made, calls, the whole -/
def pm_Sz : Nat → Nat
  | 0 => 0
  | n + 1 => pm_Sz n + (pm_k n).2
theorem pm_Sz_le : ∀ (k n : Nat), pm_Sz n ≤ pm_Sz (n + k)
  | 0, _ => Nat.le_refl _
  | k + 1, n => Nat.le_trans (pm_Sz_le k n) (Nat.le_add_right _ _)
theorem pm_Sz_mono {n k : Nat} (h : n ≤ k) : pm_Sz n ≤ pm_Sz k := by
  have := pm_Sz_le (k - n) n
  rwa [show n + (k - n) = k by omega] at this
/-- a method's contract: its code does what the function says -/
def pm_Met (l : Launch) (y : MethodName) (cc : ByteArray) (maxL : Nat) (ret : Option FieldType) (fr lo : Nat) (F : pm_F) : Prop := ∀ (D : va_G) (cA : Nat → ClassId) (b0 b : Nat) (a : List Value) (μ μ' : pm_M) (r : Option Value), F a μ = some (r, μ') → μ.1 ≤ μ'.1 ∧
  Met l y (Cond.code y cc maxL ret :: pm_T) ({ frames := fr, cells := μ'.1 - μ.1, slots := pm_Sz μ'.1 - pm_Sz μ.1, locals := lo }) (va_Pc (a.map (pm_v b0 b)) (fun U => pm_H D cA b0 b μ U.heap ∧ pm_K D cA U)) (fun _ st o t => (o = .returned (r.map (pm_v b0 b)) ∧ pm_H D cA b0 b μ' t.heap) ∧ va_F (fun q => b0 ≤ q) st t) (μ'.1 - μ.1) (pm_Sz μ'.1 - pm_Sz μ.1) (fun q => b0 ≤ q)
/-- what the tables must say for a call -/
def pm_Cal (l : Launch) (fr lo : Nat) (own : String) (k : Nat) (q : Nat × Nat × Nat × pm_F) : Prop := ∃ (y : MethodName) (cc : ByteArray) (maxL : Nat) (ret : Option FieldType) (fr' lo' : Nat), pm_Met l y cc maxL ret fr' lo' q.2.2.2 ∧ fr' + 1 ≤ fr ∧ 8 + (maxL + 11) + lo' ≤ lo ∧ Cond.code y cc maxL ret ∈ pm_T ∧ Cond.initialized y.cls ∈ pm_T ∧ (y.cls ≠ "java/lang/invoke/MethodHandle" ∧ y.cls ≠ "java/lang/invoke/VarHandle") ∧ (parseMethodDescriptor y.desc).map (fun d => d.parameters.length) = some q.2.1 ∧
  (q.1 = 0 → q.2.2.1 < 6 ∧ y.cls = pm_cn q.2.2.1 ∧ Cond.methodLink own k y ∈ pm_T ∧ Cond.instanceMethod y ∈ pm_T ∧ Cond.selects (pm_cn q.2.2.1) y y ∈ pm_T) ∧
  (q.1 = 1 → Cond.methodLink own k y ∈ pm_T ∧ Cond.static y ∈ pm_T) ∧
  (q.1 = 2 → y.name = "<init>" ∧ ret = none ∧ Cond.instanceMethod y ∈ pm_T ∧ (Cond.methodLink own k y ∈ pm_T ∨ ∃ host, Cond.methodLinkNest own k y host = pm_nest))
def pm_l2d : MethodName := ⟨"java/lang/Double", "longBitsToDouble", "(J)D"⟩
def pm_d2l : MethodName := ⟨"java/lang/Double", "doubleToRawLongBits", "(D)J"⟩
def pm_Fok (own : String) (k : Nat) (q : Nat × Nat) : Prop := q.1 < 6 ∧ q.2 < pm_cN q.1 ∧ Cond.fieldLink own k (pm_ct q.1 q.2).1 (pm_ct q.1 q.2).2.1 (pm_ct q.1 q.2).2.2.1 ∈ pm_T
def pm_Kok (own : String) (k : Nat) (v : Value) : Prop := match v with
  | .int x => Cond.constant own k x ∈ pm_T
  | .long x => Cond.constantLong own k x ∈ pm_T
  | .double x => Cond.constantDouble own k x ∈ pm_T
  | _ => True
def pm_Oko (own : String) (k c : Nat) : Prop := (c < 6 → Cond.classLink own k (pm_cn c) ∈ pm_T ∧ Cond.instantiable (pm_cn c) (pm_cN c) ∈ pm_T ∧ Cond.initialized (pm_cn c) ∈ pm_T) ∧ (c = 13 → Cond.classLink own k RX1 ∈ pm_T)
def pm_Nok (own : String) (k n : Nat) : Prop := (n = 0 → Cond.methodLink own k pm_l2d ∈ pm_T ∧ Cond.native pm_l2d ∈ pm_T ∧ Cond.static pm_l2d ∈ pm_T ∧ Cond.initialized "java/lang/Double" ∈ pm_T) ∧ (n = 1 → Cond.methodLink own k pm_d2l ∈ pm_T ∧ Cond.native pm_d2l ∈ pm_T ∧ Cond.static pm_d2l ∈ pm_T ∧ Cond.initialized "java/lang/Double" ∈ pm_T) ∧
  (n = 2 → Cond.methodLink own k objectInit ∈ pm_T ∧ Cond.instanceMethod objectInit ∈ pm_T ∧ Cond.code objectInit ⟨#[0xb1]⟩ 1 none ∈ pm_T)
/-- the tables hold all that the code is read with -/
def pm_Ok (l : Launch) (fr lo : Nat) (own : String) (ini : Bool) (E : pm_E) : Prop := (∀ k q, pm_Eg E k = some q → pm_Fok own k q) ∧ (∀ k q, pm_Ep E k = some q → pm_Fok own k q ∧ ((pm_ct q.1 q.2).2.2.2 = false ∨ (ini = true ∧ (pm_ct q.1 q.2).1 = own))) ∧
  (∀ k v, pm_Ek E k = some v → pm_Kok own k v) ∧ (∀ k q, pm_Ef E k = some q → pm_Cal l fr lo own k q) ∧ (∀ k c, pm_Eo E k = some c → pm_Oko own k c) ∧ (∀ k n, pm_En E k = some n → pm_Nok own k n) ∧ (1 ≤ fr ∧ 27 ≤ lo)
theorem pm_goodIn {ws : List Cond} (h : ∀ w ∈ ws, w ∈ pm_T) : GoodIn pm_T ws := fun w hw => ⟨h w hw, good_of_word (pm_T_good (h w hw))⟩
def pm_tin (ty : FieldType) : Prop := ty = .int ∨ ty = .boolean ∨ ty = .double ∨ (∃ q, ty = .object q) ∨ (∃ q, ty = .array q)
theorem pm_ty_in : ∀ (c t : Nat), pm_tin (pm_ty c t)
  | 0, t => by show pm_tin (tyX1 t); unfold tyX1; split <;> simp [pm_tin]
  | 1, t => by show pm_tin (tyX4 t); unfold tyX4; simp [pm_tin]
  | 2, t => by show pm_tin (tyX5 t); unfold tyX5; split <;> simp [pm_tin]
  | 3, t => by show pm_tin (tyX6 t); unfold tyX6; split <;> simp [pm_tin]
  | 4, t => by show pm_tin (tyX7 t); unfold tyX7; split <;> simp [pm_tin]
  | _ + 5, t => by show pm_tin (tyX8 t); unfold tyX8; split <;> simp [pm_tin]
theorem pm_et_in (i t : Nat) : pm_tin (pm_et i t) := by
  unfold pm_et
  split
  · exact pm_ty_in _ t
  · split
    · simp [pm_tin]
    · split
      · simp [pm_tin]
      · split <;> simp [pm_tin]
theorem pm_p_one {μ μ' : pm_M} {i s : Nat} {ty : FieldType} {v : Value} (h : pm_p μ i s ty v = some μ') : μ'.1 = μ.1 := by
  unfold pm_p at h
  split at h
  · split at h
    · cases h; rfl
    · cases h
  · split at h
    · split at h
      · cases h; rfl
      · cases h
    · cases h
  · split at h
    · cases h; rfl
    · cases h
  · split at h
    · cases h; rfl
    · cases h
  · split at h
    · cases h; rfl
    · cases h
  · cases h
theorem pm_alloc {D : va_G} {cA : Nat → ClassId} {b0 b : Nat} {μ : pm_M} {H H1 : Heap} (hH : pm_H D cA b0 b μ H) (hlt : μ.1 < 162) (hz : H1.size = H.size + 1) (oq : ∀ q, q < H.size → H1[q]? = H[q]?) (hc : pm_A D cA b0 b (fun t => defaultValue (pm_et μ.1 t)) H1 μ.1) : pm_H D cA b0 b (μ.1 + 1, μ.2) H1 := by
  obtain ⟨h1, h2, h3, h4⟩ := hH
  refine ⟨by rw [hz, h1]; rfl, hlt, fun i hi => ?_, fun i hi hi2 t => h4 i (by dsimp only at hi; omega) hi2 t⟩
  dsimp only at hi
  by_cases e : i = μ.1
  · subst e
    refine pm_A_kept hc (fun t => ?_) rfl
    show pm_v b0 b (pm_g μ μ.1 t (pm_et μ.1 t)) = _
    obtain ⟨z1, z2, z3⟩ := h4 μ.1 (Nat.le_refl _) hlt t
    rcases pm_et_in μ.1 t with h | h | h | ⟨q, h⟩ | ⟨q, h⟩ <;> rw [h] <;> simp [pm_g, z1, z2, z3, pm_o, pm_v, defaultValue]
  · exact pm_A_kept (h3 i (by omega)) (fun t => rfl) (oq _ (by omega))
theorem pm_cats (l : List Value) (h : l.length ≤ 4) : (l.map fun v => v.category).sum ≤ 8 := by
  have : ∀ (l : List Value), (l.map fun v => v.category).sum ≤ 2 * l.length := by
    intro l
    induction l with
    | nil => simp
    | cons a l ih =>
      simp only [List.map_cons, List.sum_cons, List.length_cons]
      rcases pm_cat12 a with e | e <;> omega
  have := this l
  omega
theorem pm_catsV (b0 b : Nat) (l : List Value) (h : l.length ≤ 4) : ((l.map (pm_v b0 b)).map fun v => v.category).sum ≤ 8 := pm_cats _ (by rw [List.length_map]; exact h)
section PMC
variable {p : Program} {l : Launch} {e : Env} {R : Room} {s : State} {m : MethodId} {args : Array Value} {below : List Frame} {meth : Method} {c : Code} {H : Heap} {locs : List Loc} {cells slots : Nat} {Q : State → Prop}
variable {cc : ByteArray} {pc pc' nL len b0 b : Nat} {ls : Array Slot} {rest : List Value} {D : va_G} {cA : Nat → ClassId} {μ μ' : pm_M} {i n0 : Nat} {own : String}
/-- behind a call -/
theorem pm_call {mc ms : Nat} {st0 : List Value} {a : Array Value} {r : Option Value} (hr : va_Run p l e R s m args below meth c H locs cells slots mc ms (F0 m pc ls st0) rest ((fun (_ : Array Value) (st : State) (o : Outcome) (t : State) => (o = .returned (r.map (pm_v b0 b)) ∧ pm_H D cA b0 b μ' t.heap) ∧ va_F (fun q => b0 ≤ q) st t) a) (fun q => b0 ≤ q)) (hS : va_S (fun q => b0 ≤ q) s.heap H locs)
    (kk : ∀ (H1 : Heap) (locs1 : List Loc), pm_H D cA b0 b μ' H1 → va_S (fun q => b0 ≤ q) s.heap H1 locs1 → W p l e R s m args below meth c H1 locs1 (cells + mc) (slots + ms) Q (F0 m (pc + 3) ls ((r.map (pm_v b0 b)).toList ++ rest))) : W p l e R s m args below meth c H locs cells slots Q (F0 m pc ls st0) := by
  intro T hT X
  obtain ⟨v, st₀, t, T', L, h0, X', hL, e1, e2, ⟨⟨hv, hh⟩, hz, hk⟩, st⟩ := hr T hT X
  cases hv
  rw [h0] at hz hk
  obtain ⟨t2, a1, b1⟩ := kk T'.heap (locs ++ L) (by rw [e1]; exact hh)
    ⟨Nat.le_trans hS.1 (by rw [e1]; exact hz), fun q h1 h2 => by rw [e1, hk q (Nat.lt_of_lt_of_le h1 hS.1) h2]; exact hS.2.1 q h1 h2, fun q hq => by
      rcases List.mem_append.mp hq with h | h
      · exact hS.2.2 q h
      · exact hL q h⟩ T' rfl X'
  exact ⟨t2, st t2 a1, b1⟩
theorem pm_blind {av : List Value} : FrameBlind (va_Pc av (fun U => pm_H D cA b0 b μ U.heap ∧ pm_K D cA U)) := fun a U g mk q => ⟨q.1, q.2.1, pm_K.same (u := U) (U := U.calling g mk a) rfl q.2.2⟩
theorem pm_newobj (hx : p.tables.exec = Jvm.exec) (hb : c.code = cc) (hown : s.vm.findClass own = some m.cls) (hts : ∀ w ∈ pm_T, w.before args s = true) (hK : pm_K D cA s) (hH : pm_H D cA b0 b μ H) (hS : va_S (fun q => b0 ≤ q) s.heap H locs) {k index : Nat} (h6 : k < 6) (hk : (pm_k μ.1).1 = k) (ho : pm_Oko own index k) (hcells : cells + 1 ≤ R.cells) (hslots : slots + (pm_k μ.1).2 ≤ R.slots) (hd : decode cc pc = .ok (.new index, 3))
    (kk : ∀ (H1 : Heap), pm_H D cA b0 b (μ.1 + 1, μ.2) H1 → va_S (fun q => b0 ≤ q) s.heap H1 locs → W p l e R s m args below meth c H1 locs (cells + 1) (slots + (pm_k μ.1).2) Q (F0 m (pc + 3) ls (pm_v b0 b (.ref μ.1) :: rest))) : W p l e R s m args below meth c H locs cells slots Q (F0 m pc ls rest) := by
  have hlt : μ.1 < 162 := pm_k_lt (by omega)
  have hN := pm_kN μ.1 hlt (by omega)
  rw [hk] at hN
  obtain ⟨o1, o2, o3⟩ := ho.1 h6
  have hKn := hK.1.1 k _ (pm_vw h6)
  rw [hN.2] at hslots kk
  refine W.newcK hx hb hown (hts _ o1) (hts _ o2) (hts _ o3) rfl hd hcells hslots hKn.2.1 rfl fun H1 kC hkC e1 z1 oq => ?_
  rw [pm_ref hlt] at kk
  rw [hH.1] at e1
  have g := kk H1 (pm_alloc hH hlt z1 oq ?_) ⟨by rw [z1]; exact Nat.le_succ_of_le hS.1, fun q h1 h2 => (oq q (Nat.lt_of_lt_of_le h1 hS.1)).trans (hS.2.1 q h1 h2), hS.2.2⟩
  · rw [hH.1]; exact g
  · have hB := u_born (pm_ty k) hts (pm_ws h6) hKn hkC e1 (pm_tyok h6)
    unfold pm_A
    rw [hk, if_pos (by omega), hN.2]
    refine hB.to (fun t ht => ?_)
    unfold pm_et
    rw [hk, if_pos (by omega)]
theorem pm_newarr (hx : p.tables.exec = Jvm.exec) (hb : c.code = cc) {atype : ClassFile.ArrayType} {ty : FieldType} (hty : Op.newarray.typeOf atype = ty) (hts : (Cond.arrayClass ty).before args s = true) (hH : pm_H D cA b0 b μ H) (hS : va_S (fun q => b0 ≤ q) s.heap H locs) {k : Nat} {n : Int32} (h10 : 10 ≤ k) (hRA : s.vm.findClass ("[" ++ ty.toString) = some (cA k)) (het : ∀ t, pm_et μ.1 t = ty) (hbyt : componentBytes ty ≤ 8) (hk : (pm_k μ.1).1 = k) (h99 : k ≠ 99) (hn : ¬ n < 0) (hn2 : n.toNatClampNeg = (pm_k μ.1).2) (hcells : cells + 1 ≤ R.cells) (hslots : slots + (pm_k μ.1).2 ≤ R.slots) (hd : decode cc pc = .ok (.newarray atype, 2))
    (kk : ∀ (H1 : Heap), pm_H D cA b0 b (μ.1 + 1, μ.2) H1 → va_S (fun q => b0 ≤ q) s.heap H1 locs → W p l e R s m args below meth c H1 locs (cells + 1) (slots + (pm_k μ.1).2) Q (F0 m (pc + 2) ls (pm_v b0 b (.ref μ.1) :: rest))) : W p l e R s m args below meth c H locs cells slots Q (F0 m pc ls (.int n :: rest)) := by
  have hlt : μ.1 < 162 := pm_k_lt (by omega)
  have hS2 := pm_kS μ.1 hlt
  subst hty
  refine va_newaK hx hb hts rfl hd rfl hn hn2 ?_ hcells hslots rfl fun H1 cA' e1 z1 oq hAr hNm => ?_
  · have : (pm_k μ.1).2 * componentBytes (Op.newarray.typeOf atype) ≤ 480 * 8 := Nat.mul_le_mul hS2 hbyt
    omega
  have hcA : cA' = cA k := Option.some.inj (hNm.symm.trans hRA)
  subst hcA
  rw [pm_ref hlt] at kk
  rw [hH.1] at e1
  have g := kk H1 (pm_alloc hH hlt z1 oq ?_) ⟨by rw [z1]; exact Nat.le_succ_of_le hS.1, fun q h1 h2 => (oq q (Nat.lt_of_lt_of_le h1 hS.1)).trans (hS.2.1 q h1 h2), hS.2.2⟩
  · rw [hH.1]; exact g
  · refine pm_fin hk h10 ?_
    rw [e1]
    simp only [het]
theorem pm_newrefs (hx : p.tables.exec = Jvm.exec) (hb : c.code = cc) (hown : s.vm.findClass own = some m.cls) (hts : ∀ w ∈ pm_T, w.before args s = true) (hK : pm_K D cA s) (hH : pm_H D cA b0 b μ H) (hS : va_S (fun q => b0 ≤ q) s.heap H locs) {index : Nat} {n : Int32} (ho : pm_Oko own index 13) (hk : (pm_k μ.1).1 = 13) (hn : ¬ n < 0) (hn2 : n.toNatClampNeg = (pm_k μ.1).2) (hcells : cells + 1 ≤ R.cells) (hslots : slots + (pm_k μ.1).2 ≤ R.slots) (hd : decode cc pc = .ok (.anewarray index, 3))
    (kk : ∀ (H1 : Heap), pm_H D cA b0 b (μ.1 + 1, μ.2) H1 → va_S (fun q => b0 ≤ q) s.heap H1 locs → W p l e R s m args below meth c H1 locs (cells + 1) (slots + (pm_k μ.1).2) Q (F0 m (pc + 3) ls (pm_v b0 b (.ref μ.1) :: rest))) : W p l e R s m args below meth c H locs cells slots Q (F0 m pc ls (.int n :: rest)) := by
  have hlt : μ.1 < 162 := pm_k_lt (by omega)
  have hS2 := pm_kS μ.1 hlt
  have o1 := ho.2 rfl
  rw [← hn2] at hslots kk
  refine W.anew hx hb hown (hts _ o1) (va_AO.use hK.2.1) rfl hd rfl hn (by omega) hcells hslots fun cA' kA comp f1 f2 f3 f4 => ?_
  generalize hH1 : H.push ({ cls := cA', slots := Array.replicate n.toNatClampNeg .null, vm := .none } : Cell) = H1
  have z1 : H1.size = H.size + 1 := by rw [← hH1, Array.size_push]
  have e1 : H1[H.size]? = some (arrV cA' n.toNatClampNeg (fun _ => .null)) := by rw [← hH1, Array.getElem?_push_size, ← arrV_new]
  have oq : ∀ q : Nat, q < H.size → H1[q]? = H[q]? := fun q hq => by rw [← hH1, Array.getElem?_push, if_neg (Nat.ne_of_lt hq)]
  have hRA := (hK.1.2 3 _ rfl).2
  obtain ⟨kA2, comp2, g1, g2, g3, g4⟩ := hRA
  have hcA : cA' = cA 13 := Option.some.inj (f1.symm.trans g4)
  subst hcA
  rw [pm_ref hlt] at kk
  rw [hH.1] at e1
  have g := kk H1 (pm_alloc hH hlt z1 oq ?_) ⟨by rw [z1]; exact Nat.le_succ_of_le hS.1, fun q h1 h2 => (oq q (Nat.lt_of_lt_of_le h1 hS.1)).trans (hS.2.1 q h1 h2), hS.2.2⟩
  · rw [hH.1]; exact g
  · refine pm_fin hk (by omega) ?_
    rw [e1, hn2]
    simp [pm_et, hk, defaultValue]
end PMC
