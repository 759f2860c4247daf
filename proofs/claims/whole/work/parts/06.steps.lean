/-! THE PURE MACHINE IS SOUND, 3: the instructions over the memory, by the kit's rows -/
section PMM
variable {p : Program} {l : Launch} {e : Env} {R : Room} {s : State} {m : MethodId} {args : Array Value} {below : List Frame} {meth : Method} {c : Code} {H : Heap} {locs : List Loc} {cells slots : Nat} {Q : State → Prop}
variable {cc : ByteArray} {pc nL len b0 b : Nat} {ls : Array Slot} {rest : List Value} {D : va_G} {cA : Nat → ClassId} {μ μ' : pm_M} {H0 : Heap} {i : Nat} {own : String}
theorem pm_KA (hK : pm_K D cA s) : va_K D vwCl [] s := hK.1.sub [] rfl
theorem pm_obj (hH : pm_H D cA b0 b μ H) (hi : i < μ.1) {k : Nat} (hk : (pm_k i).1 = k) (h6 : k < 6) : t_OB (b0 + i) (D.1 k) (pm_cN k) (D.2 k) H (pm_V b0 b μ i) := by
  have h := hH.2.2.1 i hi
  have h2 := hH.2.1
  unfold pm_A at h
  rw [if_pos (by omega)] at h
  rw [(pm_kN i (by omega) (by omega)).2, hk] at h
  exact h
theorem pm_arr (hH : pm_H D cA b0 b μ H) (hi : i < μ.1) {k : Nat} (hk : (pm_k i).1 = k) (h6 : 10 ≤ k) : H[b0 + i]? = some (arrV (cA k) (pm_k i).2 (pm_V b0 b μ i)) := by
  have h := hH.2.2.1 i hi
  unfold pm_A at h
  rw [if_neg (by omega), hk] at h
  exact h
theorem pm_lt (hH : pm_H D cA b0 b μ H) (hi : i < μ.1) : i < 162 := by have := hH.2.1; omega
theorem pm_VI {k j : Nat} (hk : (pm_k i).1 = k) (h : k = 10 ∨ k = 11) : pm_V b0 b μ i j = .int (μ.2.1 i j) := by
  unfold pm_V pm_et pm_g pm_l
  rcases h with rfl | rfl <;> simp [hk, pm_v]
theorem pm_VD {j : Nat} (hk : (pm_k i).1 = 12) : pm_V b0 b μ i j = .double (μ.2.2.1 i j) := by
  unfold pm_V pm_et pm_g pm_l
  simp [hk, pm_v]
theorem pm_VR {j : Nat} (hk : (pm_k i).1 = 13) : pm_V b0 b μ i j = pm_v b0 b (pm_o (μ.2.2.2 i j)) := by
  unfold pm_V pm_et pm_g pm_l
  simp [hk]
theorem pm_lA {k j : Nat} (hk : (pm_k i).1 = k) (h : 10 ≤ k) : pm_l i j = (i, j) := by
  unfold pm_l
  rw [if_neg (by omega)]
theorem pm_ref (i0 : i < 162) : pm_v b0 b (.ref i) = .ref (b0 + i) := by
  show Value.ref (if i = 9999 then b else b0 + i) = _
  rw [if_neg (by omega)]
theorem pm_getf (hx : p.tables.exec = Jvm.exec) (hb : c.code = cc) (hown : s.vm.findClass own = some m.cls) (hts : ∀ w ∈ pm_T, w.before args s = true) (hK : pm_K D cA s) (hH : pm_H D cA b0 b μ H) {k f index : Nat} (hk : (pm_k i).1 = k) (hi : i < μ.1) (h6 : k < 6) (hf : f < pm_cN k) (hl : Cond.fieldLink own index (pm_ct k f).1 (pm_ct k f).2.1 (pm_ct k f).2.2.1 ∈ pm_T) (hd : decode cc pc = .ok (.getfield index, 3))
    (kk : W p l e R s m args below meth c H locs cells slots Q (F0 m (pc + 3) ls (pm_v b0 b (pm_g μ i f (pm_ty k f)) :: rest))) : W p l e R s m args below meth c H locs cells slots Q (F0 m pc ls (pm_v b0 b (.ref i) :: rest)) := by
  rw [pm_ref (pm_lt hH hi)]
  have hO := pm_obj hH hi hk h6
  have hP : va_P D vwCl [(b0 + i, .inr (k, (List.range (pm_cN k)).map (pm_V b0 b μ i)))] H := by
    intro j q hq
    have hj : j < 1 := (List.getElem?_eq_some_iff.mp hq).1
    rw [show j = 0 by omega] at hq
    cases hq
    refine ⟨_, pm_vw h6, hO.to (fun t ht => ?_)⟩
    simp [vp_V, List.getD, ht]
  refine va_get (C := pm_cn k) (T := pm_ct k) (N := pm_cN k) hx hb hts (pm_ws h6) hown (pm_KA hK) hP 0 rfl (pm_vw h6) f hf (hts _ hl) (fun x hx => hx) (v := pm_v b0 b (pm_g μ i f (pm_ty k f))) ?_ hd kk
  rw [List.getElem?_map, List.getElem?_range hf]
  show some (pm_V b0 b μ i f) = _
  unfold pm_V pm_et
  rw [hk, if_pos (by omega)]
/-- a store into a field -/
theorem pm_putf (hx : p.tables.exec = Jvm.exec) (hb : c.code = cc) (hown : s.vm.findClass own = some m.cls) (hts : ∀ w ∈ pm_T, w.before args s = true) (hK : pm_K D cA s) (hH : pm_H D cA b0 b μ H) (hS : va_S (fun q => b0 ≤ q) H0 H locs) {k f index : Nat} {v : Value} (hk : (pm_k i).1 = k) (hi : i < μ.1) (h6 : k < 6) (hf : f < pm_cN k) (hl : Cond.fieldLink own index (pm_ct k f).1 (pm_ct k f).2.1 (pm_ct k f).2.2.1 ∈ pm_T) (hfin : (pm_ct k f).2.2.2 = false ∨ (meth.name = "<init>" ∧ (pm_ct k f).1 = own)) (hp : pm_p μ i f (pm_ty k f) v = some μ') (hd : decode cc pc = .ok (.putfield index, 3))
    (kk : ∀ (H1 : Heap) (locs1 : List Loc), pm_H D cA b0 b μ' H1 → va_S (fun q => b0 ≤ q) H0 H1 locs1 → W p l e R s m args below meth c H1 locs1 cells slots Q (F0 m (pc + 3) ls rest)) : W p l e R s m args below meth c H locs cells slots Q (F0 m pc ls (pm_v b0 b v :: pm_v b0 b (.ref i) :: rest)) := by
  rw [pm_ref (pm_lt hH hi)]
  have hO := pm_obj hH hi hk h6
  have het : pm_et i f = pm_ty k f := by unfold pm_et; rw [hk, if_pos (by omega)]
  rw [← het] at hp
  obtain ⟨hSt, hn, hfit⟩ := pm_p_St (b0 := b0) (b := b) (pm_lt hH hi) hp
  rw [het] at hn hfit
  have hc := pm_vw h6
  have hap := va_apart (own := own) (ci := k) hts (pm_ws h6) (pm_ty k) (pm_tyok h6) (pm_nm h6) (pm_KA hK) hc
  obtain ⟨cell, q1, q2, q3, q4⟩ := hO
  obtain ⟨hSl, hfc, kC, hkC, hkind⟩ := hK.1.1 k _ hc
  obtain ⟨cf, kf, fi, fd, hi2, hsl⟩ := hSl f hf
  have hst := (u_facts hfc hkC (u_lays hts (pm_ws h6) hf) hi2).1
  have fin : ∀ (H' : Heap), H'[b0 + i]? = some (cell.setSlot (D.2 k f) (pm_v b0 b v)) → H'.size = H.size → (∀ q, q ≠ b0 + i → H'[q]? = H[q]?) → pm_H D cA b0 b μ' H' := by
    intro H' e1 e2 e3
    refine pm_H_upd hH hi hSt ?_ e2 e3
    unfold pm_A
    rw [hk, if_pos (by omega), show (pm_k i).2 = pm_cN k by rw [(pm_kN i (pm_lt hH hi) (by omega)).2, hk]]
    exact ⟨_, e1, q2, q3, t_set q4 hap hf _⟩
  have hlay := hts _ (pm_ws h6 _ (u_in_lay hf))
  unfold u_lay at hlay
  rcases hfin with hfin | ⟨hin, hdecl⟩
  · rw [if_neg (by rw [hfin]; decide)] at hlay
    have h7 := u_store hfc hkC hkind hlay hi2 (pm_tyok h6 f hf) hn hfit
    refine W.putK hx hb (f := fd) ⟨hown, hts _ hl, ⟨_, _, _, hi2⟩, hst⟩ (by rw [q2]; exact h7) q1 q3 (by rw [hsl]; exact k2_hasslot (q4 f hf)) rfl rfl hd fun H' e1 e2 e3 => ?_
    rw [hsl] at e1 ⊢
    exact kk H' _ (fin H' e1 e2 e3) (hS.put e2 e3 (Nat.le_add_right _ _))
  · by_cases hfl : (pm_ct k f).2.2.2 = true
    · rw [if_pos hfl] at hlay
      have hcf : m.cls = cf := by
        obtain ⟨_, _, c', _, _, _, -, -, hf', -, -, -, hown2, -⟩ := Cond.laysFinal_spec hlay
        have e1 : c' = cf := by have := hi2.symm.trans hf'; simp at this; exact this.1.symm
        rw [hdecl] at hown2
        rw [← e1]; exact Option.some.inj (hown.symm.trans hown2)
      have h7 := u_fits hfc hkC hkind (Or.inr hlay) hi2 (pm_tyok h6 f hf) hn hfit
      refine W.putFinK hx hb hown (hts _ hl) hi2 hst hcf hin (by rw [q2]; exact h7) q1 q3 (by rw [hsl]; exact k2_hasslot (q4 f hf)) rfl rfl hd fun H' e1 e2 e3 => ?_
      rw [hsl] at e1 ⊢
      exact kk H' _ (fin H' e1 e2 e3) (hS.put e2 e3 (Nat.le_add_right _ _))
    · rw [if_neg hfl] at hlay
      have h7 := u_store hfc hkC hkind hlay hi2 (pm_tyok h6 f hf) hn hfit
      refine W.putK hx hb (f := fd) ⟨hown, hts _ hl, ⟨_, _, _, hi2⟩, hst⟩ (by rw [q2]; exact h7) q1 q3 (by rw [hsl]; exact k2_hasslot (q4 f hf)) rfl rfl hd fun H' e1 e2 e3 => ?_
      rw [hsl] at e1 ⊢
      exact kk H' _ (fin H' e1 e2 e3) (hS.put e2 e3 (Nat.le_add_right _ _))
theorem pm_sz {k n : Nat} {V : Nat → Value} {j : Int32} (hin : ¬ (j < 0 ∨ n ≤ j.toNatClampNeg)) : ¬ (j < 0 ∨ (arrV k n V).slots.size ≤ j.toNatClampNeg) := by rw [arrV_size]; exact hin
theorem pm_iald (hx : p.tables.exec = Jvm.exec) (hb : c.code = cc) (hK : pm_K D cA s) (hH : pm_H D cA b0 b μ H) {j : Int32} (hk : (pm_k i).1 = 10) (hi : i < μ.1) (hin : ¬ (j < 0 ∨ (pm_k i).2 ≤ j.toNatClampNeg)) (hd : decode cc pc = .ok (.iaload, 1))
    (kk : W p l e R s m args below meth c H locs cells slots Q (F0 m (pc + 1) ls (.int (μ.2.1 i j.toNatClampNeg) :: rest))) : W p l e R s m args below meth c H locs cells slots Q (F0 m pc ls (.int j :: pm_v b0 b (.ref i) :: rest)) := by
  rw [pm_ref (pm_lt hH hi)]
  exact W.iald hx hb (pm_arr hH hi hk (by omega)) ((hK.1.2 0 _ rfl).1 _ _) (fun q => by cases q) (pm_sz hin) (by rw [arrV_read _ _ (Nat.not_le.mp fun q => hin (Or.inr q)), pm_VI hk (Or.inl rfl)]) rfl rfl hd kk
theorem pm_zald (hx : p.tables.exec = Jvm.exec) (hb : c.code = cc) (hK : pm_K D cA s) (hH : pm_H D cA b0 b μ H) {j : Int32} (hk : (pm_k i).1 = 11) (hi : i < μ.1) (hin : ¬ (j < 0 ∨ (pm_k i).2 ≤ j.toNatClampNeg)) (hd : decode cc pc = .ok (.baload, 1))
    (kk : W p l e R s m args below meth c H locs cells slots Q (F0 m (pc + 1) ls (.int (μ.2.1 i j.toNatClampNeg) :: rest))) : W p l e R s m args below meth c H locs cells slots Q (F0 m pc ls (.int j :: pm_v b0 b (.ref i) :: rest)) := by
  rw [pm_ref (pm_lt hH hi)]
  exact W.zald hx hb (pm_arr hH hi hk (by omega)) ((hK.1.2 1 _ rfl).1 _ _) (fun q => by cases q) (pm_sz hin) (by rw [arrV_read _ _ (Nat.not_le.mp fun q => hin (Or.inr q)), pm_VI hk (Or.inr rfl)]) rfl rfl hd kk
theorem pm_dald (hx : p.tables.exec = Jvm.exec) (hb : c.code = cc) (hK : pm_K D cA s) (hH : pm_H D cA b0 b μ H) {j : Int32} (hk : (pm_k i).1 = 12) (hi : i < μ.1) (hin : ¬ (j < 0 ∨ (pm_k i).2 ≤ j.toNatClampNeg)) (hd : decode cc pc = .ok (.daload, 1))
    (kk : W p l e R s m args below meth c H locs cells slots Q (F0 m (pc + 1) ls (.double (μ.2.2.1 i j.toNatClampNeg) :: rest))) : W p l e R s m args below meth c H locs cells slots Q (F0 m pc ls (.int j :: pm_v b0 b (.ref i) :: rest)) := by
  rw [pm_ref (pm_lt hH hi)]
  exact W.dald hx hb (pm_arr hH hi hk (by omega)) ((hK.1.2 2 _ rfl).1 _ _) (fun q => by cases q) (pm_sz hin) (by rw [arrV_read _ _ (Nat.not_le.mp fun q => hin (Or.inr q)), pm_VD hk]) rfl rfl hd kk
theorem pm_aald (hx : p.tables.exec = Jvm.exec) (hb : c.code = cc) (hK : pm_K D cA s) (hH : pm_H D cA b0 b μ H) {j : Int32} (hk : (pm_k i).1 = 13) (hi : i < μ.1) (hin : ¬ (j < 0 ∨ (pm_k i).2 ≤ j.toNatClampNeg)) (hd : decode cc pc = .ok (.aaload, 1))
    (kk : W p l e R s m args below meth c H locs cells slots Q (F0 m (pc + 1) ls (pm_v b0 b (pm_o (μ.2.2.2 i j.toNatClampNeg)) :: rest))) : W p l e R s m args below meth c H locs cells slots Q (F0 m pc ls (.int j :: pm_v b0 b (.ref i) :: rest)) := by
  rw [pm_ref (pm_lt hH hi)]
  exact W.aald hx hb (pm_arr hH hi hk (by omega)) ((hK.1.2 3 _ rfl).1 _ _) rfl (fun q => by cases q) (pm_sz hin) (by rw [arrV_read _ _ (Nat.not_le.mp fun q => hin (Or.inr q)), pm_VR hk]) rfl rfl hd kk
theorem pm_fin {k : Nat} {H1 : Heap} {V : Nat → Value} (hk : (pm_k i).1 = k) (h6 : 10 ≤ k) (h : H1[b0 + i]? = some (arrV (cA k) (pm_k i).2 V)) : pm_A D cA b0 b V H1 i := by
  unfold pm_A
  rw [if_neg (by omega), hk]
  exact h
theorem pm_iast (hx : p.tables.exec = Jvm.exec) (hb : c.code = cc) (hK : pm_K D cA s) (hH : pm_H D cA b0 b μ H) (hS : va_S (fun q => b0 ≤ q) H0 H locs) {j x : Int32} (hk : (pm_k i).1 = 10) (hi : i < μ.1) (hin : ¬ (j < 0 ∨ (pm_k i).2 ≤ j.toNatClampNeg)) (hd : decode cc pc = .ok (.iastore, 1))
    (kk : ∀ (H1 : Heap) (locs1 : List Loc), pm_H D cA b0 b (pm_wI μ i j.toNatClampNeg x) H1 → va_S (fun q => b0 ≤ q) H0 H1 locs1 → W p l e R s m args below meth c H1 locs1 cells slots Q (F0 m (pc + 1) ls rest)) : W p l e R s m args below meth c H locs cells slots Q (F0 m pc ls (.int x :: .int j :: pm_v b0 b (.ref i) :: rest)) := by
  have hlt := pm_lt hH hi
  rw [pm_ref hlt]
  refine W.iast hx hb (pm_arr hH hi hk (by omega)) ((hK.1.2 0 _ rfl).1 _ _) (fun q => by cases q) (pm_sz hin) rfl rfl hd fun H1 e1 z oq => kk H1 _ ?_ (hS.put z oq (Nat.le_add_right _ _))
  have hSt : pm_St b0 b μ (pm_wI μ i j.toNatClampNeg x) i j.toNatClampNeg (.int x) := by
    have := pm_St_I (b0 := b0) (b := b) (μ := μ) (i := i) (s := j.toNatClampNeg) (x := x) hlt (Or.inl (by simp [pm_et, hk]))
    rwa [pm_lA hk (by omega)] at this
  exact pm_H_upd hH hi hSt (pm_fin hk (by omega) (by rw [e1, arrV_store])) z oq
theorem pm_zast (hx : p.tables.exec = Jvm.exec) (hb : c.code = cc) (hK : pm_K D cA s) (hH : pm_H D cA b0 b μ H) (hS : va_S (fun q => b0 ≤ q) H0 H locs) {j x : Int32} (hk : (pm_k i).1 = 11) (hi : i < μ.1) (hin : ¬ (j < 0 ∨ (pm_k i).2 ≤ j.toNatClampNeg)) (hd : decode cc pc = .ok (.bastore, 1))
    (kk : ∀ (H1 : Heap) (locs1 : List Loc), pm_H D cA b0 b (pm_wI μ i j.toNatClampNeg (x &&& 1)) H1 → va_S (fun q => b0 ≤ q) H0 H1 locs1 → W p l e R s m args below meth c H1 locs1 cells slots Q (F0 m (pc + 1) ls rest)) : W p l e R s m args below meth c H locs cells slots Q (F0 m pc ls (.int x :: .int j :: pm_v b0 b (.ref i) :: rest)) := by
  have hlt := pm_lt hH hi
  rw [pm_ref hlt]
  refine W.zast hx hb (pm_arr hH hi hk (by omega)) ((hK.1.2 1 _ rfl).1 _ _) (fun q => by cases q) (pm_sz hin) rfl rfl hd fun H1 e1 z oq => kk H1 _ ?_ (hS.put z oq (Nat.le_add_right _ _))
  have hSt : pm_St b0 b μ (pm_wI μ i j.toNatClampNeg (x &&& 1)) i j.toNatClampNeg (.int (x &&& 1)) := by
    have := pm_St_I (b0 := b0) (b := b) (μ := μ) (i := i) (s := j.toNatClampNeg) (x := x &&& 1) hlt (Or.inr (by simp [pm_et, hk]))
    rwa [pm_lA hk (by omega)] at this
  exact pm_H_upd hH hi hSt (pm_fin hk (by omega) (by rw [e1, arrV_store]; rfl)) z oq
theorem pm_dast (hx : p.tables.exec = Jvm.exec) (hb : c.code = cc) (hK : pm_K D cA s) (hH : pm_H D cA b0 b μ H) (hS : va_S (fun q => b0 ≤ q) H0 H locs) {j : Int32} {x : UInt64} (hk : (pm_k i).1 = 12) (hi : i < μ.1) (hin : ¬ (j < 0 ∨ (pm_k i).2 ≤ j.toNatClampNeg)) (hd : decode cc pc = .ok (.dastore, 1))
    (kk : ∀ (H1 : Heap) (locs1 : List Loc), pm_H D cA b0 b (pm_wD μ i j.toNatClampNeg x) H1 → va_S (fun q => b0 ≤ q) H0 H1 locs1 → W p l e R s m args below meth c H1 locs1 cells slots Q (F0 m (pc + 1) ls rest)) : W p l e R s m args below meth c H locs cells slots Q (F0 m pc ls (.double x :: .int j :: pm_v b0 b (.ref i) :: rest)) := by
  have hlt := pm_lt hH hi
  rw [pm_ref hlt]
  refine W.dast hx hb (pm_arr hH hi hk (by omega)) ((hK.1.2 2 _ rfl).1 _ _) (fun q => by cases q) (pm_sz hin) rfl rfl hd fun H1 e1 z oq => kk H1 _ ?_ (hS.put z oq (Nat.le_add_right _ _))
  have hSt : pm_St b0 b μ (pm_wD μ i j.toNatClampNeg x) i j.toNatClampNeg (.double x) := by
    have := pm_St_D (b0 := b0) (b := b) (μ := μ) (i := i) (s := j.toNatClampNeg) (x := x) hlt (by simp [pm_et, hk])
    rwa [pm_lA hk (by omega)] at this
  exact pm_H_upd hH hi hSt (pm_fin hk (by omega) (by rw [e1, arrV_store])) z oq
theorem pm_aast (hx : p.tables.exec = Jvm.exec) (hb : c.code = cc) (hK : pm_K D cA s) (hH : pm_H D cA b0 b μ H) (hS : va_S (fun q => b0 ≤ q) H0 H locs) {j : Int32} {v : Nat} (hk : (pm_k i).1 = 13) (hi : i < μ.1) (hv : (pm_k v).1 = 0) (hv2 : v < μ.1) (hin : ¬ (j < 0 ∨ (pm_k i).2 ≤ j.toNatClampNeg)) (hd : decode cc pc = .ok (.aastore, 1))
    (kk : ∀ (H1 : Heap) (locs1 : List Loc), pm_H D cA b0 b (pm_wR μ i j.toNatClampNeg (some v)) H1 → va_S (fun q => b0 ≤ q) H0 H1 locs1 → W p l e R s m args below meth c H1 locs1 cells slots Q (F0 m (pc + 1) ls rest)) : W p l e R s m args below meth c H locs cells slots Q (F0 m pc ls (pm_v b0 b (.ref v) :: .int j :: pm_v b0 b (.ref i) :: rest)) := by
  have hlt := pm_lt hH hi
  rw [pm_ref hlt, pm_ref (pm_lt hH hv2)]
  obtain ⟨cellV, g1, g2, g3, -⟩ := pm_obj hH hv2 hv (by omega)
  have hcls := (hK.1.1 0 _ (pm_vw (c := 0) (by omega))).2
  obtain ⟨kA, comp, k1, k2, k3, -⟩ := (hK.1.2 3 _ rfl).2
  have hcomp : comp = D.1 0 := Option.some.inj (k3.symm.trans hcls.1)
  subst hcomp
  obtain ⟨kC, hkC, -⟩ := hcls.2
  refine W.aast hx hb (pm_arr hH hi hk (by omega)) (fun q h => by cases h) (fun h => by cases h) k1 k2 rfl hkC ⟨fun q => hin (Or.inl q), by show _ < (arrV _ _ _).slots.size; rw [arrV_size]; exact Nat.not_le.mp fun q => hin (Or.inr q)⟩ g1 (fun q h => by rw [g3] at h; cases h) (by rw [g2]; exact hkC) (by rw [g2]; exact va_assign hcls) rfl rfl hd fun H1 e1 z oq => kk H1 _ ?_ (hS.put z oq (Nat.le_add_right _ _))
  have hSt : pm_St b0 b μ (pm_wR μ i j.toNatClampNeg (some v)) i j.toNatClampNeg (pm_v b0 b (.ref v)) := by
    have := pm_St_R (b0 := b0) (b := b) (μ := μ) (i := i) (s := j.toNatClampNeg) (k := v) hlt (Or.inl ⟨RX1, by simp [pm_et, hk]⟩)
    rwa [pm_lA hk (by omega)] at this
  rw [pm_ref (pm_lt hH hv2)] at hSt
  exact pm_H_upd hH hi hSt (pm_fin hk (by omega) (by rw [e1, arrV_store])) z oq
end PMM
