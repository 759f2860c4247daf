/-! THE PURE MACHINE IS SOUND, 2: the memory and the heap -/
def pm_cn (c : Nat) : String := match c with
  | 0 => RX1
  | 1 => RX4
  | 2 => RX5
  | 3 => RX6
  | 4 => RX7
  | _ => RX8
def pm_ct (c : Nat) : u_T := match c with
  | 0 => TX1
  | 1 => TX4
  | 2 => TX5
  | 3 => TX6
  | 4 => TX7
  | _ => TX8
def pm_cN (c : Nat) : Nat := match c with
  | 0 => 15
  | 1 => 1
  | 2 => 9
  | 3 => 9
  | 4 => 7
  | _ => 32
theorem pm_vw {c : Nat} (h : c < 6) : vwCl[c]? = some (pm_cn c, pm_ct c, pm_cN c) := by
  match c, h with
  | 0, _ => rfl
  | 1, _ => rfl
  | 2, _ => rfl
  | 3, _ => rfl
  | 4, _ => rfl
  | 5, _ => rfl
theorem pm_nm {c : Nat} (h : c < 6) : ∀ a, a < pm_cN c → ∀ b, b < pm_cN c → a ≠ b → (pm_ct c a).2.1 ≠ (pm_ct c b).2.1 := by
  match c, h with
  | 0, _ => exact nmX1
  | 1, _ => exact nmX4
  | 2, _ => exact nmX5
  | 3, _ => exact nmX6
  | 4, _ => exact nmX7
  | 5, _ => exact nmX8
theorem pm_tyok {c : Nat} (h : c < 6) : ∀ k, k < pm_cN c → parseFieldDescriptor (pm_ct c k).2.2.1 = some (pm_ty c k) := by
  match c, h with
  | 0, _ => exact tyX1_ok
  | 1, _ => exact tyX4_ok
  | 2, _ => exact tyX5_ok
  | 3, _ => exact tyX6_ok
  | 4, _ => exact tyX7_ok
  | 5, _ => exact tyX8_ok
/-- the tables' words that a call may hand on -/
def pm_T : List Cond := lw_tbl.filter goodWord
theorem pm_T_tbl {w : Cond} (h : w ∈ pm_T) : w ∈ lw_tbl := (List.mem_filter.mp h).1
theorem pm_T_good {w : Cond} (h : w ∈ pm_T) : goodWord w = true := (List.mem_filter.mp h).2
theorem pm_Ti {w : Cond} (h : w ∈ lw_tbl) (g : goodWord w = true) : w ∈ pm_T := List.mem_filter.mpr ⟨h, g⟩
theorem pm_inT {ws : List Cond} (h : ∀ w ∈ ws, w ∈ lw_tbl) (g : ws.all goodWord = true) : ∀ w ∈ ws, w ∈ pm_T := fun w hw => pm_Ti (h w hw) (List.all_eq_true.mp g w hw)
theorem pm_ws0 : ∀ w ∈ u_ws RX1 TX1 15, w ∈ pm_T := pm_inT (by decide +kernel) (by decide +kernel)
theorem pm_ws1 : ∀ w ∈ u_ws RX4 TX4 1, w ∈ pm_T := pm_inT (by decide +kernel) (by decide +kernel)
theorem pm_ws2 : ∀ w ∈ u_ws RX5 TX5 9, w ∈ pm_T := pm_inT (by decide +kernel) (by decide +kernel)
theorem pm_ws3 : ∀ w ∈ u_ws RX6 TX6 9, w ∈ pm_T := pm_inT (by decide +kernel) (by decide +kernel)
theorem pm_ws4 : ∀ w ∈ u_ws RX7 TX7 7, w ∈ pm_T := pm_inT (by decide +kernel) (by decide +kernel)
theorem pm_ws5 : ∀ w ∈ u_ws RX8 TX8 32, w ∈ pm_T := pm_inT (by decide +kernel) (by decide +kernel)
theorem pm_ws {c : Nat} (h : c < 6) : ∀ w ∈ u_ws (pm_cn c) (pm_ct c) (pm_cN c), w ∈ pm_T := by
  match c, h with
  | 0, _ => exact pm_ws0
  | 1, _ => exact pm_ws1
  | 2, _ => exact pm_ws2
  | 3, _ => exact pm_ws3
  | 4, _ => exact pm_ws4
  | 5, _ => exact pm_ws5
theorem pm_k_hi {i : Nat} (h : 162 ≤ i) : pm_k i = (99, 0) := by
  unfold pm_k
  rw [if_neg (by omega), if_neg (by omega)]
  obtain ⟨q, hq⟩ : ∃ q, i - 135 = q + 27 := ⟨i - 162, by omega⟩
  rw [hq]
  rfl
theorem pm_k_lt {i : Nat} (h : (pm_k i).1 ≠ 99) : i < 162 := by
  rcases Nat.lt_or_ge i 162 with q | q
  · exact q
  · rw [pm_k_hi q] at h
    exact absurd rfl h
theorem pm_k0 : ∀ i, i < 162 → ((pm_k i).1 = 0 ↔ (15 ≤ i ∧ i < 135 ∧ i % 2 = 1)) := by decide +kernel
theorem pm_kN : ∀ i, i < 162 → (pm_k i).1 < 10 → (pm_k i).1 < 6 ∧ (pm_k i).2 = pm_cN (pm_k i).1 := by decide +kernel
theorem pm_kA : ∀ i, i < 162 → ¬ (pm_k i).1 < 10 → (pm_k i).1 = 10 ∨ (pm_k i).1 = 11 ∨ (pm_k i).1 = 12 ∨ (pm_k i).1 = 13 := by decide +kernel
theorem pm_kS : ∀ i, i < 162 → (pm_k i).2 ≤ 480 := by decide +kernel
theorem pm_l_inj {i j s t : Nat} (hi : i < 162) (hj : j < 162) (h : pm_l i s = pm_l j t) : i = j ∧ s = t := by
  have h1 := pm_k0 i hi
  have h2 := pm_k0 j hj
  unfold pm_l at h
  by_cases a : (pm_k i).1 = 0
  · have a1 := h1.mp a
    rw [if_pos a] at h
    by_cases c : (pm_k j).1 = 0
    · have c1 := h2.mp c
      rw [if_pos c] at h
      have e1 := congrArg Prod.fst h
      have e2 := congrArg Prod.snd h
      dsimp only at e1 e2
      omega
    · rw [if_neg c] at h
      have e1 := congrArg Prod.fst h
      dsimp only at e1
      omega
  · rw [if_neg a] at h
    by_cases c : (pm_k j).1 = 0
    · rw [if_pos c] at h
      have e1 := congrArg Prod.fst h
      dsimp only at e1
      omega
    · rw [if_neg c] at h
      cases h
      exact ⟨rfl, rfl⟩
def pm_et (i s : Nat) : FieldType := if (pm_k i).1 < 10 then pm_ty (pm_k i).1 s else if (pm_k i).1 = 10 then .int else if (pm_k i).1 = 11 then .boolean else if (pm_k i).1 = 12 then .double else .object RX1
def pm_V (b0 b : Nat) (μ : pm_M) (i s : Nat) : Value := pm_v b0 b (pm_g μ i s (pm_et i s))
def pm_A (D : va_G) (cA : Nat → ClassId) (b0 b : Nat) (V : Nat → Value) (H : Heap) (i : Nat) : Prop := if (pm_k i).1 < 10 then t_OB (b0 + i) (D.1 (pm_k i).1) (pm_k i).2 (D.2 (pm_k i).1) H V else H[b0 + i]? = some (arrV (cA (pm_k i).1) (pm_k i).2 V)
/-- what isn't made yet is as at first -/
def pm_Z (μ : pm_M) : Prop := ∀ i, μ.1 ≤ i → i < 162 → ∀ s, μ.2.1 (pm_l i s).1 (pm_l i s).2 = 0 ∧ μ.2.2.1 (pm_l i s).1 (pm_l i s).2 = 0 ∧ μ.2.2.2 (pm_l i s).1 (pm_l i s).2 = none
/-- the heap holds the memory -/
def pm_H (D : va_G) (cA : Nat → ClassId) (b0 b : Nat) (μ : pm_M) (H : Heap) : Prop := H.size = b0 + μ.1 ∧ μ.1 ≤ 162 ∧ (∀ i, i < μ.1 → pm_A D cA b0 b (pm_V b0 b μ i) H i) ∧ pm_Z μ
/-- what the tables say of the classes -/
def pm_nest : Cond := .methodLinkNest "ScoreFormulas$Scorer" 17 yX4_init "ScoreFormulas"
def pm_K (D : va_G) (cA : Nat → ClassId) (U : State) : Prop := va_K D vwCl [(cA 10, .int), (cA 11, .boolean), (cA 12, .double), (cA 13, .object RX1)] U ∧ va_AO RX1 U ∧ va_Nw pm_nest U
theorem pm_K.same {D : va_G} {cA : Nat → ClassId} {u U : State} (h : u.vm = U.vm) (hK : pm_K D cA u) : pm_K D cA U := ⟨va_K.moved (by rw [h]; exact Vm.Alike.refl _) hK.1, va_AO.moved (by rw [h]; exact Vm.Alike.refl _) hK.2.1, va_Nw.same rfl h hK.2.2⟩
theorem pm_K.warm {D : va_G} {cA : Nat → ClassId} {s U : State} (hW : s.WarmedH U.vm) (hK : pm_K D cA s) : pm_K D cA U := ⟨va_K.moved hW.alike hK.1, va_AO.moved hW.alike hK.2.1, va_Nw.warmM hW hK.2.2⟩
theorem pm_g_neI {μ : pm_M} {i j s t : Nat} {x : Int32} {ty : FieldType} (h : ¬ ((pm_l j t).1 = (pm_l i s).1 ∧ (pm_l j t).2 = (pm_l i s).2)) : pm_g (pm_wI μ (pm_l i s).1 (pm_l i s).2 x) j t ty = pm_g μ j t ty := by
  cases ty <;> simp [pm_g, pm_wI, pm_u, h]
theorem pm_g_neD {μ : pm_M} {i j s t : Nat} {x : UInt64} {ty : FieldType} (h : ¬ ((pm_l j t).1 = (pm_l i s).1 ∧ (pm_l j t).2 = (pm_l i s).2)) : pm_g (pm_wD μ (pm_l i s).1 (pm_l i s).2 x) j t ty = pm_g μ j t ty := by
  cases ty <;> simp [pm_g, pm_wD, pm_u, h]
theorem pm_g_neR {μ : pm_M} {i j s t : Nat} {x : Option Nat} {ty : FieldType} (h : ¬ ((pm_l j t).1 = (pm_l i s).1 ∧ (pm_l j t).2 = (pm_l i s).2)) : pm_g (pm_wR μ (pm_l i s).1 (pm_l i s).2 x) j t ty = pm_g μ j t ty := by
  cases ty <;> simp [pm_g, pm_wR, pm_u, h]
/-- what a store changes -/
def pm_St (b0 b : Nat) (μ μ' : pm_M) (i s : Nat) (w : Value) : Prop := μ'.1 = μ.1 ∧ (∀ t, pm_V b0 b μ' i t = updV (pm_V b0 b μ i) s w t) ∧ (∀ j, j < 162 → j ≠ i → ∀ t, pm_V b0 b μ' j t = pm_V b0 b μ j t) ∧ (i < μ.1 → pm_Z μ → pm_Z μ')
theorem pm_ne_l {i j s t : Nat} (hi : i < 162) (hj : j < 162) (h : ¬ (j = i ∧ t = s)) : ¬ ((pm_l j t).1 = (pm_l i s).1 ∧ (pm_l j t).2 = (pm_l i s).2) := by
  intro z
  have e : pm_l j t = pm_l i s := Prod.ext z.1 z.2
  exact h (pm_l_inj hj hi e)
theorem pm_St_of {b0 b : Nat} {μ μ' : pm_M} {i s : Nat} {v : Value} (hi : i < 162) (h1 : μ'.1 = μ.1) (hs : pm_g μ' i s (pm_et i s) = v) (hn : ∀ j t ty, ¬ ((pm_l j t).1 = (pm_l i s).1 ∧ (pm_l j t).2 = (pm_l i s).2) → pm_g μ' j t ty = pm_g μ j t ty)
    (hz : ∀ j t, ¬ ((pm_l j t).1 = (pm_l i s).1 ∧ (pm_l j t).2 = (pm_l i s).2) → μ'.2.1 (pm_l j t).1 (pm_l j t).2 = μ.2.1 (pm_l j t).1 (pm_l j t).2 ∧ μ'.2.2.1 (pm_l j t).1 (pm_l j t).2 = μ.2.2.1 (pm_l j t).1 (pm_l j t).2 ∧ μ'.2.2.2 (pm_l j t).1 (pm_l j t).2 = μ.2.2.2 (pm_l j t).1 (pm_l j t).2) : pm_St b0 b μ μ' i s (pm_v b0 b v) := by
  refine ⟨h1, fun t => ?_, fun j hj hji t => ?_, fun hlt hZ j hj1 hj2 t => ?_⟩
  · unfold updV
    by_cases e : t = s
    · subst e
      rw [if_pos rfl]
      unfold pm_V
      rw [hs]
    · rw [if_neg e]
      unfold pm_V
      rw [hn i t _ (pm_ne_l hi hi (fun z => e z.2))]
  · unfold pm_V
    rw [hn j t _ (pm_ne_l hi hj (fun z => hji z.1))]
  · rw [h1] at hj1
    have e := hz j t (pm_ne_l (s := s) hi hj2 (fun z => by omega))
    rw [e.1, e.2.1, e.2.2]
    exact hZ j hj1 hj2 t
theorem pm_St_I {b0 b : Nat} {μ : pm_M} {i s : Nat} {x : Int32} (hi : i < 162) (ht : pm_et i s = .int ∨ pm_et i s = .boolean) : pm_St b0 b μ (pm_wI μ (pm_l i s).1 (pm_l i s).2 x) i s (.int x) :=
  pm_St_of (v := .int x) hi rfl (by rcases ht with ht | ht <;> rw [ht] <;> simp [pm_g, pm_wI, pm_u]) (fun _ _ _ h => pm_g_neI h) (fun j t h => by simp [pm_wI, pm_u, h])
theorem pm_St_D {b0 b : Nat} {μ : pm_M} {i s : Nat} {x : UInt64} (hi : i < 162) (ht : pm_et i s = .double) : pm_St b0 b μ (pm_wD μ (pm_l i s).1 (pm_l i s).2 x) i s (.double x) :=
  pm_St_of (v := .double x) hi rfl (by rw [ht]; simp [pm_g, pm_wD, pm_u]) (fun _ _ _ h => pm_g_neD h) (fun j t h => by simp [pm_wD, pm_u, h])
theorem pm_St_R {b0 b : Nat} {μ : pm_M} {i s k : Nat} (hi : i < 162) (ht : (∃ q, pm_et i s = .object q) ∨ (∃ q, pm_et i s = .array q)) : pm_St b0 b μ (pm_wR μ (pm_l i s).1 (pm_l i s).2 (some k)) i s (pm_v b0 b (.ref k)) :=
  pm_St_of (v := .ref k) hi rfl (by rcases ht with ⟨q, ht⟩ | ⟨q, ht⟩ <;> rw [ht] <;> simp [pm_g, pm_wR, pm_u, pm_o]) (fun _ _ _ h => pm_g_neR h) (fun j t h => by simp [pm_wR, pm_u, h])
theorem pm_and1 (x : Int32) (h : x &&& 1 = x) : x = 0 ∨ x = 1 := by
  rw [pk_and x 1 (by decide)] at h
  rcases (by omega : x.toBitVec.toNat % 2 ^ 1 = 0 ∨ x.toBitVec.toNat % 2 ^ 1 = 1) with e | e
  · rw [e] at h
    exact Or.inl h.symm
  · rw [e] at h
    exact Or.inr h.symm
theorem pm_p_St {b0 b : Nat} {μ μ' : pm_M} {i s : Nat} {v : Value} (hi : i < 162) (h : pm_p μ i s (pm_et i s) v = some μ') : pm_St b0 b μ μ' i s (pm_v b0 b v) ∧ narrow (pm_et i s) (pm_v b0 b v) = pm_v b0 b v ∧ Jvm.fits (pm_et i s) (pm_v b0 b v) = true := by
  generalize hty : pm_et i s = ty at h ⊢
  unfold pm_p at h
  split at h
  · split at h
    · cases h
      exact ⟨pm_St_I hi (Or.inl hty), rfl, rfl⟩
    · cases h
  · split at h
    · rename_i x
      split at h
      · rename_i hx
        cases h
        refine ⟨pm_St_I hi (Or.inr hty), congrArg Value.int hx, ?_⟩
        rcases pm_and1 x hx with rfl | rfl <;> rfl
      · cases h
    · cases h
  · split at h
    · cases h
      exact ⟨pm_St_D hi hty, rfl, rfl⟩
    · cases h
  · split at h
    · cases h
      exact ⟨pm_St_R hi (Or.inl ⟨_, hty⟩), rfl, rfl⟩
    · cases h
  · split at h
    · cases h
      exact ⟨pm_St_R hi (Or.inr ⟨_, hty⟩), rfl, rfl⟩
    · cases h
  · cases h
theorem pm_A_kept {D : va_G} {cA : Nat → ClassId} {b0 b i : Nat} {V V' : Nat → Value} {H H1 : Heap} (h : pm_A D cA b0 b V H i) (hV : ∀ t, V' t = V t) (hq : H1[b0 + i]? = H[b0 + i]?) : pm_A D cA b0 b V' H1 i := by
  have e : V' = V := funext hV
  subst e
  unfold pm_A at h ⊢
  split
  · rename_i hc
    rw [if_pos hc] at h
    exact h.kept hq
  · rename_i hc
    rw [if_neg hc] at h
    rw [hq]
    exact h
theorem pm_H_upd {D : va_G} {cA : Nat → ClassId} {b0 b i s : Nat} {w : Value} {μ μ' : pm_M} {H H1 : Heap} (hH : pm_H D cA b0 b μ H) (hi : i < μ.1) (hs : pm_St b0 b μ μ' i s w) (hc : pm_A D cA b0 b (updV (pm_V b0 b μ i) s w) H1 i) (hz : H1.size = H.size) (oq : ∀ q, q ≠ b0 + i → H1[q]? = H[q]?) : pm_H D cA b0 b μ' H1 := by
  obtain ⟨h1, h2, h3, h4⟩ := hH
  obtain ⟨s1, s2, s3, s4⟩ := hs
  refine ⟨by rw [hz, s1]; exact h1, by rw [s1]; exact h2, fun j hj => ?_, s4 hi h4⟩
  rw [s1] at hj
  by_cases e : j = i
  · subst e
    exact pm_A_kept hc s2 rfl
  · exact pm_A_kept (h3 j hj) (s3 j (by omega) e) (oq _ (by omega))
