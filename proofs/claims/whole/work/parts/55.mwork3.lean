/-! SCORES, 10: the model's work, all of it -/
section MW3
variable {P : Nat → Nat → Option Nat} {g : gO} {nF o : Nat} {rec : Nat → zR} {a1 : Value}
def wkOK (g : gO) (nF : Nat) (rec : Nat → zR) (o : Nat) (P : Nat → Nat → Option Nat) (a1 : Value) (n : Nat) : Prop := ∀ (k dp : Nat) (s : zS) (I : Nat → Nat → Int32) (D : Nat → Nat → UInt64), k < n → k < nF → dp + 1 + k ≤ 60 → mX g nF rec I D → mS I (dp + 1) (bump s (dp + 1)) → mB I D dp k 0 (al (zK (rec k)) (fun _ => 0) 0) 0 → wkC o P a1 dp (ev g rec o n k (dp + 1) s) I D
theorem wk_loop {n k dp : Nat} {s1 : zS} (hO : zOk nF rec) (hn : nF ≤ 60) (ho : o < 40) (hk : k < n + 1) (hkn : k < nF) (hdk : dp + 1 + k ≤ 60) (h13 : zK (rec k) < 13) (IH : wkOK g nF rec o P a1 n) : ∀ (c j : Nat) (I : Nat → Nat → Int32) (D : Nat → Nat → UInt64), j + c = zM (rec k) → mX g nF rec I D → (evp (fun k' s' => ev g rec o n k' (dp + 1 + 1) s') (zT (rec k)) s1 j).2.1.1 = 0 → mS I (dp + 1) (evp (fun k' s' => ev g rec o n k' (dp + 1 + 1) s') (zT (rec k)) s1 j).1 → mB I D dp k j (al (zK (rec k)) (evp (fun k' s' => ev g rec o n k' (dp + 1 + 1) s') (zT (rec k)) s1 j).2.2 j) (be (evp (fun k' s' => ev g rec o n k' (dp + 1 + 1) s') (zT (rec k)) s1 j).2.2 j) → (∀ i, i < j → vf_n64 ((evp (fun k' s' => ev g rec o n k' (dp + 1 + 1) s') (zT (rec k)) s1 j).2.2 i)) → wkC o P a1 dp (evf g (rec k) k o (evp (fun k' s' => ev g rec o n k' (dp + 1 + 1) s') (zT (rec k)) s1 (zM (rec k)))) I D := by
  obtain ⟨hB1, hB2⟩ := hO k hkn
  have hm8 := hB1.2.1
  intro c
  induction c with
  | zero =>
    intro j I D hj hX h0 hS hB hw
    have ej : j = zM (rec k) := by omega
    subst ej
    have hW := sX8_worked (P := P) hX.1 (hX.2 k hkn) hB2 (show k < 60 by omega) ho h13 hw
    have hV := evw_Vo hX hO hn hkn ho h13 hw
    have h := wk_val (P := P) (a1 := a1) (o := o) hO hn hX hkn (show dp < 60 by omega) hS hB.1 hV (fun a3 a4 a5 a6 => wk_at hO hn hX hkn (by omega) hS hB rfl hW)
    unfold evf
    rw [if_pos h0]
    exact h
  | succ c ih =>
    intro j I D hj hX h0 hS hB hw
    obtain ⟨I2, D2, R2, S2, B2, F2⟩ := wk_begin (P := P) (a1 := a1) (o := o) (w := fun _ => 0) hO hn hX hkn (show dp < 60 by omega) hS hB (show j < zM (rec k) by omega)
    obtain ⟨hT, -⟩ := hB1.2.2.1 j (by omega)
    have hX2 := mX_fr hX F2
    obtain ⟨I3, D3, F3, ok, bad⟩ := IH (zT (rec k) j) (dp + 1) _ I2 D2 (by omega) (by omega) (by omega) hX2 S2 B2
    have hX3 := mX_fr hX2 F3
    have hB3 := mB_fr (mB_fr hB F2 (by omega)) F3 (by omega)
    have hS1 := evp_S (F := fun k' s' => ev g rec o n k' (dp + 1 + 1) s') (t := zT (rec k)) (s := s1) h0
    have F23 := mFr_tr (mFr_mo F2 (show dp ≤ dp + 1 by omega)) (mFr_mo F3 (show dp ≤ dp + 1 by omega)) (Nat.le_refl _)
    by_cases cf : (ev g rec o n (zT (rec k) j) (dp + 1 + 1) (evp (fun k' s' => ev g rec o n k' (dp + 1 + 1) s') (zT (rec k)) s1 j).1).2.1 = 0
    · obtain ⟨S3, v3, G⟩ := ok cf
      have hA := al_Vo (kd := zK (rec k)) j hw
      have hb := be_fn j hw
      obtain ⟨I4, D4, e4, S4, B4, F4, -⟩ := sX8_give (P := P) S3 (by omega) hB3 (show k < 60 by omega) (by omega) (hX3.2 k hkn).1 hB1.1 hA hb v3
      have h0' : (evp (fun k' s' => ev g rec o n k' (dp + 1 + 1) s') (zT (rec k)) s1 (j + 1)).2.1.1 = 0 := by rw [hS1]; exact cf
      have F24 := mFr_tr F23 F4 (Nat.le_refl _)
      refine wkC_pre (wkR_tr R2 (G _ e4)) F24 (ih (j + 1) I4 D4 (by omega) (mX_fr hX F24) h0' (by rw [hS1]; exact S4) ?_ ?_)
      · rw [hS1]
        dsimp only
        rw [if_neg (show ¬ zK (rec k) = 13 by omega)] at B4
        have c1 : ∀ i, i < j → ud (evp (fun k' s' => ev g rec o n k' (dp + 1 + 1) s') (zT (rec k)) s1 j).2.2 j (ev g rec o n (zT (rec k) j) (dp + 1 + 1) (evp (fun k' s' => ev g rec o n k' (dp + 1 + 1) s') (zT (rec k)) s1 j).1).2.2.2 i = (evp (fun k' s' => ev g rec o n k' (dp + 1 + 1) s') (zT (rec k)) s1 j).2.2 i := fun i hi => ud_n (by omega)
        have e1 := al_congr (kd := zK (rec k)) j c1
        have e2 := be_congr j c1
        have e3 : al (zK (rec k)) (ud (evp (fun k' s' => ev g rec o n k' (dp + 1 + 1) s') (zT (rec k)) s1 j).2.2 j (ev g rec o n (zT (rec k) j) (dp + 1 + 1) (evp (fun k' s' => ev g rec o n k' (dp + 1 + 1) s') (zT (rec k)) s1 j).1).2.2.2) (j + 1) = (if zK (rec k) = 7 then sm2 sp_times (al (zK (rec k)) (evp (fun k' s' => ev g rec o n k' (dp + 1 + 1) s') (zT (rec k)) s1 j).2.2 j) (some (ev g rec o n (zT (rec k) j) (dp + 1 + 1) (evp (fun k' s' => ev g rec o n k' (dp + 1 + 1) s') (zT (rec k)) s1 j).1).2.2.2) else if zK (rec k) < 9 then sm2 sp_plus (al (zK (rec k)) (evp (fun k' s' => ev g rec o n k' (dp + 1 + 1) s') (zT (rec k)) s1 j).2.2 j) (some (ev g rec o n (zT (rec k) j) (dp + 1 + 1) (evp (fun k' s' => ev g rec o n k' (dp + 1 + 1) s') (zT (rec k)) s1 j).1).2.2.2) else some (ev g rec o n (zT (rec k) j) (dp + 1 + 1) (evp (fun k' s' => ev g rec o n k' (dp + 1 + 1) s') (zT (rec k)) s1 j).1).2.2.2) := by
          show (if zK (rec k) = 7 then sm2 sp_times (al (zK (rec k)) _ j) (some (ud _ j _ j)) else if zK (rec k) < 9 then sm2 sp_plus (al (zK (rec k)) _ j) (some (ud _ j _ j)) else some (ud _ j _ j)) = _
          rw [e1, ud_s]
        have e4' : be (ud (evp (fun k' s' => ev g rec o n k' (dp + 1 + 1) s') (zT (rec k)) s1 j).2.2 j (ev g rec o n (zT (rec k) j) (dp + 1 + 1) (evp (fun k' s' => ev g rec o n k' (dp + 1 + 1) s') (zT (rec k)) s1 j).1).2.2.2) (j + 1) = (if j = 0 then (ev g rec o n (zT (rec k) j) (dp + 1 + 1) (evp (fun k' s' => ev g rec o n k' (dp + 1 + 1) s') (zT (rec k)) s1 j).1).2.2.2 else sp_gr (be (evp (fun k' s' => ev g rec o n k' (dp + 1 + 1) s') (zT (rec k)) s1 j).2.2 j) (ev g rec o n (zT (rec k) j) (dp + 1 + 1) (evp (fun k' s' => ev g rec o n k' (dp + 1 + 1) s') (zT (rec k)) s1 j).1).2.2.2) := by
          show (if j = 0 then ud _ j _ 0 else sp_gr (be _ j) (ud _ j _ j)) = _
          rw [e2, ud_s]
          by_cases cj : j = 0
          · rw [if_pos cj, if_pos cj]
            exact if_pos cj.symm
          · rw [if_neg cj, if_neg cj]
        rw [e3, e4']
        exact B4
      · intro i hi
        rw [hS1]
        dsimp only
        by_cases ci : i = j
        · subst ci
          rw [ud_s]
          exact v3
        · rw [ud_n ci]
          exact hw i (by omega)
    · obtain ⟨dd, S3, d1, d2, d3, d4, G⟩ := bad cf
      have h0' : ¬ (evp (fun k' s' => ev g rec o n k' (dp + 1 + 1) s') (zT (rec k)) s1 (j + 1)).2.1.1 = 0 := by rw [hS1]; exact cf
      have hst := evp_stop h0' c
      rw [show j + 1 + c = zM (rec k) by omega] at hst
      rw [hst]
      unfold evf
      rw [if_neg h0', hS1]
      refine ⟨I3, D3, F23, fun z => absurd z cf, fun _ => ⟨dd, S3, by omega, d2, d3, fun i h1 h2 => ?_, fun μ' e => wkR_tr R2 (G μ' e)⟩⟩
      by_cases ci : i = dp
      · subst ci
        refine ⟨k, by omega, hB3.1, fun z => ?_⟩
        have := z.1
        rw [(hX3.2 k hkn).1, nI_eq (by omega) (by decide)] at this
        omega
      · exact d4 i (by omega) h2
theorem ev_else {n k d : Nat} {s : zS} (h : zK (rec k) = 13) : ev g rec o (n + 1) k d s = if (ev g rec o n (zT (rec k) 0) (d + 1) (bump s d)).2.1 = 0 then ev g rec o n (zT (rec k) 0) (d + 1) (bump s d) else ev g rec o n (zT (rec k) 1) (d + 1) (ctch (ev g rec o n (zT (rec k) 0) (d + 1) (bump s d)).1) := by
  show (if zK (rec k) = 13 then _ else _) = _
  rw [if_pos h]
theorem ev_not {n k d : Nat} {s : zS} (h : ¬ zK (rec k) = 13) : ev g rec o (n + 1) k d s = evf g (rec k) k o (evp (fun k' s' => ev g rec o n k' (d + 1) s') (zT (rec k)) (bump s d) (zM (rec k))) := by
  show (if zK (rec k) = 13 then _ else _) = _
  rw [if_neg h]
theorem zjd13 {r : zR} {k : Nat} {v : UInt64} (h : zK r = 13) : zjd r k (some v) = (0, k, v) := by
  show (if (6 ≤ zK r ∧ zK r ≤ 9) ∧ FP.dcmp v 0 = some .lt then (3, k, 0) else (0, k, v)) = _
  rw [if_neg (fun z => by omega)]
/-- an ELSE one of whose parts is given -/
theorem wk_else {k dp : Nat} {s : zS} {v b : UInt64} {I : Nat → Nat → Int32} {D : Nat → Nat → UInt64} (hO : zOk nF rec) (hn : nF ≤ 60) (ho : o < 40) (hkn : k < nF) (hd : dp < 60) (h13 : zK (rec k) = 13) (hm : zM (rec k) = 2) (hX : mX g nF rec I D) (hS : mS I (dp + 1) s) (hB : mB I D dp k 2 (some v) b) (hv : vf_n64 v) : wkC o P a1 dp (s, (0, k, v)) I D := by
  have h := wk_val (P := P) (a1 := a1) (o := o) (R := some v) hO hn hX hkn hd hS hB.1 (Vo_some hv) (fun a3 a4 a5 a6 => wk_at hO hn hX hkn hd hS hB hm (sX8_worked13 hX.1 (hX.2 k hkn) (hO k hkn).2 (by omega) ho h13))
  rw [zjd13 h13] at h
  exact h
theorem wkC_val {dp c c' : Nat} {s : zS} {v : UInt64} {I : Nat → Nat → Int32} {D : Nat → Nat → UInt64} (h : wkC o P a1 dp (s, (0, c, v)) I D) : wkC o P a1 dp (s, (0, c', v)) I D := by
  obtain ⟨I1, D1, f1, ok, bad⟩ := h
  exact ⟨I1, D1, f1, ok, fun z => absurd rfl z⟩
theorem wk_ok (hO : zOk nF rec) (hn : nF ≤ 60) (ho : o < 40) : ∀ n, wkOK g nF rec o P a1 n := by
  intro n
  induction n with
  | zero => intro k dp s I D hk; exact absurd hk (Nat.not_lt_zero k)
  | succ n IH =>
    intro k dp s I D hk hkn hdk hX hS hB
    obtain ⟨hB1, hB2⟩ := hO k hkn
    by_cases c13 : zK (rec k) = 13
    · rw [ev_else c13]
      have hm2 : zM (rec k) = 2 := by
        rw [hB2.2.1 (by omega)]
        unfold nnk
        rw [if_neg (by omega), if_pos c13]
      have hT0 := (hB1.2.2.1 0 (by omega)).1
      have hT1 := (hB1.2.2.1 1 (by omega)).1
      have eA : al (zK (rec k)) (fun _ => 0) 0 = some 0 := by
        show (if zK (rec k) = 7 then _ else _) = _
        rw [if_neg (by omega)]
      rw [eA] at hB
      obtain ⟨I2, D2, R2, S2, B2, F2⟩ := wk_begin (P := P) (a1 := a1) (o := o) (w := fun _ => 0) hO hn hX hkn (show dp < 60 by omega) hS hB (show 0 < zM (rec k) by omega)
      have hX2 := mX_fr hX F2
      obtain ⟨I3, D3, F3, ok, bad⟩ := IH (zT (rec k) 0) (dp + 1) _ I2 D2 (by omega) (by omega) (by omega) hX2 S2 B2
      have hX3 := mX_fr hX2 F3
      have hB3 := mB_fr (mB_fr hB F2 (by omega)) F3 (by omega)
      have F23 := mFr_tr (mFr_mo F2 (show dp ≤ dp + 1 by omega)) (mFr_mo F3 (show dp ≤ dp + 1 by omega)) (Nat.le_refl _)
      by_cases cf : (ev g rec o n (zT (rec k) 0) (dp + 1 + 1) (bump s (dp + 1))).2.1 = 0
      · rw [if_pos cf]
        obtain ⟨S3, v3, G⟩ := ok cf
        obtain ⟨I4, D4, e4, S4, B4, F4, -⟩ := sX8_give (P := P) S3 (by omega) hB3 (show k < 60 by omega) (by omega) (hX3.2 k hkn).1 hB1.1 (Vo_some fn_0) fn_0 v3
        have F24 := mFr_tr F23 F4 (Nat.le_refl _)
        rw [if_pos c13, if_neg (show ¬ zK (rec k) = 7 by omega), if_neg (show ¬ zK (rec k) < 9 by omega)] at B4
        have h := wk_else (P := P) (a1 := a1) hO hn ho hkn (show dp < 60 by omega) c13 hm2 (mX_fr hX F24) S4 B4 v3
        have h2 := wkC_pre (wkR_tr R2 (G _ e4)) F24 h
        generalize ev g rec o n (zT (rec k) 0) (dp + 1 + 1) (bump s (dp + 1)) = q at h2 cf ⊢
        obtain ⟨q1, q2, q3, q4⟩ := q
        have cf' : q2 = 0 := cf
        subst cf'
        exact wkC_val h2
      · rw [if_neg cf]
        obtain ⟨dd, S3, d1, d2, d3, d4, G⟩ := bad cf
        have hr := hX3.2 k hkn
        obtain ⟨I4, D4, e4, S4, B4, B4', F4⟩ := sX8_fail1 (P := P) (j := 0) (w := fun _ => 0) S3 (by omega) d3 (by omega) (fun i h1 h2 => d4 i (by omega) h2) (show k < 60 by omega) hB3 (by rw [hr.1, c13]) (hr.2.2.2.2.2.2.2.2.2.2 1 (by omega)) (by omega) (hX3.2 (zT (rec k) 1) (by omega)).1 (hO (zT (rec k) 1) (by omega)).1.1
        have F24 := mFr_tr F23 F4 (Nat.le_refl _)
        have hX4 := mX_fr hX F24
        refine wkC_pre (wkR_tr R2 (G _ e4)) F24 ?_
        obtain ⟨I5, D5, F5, ok5, bad5⟩ := IH (zT (rec k) 1) (dp + 1) _ I4 D4 (by omega) (by omega) (by omega) hX4 S4 B4
        have hX5 := mX_fr hX4 F5
        have hB5 := mB_fr B4' F5 (by omega)
        generalize ev g rec o n (zT (rec k) 1) (dp + 1 + 1) (ctch (ev g rec o n (zT (rec k) 0) (dp + 1 + 1) (bump s (dp + 1))).1) = q at ok5 bad5 ⊢
        by_cases cf2 : q.2.1 = 0
        · obtain ⟨S5, v5, G5⟩ := ok5 cf2
          obtain ⟨I6, D6, e6, S6, B6, F6, -⟩ := sX8_give (P := P) S5 (by omega) hB5 (show k < 60 by omega) (by omega) (hX5.2 k hkn).1 hB1.1 (Vo_some fn_0) fn_0 v5
          have F46 := mFr_tr (mFr_mo F5 (show dp ≤ dp + 1 by omega)) F6 (Nat.le_refl _)
          rw [if_pos c13, if_neg (show ¬ zK (rec k) = 7 by omega), if_neg (show ¬ zK (rec k) < 9 by omega)] at B6
          have h := wk_else (P := P) (a1 := a1) hO hn ho hkn (show dp < 60 by omega) c13 hm2 (mX_fr hX4 F46) S6 B6 v5
          have h2 := wkC_pre (G5 _ e6) F46 h
          obtain ⟨q1, q2, q3, q4⟩ := q
          have cf' : q2 = 0 := cf2
          subst cf'
          exact wkC_val h2
        · obtain ⟨dd5, S5, p1, p2, p3, p4, G5⟩ := bad5 cf2
          refine ⟨I5, D5, mFr_mo F5 (by omega), fun z => absurd z cf2, fun _ => ⟨dd5, S5, by omega, p2, p3, fun i h1 h2 => ?_, G5⟩⟩
          by_cases ci : i = dp
          · subst ci
            refine ⟨k, by omega, hB5.1, fun z => ?_⟩
            have := z.2
            rw [hB5.2.1] at this
            exact absurd this (by decide)
          · exact p4 i (by omega) h2
    · rw [ev_not c13]
      exact wk_loop hO hn ho hk hkn hdk (by have := hB1.1; omega) IH (zM (rec k)) 0 I D (by omega) hX rfl hS hB (fun i hi => absurd hi (Nat.not_lt_zero i))
end MW3
