/-! SCORES, 6: the class's ask -/
section CAS
variable {g : gO} {nF : Nat} {rec : Nat → zR} {o : Nat} {P : Nat → Nat → Option Nat}
/-- what asking formula k of n at depth d does -/
def askOK (g : gO) (nF : Nat) (rec : Nat → zR) (o : Nat) (P : Nat → Nat → Option Nat) (n : Nat) (F : pm_F) : Prop := ∀ (k d : Nat) (s : zS) (I : Nat → Nat → Int32) (D : Nat → Nat → UInt64), k < n → k < nF → 1 ≤ d → d + k ≤ 60 → cX g nF rec o I D P → cS I 0 (-9) s → ∃ v I' D', F [.ref 11, .ref (pm_fo k), .int (nI d)] (162, I, D, pm_R P) = some (some (.double v), (162, I', D', pm_R P)) ∧ cFr I I' D D' ((d - 1) * 8) ∧ cS I' (ev g rec o n k d s).2.1 (cul (ev g rec o n k d s).2) (ev g rec o n k d s).1 ∧ vf_n64 v ∧ ((ev g rec o n k d s).2.1 = 0 → v = (ev g rec o n k d s).2.2.2)
theorem ask_in {e k d : Nat} {s : zS} {I : Nat → Nat → Int32} {D : Nat → Nat → UInt64} (hk : k < 60) (hd : d ≤ 60) (hd1 : 1 ≤ d) {kd : Nat} (hkd : kd < 14) (h1 : I 201 k = nI kd) (hs : cS I 0 (-9) s) : ∃ I1, cS I1 0 (-9) (bump s d) ∧ (∀ a j, ¬ (a = 11 ∧ (j = 2 ∨ j = 4)) → I1 a j = I a j) ∧ (mA (e + 1)).1 [.ref 11, .ref (pm_fo k), .int (nI d)] (162, I, D, pm_R P) = if kd = 13 then ((mA e).2 [.ref 11, .ref (pm_fo k), .int (nI d)] (162, I1, D, pm_R P)).bind (fun r => pm_run (mE_X5_ask (mA e).1 (mA e).2) 51 [.ref 11, .ref (pm_fo k), .int (nI d), .retAddr 0, .retAddr 0] (r.1.toList ++ []) r.2) else pm_run (mE_X5_ask (mA e).1 (mA e).2) 62 [.ref 11, .ref (pm_fo k), .int (nI d), .int (nI ((d - 1) * 8)), .int (nI 0)] [] (162, I1, D, pm_R P) := by
  obtain ⟨s0, s1, s2, s3, s4⟩ := hs
  have hle : nI d ≤ nI 60 := nI_le hd (by decide)
  have hm : (nI d - nI 1) * nI 8 = nI ((d - 1) * 8) := by rw [pk_sub hd1, pk_mul]
  have t1 : pm_u I 11 2 (s.1 + nI 1) 11 4 = s.2.2 := by rw [pm_ub (by decide)]; exact s4
  have t2 : pm_u I 11 2 (s.1 + nI 1) 201 k = nI kd := by rw [pm_ua (by decide)]; exact h1
  have t3 : pm_u (pm_u I 11 2 (s.1 + nI 1)) 11 4 (nI d) 201 k = nI kd := by rw [pm_ua (by decide)]; exact t2
  have e13 : (nI kd = nI 13) = (kd = 13) := propext (nI_eq (by omega) (by decide))
  by_cases c : nI d ≤ s.2.2
  · refine ⟨pm_u I 11 2 (s.1 + nI 1), ⟨?_, ?_, ?_, ?_, ?_⟩, fun a j hj => ?_, ?_⟩
    · rw [pm_ub (by decide)]; exact s0
    · rw [pm_ub (by decide)]; exact s1
    · exact pm_us _ _ _ _
    · rw [pm_ub (by decide)]; exact s3
    · rw [t1]; exact (if_pos c).symm
    · exact pm_un _ _ (fun z => hj ⟨z.1, Or.inl z.2⟩)
    · rw [en_X5_ask]
      simp (disch := assumption) only [x_X5_ask_0, x_X5_ask_1, x_X5_ask_3, x_X5_ask_13, x_X5_ask_14i, x_X5_ask_14, x_X5_ask_15, x_X5_ask_18, x_X5_ask_19, x_X5_ask_20, x_X5_ask_23, x_X5_ask_24, x_X5_ask_25, x_X5_ask_28, x_X5_ask_36, x_X5_ask_36n, x_X5_ask_37, x_X5_ask_40, x_X5_ask_42, x_X5_ask_45, x_X5_ask_46, x_X5_ask_46n, x_X5_ask_47, x_X5_ask_48, x_X5_ask_51, x_X5_ask_52, x_X5_ask_53, x_X5_ask_54, x_X5_ask_55, x_X5_ask_57, x_X5_ask_58, x_X5_ask_59, x_X5_ask_60, hle, if_true, s2, t1, c, t2, hm, e13]
  · refine ⟨pm_u (pm_u I 11 2 (s.1 + nI 1)) 11 4 (nI d), ⟨?_, ?_, ?_, ?_, ?_⟩, fun a j hj => ?_, ?_⟩
    · rw [pm_ub (by decide), pm_ub (by decide)]; exact s0
    · rw [pm_ub (by decide), pm_ub (by decide)]; exact s1
    · rw [pm_ub (by decide), pm_us]; rfl
    · rw [pm_ub (by decide), pm_ub (by decide)]; exact s3
    · rw [pm_us]; exact (if_neg c).symm
    · rw [pm_un _ _ (fun z => hj ⟨z.1, Or.inr z.2⟩), pm_un _ _ (fun z => hj ⟨z.1, Or.inl z.2⟩)]
    · rw [en_X5_ask]
      simp (disch := assumption) only [x_X5_ask_0, x_X5_ask_1, x_X5_ask_3, x_X5_ask_13, x_X5_ask_14i, x_X5_ask_14, x_X5_ask_15, x_X5_ask_18, x_X5_ask_19, x_X5_ask_20, x_X5_ask_23, x_X5_ask_24, x_X5_ask_25, x_X5_ask_28, x_X5_ask_31, x_X5_ask_32, x_X5_ask_33, x_X5_ask_36, x_X5_ask_36n, x_X5_ask_37, x_X5_ask_40, x_X5_ask_42, x_X5_ask_45, x_X5_ask_46, x_X5_ask_46n, x_X5_ask_47, x_X5_ask_48, x_X5_ask_51, x_X5_ask_52, x_X5_ask_53, x_X5_ask_54, x_X5_ask_55, x_X5_ask_57, x_X5_ask_58, x_X5_ask_59, x_X5_ask_60, hle, if_true, s2, t1, c, if_false, t3, hm, e13]
theorem fl0 {n : Nat} (h : n < 4) : (nI n = 0) = (n = 0) := propext (nIz (by omega))
/-- behind the parts -/
theorem ask_end {e n k d m : Nat} {I : Nat → Nat → Int32} {D : Nat → Nat → UInt64} {s : zS} {w : Nat → UInt64} (hO : zOk nF rec) (hk : k < 60) (hkn : k < nF) (hd1 : 1 ≤ d) (hd : d ≤ 60) (hX : cX g nF rec o I D P) (ho : o < 40) (hm : zM (rec k) = m) (h13 : zK (rec k) < 13) (hS : cS I 0 (-9) s) (hw : ∀ j, j < m → D 13 ((d - 1) * 8 + j) = w j ∧ vf_n64 (w j)) {b4 : Value} : ∃ v I', pm_run (mE_X5_ask (mA e).1 (mA e).2) 109 [.ref 11, .ref (pm_fo k), .int (nI d), .int (nI ((d - 1) * 8)), b4] [] (162, I, D, pm_R P) = some (some (.double v), (162, I', D, pm_R P)) ∧ cFr I I' D D ((d - 1) * 8) ∧ cS I' (zjd (rec k) k (evw g (rec k) o w)).1 (cul (zjd (rec k) k (evw g (rec k) o w))) s ∧ vf_n64 v ∧ ((zjd (rec k) k (evw g (rec k) o w)).1 = 0 → v = (zjd (rec k) k (evw g (rec k) o w)).2.2) := by
  obtain ⟨hC, hF, hN, h5⟩ := hX
  have hR := hF k hkn
  obtain ⟨hB1, hB2⟩ := hO k hkn
  have hm8 : m ≤ 8 := by rw [← hm]; exact hB1.2.1
  have t7 : pm_u I 12 0 (fb false) 207 k = nI m := by rw [pm_ua (by decide), ← hm]; exact hR.2.2.2.2.2.1
  have hwp : ∃ v, ((if m = 0 then mF_X5_workAlone [.ref 11, .ref (pm_fo k)] else mF_X5_workParts [.ref 11, .ref (pm_fo k), .int (nI ((d - 1) * 8))]) (162, pm_u I 12 0 (fb false), D, pm_R P) = some (some (.double v), (162, pm_u I 12 0 (fb (evw g (rec k) o w).isNone), D, pm_R P))) ∧ RB (evw g (rec k) o w) v := by
    by_cases c : m = 0
    · rw [if_pos c]
      exact sX5_workAlone hC hR hB2 hk ho h5 (by omega)
    · rw [if_neg c]
      exact sX5_workParts hR hB2 hk h13 ⟨by omega, fun j hj => hw j (by omega)⟩ (by omega) (by omega)
  obtain ⟨v, ev1, rv⟩ := hwp
  obtain ⟨v', I', e2, f1, f2, f3, f4, f5⟩ := sX5_judge (D := D) (P := P) hk (hN k hk) hR.1 (by omega) rv hS
  refine ⟨v', I', ?_, ⟨f1, f2, fun _ _ _ => rfl, fun _ _ => rfl⟩, f3, f4, f5⟩
  simp (disch := assumption) only [x_X5_ask_109, x_X5_ask_110, x_X5_ask_113, x_X5_ask_116, x_X5_ask_117, x_X5_ask_117n, x_X5_ask_118, x_X5_ask_118n, x_X5_ask_119, sX4_begin0, t7, Option.bind_some, Option.toList, List.cons_append, List.nil_append]
  rw [x_X5_ask_122]
  by_cases c : m = 0
  · rw [if_pos c] at ev1
    rw [if_pos ((nIz (by omega)).mpr c)]
    simp only [x_X5_ask_125, x_X5_ask_126, x_X5_ask_126n, x_X5_ask_127, x_X5_ask_130, x_X5_ask_139, x_X5_ask_142, ev1, e2, Option.bind_some, Option.toList, List.cons_append, List.nil_append]
  · rw [if_neg c] at ev1
    rw [if_neg (fun z => c ((nIz (by omega)).mp z))]
    simp only [x_X5_ask_133, x_X5_ask_134, x_X5_ask_134n, x_X5_ask_135, x_X5_ask_136, x_X5_ask_139, x_X5_ask_142, ev1, e2, Option.bind_some, Option.toList, List.cons_append, List.nil_append]
theorem ask_loop {e n k d : Nat} {s1 : zS} (hO : zOk nF rec) (hn : nF ≤ 60) (ho : o < 40) (hk : k < n + 1) (hkn : k < nF) (hd1 : 1 ≤ d) (hdk : d + k ≤ 60) (h13 : zK (rec k) < 13) (IH : askOK g nF rec o P n (mA e).1) : ∀ (c j : Nat) (I : Nat → Nat → Int32) (D : Nat → Nat → UInt64), j + c = zM (rec k) → cX g nF rec o I D P → (evp (fun k' s' => ev g rec o n k' (d + 1) s') (zT (rec k)) s1 j).2.1.1 = 0 → cS I 0 (-9) (evp (fun k' s' => ev g rec o n k' (d + 1) s') (zT (rec k)) s1 j).1 → (∀ i, i < j → D 13 ((d - 1) * 8 + i) = (evp (fun k' s' => ev g rec o n k' (d + 1) s') (zT (rec k)) s1 j).2.2 i ∧ vf_n64 ((evp (fun k' s' => ev g rec o n k' (d + 1) s') (zT (rec k)) s1 j).2.2 i)) → ∃ v I' D', pm_run (mE_X5_ask (mA e).1 (mA e).2) 62 [.ref 11, .ref (pm_fo k), .int (nI d), .int (nI ((d - 1) * 8)), .int (nI j)] [] (162, I, D, pm_R P) = some (some (.double v), (162, I', D', pm_R P)) ∧ cFr I I' D D' ((d - 1) * 8) ∧ cS I' (evf g (rec k) k o (evp (fun k' s' => ev g rec o n k' (d + 1) s') (zT (rec k)) s1 (zM (rec k)))).2.1 (cul (evf g (rec k) k o (evp (fun k' s' => ev g rec o n k' (d + 1) s') (zT (rec k)) s1 (zM (rec k)))).2) (evf g (rec k) k o (evp (fun k' s' => ev g rec o n k' (d + 1) s') (zT (rec k)) s1 (zM (rec k)))).1 ∧ vf_n64 v ∧ ((evf g (rec k) k o (evp (fun k' s' => ev g rec o n k' (d + 1) s') (zT (rec k)) s1 (zM (rec k)))).2.1 = 0 → v = (evf g (rec k) k o (evp (fun k' s' => ev g rec o n k' (d + 1) s') (zT (rec k)) s1 (zM (rec k)))).2.2.2) := by
  have hk60 : k < 60 := by omega
  obtain ⟨hB1, hB2⟩ := hO k hkn
  have hm8 := hB1.2.1
  intro c
  induction c with
  | zero =>
    intro j I D hj hX h0 hS hw
    have ej : j = zM (rec k) := by omega
    subst ej
    obtain ⟨v, I', e1, f1, f2, f3, f4⟩ := ask_end (e := e) (n := n) (m := zM (rec k)) (b4 := .int (nI (zM (rec k)))) hO hk60 hkn hd1 (by omega) hX ho rfl h13 hS hw
    refine ⟨v, I', D, ?_, f1, ?_⟩
    · have hle : nI (zM (rec k)) ≤ nI (zM (rec k)) := nI_le (Nat.le_refl _) (by omega)
      simp (disch := assumption) only [x_X5_ask_62, x_X5_ask_64, x_X5_ask_64n, x_X5_ask_65, x_X5_ask_68, (hX.2.1 k hkn).2.2.2.2.2.1, hle, if_true]
      exact e1
    · unfold evf
      rw [if_pos h0]
      exact ⟨f2, f3, f4⟩
  | succ c ih =>
    intro j I D hj hX h0 hS hw
    have hjm : j < zM (rec k) := by omega
    have hj8 : j < 8 := by omega
    have hlt : ¬ nI (zM (rec k)) ≤ nI j := nI_ge (by omega) (by omega)
    obtain ⟨hT, -⟩ := hB1.2.2.1 j hjm
    have hP : P k j = some (pm_fo (zT (rec k) j)) := (hX.2.1 k hkn).2.2.2.2.2.2.2.2.2.2.2.2.2 j hjm
    obtain ⟨v1, I1, D1, e1, f1, f2, f3, f4⟩ := IH (zT (rec k) j) (d + 1) _ I D (by omega) (by omega) (by omega) (by omega) hX hS
    have hrow : (d - 1) * 8 + j < 480 := by omega
    have hlt4 := ev_lt g rec o n (zT (rec k) j) (d + 1) (evp (fun k' s' => ev g rec o n k' (d + 1) s') (zT (rec k)) s1 j).1
    have go : pm_run (mE_X5_ask (mA e).1 (mA e).2) 62 [.ref 11, .ref (pm_fo k), .int (nI d), .int (nI ((d - 1) * 8)), .int (nI j)] [] (162, I, D, pm_R P) = if (ev g rec o n (zT (rec k) j) (d + 1) (evp (fun k' s' => ev g rec o n k' (d + 1) s') (zT (rec k)) s1 j).1).2.1 = 0 then pm_run (mE_X5_ask (mA e).1 (mA e).2) 62 [.ref 11, .ref (pm_fo k), .int (nI d), .int (nI ((d - 1) * 8)), .int (nI (j + 1))] [] (162, I1, pm_u D1 13 ((d - 1) * 8 + j) v1, pm_R P) else some (some (.double 0), (162, I1, pm_u D1 13 ((d - 1) * 8 + j) v1, pm_R P)) := by
      simp (disch := assumption) only [x_X5_ask_62, x_X5_ask_64, x_X5_ask_64n, x_X5_ask_65, x_X5_ask_68, x_X5_ask_71, x_X5_ask_72, x_X5_ask_75, x_X5_ask_76, x_X5_ask_78, x_X5_ask_79, x_X5_ask_80, x_X5_ask_80n, x_X5_ask_81, x_X5_ask_84, x_X5_ask_86, x_X5_ask_87, x_X5_ask_88, x_X5_ask_89, x_X5_ask_90, x_X5_ask_93, x_X5_ask_94, x_X5_ask_95, x_X5_ask_98, x_X5_ask_101, x_X5_ask_102, x_X5_ask_103, x_X5_ask_106, (hX.2.1 k hkn).2.2.2.2.2.1, hlt, if_false, nI_add, hP, pm_o_some, e1, f2.1, fl0 hlt4, Option.bind_some, Option.toList, List.cons_append, List.nil_append]
    have fr1 : cFr I I1 D (pm_u D1 13 ((d - 1) * 8 + j) v1) ((d - 1) * 8) := by
      refine ⟨f1.1, f1.2.1, fun a i ha => ?_, fun i hi => ?_⟩
      · rw [pm_ua ha]
        exact f1.2.2.1 a i ha
      · rw [pm_ub (by omega)]
        exact f1.2.2.2 i (by omega)
    have hS1 := evp_S (F := fun k' s' => ev g rec o n k' (d + 1) s') (t := zT (rec k)) (s := s1) h0
    by_cases cf : (ev g rec o n (zT (rec k) j) (d + 1) (evp (fun k' s' => ev g rec o n k' (d + 1) s') (zT (rec k)) s1 j).1).2.1 = 0
    · rw [if_pos cf] at go
      have h0' : (evp (fun k' s' => ev g rec o n k' (d + 1) s') (zT (rec k)) s1 (j + 1)).2.1.1 = 0 := by rw [hS1]; exact cf
      obtain ⟨v', I', D', e2, g1, g2⟩ := ih (j + 1) I1 (pm_u D1 13 ((d - 1) * 8 + j) v1) (by omega) (cX_fr hX fr1) h0' (by
        rw [hS1]
        have f2' := f2
        unfold cul at f2'
        rw [if_pos cf, cf] at f2'
        exact f2') (fun i hi => by
        rw [hS1]
        dsimp only
        by_cases ci : i = j
        · subst ci
          rw [pm_us, ud_s]
          exact ⟨f4 cf, by rw [← f4 cf]; exact f3⟩
        · rw [pm_ub (by omega), ud_n ci, f1.2.2.2 _ (by omega)]
          exact hw i (by omega))
      exact ⟨v', I', D', go.trans e2, cFr_tr fr1 g1 (Nat.le_refl _), g2⟩
    · rw [if_neg cf] at go
      have h0' : ¬ (evp (fun k' s' => ev g rec o n k' (d + 1) s') (zT (rec k)) s1 (j + 1)).2.1.1 = 0 := by rw [hS1]; exact cf
      have hst := evp_stop h0' c
      rw [show j + 1 + c = zM (rec k) by omega] at hst
      refine ⟨0, I1, _, go, fr1, ?_⟩
      rw [hst]
      unfold evf
      rw [if_neg h0', hS1]
      refine ⟨?_, fn_0, fun z => absurd z cf⟩
      have f2' := f2
      unfold cul at f2' ⊢
      rw [if_neg cf] at f2' ⊢
      exact f2'
theorem ask_ok (hO : zOk nF rec) (hn : nF ≤ 60) (ho : o < 40) : ∀ n e, 2 * n ≤ e → askOK g nF rec o P n (mA e).1 := by
  intro n
  induction n with
  | zero => intro e he k d s I D hk; exact absurd hk (Nat.not_lt_zero k)
  | succ n ih =>
    intro e he k d s I D hk hkn hd1 hdk hX hS
    have hk60 : k < 60 := by omega
    obtain ⟨hB1, hB2⟩ := hO k hkn
    obtain ⟨e1, rfl⟩ : ∃ e1, e = e1 + 1 := ⟨e - 1, by omega⟩
    obtain ⟨I1, a1, a2, a3⟩ := ask_in (P := P) (e := e1) (D := D) hk60 (by omega) hd1 hB1.1 (hX.2.1 k hkn).1 hS
    have fr1 : cFr I I1 D D ((d - 1) * 8) := ⟨fun a j h1 h2 => a2 a j (fun z => h1 z.1), fun j h1 => a2 11 j (fun z => by omega), fun _ _ _ => rfl, fun _ _ => rfl⟩
    have hX1 := cX_fr hX fr1
    rw [a3]
    unfold ev
    by_cases c13 : zK (rec k) = 13
    · rw [if_pos c13, if_pos c13]
      obtain ⟨e2, rfl⟩ : ∃ e2, e1 = e2 + 1 := ⟨e1 - 1, by omega⟩
      have IH := ih e2 (by omega)
      have hm2 : zM (rec k) = 2 := by
        rw [hB2.2.1 (by omega)]
        unfold nnk
        rw [if_neg (by omega), if_pos c13]
      have hT0 := (hB1.2.2.1 0 (by omega)).1
      have hT1 := (hB1.2.2.1 1 (by omega)).1
      have hP0 : P k 0 = some (pm_fo (zT (rec k) 0)) := (hX.2.1 k hkn).2.2.2.2.2.2.2.2.2.2.2.2.2 0 (by omega)
      have hP1 : P k 1 = some (pm_fo (zT (rec k) 1)) := (hX.2.1 k hkn).2.2.2.2.2.2.2.2.2.2.2.2.2 1 (by omega)
      obtain ⟨v2, I2, D2, b1, b2, b3, b4, b5⟩ := IH (zT (rec k) 0) (d + 1) _ I1 D (by omega) (by omega) (by omega) (by omega) hX1 a1
      have hlt4 := ev_lt g rec o n (zT (rec k) 0) (d + 1) (bump s d)
      have h08 : 0 < 8 := by decide
      have h18 : 1 < 8 := by decide
      by_cases cf : (ev g rec o n (zT (rec k) 0) (d + 1) (bump s d)).2.1 = 0
      · rw [if_pos cf]
        refine ⟨v2, I2, D2, ?_, cFr_tr fr1 b2 (by omega), b3, b4, b5⟩
        rw [en_X5_askElse]
        have b30 : I2 11 0 = 0 := by rw [b3.1, cf]; exact nI_0
        simp (disch := assumption) only [x_X5_askElse_0, x_X5_askElse_1, x_X5_askElse_1n, x_X5_askElse_2, x_X5_askElse_5, x_X5_askElse_6, x_X5_askElse_7, x_X5_askElse_8, x_X5_askElse_9, x_X5_askElse_10, x_X5_askElse_13, x_X5_askElse_14, x_X5_askElse_15, x_X5_askElse_18, x_X5_askElse_21, x_X5_askElse_22, x_X5_ask_51, hP0, pm_o_some, nI_add, b1, b30, if_true, Option.bind_some, Option.toList, List.cons_append, List.nil_append]
      · rw [if_neg cf]
        have fr3 : cFr I2 (pm_u (pm_u (pm_u I2 11 3 ((ev g rec o n (zT (rec k) 0) (d + 1) (bump s d)).1.2.1 + nI 1)) 11 0 (nI 0)) 11 1 (-9)) D2 D2 (d * 8) := ⟨fun a j h1 h2 => by rw [pm_ua h1, pm_ua h1, pm_ua h1], fun j h1 => by rw [pm_ub (by omega), pm_ub (by omega), pm_ub (by omega)], fun _ _ _ => rfl, fun _ _ => rfl⟩
        have hX3 := cX_fr (cX_fr hX1 b2) fr3
        have hS3 : cS (pm_u (pm_u (pm_u I2 11 3 ((ev g rec o n (zT (rec k) 0) (d + 1) (bump s d)).1.2.1 + nI 1)) 11 0 (nI 0)) 11 1 (-9)) 0 (-9) (ctch (ev g rec o n (zT (rec k) 0) (d + 1) (bump s d)).1) := by
          obtain ⟨z0, z1, z2, z3, z4⟩ := b3
          refine ⟨?_, ?_, ?_, ?_, ?_⟩
          · rw [pm_ub (by decide), pm_us]
          · rw [pm_us]
          · rw [pm_ub (by decide), pm_ub (by decide), pm_ub (by decide)]; exact z2
          · rw [pm_ub (by decide), pm_ub (by decide), pm_us]; rfl
          · rw [pm_ub (by decide), pm_ub (by decide), pm_ub (by decide)]; exact z4
        obtain ⟨v4, I4, D4, d1, d2, d3, d4, d5⟩ := IH (zT (rec k) 1) (d + 1) _ _ D2 (by omega) (by omega) (by omega) (by omega) hX3 hS3
        refine ⟨v4, I4, D4, ?_, cFr_tr fr1 (cFr_tr b2 (cFr_tr fr3 d2 (by omega)) (by omega)) (by omega), d3, d4, d5⟩
        have z3 := b3.2.2.2.1
        rw [en_X5_askElse]
        simp (disch := assumption) only [x_X5_askElse_0, x_X5_askElse_1, x_X5_askElse_1n, x_X5_askElse_2, x_X5_askElse_5, x_X5_askElse_6, x_X5_askElse_7, x_X5_askElse_8, x_X5_askElse_9, x_X5_askElse_10, x_X5_askElse_13, x_X5_askElse_14, x_X5_askElse_15, x_X5_askElse_18, x_X5_askElse_21, x_X5_askElse_22, x_X5_askElse_23, x_X5_askElse_24i, x_X5_askElse_24, x_X5_askElse_25, x_X5_askElse_28, x_X5_askElse_29, x_X5_askElse_30, x_X5_askElse_33, x_X5_askElse_34, x_X5_askElse_35, x_X5_askElse_38, x_X5_askElse_39, x_X5_askElse_41, x_X5_askElse_44, x_X5_askElse_45, x_X5_askElse_45n, x_X5_askElse_46, x_X5_askElse_49, x_X5_askElse_50, x_X5_askElse_51, x_X5_askElse_52, x_X5_askElse_53, x_X5_askElse_54, x_X5_askElse_57, x_X5_ask_51, hP0, hP1, pm_o_some, nI_add, b1, b3.1, z3, fl0 hlt4, cf, if_false, d1, Option.bind_some, Option.toList, List.cons_append, List.nil_append]
    · rw [if_neg c13, if_neg c13]
      obtain ⟨v, I', D', b1, b2, b3⟩ := ask_loop (s1 := bump s d) hO hn ho hk hkn hd1 hdk (by have := hB1.1; omega) (ih e1 (by omega)) (zM (rec k)) 0 I1 D (by omega) hX1 rfl a1 (fun i hi => absurd hi (Nat.not_lt_zero i))
      exact ⟨v, I', D', b1, cFr_tr fr1 b2 (Nat.le_refl _), b3⟩
end CAS
