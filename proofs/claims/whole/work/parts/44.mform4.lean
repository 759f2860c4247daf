/-! FORMULAS, 9: the model's formula, part, about, partOf, forget -/
theorem mR_fr {I I' : Nat → Nat → Int32} {D D' : Nat → Nat → UInt64} {k : Nat} {r : zR} (h : mR I D k r) (hI : ∀ a, 144 ≤ a → a ≤ 154 → a ≠ 149 → I' a k = I a k ∧ D' a k = D a k) (hP : ∀ j, j < 8 → I' 149 (8 * k + j) = I 149 (8 * k + j)) (hm : zM r ≤ 8) : mR I' D' k r := by
  obtain ⟨a1, a2, a3, a4, a5, a6, a7, a8, a9, a10, a11⟩ := h
  refine ⟨?_, ?_, ?_, ?_, ?_, ?_, ?_, ?_, ?_, ?_, ?_⟩
  · rw [(hI _ (by decide) (by decide) (by decide)).1]; exact a1
  · rw [(hI _ (by decide) (by decide) (by decide)).1]; exact a2
  · rw [(hI _ (by decide) (by decide) (by decide)).2]; exact a3
  · rw [(hI _ (by decide) (by decide) (by decide)).2]; exact a4
  · rw [(hI _ (by decide) (by decide) (by decide)).1]; exact a5
  · rw [(hI _ (by decide) (by decide) (by decide)).1]; exact a6
  · rw [(hI _ (by decide) (by decide) (by decide)).1]; exact a7
  · rw [(hI _ (by decide) (by decide) (by decide)).1]; exact a8
  · rw [(hI _ (by decide) (by decide) (by decide)).1]; exact a9
  · rw [(hI _ (by decide) (by decide) (by decide)).1]; exact a10
  · intro j hj
    rw [hP j (by omega)]
    exact a11 j hj
section FOR8
variable {I : Nat → Nat → Int32} {D : Nat → Nat → UInt64} {P : Nat → Nat → Option Nat} {n kd xn yn : Nat} {rec : Nat → zR} {x y w : Int32} {p q : UInt64} {μ : pm_M}
theorem mF_judge {f m : Nat} (hf : f < m) (hm : m ≤ 60) (hB : zB1 rec f) (hB2 : zK (rec f) ≤ 5 → zM (rec f) = 0) (hm8 : ∀ k, k < m → zM (rec k) ≤ 8) (ho : ∀ k, k < m → k ≠ f → mR I D k (rec k)) (h1 : I 144 f = nI (zK (rec f))) (h2 : I 145 f = zL (rec f)) (h3 : D 146 f = mo (zP (rec f))) (h4 : D 147 f = mo (zQ (rec f))) (h5 : I 148 f = nI (zM (rec f))) (h6 : I 150 f = fb (zI (rec f))) (h7 : ∀ j, j < zM (rec f) → I 149 (8 * f + j) = nI (zT (rec f) j)) : ∃ I', mF_X8_judge [.ref 138, .int (nI f)] (162, I, D, pm_R P) = some (none, (162, I', D, pm_R P)) ∧ mFo I' D m rec ∧ ∀ a b, (a < 151 ∨ 154 < a) → I' a b = I a b := by
  obtain ⟨b1, b2, b3, b4⟩ := hB
  have hp : jPt I rec f (zT (rec f)) (zM (rec f)) := by
    intro j hj
    have hlt := (b3 j hj).1
    obtain ⟨a1, a2, a3, a4, a5, a6, a7, a8, a9, a10, a11⟩ := ho (zT (rec f) j) (by omega) (by omega)
    exact ⟨h7 j hj, by omega, a7, a8, a9, a10⟩
  have e := sX8_judge (P := P) (D := D) (by omega : f < 60) b1 b2 h1 h2 h3 h5 hp hB2
  rw [← b4] at e
  refine ⟨_, e, ?_, ?_⟩
  · intro k hk
    by_cases c : k = f
    · subst c
      refine ⟨?_, ?_, h3, h4, ?_, ?_, ?_, ?_, ?_, ?_, ?_⟩
      · simp [pm_u]; exact h1
      · simp [pm_u]; exact h2
      · simp [pm_u]; exact h5
      · simp [pm_u]; exact h6
      · simp [pm_u]
      · simp [pm_u]
      · simp [pm_u]; rfl
      · simp [pm_u]; rfl
      · intro j hj
        simp [pm_u]
        exact h7 j hj
    · exact mR_fr (ho k hk c) (fun a _ _ _ => ⟨by rw [pm_ub c, pm_ub c, pm_ub c, pm_ub c], rfl⟩) (fun j _ => by rw [pm_ua (by decide), pm_ua (by decide), pm_ua (by decide), pm_ua (by decide)]) (hm8 k hk)
  · intro a b h
    rw [pm_ua (by omega), pm_ua (by omega), pm_ua (by omega), pm_ua (by omega)]
theorem mfo_3 (hn : n < 60) (h : I 138 5 = nI n) (hk : kd < 14) {s : Int32} (hx : 9 ≤ kd → x = nI xn ∧ xn < n) (hy : kd = 13 → y = nI yn ∧ yn < n) : ∃ J E, pm_run mE_X8_formula 163 [.ref 138, .int (nI kd), .int x, .int y, .long p.toInt64, .retAddr 1, .long q.toInt64, .retAddr 1, .double (mo (ob p)), .retAddr 1, .double (mo (ob q)), .retAddr 1, .int (nI (nnk kd)), .int s, .retAddr 0] [] (162, I, D, pm_R P) = pm_run mE_X8_formula 279 [.ref 138, .int (nI kd), .int x, .int y, .long p.toInt64, .retAddr 1, .long q.toInt64, .retAddr 1, .double (mo (ob p)), .retAddr 1, .double (mo (ob q)), .retAddr 1, .int (nI (nnk kd)), .int s, .int (nI n)] [] (162, J, E, pm_R P) ∧ J 144 n = nI kd ∧ J 145 n = x ∧ E 146 n = mo (ob p) ∧ E 147 n = mo (ob q) ∧ J 148 n = nI (nnk kd) ∧ J 150 n = fb false ∧ (9 ≤ kd → J 149 (8 * n) = nI xn) ∧ (kd = 13 → J 149 (8 * n + 1) = nI yn) ∧ J 138 5 = nI (n + 1) ∧ (∀ a b, a ≠ 138 → (a < 144 ∨ 150 < a ∨ (a ≠ 149 ∧ a ≠ 150 ∧ b ≠ n) ∨ (a = 149 ∧ (b < 8 * n ∨ 8 * n + 8 ≤ b))) → J a b = I a b ∧ E a b = D a b) ∧ (∀ b, b ≠ 5 → J 138 b = I 138 b) ∧ (∀ b, E 138 b = D 138 b ∧ (b ≠ n → E 146 b = D 146 b ∧ E 147 b = D 147 b)) ∧ ∀ b, b < n → J 150 b = if (9 ≤ kd ∧ b = xn) ∨ (kd = 13 ∧ b = yn) then fb true else I 150 b := by
  have h480 : 8 * n < 480 := by omega
  have h481 : 8 * n + 1 < 480 := by omega
  have one : nI 1 &&& 1 = fb true := rfl
  have zer : nI 0 &&& 1 = fb false := rfl
  unfold nnk
  by_cases c13 : kd = 13
  · obtain ⟨rfl, h1⟩ := hx (by omega)
    obtain ⟨rfl, h2⟩ := hy c13
    have hx6 : xn < 60 := by omega
    have hy6 : yn < 60 := by omega
    rw [if_neg (show ¬ kd < 9 by omega), if_pos c13]
    simp (disch := assumption) only [x_X8_formula_163, x_X8_formula_164, x_X8_formula_167, x_X8_formula_169, x_X8_formula_170i, x_X8_formula_170, x_X8_formula_171, x_X8_formula_174, x_X8_formula_175, x_X8_formula_176, x_X8_formula_179, x_X8_formula_180, x_X8_formula_183, x_X8_formula_185, x_X8_formula_186, x_X8_formula_187, x_X8_formula_188, x_X8_formula_191, x_X8_formula_193, x_X8_formula_194, x_X8_formula_195, x_X8_formula_196, x_X8_formula_199, x_X8_formula_201, x_X8_formula_203, x_X8_formula_204, x_X8_formula_205, x_X8_formula_208, x_X8_formula_210, x_X8_formula_212, x_X8_formula_213, x_X8_formula_214, x_X8_formula_217, x_X8_formula_219, x_X8_formula_221, x_X8_formula_222, x_X8_formula_223, x_X8_formula_226, x_X8_formula_228, x_X8_formula_229, x_X8_formula_230, x_X8_formula_232, x_X8_formula_235, x_X8_formula_236, x_X8_formula_239, x_X8_formula_241, x_X8_formula_243, x_X8_formula_244, x_X8_formula_245, x_X8_formula_246, x_X8_formula_247, x_X8_formula_250, x_X8_formula_251, x_X8_formula_252, x_X8_formula_253, x_X8_formula_255, x_X8_formula_256, x_X8_formula_259, x_X8_formula_260, x_X8_formula_263, x_X8_formula_265, x_X8_formula_267, x_X8_formula_268, x_X8_formula_269, x_X8_formula_270, x_X8_formula_271, x_X8_formula_272, x_X8_formula_273, x_X8_formula_276, x_X8_formula_277, x_X8_formula_278, h, nI_add, pk_mul, show ¬ nI 2 ≤ 0 by decide, show ¬ nI 2 ≤ nI 1 by decide, if_false, one, zer]
    refine ⟨_, _, rfl, by simp [pm_u], by simp [pm_u], by simp [pm_u], by simp [pm_u], by simp [pm_u], ?_, fun _ => by simp [pm_u], fun _ => by simp [pm_u], by simp [pm_u], ?_, ?_, ?_, ?_⟩
    · simp [pm_u, show ¬ n = xn by omega, show ¬ n = yn by omega]
    · intro a b ha hab
      constructor
      · unfold pm_u
        repeat rw [if_neg (by omega)]
      · unfold pm_u
        repeat rw [if_neg (by omega)]
    · intro b hb
      simp [pm_u, hb]
    · intro b
      exact ⟨by simp [pm_u], fun hb => by simp [pm_u, hb]⟩
    · intro b hb
      by_cases c1 : b = yn
      · simp [pm_u, c1, c13]
      · by_cases c2 : b = xn
        · simp [pm_u, c1, c2, show 9 ≤ kd by omega]
        · simp [pm_u, c1, c2, show ¬ b = n by omega]
  · by_cases c9 : 9 ≤ kd
    · obtain ⟨rfl, h1⟩ := hx c9
      have hx6 : xn < 60 := by omega
      rw [if_neg (show ¬ kd < 9 by omega), if_neg c13]
      simp (disch := assumption) only [x_X8_formula_163, x_X8_formula_164, x_X8_formula_167, x_X8_formula_169, x_X8_formula_170i, x_X8_formula_170, x_X8_formula_171, x_X8_formula_174, x_X8_formula_175, x_X8_formula_176, x_X8_formula_179, x_X8_formula_180, x_X8_formula_183, x_X8_formula_185, x_X8_formula_186, x_X8_formula_187, x_X8_formula_188, x_X8_formula_191, x_X8_formula_193, x_X8_formula_194, x_X8_formula_195, x_X8_formula_196, x_X8_formula_199, x_X8_formula_201, x_X8_formula_203, x_X8_formula_204, x_X8_formula_205, x_X8_formula_208, x_X8_formula_210, x_X8_formula_212, x_X8_formula_213, x_X8_formula_214, x_X8_formula_217, x_X8_formula_219, x_X8_formula_221, x_X8_formula_222, x_X8_formula_223, x_X8_formula_226, x_X8_formula_228, x_X8_formula_229, x_X8_formula_230, x_X8_formula_232, x_X8_formula_235, x_X8_formula_236, x_X8_formula_239, x_X8_formula_241, x_X8_formula_243, x_X8_formula_244, x_X8_formula_245, x_X8_formula_246, x_X8_formula_247, x_X8_formula_250, x_X8_formula_251, x_X8_formula_252, x_X8_formula_253, x_X8_formula_255, x_X8_formula_256, x_X8_formula_259, x_X8_formula_260, x_X8_formula_263, x_X8_formula_265, x_X8_formula_267, x_X8_formula_268, x_X8_formula_269, x_X8_formula_270, x_X8_formula_271, x_X8_formula_272, x_X8_formula_273, x_X8_formula_276, x_X8_formula_277, x_X8_formula_278, h, nI_add, pk_mul, show ¬ nI 1 ≤ 0 by decide, show nI 1 ≤ nI 1 by decide, if_true, if_false, one, zer]
      refine ⟨_, _, rfl, by simp [pm_u], by simp [pm_u], by simp [pm_u], by simp [pm_u], by simp [pm_u], ?_, fun _ => by simp [pm_u], fun z => absurd z c13, by simp [pm_u], ?_, ?_, ?_, ?_⟩
      · simp [pm_u, show ¬ n = xn by omega]
      · intro a b ha hab
        constructor
        · unfold pm_u
          repeat rw [if_neg (by omega)]
        · unfold pm_u
          repeat rw [if_neg (by omega)]
      · intro b hb
        simp [pm_u, hb]
      · intro b
        exact ⟨by simp [pm_u], fun hb => by simp [pm_u, hb]⟩
      · intro b hb
        by_cases c2 : b = xn
        · simp [pm_u, c2, c9]
        · simp [pm_u, c2, c13, show ¬ b = n by omega]
    · rw [if_pos (show kd < 9 by omega)]
      simp (disch := assumption) only [x_X8_formula_163, x_X8_formula_164, x_X8_formula_167, x_X8_formula_169, x_X8_formula_170i, x_X8_formula_170, x_X8_formula_171, x_X8_formula_174, x_X8_formula_175, x_X8_formula_176, x_X8_formula_179, x_X8_formula_180, x_X8_formula_183, x_X8_formula_185, x_X8_formula_186, x_X8_formula_187, x_X8_formula_188, x_X8_formula_191, x_X8_formula_193, x_X8_formula_194, x_X8_formula_195, x_X8_formula_196, x_X8_formula_199, x_X8_formula_201, x_X8_formula_203, x_X8_formula_204, x_X8_formula_205, x_X8_formula_208, x_X8_formula_210, x_X8_formula_212, x_X8_formula_213, x_X8_formula_214, x_X8_formula_217, x_X8_formula_219, x_X8_formula_221, x_X8_formula_222, x_X8_formula_223, x_X8_formula_226, x_X8_formula_228, x_X8_formula_229, x_X8_formula_230, x_X8_formula_232, x_X8_formula_235, x_X8_formula_236, x_X8_formula_239, x_X8_formula_241, x_X8_formula_243, x_X8_formula_244, x_X8_formula_245, x_X8_formula_246, x_X8_formula_247, x_X8_formula_250, x_X8_formula_251, x_X8_formula_252, x_X8_formula_253, x_X8_formula_255, x_X8_formula_256, x_X8_formula_259, x_X8_formula_260, x_X8_formula_263, x_X8_formula_265, x_X8_formula_267, x_X8_formula_268, x_X8_formula_269, x_X8_formula_270, x_X8_formula_271, x_X8_formula_272, x_X8_formula_273, x_X8_formula_276, x_X8_formula_277, x_X8_formula_278, h, nI_add, pk_mul, show nI 0 ≤ 0 by decide, show nI 0 ≤ nI 1 by decide, if_true, one, zer]
      refine ⟨_, _, rfl, by simp [pm_u], by simp [pm_u], by simp [pm_u], by simp [pm_u], by simp [pm_u], by simp [pm_u], fun z => absurd z c9, fun z => absurd z c13, by simp [pm_u], ?_, ?_, ?_, ?_⟩
      · intro a b ha hab
        constructor
        · unfold pm_u
          repeat rw [if_neg (by omega)]
        · unfold pm_u
          repeat rw [if_neg (by omega)]
      · intro b hb
        simp [pm_u, hb]
      · intro b
        exact ⟨by simp [pm_u], fun hb => by simp [pm_u, hb]⟩
      · intro b hb
        simp [pm_u, c9, c13, show ¬ b = n by omega]
theorem sX8_formula (hO : zOk n rec) (hC : mFo I D n rec) (h : I 138 5 = nI n) (hn : n < 60) (hk : kd < 14) (hp : plc n kd x y) (ht : tk kd p q) (hx : 9 ≤ kd → x = nI xn ∧ xn < n) (hy : kd = 13 → y = nI yn ∧ yn < n) (hs : zSz rec kd xn yn ≤ nI 200) : ∃ I' D', mF_X8_formula [.ref 138, .int (nI kd), .int x, .int y, .long p.toInt64, .long q.toInt64] (162, I, D, pm_R P) = some (some (.int (nI n)), (162, I', D', pm_R P)) ∧ mFo I' D' (n + 1) (zNew rec n kd x (ob p) (ob q) xn yn) ∧ I' 138 5 = nI (n + 1) ∧ FN I I' D D' := by
  have hx' : 9 ≤ kd → xn < n := fun z => (hx z).2
  have hy' : kd = 13 → yn < n := fun z => (hy z).2
  have hO' := zNew_ok (x := x) hO hk hp.1 ht hx' hy'
  obtain ⟨t1, t2, t3, t4, t5, t6, t7, t8⟩ := zNew_n (rec := rec) (x := x) (p := p) (q := q) hx' hy'
  obtain ⟨J, E, run, j1, j2, j3, j4, j5, j6, j7, j8, j9, j10, j11, j12, j13⟩ := mfo_3 (D := D) (P := P) (p := p) (q := q) (s := zSz rec kd xn yn) hn h hk hx hy
  rw [en_X8_formula, mfo_1 h (by omega) hk, if_pos ht, if_pos hp, mfo_2 hC h (by omega) hk hx hy, if_pos ⟨hn, hs⟩, run]
  obtain ⟨I', e, g1, g2⟩ := mF_judge (P := P) (I := J) (D := E) (m := n + 1) (f := n) (rec := zNew rec n kd x (ob p) (ob q) xn yn) (by omega) (by omega) (hO' n (by omega)).1 (fun z => by rw [t1] at z; rw [t5]; exact if_pos (by omega)) (fun k hk => (hO' k hk).1.2.1) (fun k hk2 hkn => by
    have hkn' : k < n := by omega
    rw [zNew_o hkn' hx' hy']
    obtain ⟨a1, a2, a3, a4, a5, a6, a7, a8, a9, a10, a11⟩ := hC k hkn'
    have fr : ∀ a, a ≠ 138 → a ≠ 149 → a ≠ 150 → J a k = I a k := fun a h1 h2 h3 => (j10 a k h1 (by omega)).1
    have hm8 := (hO k hkn').1.2.1
    have q6 := j13 k hkn'
    have base : J 150 k = fb (zI (if (9 ≤ kd ∧ k = xn) ∨ (kd = 13 ∧ k = yn) then zY (rec k) else rec k)) := by
      rw [q6]
      split
      · rfl
      · exact a6
    have gen : ∀ r : zR, zK r = zK (rec k) → zL r = zL (rec k) → zP r = zP (rec k) → zQ r = zQ (rec k) → zM r = zM (rec k) → zEq r (rec k) → zT r = zT (rec k) → J 150 k = fb (zI r) → mR J E k r := by
      intro r r1 r2 r3 r4 r5 r6 r7 r8
      refine ⟨?_, ?_, ?_, ?_, ?_, r8, ?_, ?_, ?_, ?_, ?_⟩
      · rw [fr _ (by decide) (by decide) (by decide), r1]; exact a1
      · rw [fr _ (by decide) (by decide) (by decide), r2]; exact a2
      · rw [((j12 k).2 (by omega)).1, r3]; exact a3
      · rw [((j12 k).2 (by omega)).2, r4]; exact a4
      · rw [fr _ (by decide) (by decide) (by decide), r5]; exact a5
      · rw [fr _ (by decide) (by decide) (by decide), r6.1]; exact a7
      · rw [fr _ (by decide) (by decide) (by decide), r6.1]; exact a8
      · rw [fr _ (by decide) (by decide) (by decide), r6.2.2]; exact a9
      · rw [fr _ (by decide) (by decide) (by decide), r6.2.1]; exact a10
      · intro j hj
        rw [r5] at hj
        rw [(j10 149 (8 * k + j) (by decide) (by omega)).1, r7]
        exact a11 j hj
    by_cases c : (9 ≤ kd ∧ k = xn) ∨ (kd = 13 ∧ k = yn)
    · rw [if_pos c] at base ⊢
      exact gen _ rfl rfl rfl rfl rfl ⟨rfl, rfl, rfl⟩ rfl base
    · rw [if_neg c] at base ⊢
      exact gen _ rfl rfl rfl rfl rfl ⟨rfl, rfl, rfl⟩ rfl base) (by rw [t1]; exact j1) (by rw [t2]; exact j2) (by rw [t3]; exact j3) (by rw [t4]; exact j4) (by rw [t5]; exact j5) (by rw [t6]; exact j6) (fun j hj => by
    rw [t5] at hj
    unfold nnk at hj
    by_cases c13 : kd = 13
    · rw [if_neg (by omega), if_pos c13] at hj
      by_cases c0 : j = 0
      · subst c0
        rw [t7 (by omega)]
        exact j7 (by omega)
      · have : j = 1 := by omega
        subst this
        rw [t8 c13]
        exact j8 c13
    · by_cases c9 : kd < 9
      · rw [if_pos c9] at hj
        omega
      · rw [if_neg c9, if_neg c13] at hj
        have : j = 0 := by omega
        subst this
        rw [t7 (by omega)]
        exact j7 (by omega))
  refine ⟨I', E, ?_, g1, ?_, ?_⟩
  · simp only [x_X8_formula_279, x_X8_formula_280, x_X8_formula_282, x_X8_formula_285, x_X8_formula_287, e, Option.bind_some, Option.toList, List.cons_append, List.nil_append]
  · rw [g2 _ _ (by decide)]; exact j9
  · intro a b hab hc
    rw [g2 a b (by omega)]
    by_cases ca : a = 138
    · subst ca
      exact ⟨j11 b (by omega), (j12 b).1⟩
    · exact j10 a b ca (by omega)
end FOR8
