/-! EACH CALL: class and model answer alike, and hold alike again -/
def iO (I : Nat → Nat → Int32) (D : Nat → Nat → UInt64) (g : gO) : Prop := CO I D g ∧ MO I D g
def iF (I : Nat → Nat → Int32) (D : Nat → Nat → UInt64) (P : Nat → Nat → Option Nat) (n : Nat) (rec : Nat → zR) : Prop := cF I D P n rec ∧ mFo I D n rec ∧ zOk n rec ∧ n ≤ 60 ∧ I 0 3 = nI n ∧ I 138 5 = nI n ∧ ∀ k, k < 60 → I 200 k = nI k
def iT (I : Nat → Nat → Int32) (tl : Nat → Int32) (wa : Bool) : Prop := (∀ j, j < 5 → I 135 j = tl j) ∧ I 138 27 = fb wa ∧ (wa = true → ∀ j, j < 5 → I 159 j = tl j) ∧ (wa = false → ∀ j, j < 5 → tl j = if j = 1 then -9 else nI 0)
def INV (I : Nat → Nat → Int32) (D : Nat → Nat → UInt64) (P : Nat → Nat → Option Nat) : Prop := ∃ g n rec tl wa, iO I D g ∧ iF I D P n rec ∧ iT I tl wa
theorem iO_fr {I I' : Nat → Nat → Int32} {D D' : Nat → Nat → UInt64} {g : gO} (h : iO I D g) (hf : ∀ a b, (2 ≤ a ∧ a ≤ 10) ∨ (139 ≤ a ∧ a ≤ 143) → I' a b = I a b ∧ D' a b = D a b) : iO I' D' g := ⟨CO_fr h.1 (fun a b h1 h2 => hf a b (Or.inl ⟨h1, h2⟩)), MO_fr h.2 (fun a b h1 h2 => hf a b (Or.inr ⟨h1, h2⟩))⟩
theorem cF_fr {I I' : Nat → Nat → Int32} {D D' : Nat → Nat → UInt64} {P : Nat → Nat → Option Nat} {n : Nat} {rec : Nat → zR} (h : cF I D P n rec) (hf : ∀ a b, 201 ≤ a → I' a b = I a b ∧ D' a b = D a b) : cF I' D' P n rec := fun k hk => cR_fr (h k hk) (fun a h1 => hf a k h1) (fun _ => rfl)
theorem iF_fr {I I' : Nat → Nat → Int32} {D D' : Nat → Nat → UInt64} {P : Nat → Nat → Option Nat} {n : Nat} {rec : Nat → zR} (h : iF I D P n rec) (hf : ∀ a b, (a = 0 ∧ b = 3) ∨ (a = 138 ∧ b = 5) ∨ (144 ≤ a ∧ a ≤ 154) ∨ 200 ≤ a → I' a b = I a b ∧ (a ≠ 138 → D' a b = D a b)) : iF I' D' P n rec := by
  obtain ⟨h1, h2, h3, h4, h5, h6, h7⟩ := h
  refine ⟨cF_fr h1 (fun a b g => ⟨(hf a b (by omega)).1, (hf a b (by omega)).2 (by omega)⟩), mFo_fr h2 (fun a b g1 g2 => ⟨(hf a b (by omega)).1, (hf a b (by omega)).2 (by omega)⟩), h3, h4, ?_, ?_, fun k hk => ?_⟩
  · rw [(hf 0 3 (by omega)).1]; exact h5
  · rw [(hf 138 5 (by omega)).1]; exact h6
  · rw [(hf 200 k (by omega)).1]; exact h7 k hk
theorem iT_fr {I I' : Nat → Nat → Int32} {tl : Nat → Int32} {wa : Bool} (h : iT I tl wa) (hf : ∀ a b, a = 135 ∨ (a = 138 ∧ b = 27) ∨ a = 159 → I' a b = I a b) : iT I' tl wa := by
  obtain ⟨h1, h2, h3, h4⟩ := h
  refine ⟨fun j hj => ?_, ?_, fun z j hj => ?_, h4⟩
  · rw [hf 135 j (Or.inl rfl)]; exact h1 j hj
  · rw [hf 138 27 (Or.inr (Or.inl ⟨rfl, rfl⟩))]; exact h2
  · rw [hf 159 j (Or.inr (Or.inr rfl))]; exact h3 z j hj
def SOKi (F7 F8 : pm_F) (a : List Value) : Prop := ∀ I D P, INV I D P → ∃ (v : Int32) (I1 : Nat → Nat → Int32) (D1 : Nat → Nat → UInt64) (P1 : Nat → Nat → Option Nat) (I2 : Nat → Nat → Int32) (D2 : Nat → Nat → UInt64), F7 (.ref 0 :: a) (162, I, D, pm_R P) = some (some (.int v), (162, I1, D1, pm_R P1)) ∧ F8 (.ref 138 :: a) (162, I1, D1, pm_R P1) = some (some (.int v), (162, I2, D2, pm_R P1)) ∧ INV I2 D2 P1
def SOKl (F7 F8 : pm_F) (a : List Value) : Prop := ∀ I D P, INV I D P → ∃ (v : Int64) (I1 : Nat → Nat → Int32) (D1 : Nat → Nat → UInt64) (P1 : Nat → Nat → Option Nat) (I2 : Nat → Nat → Int32) (D2 : Nat → Nat → UInt64), F7 (.ref 0 :: a) (162, I, D, pm_R P) = some (some (.long v), (162, I1, D1, pm_R P1)) ∧ F8 (.ref 138 :: a) (162, I1, D1, pm_R P1) = some (some (.long v), (162, I2, D2, pm_R P1)) ∧ INV I2 D2 P1
theorem long_d (b : Int64) : ∃ d : UInt64, b = d.toInt64 := ⟨b.toUInt64, by simp⟩
theorem k_tell (x y z w : Int32) : SOKi mF_X7_tell mF_X8_tell [.int x, .int y, .int z, .int w] := by
  rintro I D P ⟨g, n, rc, tl, wa, hO, hF, hT⟩
  by_cases c : inr x 40 ∧ inr y 4 ∧ inr z 1001 ∧ inr w 100001
  · obtain ⟨o, ho, rfl⟩ := inr_nat (by decide) c.1
    obtain ⟨f, hf, rfl⟩ := inr_nat (by decide) c.2.1
    obtain ⟨cc, hc, rfl⟩ := inr_nat (by decide) c.2.2.1
    obtain ⟨l, hl, rfl⟩ := inr_nat (by decide) c.2.2.2
    obtain ⟨I1, D1, e1, f1, f2⟩ := sX7_tell (P := P) hO.1 ho hf (show cc ≤ 1000 by omega) (show l ≤ 100000 by omega)
    have hM := MO_fr hO.2 (fun a b h1 h2 => f2 a b (Or.inr (by omega)))
    obtain ⟨I2, D2, e2, m1, m2⟩ := sX8_tell (P := P) hM ho hf (show cc ≤ 1000 by omega) (show l ≤ 100000 by omega)
    refine ⟨_, I1, D1, P, I2, D2, e1, e2, _, n, rc, tl, wa, ⟨CO_fr f1 (fun a b h1 h2 => m2 a b (Or.inl (by omega))), m1⟩, iF_fr hF (fun a b h => ⟨((m2 a b (by omega)).1).trans (f2 a b (by omega)).1, fun _ => ((m2 a b (by omega)).2).trans (f2 a b (by omega)).2⟩), iT_fr hT (fun a b h => ((m2 a b (by omega)).1).trans (f2 a b (by omega)).1)⟩
  · exact ⟨_, I, D, P, I, D, sX7_tell_bad c, sX8_tell_bad c, g, n, rc, tl, wa, hO, hF, hT⟩
theorem k_column (x y : Int32) (b : Int64) : SOKi mF_X7_column mF_X8_column [.int x, .int y, .long b] := by
  rintro I D P ⟨g, n, rc, tl, wa, hO, hF, hT⟩
  obtain ⟨d, rfl⟩ := long_d b
  by_cases c : inr x 40 ∧ inr y 4
  · obtain ⟨o, ho, rfl⟩ := inr_nat (by decide) c.1
    obtain ⟨f, hf, rfl⟩ := inr_nat (by decide) c.2
    obtain ⟨I1, D1, e1, f1, f2⟩ := sX7_column (P := P) (d := d) hO.1 ho hf
    have hM := MO_fr hO.2 (fun a b h1 h2 => f2 a b (Or.inr (by omega)))
    obtain ⟨I2, D2, e2, m1, m2⟩ := sX8_column (P := P) (d := d) hM ho hf
    refine ⟨_, I1, D1, P, I2, D2, e1, e2, _, n, rc, tl, wa, ⟨CO_fr f1 (fun a b h1 h2 => m2 a b (Or.inl (by omega))), m1⟩, iF_fr hF (fun a b h => ⟨((m2 a b (by omega)).1).trans (f2 a b (by omega)).1, fun _ => ((m2 a b (by omega)).2).trans (f2 a b (by omega)).2⟩), iT_fr hT (fun a b h => ((m2 a b (by omega)).1).trans (f2 a b (by omega)).1)⟩
  · exact ⟨_, I, D, P, I, D, sX7_column_bad c, sX8_column_bad c, g, n, rc, tl, wa, hO, hF, hT⟩
theorem k_given (x : Int32) (b : Int64) : SOKi mF_X7_given mF_X8_given [.int x, .long b] := by
  rintro I D P ⟨g, n, rc, tl, wa, hO, hF, hT⟩
  obtain ⟨d, rfl⟩ := long_d b
  by_cases c : inr x 4 ∧ gvok d
  · obtain ⟨f, hf, rfl⟩ := inr_nat (by decide) c.1
    obtain ⟨I1, D1, e1, f1, f2⟩ := sX7_given (P := P) hO.1 hf c.2
    have hM := MO_fr hO.2 (fun a b h1 h2 => f2 a b (Or.inr (by omega)))
    obtain ⟨I2, D2, e2, m1, m2⟩ := sX8_given (P := P) hM hf c.2
    refine ⟨_, I1, D1, P, I2, D2, e1, e2, _, n, rc, tl, wa, ⟨CO_fr f1 (fun a b h1 h2 => m2 a b (Or.inl (by omega))), m1⟩, iF_fr hF (fun a b h => ⟨((m2 a b (by omega)).1).trans (f2 a b (by omega)).1, fun _ => ((m2 a b (by omega)).2).trans (f2 a b (by omega)).2⟩), iT_fr hT (fun a b h => ((m2 a b (by omega)).1).trans (f2 a b (by omega)).1)⟩
  · exact ⟨_, I, D, P, I, D, sX7_given_bad c, sX8_given_bad c, g, n, rc, tl, wa, hO, hF, hT⟩
theorem k_average (x : Int32) : SOKl mF_X7_average mF_X8_average [.int x] := by
  rintro I D P ⟨g, n, rc, tl, wa, hO, hF, hT⟩
  by_cases c : inr x 4
  · obtain ⟨f, hf, rfl⟩ := inr_nat (by decide) c
    exact ⟨_, I, D, P, I, D, sX7_average hO.1 hf, sX8_average hO.2 hf, g, n, rc, tl, wa, hO, hF, hT⟩
  · exact ⟨_, I, D, P, I, D, sX7_average_bad c, sX8_average_bad c, g, n, rc, tl, wa, hO, hF, hT⟩
theorem k_packed (x y : Int32) : SOKi mF_X7_packed mF_X8_packed [.int x, .int y] := by
  rintro I D P ⟨g, n, rc, tl, wa, hO, hF, hT⟩
  by_cases c : inr x 100001 ∧ inr y 2
  · obtain ⟨l, hl, rfl⟩ := inr_nat (by decide) c.1
    obtain ⟨w, hw, rfl⟩ := inr_nat (by decide) c.2
    exact ⟨_, I, D, P, I, D, sX7_packed (show l ≤ 100000 by omega) hw, sX8_packed (show l ≤ 100000 by omega) hw, g, n, rc, tl, wa, hO, hF, hT⟩
  · exact ⟨_, I, D, P, I, D, sX7_packed_bad c, sX8_packed_bad c, g, n, rc, tl, wa, hO, hF, hT⟩
theorem k_formula (x y w : Int32) (b1 b2 : Int64) : SOKi mF_X7_formula mF_X8_formula [.int x, .int y, .int w, .long b1, .long b2] := by
  rintro I D P ⟨g, n, rc, tl, wa, hO, hF, hT⟩
  obtain ⟨p, rfl⟩ := long_d b1
  obtain ⟨q, rfl⟩ := long_d b2
  obtain ⟨c1, c2, c3, c4, c5, c6, c7⟩ := id hF
  by_cases c : ∃ k, k < 14 ∧ x = nI k ∧ plc n k y w ∧ tk k p q
  · obtain ⟨kd, hk, rfl, hp, ht⟩ := c
    obtain ⟨xn, hx⟩ : ∃ xn, 9 ≤ kd → y = nI xn ∧ xn < n := by
      by_cases c : 9 ≤ kd
      · obtain ⟨o, ho, e⟩ := inr_nat (show n < 2 ^ 31 by omega) (hp.2.1 c)
        exact ⟨o, fun _ => ⟨e, ho⟩⟩
      · exact ⟨0, fun z => absurd z c⟩
    obtain ⟨yn, hy⟩ : ∃ yn, kd = 13 → w = nI yn ∧ yn < n := by
      by_cases c : kd = 13
      · obtain ⟨o, ho, e⟩ := inr_nat (show n < 2 ^ 31 by omega) (hp.2.2 c)
        exact ⟨o, fun _ => ⟨e, ho⟩⟩
      · exact ⟨0, fun z => absurd z c⟩
    by_cases c60 : n < 60
    · by_cases cs : zSz rc kd xn yn ≤ nI 200
      · obtain ⟨I1, D1, P1, e1, f1, f2, f3⟩ := sX7_formula (q := q) c1 c5 (c7 n c60) c60 hk hp ht hx hy cs
        have hm1 : mFo I1 D1 n rc := mFo_fr c2 (fun a b h1 h2 => f3 a b (by omega) (by omega))
        have h5 : I1 138 5 = nI n := by rw [(f3 138 5 (by decide) (by decide)).1]; exact c6
        obtain ⟨I2, D2, e2, m1, m2, m3⟩ := sX8_formula (P := P1) (q := q) c3 hm1 h5 c60 hk hp ht hx hy cs
        have hz := zNew_ok c3 hk (fun z => hp.1 z) ht (fun z => (hx z).2) (fun z => (hy z).2)
        refine ⟨_, I1, D1, P1, I2, D2, e1, e2, g, n + 1, _, tl, wa, iO_fr hO (fun a b h => ⟨((m3 a b (by omega) (by omega)).1).trans (f3 a b (by omega) (by omega)).1, ((m3 a b (by omega) (by omega)).2).trans (f3 a b (by omega) (by omega)).2⟩), ⟨cF_fr f1 (fun a b h => m3 a b (by omega) (by omega)), m1, hz, by omega, ?_, m2, fun k hk => ?_⟩, iT_fr hT (fun a b h => ((m3 a b (by omega) (by omega)).1).trans (f3 a b (by omega) (by omega)).1)⟩
        · rw [(m3 0 3 (by decide) (by decide)).1]; exact f2
        · rw [(m3 200 k (by decide) (by omega)).1, (f3 200 k (by decide) (by omega)).1]; exact c7 k hk
      · exact ⟨_, I, D, P, I, D, sX7_formula_big c1 c5 c60 hk hp ht hx hy cs, sX8_formula_full c2 c6 c4 hk hp ht hx hy (fun z => cs z.2), g, n, rc, tl, wa, hO, hF, hT⟩
    · have e60 : n = 60 := by omega
      subst e60
      exact ⟨_, I, D, P, I, D, sX7_formula_full c5 hk hp ht, sX8_formula_full c2 c6 c4 hk hp ht hx hy (fun z => c60 z.1), g, 60, rc, tl, wa, hO, hF, hT⟩
  · exact ⟨_, I, D, P, I, D, sX7_formula_bad c5 c, sX8_formula_bad c6 c4 c, g, n, rc, tl, wa, hO, hF, hT⟩
theorem k_part (x y : Int32) : SOKi mF_X7_part mF_X8_part [.int x, .int y] := by
  rintro I D P ⟨g, n, rc, tl, wa, hO, hF, hT⟩
  obtain ⟨c1, c2, c3, c4, c5, c6, c7⟩ := id hF
  by_cases c : ∃ k a, k < n ∧ a < k ∧ x = nI k ∧ y = nI a
  · obtain ⟨k, a, hk, ha, rfl, rfl⟩ := c
    obtain ⟨I1, P1, e1, f1, f2, f3⟩ := sX7_part c1 c5 c4 hk ha (c3 k hk).1.1 (c3 k hk).1.2.1
    have hm1 : mFo I1 D n rc := mFo_fr c2 (fun a b h1 h2 => f3 a b (by omega) (by omega))
    have h5 : I1 138 5 = nI n := by rw [(f3 138 5 (by decide) (by decide)).1]; exact c6
    obtain ⟨I2, e2, m1, m2, m3⟩ := sX8_part (P := P1) c3 hm1 h5 c4 hk ha
    have hz : zOk n (if zpOk rc k a then zAdd rc k a else rc) := by
      split
      · rename_i z
        exact zPart_ok c3 hk ha z
      · exact c3
    refine ⟨_, I1, D, P1, I2, D, e1, e2, g, n, _, tl, wa, iO_fr hO (fun a b h => ⟨((m3 a b (by omega) (by omega)).1).trans (f3 a b (by omega) (by omega)).1, rfl⟩), ⟨cF_fr f1 (fun a b h => m3 a b (by omega) (by omega)), m1, hz, c4, ?_, m2, fun k hk => ?_⟩, iT_fr hT (fun a b h => ((m3 a b (by omega) (by omega)).1).trans (f3 a b (by omega) (by omega)).1)⟩
    · rw [(m3 0 3 (by decide) (by decide)).1]; exact f2
    · rw [(m3 200 k (by decide) (by omega)).1, (f3 200 k (by decide) (by omega)).1]; exact c7 k hk
  · exact ⟨_, I, D, P, I, D, sX7_part_bad c5 c4 c, sX8_part_bad c3 c2 c6 c4 c, g, n, rc, tl, wa, hO, hF, hT⟩
theorem k_score (x y : Int32) : SOKl mF_X7_score mF_X8_score [.int x, .int y] := by
  rintro I D P ⟨g, n, rc, tl, wa, hO, hF, hT⟩
  obtain ⟨c1, c2, c3, c4, c5, c6, c7⟩ := id hF
  by_cases c : inr x n ∧ inr y 40
  · obtain ⟨k, hk, rfl⟩ := inr_nat (show n < 2 ^ 31 by omega) c.1
    obtain ⟨o, ho, rfl⟩ := inr_nat (by decide) c.2
    obtain ⟨I1, D1, e1, f1, f2, f3⟩ := sX7_score (P := P) c3 c4 ⟨hO.1, c1, c7⟩ c5 hk ho
    have hO1 : iO I1 D1 g := iO_fr hO (fun a b h => ⟨f2 a b (by omega) (by omega) (by omega), f3 a b (by omega)⟩)
    have hF1 : iF I1 D1 P n rc := iF_fr hF (fun a b h => ⟨f2 a b (by omega) (by omega) (by omega), fun _ => f3 a b (by omega)⟩)
    obtain ⟨I2, D2, e2, m1, m2, m3, m4, m5⟩ := sX8_score (P := P) c3 c4 ⟨hO1.2, hF1.2.1⟩ hF1.2.2.2.2.2.1 hk ho
    have m34 : ∀ a b, (a ≠ 138 ∧ a ≠ 155 ∧ a ≠ 156 ∧ a ≠ 159) ∨ (a = 138 ∧ b = 5) → I2 a b = I1 a b := by
      intro a b h
      rcases h with h | h
      · exact m3 a b h.1 h.2.1 h.2.2.1 h.2.2.2
      · rw [h.1, h.2]; exact m4 5 (by decide)
    refine ⟨_, I1, D1, P, I2, D2, e1, e2, g, n, rc, scT (scv g n rc k o), true, iO_fr hO1 (fun a b h => ⟨m34 a b (by omega), m5 a b (by omega) (by omega) (by omega)⟩), iF_fr hF1 (fun a b h => ⟨m34 a b (by omega), fun z => m5 a b z (by omega) (by omega)⟩), fun j hj => ?_, m2, fun _ j hj => m1 j hj, fun z => by cases z⟩
    rw [m34 135 j (by omega)]
    exact f1 j hj
  · exact ⟨_, I, D, P, I, D, sX7_score_bad c5 c, sX8_score_bad c6 c4 c, g, n, rc, tl, wa, hO, hF, hT⟩
theorem k_told (x : Int32) : SOKi mF_X7_told mF_X8_told [.int x] := by
  rintro I D P ⟨g, n, rc, tl, wa, hO, hF, hT⟩
  by_cases c : inr x 5
  · obtain ⟨j, hj, rfl⟩ := inr_nat (by decide) c
    obtain ⟨t1, t2, t3, t4⟩ := id hT
    have e : (if wa = true then I 159 j else if j = 1 then -9 else nI 0) = I 135 j := by
      rw [t1 j hj]
      cases wa with
      | true => exact t3 rfl j hj
      | false => exact (t4 rfl j hj).symm
    have e2 := sX8_told (D := D) (P := P) t2 hj
    rw [e] at e2
    exact ⟨_, I, D, P, I, D, sX7_told hj, e2, g, n, rc, tl, wa, hO, hF, hT⟩
  · exact ⟨_, I, D, P, I, D, sX7_told_bad c, sX8_told_bad c, g, n, rc, tl, wa, hO, hF, hT⟩
theorem k_about (x y : Int32) : SOKi mF_X7_about mF_X8_about [.int x, .int y] := by
  rintro I D P ⟨g, n, rc, tl, wa, hO, hF, hT⟩
  obtain ⟨c1, c2, c3, c4, c5, c6, c7⟩ := id hF
  by_cases c : inr x n ∧ inr y 12
  · obtain ⟨k, hk, rfl⟩ := inr_nat (show n < 2 ^ 31 by omega) c.1
    obtain ⟨w, hw, rfl⟩ := inr_nat (by decide) c.2
    exact ⟨_, I, D, P, I, D, sX7_about c1 c5 c4 hk hw, sX8_about c2 c6 c4 hk hw, g, n, rc, tl, wa, hO, hF, hT⟩
  · exact ⟨_, I, D, P, I, D, sX7_about_bad c5 c, sX8_about_bad c6 c4 c, g, n, rc, tl, wa, hO, hF, hT⟩
theorem k_partOf (x y : Int32) : SOKi mF_X7_partOf mF_X8_partOf [.int x, .int y] := by
  rintro I D P ⟨g, n, rc, tl, wa, hO, hF, hT⟩
  obtain ⟨c1, c2, c3, c4, c5, c6, c7⟩ := id hF
  by_cases c : ∃ k j, k < n ∧ j < zM (rc k) ∧ x = nI k ∧ y = nI j
  · obtain ⟨k, j, hk, hj, rfl, rfl⟩ := c
    have ht := ((c3 k hk).1.2.2.1 j hj).1
    exact ⟨_, I, D, P, I, D, sX7_partOf c1 c5 c7 c4 hk hj (c3 k hk).1.2.1 (by omega), sX8_partOf c3 c2 c6 c4 hk hj, g, n, rc, tl, wa, hO, hF, hT⟩
  · exact ⟨_, I, D, P, I, D, sX7_partOf_bad c1 c5 c4 c (fun k hk => (c3 k hk).1.2.1), sX8_partOf_bad c3 c2 c6 c4 c, g, n, rc, tl, wa, hO, hF, hT⟩
theorem k_top (x y : Int32) : SOKi mF_X7_top mF_X8_top [.int x, .int y] := by
  rintro I D P ⟨g, n, rc, tl, wa, hO, hF, hT⟩
  obtain ⟨c1, c2, c3, c4, c5, c6, c7⟩ := id hF
  by_cases c : inr x n ∧ inr y 40
  · obtain ⟨k, hk, rfl⟩ := inr_nat (show n < 2 ^ 31 by omega) c.1
    obtain ⟨o, ho, rfl⟩ := inr_nat (by decide) c.2
    obtain ⟨I1, D1, e1, f2, f3⟩ := sX7_top (P := P) c3 c4 ⟨hO.1, c1, c7⟩ c5 hk ho
    have hO1 : iO I1 D1 g := iO_fr hO (fun a b h => ⟨f2 a b (by omega) (by omega) (by omega), f3 a b (by omega) (by omega)⟩)
    have hF1 : iF I1 D1 P n rc := iF_fr hF (fun a b h => ⟨f2 a b (by omega) (by omega) (by omega), fun _ => f3 a b (by omega) (by omega)⟩)
    obtain ⟨I2, D2, e2, m3, m4, m5⟩ := sX8_top (P := P) c3 c4 ⟨hO1.2, hF1.2.1⟩ hF1.2.2.2.2.2.1 hk ho
    have m34 : ∀ a b, (a ≠ 138 ∧ a ≠ 155 ∧ a ≠ 156 ∧ a ≠ 160) ∨ (a = 138 ∧ (b < 21 ∨ 26 < b)) → I2 a b = I1 a b := by
      intro a b h
      rcases h with h | h
      · exact m3 a b h.1 h.2.1 h.2.2.1 h.2.2.2
      · rw [h.1]; exact m4 b h.2
    exact ⟨_, I1, D1, P, I2, D2, e1, e2, g, n, rc, tl, wa, iO_fr hO1 (fun a b h => ⟨m34 a b (by omega), m5 a b (by omega) (by omega) (by omega) (by omega)⟩), iF_fr hF1 (fun a b h => ⟨m34 a b (by omega), fun z => m5 a b z (by omega) (by omega) (by omega)⟩), iT_fr hT (fun a b h => (m34 a b (by omega)).trans (f2 a b (by omega) (by omega) (by omega)))⟩
  · exact ⟨_, I, D, P, I, D, sX7_top_bad c5 c, sX8_top_bad c6 c4 c, g, n, rc, tl, wa, hO, hF, hT⟩
theorem k_clear : SOKi mF_X7_clear mF_X8_clear [] := by
  rintro I D P ⟨g, n, rc, tl, wa, hO, hF, hT⟩
  obtain ⟨I1, D1, e1, f1, f2⟩ := sX7_clear (P := P) hO.1
  obtain ⟨I2, D2, e2, m1, m2⟩ := sX8_clear (I := I1) (D := D1) (P := P)
  exact ⟨_, I1, D1, P, I2, D2, e1, e2, _, n, rc, tl, wa, ⟨CO_fr f1 (fun a b h1 h2 => m2 a b (Or.inl (by omega))), m1⟩, iF_fr hF (fun a b h => ⟨((m2 a b (by omega)).1).trans (f2 a b (by omega)).1, fun _ => ((m2 a b (by omega)).2).trans (f2 a b (by omega)).2⟩), iT_fr hT (fun a b h => ((m2 a b (by omega)).1).trans (f2 a b (by omega)).1)⟩
theorem k_forget : SOKi mF_X7_forget mF_X8_forget [] := by
  rintro I D P ⟨g, n, rc, tl, wa, hO, hF, hT⟩
  obtain ⟨c1, c2, c3, c4, c5, c6, c7⟩ := id hF
  have h5 : pm_u I 0 3 (nI 0) 138 5 = nI n := by rw [pm_ua (by decide)]; exact c6
  refine ⟨_, _, D, P, _, D, sX7_forget c5, sX8_forget h5, g, 0, rc, tl, wa, iO_fr hO (fun a b h => ⟨by rw [pm_ua (by omega), pm_ua (by omega)], rfl⟩), ⟨fun k hk => absurd hk (Nat.not_lt_zero k), fun k hk => absurd hk (Nat.not_lt_zero k), fun k hk => absurd hk (Nat.not_lt_zero k), by decide, ?_, pm_us _ _ _ _, fun k hk => ?_⟩, iT_fr hT (fun a b h => ?_)⟩
  · rw [pm_ua (by decide), pm_us]
  · rw [pm_ua (by decide), pm_ua (by decide)]; exact c7 k hk
  · rw [pm_un _ _ (by omega), pm_un _ _ (by omega)]
