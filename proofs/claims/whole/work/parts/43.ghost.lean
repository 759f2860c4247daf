/-! FORMULAS, 8: the ghost's own laws -/
/-- records that count alike as parts -/
abbrev zEq (r s : zR) : Prop := zA r = zA s ∧ zsf r = zsf s ∧ zrs r = zrs s
theorem zEq_Y (r : zR) : zEq (zY r) r := ⟨rfl, rfl, rfl⟩
theorem zacS_eq {r s : zR} (h : zEq r s) (a : zA4) : zacS a r = zacS a s := by
  unfold zacS
  rw [h.1, h.2.1, h.2.2]
theorem zfold_congr {rec rec' : Nat → zR} {pt pt' : Nat → Nat} {a : zA4} : ∀ m, (∀ j, j < m → zEq (rec (pt j)) (rec' (pt' j))) → zfold rec pt a m = zfold rec' pt' a m
  | 0, _ => rfl
  | m + 1, h => by
    show zacS (zfold rec pt a m) (rec (pt m)) = zacS (zfold rec' pt' a m) (rec' (pt' m))
    rw [zfold_congr m (fun j hj => h j (by omega)), zacS_eq (h m (by omega))]
/-- what holds of every formula -/
def zB1 (rec : Nat → zR) (k : Nat) : Prop := zK (rec k) < 14 ∧ zM (rec k) ≤ 8 ∧ (∀ j, j < zM (rec k) → zT (rec k) j < k ∧ zI (rec (zT (rec k) j)) = true) ∧ zA (rec k) = zfold rec (zT (rec k)) (zac0 (zK (rec k)) (zL (rec k))) (zM (rec k))
def zB2 (r : zR) : Prop := (zK r ≤ 5 → zM r = 0) ∧ (9 ≤ zK r → zM r = nnk (zK r)) ∧ (1 ≤ zK r ∧ zK r ≤ 5 → inr (zL r) 4) ∧ ∃ p q : UInt64, zP r = ob p ∧ zQ r = ob q ∧ tk (zK r) p q
def zOk (n : Nat) (rec : Nat → zR) : Prop := ∀ k, k < n → zB1 rec k ∧ zB2 (rec k)
theorem zAdd_a {rec : Nat → zR} {k a : Nat} : zAdd rec k a a = zY (rec a) := ud_s
theorem zAdd_n {rec : Nat → zR} {k a b : Nat} (h1 : b ≠ a) (h2 : b ≠ k) : zAdd rec k a b = rec b := by
  unfold zAdd
  rw [ud_n h1, ud_n h2]
/-- but for the whole itself all count as before -/
theorem zAdd_eq {rec : Nat → zR} {k a b : Nat} (h2 : b ≠ k) : zEq (zAdd rec k a b) (rec b) := by
  by_cases h : b = a
  · subst h
    rw [zAdd_a]
    exact zEq_Y _
  · rw [zAdd_n h h2]
    exact ⟨rfl, rfl, rfl⟩
theorem zAdd_I {rec : Nat → zR} {k a b : Nat} (hak : a ≠ k) (h : zI (rec b) = true) : zI (zAdd rec k a b) = true := by
  by_cases h1 : b = a
  · subst h1
    rw [zAdd_a]
    rfl
  · by_cases h2 : b = k
    · subst h2
      rw [zAdd_k hak]
      exact h
    · rw [zAdd_n h1 h2]
      exact h
theorem zAdd_B1 {rec : Nat → zR} {n k a : Nat} (hB : ∀ b, b < n → zB1 rec b) (hk : k < n) (ha : a < k) (hI : zI (rec k) = false) (hm : zM (rec k) < 8) : ∀ b, b < n → zB1 (zAdd rec k a) b := by
  intro b hb
  obtain ⟨b1, b2, b3, b4⟩ := hB b hb
  have hak : a ≠ k := by omega
  have hp : ∀ b, b < n → ∀ j, j < zM (rec b) → zT (rec b) j ≠ k := by
    intro b hb j hj z
    have := ((hB b hb).2.2.1 j hj).2
    rw [z, hI] at this
    cases this
  by_cases c : b = k
  · subst c
    unfold zB1
    rw [zAdd_k hak]
    refine ⟨b1, (by show zM (rec b) + 1 ≤ 8; omega), ?_, ?_⟩
    · intro j hj
      have hj2 : j < zM (rec b) + 1 := hj
      show ud (zT (rec b)) (zM (rec b)) a j < b ∧ zI (zAdd rec b a (ud (zT (rec b)) (zM (rec b)) a j)) = true
      unfold ud
      by_cases c2 : j = zM (rec b)
      · rw [if_pos c2, zAdd_a]
        exact ⟨ha, rfl⟩
      · rw [if_neg c2]
        have := b3 j (by omega)
        exact ⟨this.1, zAdd_I hak this.2⟩
    · show zacS (zA (rec b)) (rec a) = zfold (zAdd rec b a) (ud (zT (rec b)) (zM (rec b)) a) (zac0 (zK (rec b)) (zL (rec b))) (zM (rec b) + 1)
      show zacS (zA (rec b)) (rec a) = zacS (zfold (zAdd rec b a) (ud (zT (rec b)) (zM (rec b)) a) (zac0 (zK (rec b)) (zL (rec b))) (zM (rec b))) (zAdd rec b a (ud (zT (rec b)) (zM (rec b)) a (zM (rec b))))
      rw [ud_s, zacS_eq (zAdd_eq (rec := rec) (k := b) (a := a) (b := a) hak)]
      rw [zfold_congr (rec' := rec) (pt' := zT (rec b)) (zM (rec b)) (fun j hj => by
        rw [ud_n (by omega)]
        exact zAdd_eq (hp b hb j hj)), ← b4]
  · have same : zT (zAdd rec k a b) = zT (rec b) ∧ zM (zAdd rec k a b) = zM (rec b) ∧ zK (zAdd rec k a b) = zK (rec b) ∧ zL (zAdd rec k a b) = zL (rec b) := by
      by_cases c2 : b = a
      · subst c2
        rw [zAdd_a]
        exact ⟨rfl, rfl, rfl, rfl⟩
      · rw [zAdd_n c2 c]
        exact ⟨rfl, rfl, rfl, rfl⟩
    unfold zB1
    rw [same.1, same.2.1, same.2.2.1, same.2.2.2, (zAdd_eq (a := a) c).1]
    refine ⟨b1, b2, fun j hj => ⟨(b3 j hj).1, zAdd_I hak (b3 j hj).2⟩, ?_⟩
    rw [b4]
    exact zfold_congr _ (fun j hj => by
      have e := zAdd_eq (rec := rec) (a := a) (hp b hb j hj)
      exact ⟨e.1.symm, e.2.1.symm, e.2.2.symm⟩)
theorem zB1_new {rec : Nat → zR} {n kd : Nat} {x : Int32} {p q : Option UInt64} (hB : ∀ b, b < n → zB1 rec b) (hk : kd < 14) : ∀ b, b < n + 1 → zB1 (ud rec n (zB kd x p q)) b := by
  intro b hb
  by_cases c : b = n
  · subst c
    unfold zB1
    rw [ud_s]
    exact ⟨hk, Nat.zero_le _, fun j hj => absurd hj (Nat.not_lt_zero j), rfl⟩
  · obtain ⟨b1, b2, b3, b4⟩ := hB b (by omega)
    unfold zB1
    rw [ud_n c]
    refine ⟨b1, b2, fun j hj => ⟨(b3 j hj).1, ?_⟩, ?_⟩
    · rw [ud_n (by have := (b3 j hj).1; omega)]
      exact (b3 j hj).2
    · rw [b4]
      exact zfold_congr _ (fun j hj => by
        rw [ud_n (by have := (b3 j hj).1; omega)]
        exact ⟨rfl, rfl, rfl⟩)
section GHO
variable {n kd xn yn : Nat} {rec : Nat → zR} {x : Int32} {p q : UInt64}
theorem zNew_n (hx : 9 ≤ kd → xn < n) (hy : kd = 13 → yn < n) : zK (zNew rec n kd x (ob p) (ob q) xn yn n) = kd ∧ zL (zNew rec n kd x (ob p) (ob q) xn yn n) = x ∧ zP (zNew rec n kd x (ob p) (ob q) xn yn n) = ob p ∧ zQ (zNew rec n kd x (ob p) (ob q) xn yn n) = ob q ∧ zM (zNew rec n kd x (ob p) (ob q) xn yn n) = nnk kd ∧ zI (zNew rec n kd x (ob p) (ob q) xn yn n) = false ∧ (9 ≤ kd → zT (zNew rec n kd x (ob p) (ob q) xn yn n) 0 = xn) ∧ (kd = 13 → zT (zNew rec n kd x (ob p) (ob q) xn yn n) 1 = yn) := by
  unfold zNew nnk
  by_cases c13 : kd = 13
  · have h1 := hx (by omega)
    have h2 := hy c13
    rw [if_pos c13, if_neg (show ¬ kd < 9 by omega), if_pos c13, zAdd_k (by omega), zAdd_k (by omega), ud_s]
    exact ⟨rfl, rfl, rfl, rfl, rfl, rfl, fun _ => rfl, fun _ => rfl⟩
  · rw [if_neg c13, if_neg c13]
    by_cases c9 : 9 ≤ kd
    · have h1 := hx c9
      rw [if_pos c9, if_neg (show ¬ kd < 9 by omega), zAdd_k (by omega), ud_s]
      exact ⟨rfl, rfl, rfl, rfl, rfl, rfl, fun _ => rfl, fun z => absurd z c13⟩
    · rw [if_neg c9, if_pos (show kd < 9 by omega), ud_s]
      exact ⟨rfl, rfl, rfl, rfl, rfl, rfl, fun z => absurd z c9, fun z => absurd z c13⟩
/-- the others: as they were, or parts now -/
theorem zNew_o {b : Nat} (hb : b < n) (hx : 9 ≤ kd → xn < n) (hy : kd = 13 → yn < n) : zNew rec n kd x (ob p) (ob q) xn yn b = if (9 ≤ kd ∧ b = xn) ∨ (kd = 13 ∧ b = yn) then zY (rec b) else rec b := by
  unfold zNew
  by_cases c13 : kd = 13
  · have h1 := hx (by omega)
    have h2 := hy c13
    rw [if_pos c13]
    by_cases c1 : b = yn
    · subst c1
      rw [zAdd_a, if_pos (Or.inr ⟨c13, rfl⟩)]
      by_cases c2 : b = xn
      · subst c2
        rw [zAdd_a, ud_n (by omega)]
        rfl
      · rw [zAdd_n c2 (by omega), ud_n (by omega)]
    · rw [zAdd_n c1 (by omega)]
      by_cases c2 : b = xn
      · subst c2
        rw [zAdd_a, ud_n (by omega), if_pos (Or.inl ⟨by omega, rfl⟩)]
      · rw [zAdd_n c2 (by omega), ud_n (by omega), if_neg (fun z => z.elim (fun z => c2 z.2) (fun z => c1 z.2))]
  · rw [if_neg c13]
    by_cases c9 : 9 ≤ kd
    · have h1 := hx c9
      rw [if_pos c9]
      by_cases c2 : b = xn
      · subst c2
        rw [zAdd_a, ud_n (by omega), if_pos (Or.inl ⟨c9, rfl⟩)]
      · rw [zAdd_n c2 (by omega), ud_n (by omega), if_neg (fun z => z.elim (fun z => c2 z.2) (fun z => c13 z.1))]
    · rw [if_neg c9, ud_n (by omega), if_neg (fun z => z.elim (fun z => c9 z.1) (fun z => c13 z.1))]
theorem zNew_B1 (hB : ∀ b, b < n → zB1 rec b) (hk : kd < 14) (hx : 9 ≤ kd → xn < n) (hy : kd = 13 → yn < n) : ∀ b, b < n + 1 → zB1 (zNew rec n kd x (ob p) (ob q) xn yn) b := by
  unfold zNew
  have h0 := zB1_new (x := x) (p := ob p) (q := ob q) hB hk
  by_cases c13 : kd = 13
  · have h1 := hx (by omega)
    have h2 := hy c13
    rw [if_pos c13]
    exact zAdd_B1 (zAdd_B1 h0 (by omega) h1 (by rw [ud_s]; rfl) (by rw [ud_s]; exact (by decide : (0 : Nat) < 8))) (by omega) h2 (by rw [zAdd_k (by omega), ud_s]; rfl) (by rw [zAdd_k (by omega), ud_s]; exact (by decide : (0 : Nat) + 1 < 8))
  · rw [if_neg c13]
    by_cases c9 : 9 ≤ kd
    · have h1 := hx c9
      rw [if_pos c9]
      exact zAdd_B1 h0 (by omega) h1 (by rw [ud_s]; rfl) (by rw [ud_s]; exact (by decide : (0 : Nat) < 8))
    · rw [if_neg c9]
      exact h0
theorem zNew_ok (hO : zOk n rec) (hk : kd < 14) (hp : 1 ≤ kd ∧ kd ≤ 5 → inr x 4) (ht : tk kd p q) (hx : 9 ≤ kd → xn < n) (hy : kd = 13 → yn < n) : zOk (n + 1) (zNew rec n kd x (ob p) (ob q) xn yn) := by
  intro b hb
  refine ⟨zNew_B1 (fun b h => (hO b h).1) hk hx hy b hb, ?_⟩
  by_cases c : b = n
  · subst c
    obtain ⟨a1, a2, a3, a4, a5, -⟩ := zNew_n (rec := rec) (x := x) (p := p) (q := q) hx hy
    unfold zB2
    rw [a1, a2, a3, a4, a5]
    exact ⟨fun h => if_pos (by omega), fun _ => rfl, hp, p, q, rfl, rfl, ht⟩
  · rw [zNew_o (by omega) hx hy]
    have h := (hO b (by omega)).2
    split
    · exact h
    · exact h
theorem zPart_ok (hO : zOk n rec) {k a : Nat} (hk : k < n) (ha : a < k) (hz : zpOk rec k a) : zOk n (zAdd rec k a) := by
  have hm := (hO k hk).1.2.1
  intro b hb
  refine ⟨zAdd_B1 (fun b h => (hO b h).1) hk ha hz.2.1 (by have := hz.2.2.1; omega) b hb, ?_⟩
  have h := (hO b hb).2
  by_cases c : b = k
  · subst c
    rw [zAdd_k (by omega)]
    obtain ⟨h1, h2, h3, h4⟩ := h
    refine ⟨fun z => ?_, fun z => ?_, h3, h4⟩
    · exfalso
      have z2 : zK (rec b) ≤ 5 := z
      have := hz.1.1
      omega
    · exfalso
      have z2 : 9 ≤ zK (rec b) := z
      have := hz.1.2
      omega
  · by_cases c2 : b = a
    · subst c2
      rw [zAdd_a]
      exact h
    · rw [zAdd_n c2 c]
      exact h
end GHO
