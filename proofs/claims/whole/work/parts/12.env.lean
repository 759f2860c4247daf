/-! what each method is read with, and its contract -/
noncomputable def mt_g_X0_isNumber : Nat → Option (Nat × Nat) := fun _ => none
noncomputable def mt_p_X0_isNumber : Nat → Option (Nat × Nat) := fun _ => none
noncomputable def mt_k_X0_isNumber : Nat → Option Value := fun k => match k with
  | 9 => some (.long (9223372036854775807))
  | 11 => some (.long (9218868437227405312))
  | _ => none
noncomputable def mt_f_X0_isNumber : Nat → Option (Nat × Nat × Nat × pm_F) := fun _ => none
noncomputable def mt_o_X0_isNumber : Nat → Option Nat := fun _ => none
noncomputable def mt_n_X0_isNumber : Nat → Option Nat := fun _ => none
noncomputable def mE_X0_isNumber : pm_E := (cX0_isNumber, mt_g_X0_isNumber, mt_p_X0_isNumber, mt_k_X0_isNumber, mt_f_X0_isNumber, mt_o_X0_isNumber, mt_n_X0_isNumber, none, (some .boolean))
theorem mk_g_X0_isNumber : ∀ k q, mt_g_X0_isNumber k = some q → pm_Fok RX0 k q := by
  intro k q h
  unfold mt_g_X0_isNumber at h
  cases h
theorem mk_p_X0_isNumber : ∀ k q, mt_p_X0_isNumber k = some q → pm_Fok RX0 k q ∧ ((pm_ct q.1 q.2).2.2.2 = false ∨ (false = true ∧ (pm_ct q.1 q.2).1 = RX0)) := by
  intro k q h
  unfold mt_p_X0_isNumber at h
  cases h
theorem mk_k_X0_isNumber : ∀ k q, mt_k_X0_isNumber k = some q → pm_Kok RX0 k q := by
  intro k q h
  unfold mt_k_X0_isNumber at h
  split at h
  · cases h
    exact pt_239
  · cases h
    exact pt_240
  · cases h
theorem mk_o_X0_isNumber : ∀ k q, mt_o_X0_isNumber k = some q → pm_Oko RX0 k q := by
  intro k q h
  unfold mt_o_X0_isNumber at h
  cases h
theorem mk_n_X0_isNumber : ∀ k q, mt_n_X0_isNumber k = some q → pm_Nok RX0 k q := by
  intro k q h
  unfold mt_n_X0_isNumber at h
  cases h
theorem mk_f_X0_isNumber (l : Launch) : ∀ k q, mt_f_X0_isNumber k = some q → pm_Cal l 1 27 RX0 k q := by
  intro k q h
  unfold mt_f_X0_isNumber at h
  cases h
noncomputable def mF_X0_isNumber : pm_F := pm_fn mE_X0_isNumber 2
theorem mM_X0_isNumber (l : Launch) : pm_Met l yX0_isNumber cX0_isNumber 2 (some .boolean) 1 27 mF_X0_isNumber := pm_met (own := RX0) (E := mE_X0_isNumber) (ini := false) (by decide) rfl ⟨mk_g_X0_isNumber, mk_p_X0_isNumber, mk_k_X0_isNumber, mk_f_X0_isNumber l, mk_o_X0_isNumber, mk_n_X0_isNumber, by decide⟩ rfl (fun h => by cases h)
noncomputable def mt_g_X0_powerOfTwo : Nat → Option (Nat × Nat) := fun _ => none
noncomputable def mt_p_X0_powerOfTwo : Nat → Option (Nat × Nat) := fun _ => none
noncomputable def mt_k_X0_powerOfTwo : Nat → Option Value := fun k => match k with
  | 38 => some (.double (4602678819172646912))
  | 40 => some (.double (4611686018427387904))
  | _ => none
noncomputable def mt_f_X0_powerOfTwo : Nat → Option (Nat × Nat × Nat × pm_F) := fun _ => none
noncomputable def mt_o_X0_powerOfTwo : Nat → Option Nat := fun _ => none
noncomputable def mt_n_X0_powerOfTwo : Nat → Option Nat := fun _ => none
noncomputable def mE_X0_powerOfTwo : pm_E := (cX0_powerOfTwo, mt_g_X0_powerOfTwo, mt_p_X0_powerOfTwo, mt_k_X0_powerOfTwo, mt_f_X0_powerOfTwo, mt_o_X0_powerOfTwo, mt_n_X0_powerOfTwo, none, (some .double))
theorem mk_g_X0_powerOfTwo : ∀ k q, mt_g_X0_powerOfTwo k = some q → pm_Fok RX0 k q := by
  intro k q h
  unfold mt_g_X0_powerOfTwo at h
  cases h
theorem mk_p_X0_powerOfTwo : ∀ k q, mt_p_X0_powerOfTwo k = some q → pm_Fok RX0 k q ∧ ((pm_ct q.1 q.2).2.2.2 = false ∨ (false = true ∧ (pm_ct q.1 q.2).1 = RX0)) := by
  intro k q h
  unfold mt_p_X0_powerOfTwo at h
  cases h
theorem mk_k_X0_powerOfTwo : ∀ k q, mt_k_X0_powerOfTwo k = some q → pm_Kok RX0 k q := by
  intro k q h
  unfold mt_k_X0_powerOfTwo at h
  split at h
  · cases h
    exact pt_226
  · cases h
    exact pt_227
  · cases h
theorem mk_o_X0_powerOfTwo : ∀ k q, mt_o_X0_powerOfTwo k = some q → pm_Oko RX0 k q := by
  intro k q h
  unfold mt_o_X0_powerOfTwo at h
  cases h
theorem mk_n_X0_powerOfTwo : ∀ k q, mt_n_X0_powerOfTwo k = some q → pm_Nok RX0 k q := by
  intro k q h
  unfold mt_n_X0_powerOfTwo at h
  cases h
theorem mk_f_X0_powerOfTwo (l : Launch) : ∀ k q, mt_f_X0_powerOfTwo k = some q → pm_Cal l 1 27 RX0 k q := by
  intro k q h
  unfold mt_f_X0_powerOfTwo at h
  cases h
noncomputable def mF_X0_powerOfTwo : pm_F := pm_fn mE_X0_powerOfTwo 6
theorem mM_X0_powerOfTwo (l : Launch) : pm_Met l yX0_powerOfTwo cX0_powerOfTwo 6 (some .double) 1 27 mF_X0_powerOfTwo := pm_met (own := RX0) (E := mE_X0_powerOfTwo) (ini := false) (by decide) rfl ⟨mk_g_X0_powerOfTwo, mk_p_X0_powerOfTwo, mk_k_X0_powerOfTwo, mk_f_X0_powerOfTwo l, mk_o_X0_powerOfTwo, mk_n_X0_powerOfTwo, by decide⟩ rfl (fun h => by cases h)
noncomputable def mt_g_X0_fromBits : Nat → Option (Nat × Nat) := fun _ => none
noncomputable def mt_p_X0_fromBits : Nat → Option (Nat × Nat) := fun _ => none
noncomputable def mt_k_X0_fromBits : Nat → Option Value := fun k => match k with
  | 13 => some (.long (4503599627370495))
  | 19 => some (.long (4503599627370496))
  | _ => none
noncomputable def mt_f_X0_fromBits : Nat → Option (Nat × Nat × Nat × pm_F) := fun k => match k with
  | 15 => some (1, 1, 9, mF_X0_powerOfTwo)
  | _ => none
noncomputable def mt_o_X0_fromBits : Nat → Option Nat := fun _ => none
noncomputable def mt_n_X0_fromBits : Nat → Option Nat := fun _ => none
noncomputable def mE_X0_fromBits : pm_E := (cX0_fromBits, mt_g_X0_fromBits, mt_p_X0_fromBits, mt_k_X0_fromBits, mt_f_X0_fromBits, mt_o_X0_fromBits, mt_n_X0_fromBits, none, (some .double))
theorem mk_g_X0_fromBits : ∀ k q, mt_g_X0_fromBits k = some q → pm_Fok RX0 k q := by
  intro k q h
  unfold mt_g_X0_fromBits at h
  cases h
theorem mk_p_X0_fromBits : ∀ k q, mt_p_X0_fromBits k = some q → pm_Fok RX0 k q ∧ ((pm_ct q.1 q.2).2.2.2 = false ∨ (false = true ∧ (pm_ct q.1 q.2).1 = RX0)) := by
  intro k q h
  unfold mt_p_X0_fromBits at h
  cases h
theorem mk_k_X0_fromBits : ∀ k q, mt_k_X0_fromBits k = some q → pm_Kok RX0 k q := by
  intro k q h
  unfold mt_k_X0_fromBits at h
  split at h
  · cases h
    exact pt_244
  · cases h
    exact pt_245
  · cases h
theorem mk_o_X0_fromBits : ∀ k q, mt_o_X0_fromBits k = some q → pm_Oko RX0 k q := by
  intro k q h
  unfold mt_o_X0_fromBits at h
  cases h
theorem mk_n_X0_fromBits : ∀ k q, mt_n_X0_fromBits k = some q → pm_Nok RX0 k q := by
  intro k q h
  unfold mt_n_X0_fromBits at h
  cases h
theorem mk_f_X0_fromBits (l : Launch) : ∀ k q, mt_f_X0_fromBits k = some q → pm_Cal l 2 52 RX0 k q := by
  intro k q h
  unfold mt_f_X0_fromBits at h
  split at h
  · cases h
    exact ⟨yX0_powerOfTwo, cX0_powerOfTwo, 6, (some .double), 1, 27, mM_X0_powerOfTwo l, by decide, by decide, pt_225, pt_9, by decide, by decide, fun h => absurd h (by decide), fun _ => ⟨pt_223, pt_224⟩, fun h => absurd h (by decide)⟩
  · cases h
noncomputable def mF_X0_fromBits : pm_F := pm_fn mE_X0_fromBits 7
theorem mM_X0_fromBits (l : Launch) : pm_Met l yX0_fromBits cX0_fromBits 7 (some .double) 2 52 mF_X0_fromBits := pm_met (own := RX0) (E := mE_X0_fromBits) (ini := false) (by decide) rfl ⟨mk_g_X0_fromBits, mk_p_X0_fromBits, mk_k_X0_fromBits, mk_f_X0_fromBits l, mk_o_X0_fromBits, mk_n_X0_fromBits, by decide⟩ rfl (fun h => by cases h)
noncomputable def mt_g_X0_isNegativeZero : Nat → Option (Nat × Nat) := fun _ => none
noncomputable def mt_p_X0_isNegativeZero : Nat → Option (Nat × Nat) := fun _ => none
noncomputable def mt_k_X0_isNegativeZero : Nat → Option Value := fun _ => none
noncomputable def mt_f_X0_isNegativeZero : Nat → Option (Nat × Nat × Nat × pm_F) := fun _ => none
noncomputable def mt_o_X0_isNegativeZero : Nat → Option Nat := fun _ => none
noncomputable def mt_n_X0_isNegativeZero : Nat → Option Nat := fun _ => none
noncomputable def mE_X0_isNegativeZero : pm_E := (cX0_isNegativeZero, mt_g_X0_isNegativeZero, mt_p_X0_isNegativeZero, mt_k_X0_isNegativeZero, mt_f_X0_isNegativeZero, mt_o_X0_isNegativeZero, mt_n_X0_isNegativeZero, none, (some .boolean))
theorem mk_g_X0_isNegativeZero : ∀ k q, mt_g_X0_isNegativeZero k = some q → pm_Fok RX0 k q := by
  intro k q h
  unfold mt_g_X0_isNegativeZero at h
  cases h
theorem mk_p_X0_isNegativeZero : ∀ k q, mt_p_X0_isNegativeZero k = some q → pm_Fok RX0 k q ∧ ((pm_ct q.1 q.2).2.2.2 = false ∨ (false = true ∧ (pm_ct q.1 q.2).1 = RX0)) := by
  intro k q h
  unfold mt_p_X0_isNegativeZero at h
  cases h
theorem mk_k_X0_isNegativeZero : ∀ k q, mt_k_X0_isNegativeZero k = some q → pm_Kok RX0 k q := by
  intro k q h
  unfold mt_k_X0_isNegativeZero at h
  cases h
theorem mk_o_X0_isNegativeZero : ∀ k q, mt_o_X0_isNegativeZero k = some q → pm_Oko RX0 k q := by
  intro k q h
  unfold mt_o_X0_isNegativeZero at h
  cases h
theorem mk_n_X0_isNegativeZero : ∀ k q, mt_n_X0_isNegativeZero k = some q → pm_Nok RX0 k q := by
  intro k q h
  unfold mt_n_X0_isNegativeZero at h
  cases h
theorem mk_f_X0_isNegativeZero (l : Launch) : ∀ k q, mt_f_X0_isNegativeZero k = some q → pm_Cal l 1 27 RX0 k q := by
  intro k q h
  unfold mt_f_X0_isNegativeZero at h
  cases h
noncomputable def mF_X0_isNegativeZero : pm_F := pm_fn mE_X0_isNegativeZero 2
theorem mM_X0_isNegativeZero (l : Launch) : pm_Met l yX0_isNegativeZero cX0_isNegativeZero 2 (some .boolean) 1 27 mF_X0_isNegativeZero := pm_met (own := RX0) (E := mE_X0_isNegativeZero) (ini := false) (by decide) rfl ⟨mk_g_X0_isNegativeZero, mk_p_X0_isNegativeZero, mk_k_X0_isNegativeZero, mk_f_X0_isNegativeZero l, mk_o_X0_isNegativeZero, mk_n_X0_isNegativeZero, by decide⟩ rfl (fun h => by cases h)
noncomputable def mt_g_X0_isEndless : Nat → Option (Nat × Nat) := fun _ => none
noncomputable def mt_p_X0_isEndless : Nat → Option (Nat × Nat) := fun _ => none
noncomputable def mt_k_X0_isEndless : Nat → Option Value := fun k => match k with
  | 42 => some (.double (9218868437227405311))
  | 44 => some (.double (18442240474082181119))
  | _ => none
noncomputable def mt_f_X0_isEndless : Nat → Option (Nat × Nat × Nat × pm_F) := fun _ => none
noncomputable def mt_o_X0_isEndless : Nat → Option Nat := fun _ => none
noncomputable def mt_n_X0_isEndless : Nat → Option Nat := fun _ => none
noncomputable def mE_X0_isEndless : pm_E := (cX0_isEndless, mt_g_X0_isEndless, mt_p_X0_isEndless, mt_k_X0_isEndless, mt_f_X0_isEndless, mt_o_X0_isEndless, mt_n_X0_isEndless, none, (some .boolean))
theorem mk_g_X0_isEndless : ∀ k q, mt_g_X0_isEndless k = some q → pm_Fok RX0 k q := by
  intro k q h
  unfold mt_g_X0_isEndless at h
  cases h
theorem mk_p_X0_isEndless : ∀ k q, mt_p_X0_isEndless k = some q → pm_Fok RX0 k q ∧ ((pm_ct q.1 q.2).2.2.2 = false ∨ (false = true ∧ (pm_ct q.1 q.2).1 = RX0)) := by
  intro k q h
  unfold mt_p_X0_isEndless at h
  cases h
theorem mk_k_X0_isEndless : ∀ k q, mt_k_X0_isEndless k = some q → pm_Kok RX0 k q := by
  intro k q h
  unfold mt_k_X0_isEndless at h
  split at h
  · cases h
    exact pt_282
  · cases h
    exact pt_283
  · cases h
theorem mk_o_X0_isEndless : ∀ k q, mt_o_X0_isEndless k = some q → pm_Oko RX0 k q := by
  intro k q h
  unfold mt_o_X0_isEndless at h
  cases h
theorem mk_n_X0_isEndless : ∀ k q, mt_n_X0_isEndless k = some q → pm_Nok RX0 k q := by
  intro k q h
  unfold mt_n_X0_isEndless at h
  cases h
theorem mk_f_X0_isEndless (l : Launch) : ∀ k q, mt_f_X0_isEndless k = some q → pm_Cal l 1 27 RX0 k q := by
  intro k q h
  unfold mt_f_X0_isEndless at h
  cases h
noncomputable def mF_X0_isEndless : pm_F := pm_fn mE_X0_isEndless 2
theorem mM_X0_isEndless (l : Launch) : pm_Met l yX0_isEndless cX0_isEndless 2 (some .boolean) 1 27 mF_X0_isEndless := pm_met (own := RX0) (E := mE_X0_isEndless) (ini := false) (by decide) rfl ⟨mk_g_X0_isEndless, mk_p_X0_isEndless, mk_k_X0_isEndless, mk_f_X0_isEndless l, mk_o_X0_isEndless, mk_n_X0_isEndless, by decide⟩ rfl (fun h => by cases h)
noncomputable def mt_g_X0_sizeOf : Nat → Option (Nat × Nat) := fun _ => none
noncomputable def mt_p_X0_sizeOf : Nat → Option (Nat × Nat) := fun _ => none
noncomputable def mt_k_X0_sizeOf : Nat → Option Value := fun _ => none
noncomputable def mt_f_X0_sizeOf : Nat → Option (Nat × Nat × Nat × pm_F) := fun _ => none
noncomputable def mt_o_X0_sizeOf : Nat → Option Nat := fun _ => none
noncomputable def mt_n_X0_sizeOf : Nat → Option Nat := fun _ => none
noncomputable def mE_X0_sizeOf : pm_E := (cX0_sizeOf, mt_g_X0_sizeOf, mt_p_X0_sizeOf, mt_k_X0_sizeOf, mt_f_X0_sizeOf, mt_o_X0_sizeOf, mt_n_X0_sizeOf, none, (some .double))
theorem mk_g_X0_sizeOf : ∀ k q, mt_g_X0_sizeOf k = some q → pm_Fok RX0 k q := by
  intro k q h
  unfold mt_g_X0_sizeOf at h
  cases h
theorem mk_p_X0_sizeOf : ∀ k q, mt_p_X0_sizeOf k = some q → pm_Fok RX0 k q ∧ ((pm_ct q.1 q.2).2.2.2 = false ∨ (false = true ∧ (pm_ct q.1 q.2).1 = RX0)) := by
  intro k q h
  unfold mt_p_X0_sizeOf at h
  cases h
theorem mk_k_X0_sizeOf : ∀ k q, mt_k_X0_sizeOf k = some q → pm_Kok RX0 k q := by
  intro k q h
  unfold mt_k_X0_sizeOf at h
  cases h
theorem mk_o_X0_sizeOf : ∀ k q, mt_o_X0_sizeOf k = some q → pm_Oko RX0 k q := by
  intro k q h
  unfold mt_o_X0_sizeOf at h
  cases h
theorem mk_n_X0_sizeOf : ∀ k q, mt_n_X0_sizeOf k = some q → pm_Nok RX0 k q := by
  intro k q h
  unfold mt_n_X0_sizeOf at h
  cases h
theorem mk_f_X0_sizeOf (l : Launch) : ∀ k q, mt_f_X0_sizeOf k = some q → pm_Cal l 1 27 RX0 k q := by
  intro k q h
  unfold mt_f_X0_sizeOf at h
  cases h
noncomputable def mF_X0_sizeOf : pm_F := pm_fn mE_X0_sizeOf 2
theorem mM_X0_sizeOf (l : Launch) : pm_Met l yX0_sizeOf cX0_sizeOf 2 (some .double) 1 27 mF_X0_sizeOf := pm_met (own := RX0) (E := mE_X0_sizeOf) (ini := false) (by decide) rfl ⟨mk_g_X0_sizeOf, mk_p_X0_sizeOf, mk_k_X0_sizeOf, mk_f_X0_sizeOf l, mk_o_X0_sizeOf, mk_n_X0_sizeOf, by decide⟩ rfl (fun h => by cases h)
noncomputable def mt_g_X0_bitsOfSize : Nat → Option (Nat × Nat) := fun _ => none
noncomputable def mt_p_X0_bitsOfSize : Nat → Option (Nat × Nat) := fun _ => none
noncomputable def mt_k_X0_bitsOfSize : Nat → Option Value := fun _ => none
noncomputable def mt_f_X0_bitsOfSize : Nat → Option (Nat × Nat × Nat × pm_F) := fun k => match k with
  | 15 => some (1, 1, 9, mF_X0_powerOfTwo)
  | _ => none
noncomputable def mt_o_X0_bitsOfSize : Nat → Option Nat := fun _ => none
noncomputable def mt_n_X0_bitsOfSize : Nat → Option Nat := fun _ => none
noncomputable def mE_X0_bitsOfSize : pm_E := (cX0_bitsOfSize, mt_g_X0_bitsOfSize, mt_p_X0_bitsOfSize, mt_k_X0_bitsOfSize, mt_f_X0_bitsOfSize, mt_o_X0_bitsOfSize, mt_n_X0_bitsOfSize, none, (some .long))
theorem mk_g_X0_bitsOfSize : ∀ k q, mt_g_X0_bitsOfSize k = some q → pm_Fok RX0 k q := by
  intro k q h
  unfold mt_g_X0_bitsOfSize at h
  cases h
theorem mk_p_X0_bitsOfSize : ∀ k q, mt_p_X0_bitsOfSize k = some q → pm_Fok RX0 k q ∧ ((pm_ct q.1 q.2).2.2.2 = false ∨ (false = true ∧ (pm_ct q.1 q.2).1 = RX0)) := by
  intro k q h
  unfold mt_p_X0_bitsOfSize at h
  cases h
theorem mk_k_X0_bitsOfSize : ∀ k q, mt_k_X0_bitsOfSize k = some q → pm_Kok RX0 k q := by
  intro k q h
  unfold mt_k_X0_bitsOfSize at h
  cases h
theorem mk_o_X0_bitsOfSize : ∀ k q, mt_o_X0_bitsOfSize k = some q → pm_Oko RX0 k q := by
  intro k q h
  unfold mt_o_X0_bitsOfSize at h
  cases h
theorem mk_n_X0_bitsOfSize : ∀ k q, mt_n_X0_bitsOfSize k = some q → pm_Nok RX0 k q := by
  intro k q h
  unfold mt_n_X0_bitsOfSize at h
  cases h
theorem mk_f_X0_bitsOfSize (l : Launch) : ∀ k q, mt_f_X0_bitsOfSize k = some q → pm_Cal l 2 52 RX0 k q := by
  intro k q h
  unfold mt_f_X0_bitsOfSize at h
  split at h
  · cases h
    exact ⟨yX0_powerOfTwo, cX0_powerOfTwo, 6, (some .double), 1, 27, mM_X0_powerOfTwo l, by decide, by decide, pt_225, pt_9, by decide, by decide, fun h => absurd h (by decide), fun _ => ⟨pt_223, pt_224⟩, fun h => absurd h (by decide)⟩
  · cases h
noncomputable def mF_X0_bitsOfSize : pm_F := pm_fn mE_X0_bitsOfSize 7
theorem mM_X0_bitsOfSize (l : Launch) : pm_Met l yX0_bitsOfSize cX0_bitsOfSize 7 (some .long) 2 52 mF_X0_bitsOfSize := pm_met (own := RX0) (E := mE_X0_bitsOfSize) (ini := false) (by decide) rfl ⟨mk_g_X0_bitsOfSize, mk_p_X0_bitsOfSize, mk_k_X0_bitsOfSize, mk_f_X0_bitsOfSize l, mk_o_X0_bitsOfSize, mk_n_X0_bitsOfSize, by decide⟩ rfl (fun h => by cases h)
noncomputable def mt_g_X0_toBits : Nat → Option (Nat × Nat) := fun _ => none
noncomputable def mt_p_X0_toBits : Nat → Option (Nat × Nat) := fun _ => none
noncomputable def mt_k_X0_toBits : Nat → Option Value := fun k => match k with
  | 11 => some (.long (9218868437227405312))
  | 25 => some (.long (-9223372036854775808))
  | _ => none
noncomputable def mt_f_X0_toBits : Nat → Option (Nat × Nat × Nat × pm_F) := fun k => match k with
  | 21 => some (1, 1, 9, mF_X0_isNegativeZero)
  | 27 => some (1, 1, 9, mF_X0_isEndless)
  | 30 => some (1, 1, 9, mF_X0_sizeOf)
  | 34 => some (1, 1, 9, mF_X0_bitsOfSize)
  | _ => none
noncomputable def mt_o_X0_toBits : Nat → Option Nat := fun _ => none
noncomputable def mt_n_X0_toBits : Nat → Option Nat := fun _ => none
noncomputable def mE_X0_toBits : pm_E := (cX0_toBits, mt_g_X0_toBits, mt_p_X0_toBits, mt_k_X0_toBits, mt_f_X0_toBits, mt_o_X0_toBits, mt_n_X0_toBits, none, (some .long))
theorem mk_g_X0_toBits : ∀ k q, mt_g_X0_toBits k = some q → pm_Fok RX0 k q := by
  intro k q h
  unfold mt_g_X0_toBits at h
  cases h
theorem mk_p_X0_toBits : ∀ k q, mt_p_X0_toBits k = some q → pm_Fok RX0 k q ∧ ((pm_ct q.1 q.2).2.2.2 = false ∨ (false = true ∧ (pm_ct q.1 q.2).1 = RX0)) := by
  intro k q h
  unfold mt_p_X0_toBits at h
  cases h
theorem mk_k_X0_toBits : ∀ k q, mt_k_X0_toBits k = some q → pm_Kok RX0 k q := by
  intro k q h
  unfold mt_k_X0_toBits at h
  split at h
  · cases h
    exact pt_240
  · cases h
    exact pt_278
  · cases h
theorem mk_o_X0_toBits : ∀ k q, mt_o_X0_toBits k = some q → pm_Oko RX0 k q := by
  intro k q h
  unfold mt_o_X0_toBits at h
  cases h
theorem mk_n_X0_toBits : ∀ k q, mt_n_X0_toBits k = some q → pm_Nok RX0 k q := by
  intro k q h
  unfold mt_n_X0_toBits at h
  cases h
theorem mk_f_X0_toBits (l : Launch) : ∀ k q, mt_f_X0_toBits k = some q → pm_Cal l 3 78 RX0 k q := by
  intro k q h
  unfold mt_f_X0_toBits at h
  split at h
  · cases h
    exact ⟨yX0_isNegativeZero, cX0_isNegativeZero, 2, (some .boolean), 1, 27, mM_X0_isNegativeZero l, by decide, by decide, pt_277, pt_9, by decide, by decide, fun h => absurd h (by decide), fun _ => ⟨pt_275, pt_276⟩, fun h => absurd h (by decide)⟩
  · cases h
    exact ⟨yX0_isEndless, cX0_isEndless, 2, (some .boolean), 1, 27, mM_X0_isEndless l, by decide, by decide, pt_281, pt_9, by decide, by decide, fun h => absurd h (by decide), fun _ => ⟨pt_279, pt_280⟩, fun h => absurd h (by decide)⟩
  · cases h
    exact ⟨yX0_sizeOf, cX0_sizeOf, 2, (some .double), 1, 27, mM_X0_sizeOf l, by decide, by decide, pt_286, pt_9, by decide, by decide, fun h => absurd h (by decide), fun _ => ⟨pt_284, pt_285⟩, fun h => absurd h (by decide)⟩
  · cases h
    exact ⟨yX0_bitsOfSize, cX0_bitsOfSize, 7, (some .long), 2, 52, mM_X0_bitsOfSize l, by decide, by decide, pt_289, pt_9, by decide, by decide, fun h => absurd h (by decide), fun _ => ⟨pt_287, pt_288⟩, fun h => absurd h (by decide)⟩
  · cases h
noncomputable def mF_X0_toBits : pm_F := pm_fn mE_X0_toBits 4
theorem mM_X0_toBits (l : Launch) : pm_Met l yX0_toBits cX0_toBits 4 (some .long) 3 78 mF_X0_toBits := pm_met (own := RX0) (E := mE_X0_toBits) (ini := false) (by decide) rfl ⟨mk_g_X0_toBits, mk_p_X0_toBits, mk_k_X0_toBits, mk_f_X0_toBits l, mk_o_X0_toBits, mk_n_X0_toBits, by decide⟩ rfl (fun h => by cases h)
noncomputable def mt_g_X0_greaterOf : Nat → Option (Nat × Nat) := fun _ => none
noncomputable def mt_p_X0_greaterOf : Nat → Option (Nat × Nat) := fun _ => none
noncomputable def mt_k_X0_greaterOf : Nat → Option Value := fun _ => none
noncomputable def mt_f_X0_greaterOf : Nat → Option (Nat × Nat × Nat × pm_F) := fun k => match k with
  | 21 => some (1, 1, 9, mF_X0_isNegativeZero)
  | _ => none
noncomputable def mt_o_X0_greaterOf : Nat → Option Nat := fun _ => none
noncomputable def mt_n_X0_greaterOf : Nat → Option Nat := fun _ => none
noncomputable def mE_X0_greaterOf : pm_E := (cX0_greaterOf, mt_g_X0_greaterOf, mt_p_X0_greaterOf, mt_k_X0_greaterOf, mt_f_X0_greaterOf, mt_o_X0_greaterOf, mt_n_X0_greaterOf, none, (some .double))
theorem mk_g_X0_greaterOf : ∀ k q, mt_g_X0_greaterOf k = some q → pm_Fok RX0 k q := by
  intro k q h
  unfold mt_g_X0_greaterOf at h
  cases h
theorem mk_p_X0_greaterOf : ∀ k q, mt_p_X0_greaterOf k = some q → pm_Fok RX0 k q ∧ ((pm_ct q.1 q.2).2.2.2 = false ∨ (false = true ∧ (pm_ct q.1 q.2).1 = RX0)) := by
  intro k q h
  unfold mt_p_X0_greaterOf at h
  cases h
theorem mk_k_X0_greaterOf : ∀ k q, mt_k_X0_greaterOf k = some q → pm_Kok RX0 k q := by
  intro k q h
  unfold mt_k_X0_greaterOf at h
  cases h
theorem mk_o_X0_greaterOf : ∀ k q, mt_o_X0_greaterOf k = some q → pm_Oko RX0 k q := by
  intro k q h
  unfold mt_o_X0_greaterOf at h
  cases h
theorem mk_n_X0_greaterOf : ∀ k q, mt_n_X0_greaterOf k = some q → pm_Nok RX0 k q := by
  intro k q h
  unfold mt_n_X0_greaterOf at h
  cases h
theorem mk_f_X0_greaterOf (l : Launch) : ∀ k q, mt_f_X0_greaterOf k = some q → pm_Cal l 2 48 RX0 k q := by
  intro k q h
  unfold mt_f_X0_greaterOf at h
  split at h
  · cases h
    exact ⟨yX0_isNegativeZero, cX0_isNegativeZero, 2, (some .boolean), 1, 27, mM_X0_isNegativeZero l, by decide, by decide, pt_277, pt_9, by decide, by decide, fun h => absurd h (by decide), fun _ => ⟨pt_275, pt_276⟩, fun h => absurd h (by decide)⟩
  · cases h
noncomputable def mF_X0_greaterOf : pm_F := pm_fn mE_X0_greaterOf 4
theorem mM_X0_greaterOf (l : Launch) : pm_Met l yX0_greaterOf cX0_greaterOf 4 (some .double) 2 48 mF_X0_greaterOf := pm_met (own := RX0) (E := mE_X0_greaterOf) (ini := false) (by decide) rfl ⟨mk_g_X0_greaterOf, mk_p_X0_greaterOf, mk_k_X0_greaterOf, mk_f_X0_greaterOf l, mk_o_X0_greaterOf, mk_n_X0_greaterOf, by decide⟩ rfl (fun h => by cases h)
noncomputable def mt_g_X0_floorOf : Nat → Option (Nat × Nat) := fun _ => none
noncomputable def mt_p_X0_floorOf : Nat → Option (Nat × Nat) := fun _ => none
noncomputable def mt_k_X0_floorOf : Nat → Option Value := fun k => match k with
  | 46 => some (.double (4841369599423283200))
  | _ => none
noncomputable def mt_f_X0_floorOf : Nat → Option (Nat × Nat × Nat × pm_F) := fun k => match k with
  | 30 => some (1, 1, 9, mF_X0_sizeOf)
  | _ => none
noncomputable def mt_o_X0_floorOf : Nat → Option Nat := fun _ => none
noncomputable def mt_n_X0_floorOf : Nat → Option Nat := fun _ => none
noncomputable def mE_X0_floorOf : pm_E := (cX0_floorOf, mt_g_X0_floorOf, mt_p_X0_floorOf, mt_k_X0_floorOf, mt_f_X0_floorOf, mt_o_X0_floorOf, mt_n_X0_floorOf, none, (some .double))
theorem mk_g_X0_floorOf : ∀ k q, mt_g_X0_floorOf k = some q → pm_Fok RX0 k q := by
  intro k q h
  unfold mt_g_X0_floorOf at h
  cases h
theorem mk_p_X0_floorOf : ∀ k q, mt_p_X0_floorOf k = some q → pm_Fok RX0 k q ∧ ((pm_ct q.1 q.2).2.2.2 = false ∨ (false = true ∧ (pm_ct q.1 q.2).1 = RX0)) := by
  intro k q h
  unfold mt_p_X0_floorOf at h
  cases h
theorem mk_k_X0_floorOf : ∀ k q, mt_k_X0_floorOf k = some q → pm_Kok RX0 k q := by
  intro k q h
  unfold mt_k_X0_floorOf at h
  split at h
  · cases h
    exact pt_477
  · cases h
theorem mk_o_X0_floorOf : ∀ k q, mt_o_X0_floorOf k = some q → pm_Oko RX0 k q := by
  intro k q h
  unfold mt_o_X0_floorOf at h
  cases h
theorem mk_n_X0_floorOf : ∀ k q, mt_n_X0_floorOf k = some q → pm_Nok RX0 k q := by
  intro k q h
  unfold mt_n_X0_floorOf at h
  cases h
theorem mk_f_X0_floorOf (l : Launch) : ∀ k q, mt_f_X0_floorOf k = some q → pm_Cal l 2 48 RX0 k q := by
  intro k q h
  unfold mt_f_X0_floorOf at h
  split at h
  · cases h
    exact ⟨yX0_sizeOf, cX0_sizeOf, 2, (some .double), 1, 27, mM_X0_sizeOf l, by decide, by decide, pt_286, pt_9, by decide, by decide, fun h => absurd h (by decide), fun _ => ⟨pt_284, pt_285⟩, fun h => absurd h (by decide)⟩
  · cases h
noncomputable def mF_X0_floorOf : pm_F := pm_fn mE_X0_floorOf 4
theorem mM_X0_floorOf (l : Launch) : pm_Met l yX0_floorOf cX0_floorOf 4 (some .double) 2 48 mF_X0_floorOf := pm_met (own := RX0) (E := mE_X0_floorOf) (ini := false) (by decide) rfl ⟨mk_g_X0_floorOf, mk_p_X0_floorOf, mk_k_X0_floorOf, mk_f_X0_floorOf l, mk_o_X0_floorOf, mk_n_X0_floorOf, by decide⟩ rfl (fun h => by cases h)
noncomputable def mt_g_X0_rootOf : Nat → Option (Nat × Nat) := fun _ => none
noncomputable def mt_p_X0_rootOf : Nat → Option (Nat × Nat) := fun _ => none
noncomputable def mt_k_X0_rootOf : Nat → Option Value := fun k => match k with
  | 48 => some (.long (9007199254740992))
  | 50 => some (.long (4))
  | 52 => some (.long (2))
  | _ => none
noncomputable def mt_f_X0_rootOf : Nat → Option (Nat × Nat × Nat × pm_F) := fun k => match k with
  | 15 => some (1, 1, 9, mF_X0_powerOfTwo)
  | _ => none
noncomputable def mt_o_X0_rootOf : Nat → Option Nat := fun _ => none
noncomputable def mt_n_X0_rootOf : Nat → Option Nat := fun _ => none
noncomputable def mE_X0_rootOf : pm_E := (cX0_rootOf, mt_g_X0_rootOf, mt_p_X0_rootOf, mt_k_X0_rootOf, mt_f_X0_rootOf, mt_o_X0_rootOf, mt_n_X0_rootOf, none, (some .double))
theorem mk_g_X0_rootOf : ∀ k q, mt_g_X0_rootOf k = some q → pm_Fok RX0 k q := by
  intro k q h
  unfold mt_g_X0_rootOf at h
  cases h
theorem mk_p_X0_rootOf : ∀ k q, mt_p_X0_rootOf k = some q → pm_Fok RX0 k q ∧ ((pm_ct q.1 q.2).2.2.2 = false ∨ (false = true ∧ (pm_ct q.1 q.2).1 = RX0)) := by
  intro k q h
  unfold mt_p_X0_rootOf at h
  cases h
theorem mk_k_X0_rootOf : ∀ k q, mt_k_X0_rootOf k = some q → pm_Kok RX0 k q := by
  intro k q h
  unfold mt_k_X0_rootOf at h
  split at h
  · cases h
    exact pt_220
  · cases h
    exact pt_221
  · cases h
    exact pt_222
  · cases h
theorem mk_o_X0_rootOf : ∀ k q, mt_o_X0_rootOf k = some q → pm_Oko RX0 k q := by
  intro k q h
  unfold mt_o_X0_rootOf at h
  cases h
theorem mk_n_X0_rootOf : ∀ k q, mt_n_X0_rootOf k = some q → pm_Nok RX0 k q := by
  intro k q h
  unfold mt_n_X0_rootOf at h
  cases h
theorem mk_f_X0_rootOf (l : Launch) : ∀ k q, mt_f_X0_rootOf k = some q → pm_Cal l 2 52 RX0 k q := by
  intro k q h
  unfold mt_f_X0_rootOf at h
  split at h
  · cases h
    exact ⟨yX0_powerOfTwo, cX0_powerOfTwo, 6, (some .double), 1, 27, mM_X0_powerOfTwo l, by decide, by decide, pt_225, pt_9, by decide, by decide, fun h => absurd h (by decide), fun _ => ⟨pt_223, pt_224⟩, fun h => absurd h (by decide)⟩
  · cases h
noncomputable def mF_X0_rootOf : pm_F := pm_fn mE_X0_rootOf 10
theorem mM_X0_rootOf (l : Launch) : pm_Met l yX0_rootOf cX0_rootOf 10 (some .double) 2 52 mF_X0_rootOf := pm_met (own := RX0) (E := mE_X0_rootOf) (ini := false) (by decide) rfl ⟨mk_g_X0_rootOf, mk_p_X0_rootOf, mk_k_X0_rootOf, mk_f_X0_rootOf l, mk_o_X0_rootOf, mk_n_X0_rootOf, by decide⟩ rfl (fun h => by cases h)
noncomputable def mt_g_X1_init : Nat → Option (Nat × Nat) := fun _ => none
noncomputable def mt_p_X1_init : Nat → Option (Nat × Nat) := fun k => match k with
  | 9 => some (0, 0)
  | 15 => some (0, 6)
  | _ => none
noncomputable def mt_k_X1_init : Nat → Option Value := fun _ => none
noncomputable def mt_f_X1_init : Nat → Option (Nat × Nat × Nat × pm_F) := fun _ => none
noncomputable def mt_o_X1_init : Nat → Option Nat := fun k => match k with
  | 10 => some 13
  | _ => none
noncomputable def mt_n_X1_init : Nat → Option Nat := fun k => match k with
  | 3 => some 2
  | _ => none
noncomputable def mE_X1_init : pm_E := (cX1_init, mt_g_X1_init, mt_p_X1_init, mt_k_X1_init, mt_f_X1_init, mt_o_X1_init, mt_n_X1_init, none, none)
theorem mk_g_X1_init : ∀ k q, mt_g_X1_init k = some q → pm_Fok RX1 k q := by
  intro k q h
  unfold mt_g_X1_init at h
  cases h
theorem mk_p_X1_init : ∀ k q, mt_p_X1_init k = some q → pm_Fok RX1 k q ∧ ((pm_ct q.1 q.2).2.2.2 = false ∨ (true = true ∧ (pm_ct q.1 q.2).1 = RX1)) := by
  intro k q h
  unfold mt_p_X1_init at h
  split at h
  · cases h
    exact ⟨⟨by decide, by decide, pt_113⟩, Or.inr ⟨rfl, rfl⟩⟩
  · cases h
    exact ⟨⟨by decide, by decide, pt_127⟩, Or.inr ⟨rfl, rfl⟩⟩
  · cases h
theorem mk_k_X1_init : ∀ k q, mt_k_X1_init k = some q → pm_Kok RX1 k q := by
  intro k q h
  unfold mt_k_X1_init at h
  cases h
theorem mk_o_X1_init : ∀ k q, mt_o_X1_init k = some q → pm_Oko RX1 k q := by
  intro k q h
  unfold mt_o_X1_init at h
  split at h
  · cases h
    exact ⟨fun h => absurd h (by decide), fun _ => pt_112⟩
  · cases h
theorem mk_n_X1_init : ∀ k q, mt_n_X1_init k = some q → pm_Nok RX1 k q := by
  intro k q h
  unfold mt_n_X1_init at h
  split at h
  · cases h
    exact ⟨fun h => absurd h (by decide), fun h => absurd h (by decide), fun _ => ⟨pt_111, pt_17, pt_18⟩⟩
  · cases h
theorem mk_f_X1_init (l : Launch) : ∀ k q, mt_f_X1_init k = some q → pm_Cal l 1 27 RX1 k q := by
  intro k q h
  unfold mt_f_X1_init at h
  cases h
noncomputable def mF_X1_init : pm_F := pm_fn mE_X1_init 2
theorem mM_X1_init (l : Launch) : pm_Met l yX1_init cX1_init 2 none 1 27 mF_X1_init := pm_met (own := RX1) (E := mE_X1_init) (ini := true) (by decide) rfl ⟨mk_g_X1_init, mk_p_X1_init, mk_k_X1_init, mk_f_X1_init l, mk_o_X1_init, mk_n_X1_init, by decide⟩ rfl (fun h => by rfl)
noncomputable def mt_g_X2_hasField : Nat → Option (Nat × Nat) := fun _ => none
noncomputable def mt_p_X2_hasField : Nat → Option (Nat × Nat) := fun _ => none
noncomputable def mt_k_X2_hasField : Nat → Option Value := fun _ => none
noncomputable def mt_f_X2_hasField : Nat → Option (Nat × Nat × Nat × pm_F) := fun _ => none
noncomputable def mt_o_X2_hasField : Nat → Option Nat := fun _ => none
noncomputable def mt_n_X2_hasField : Nat → Option Nat := fun _ => none
noncomputable def mE_X2_hasField : pm_E := (cX2_hasField, mt_g_X2_hasField, mt_p_X2_hasField, mt_k_X2_hasField, mt_f_X2_hasField, mt_o_X2_hasField, mt_n_X2_hasField, none, (some .boolean))
theorem mk_g_X2_hasField : ∀ k q, mt_g_X2_hasField k = some q → pm_Fok RX2 k q := by
  intro k q h
  unfold mt_g_X2_hasField at h
  cases h
theorem mk_p_X2_hasField : ∀ k q, mt_p_X2_hasField k = some q → pm_Fok RX2 k q ∧ ((pm_ct q.1 q.2).2.2.2 = false ∨ (false = true ∧ (pm_ct q.1 q.2).1 = RX2)) := by
  intro k q h
  unfold mt_p_X2_hasField at h
  cases h
theorem mk_k_X2_hasField : ∀ k q, mt_k_X2_hasField k = some q → pm_Kok RX2 k q := by
  intro k q h
  unfold mt_k_X2_hasField at h
  cases h
theorem mk_o_X2_hasField : ∀ k q, mt_o_X2_hasField k = some q → pm_Oko RX2 k q := by
  intro k q h
  unfold mt_o_X2_hasField at h
  cases h
theorem mk_n_X2_hasField : ∀ k q, mt_n_X2_hasField k = some q → pm_Nok RX2 k q := by
  intro k q h
  unfold mt_n_X2_hasField at h
  cases h
theorem mk_f_X2_hasField (l : Launch) : ∀ k q, mt_f_X2_hasField k = some q → pm_Cal l 1 27 RX2 k q := by
  intro k q h
  unfold mt_f_X2_hasField at h
  cases h
noncomputable def mF_X2_hasField : pm_F := pm_fn mE_X2_hasField 1
theorem mM_X2_hasField (l : Launch) : pm_Met l yX2_hasField cX2_hasField 1 (some .boolean) 1 27 mF_X2_hasField := pm_met (own := RX2) (E := mE_X2_hasField) (ini := false) (by decide) rfl ⟨mk_g_X2_hasField, mk_p_X2_hasField, mk_k_X2_hasField, mk_f_X2_hasField l, mk_o_X2_hasField, mk_n_X2_hasField, by decide⟩ rfl (fun h => by cases h)
noncomputable def mt_g_X1_isSafe : Nat → Option (Nat × Nat) := fun k => match k with
  | 19 => some (0, 1)
  | 31 => some (0, 3)
  | 39 => some (0, 4)
  | 64 => some (0, 13)
  | _ => none
noncomputable def mt_p_X1_isSafe : Nat → Option (Nat × Nat) := fun _ => none
noncomputable def mt_k_X1_isSafe : Nat → Option Value := fun _ => none
noncomputable def mt_f_X1_isSafe : Nat → Option (Nat × Nat × Nat × pm_F) := fun _ => none
noncomputable def mt_o_X1_isSafe : Nat → Option Nat := fun _ => none
noncomputable def mt_n_X1_isSafe : Nat → Option Nat := fun _ => none
noncomputable def mE_X1_isSafe : pm_E := (cX1_isSafe, mt_g_X1_isSafe, mt_p_X1_isSafe, mt_k_X1_isSafe, mt_f_X1_isSafe, mt_o_X1_isSafe, mt_n_X1_isSafe, none, (some .boolean))
theorem mk_g_X1_isSafe : ∀ k q, mt_g_X1_isSafe k = some q → pm_Fok RX1 k q := by
  intro k q h
  unfold mt_g_X1_isSafe at h
  split at h
  · cases h
    exact ⟨by decide, by decide, pt_116⟩
  · cases h
    exact ⟨by decide, by decide, pt_121⟩
  · cases h
    exact ⟨by decide, by decide, pt_123⟩
  · cases h
    exact ⟨by decide, by decide, pt_143⟩
  · cases h
theorem mk_p_X1_isSafe : ∀ k q, mt_p_X1_isSafe k = some q → pm_Fok RX1 k q ∧ ((pm_ct q.1 q.2).2.2.2 = false ∨ (false = true ∧ (pm_ct q.1 q.2).1 = RX1)) := by
  intro k q h
  unfold mt_p_X1_isSafe at h
  cases h
theorem mk_k_X1_isSafe : ∀ k q, mt_k_X1_isSafe k = some q → pm_Kok RX1 k q := by
  intro k q h
  unfold mt_k_X1_isSafe at h
  cases h
theorem mk_o_X1_isSafe : ∀ k q, mt_o_X1_isSafe k = some q → pm_Oko RX1 k q := by
  intro k q h
  unfold mt_o_X1_isSafe at h
  cases h
theorem mk_n_X1_isSafe : ∀ k q, mt_n_X1_isSafe k = some q → pm_Nok RX1 k q := by
  intro k q h
  unfold mt_n_X1_isSafe at h
  cases h
theorem mk_f_X1_isSafe (l : Launch) : ∀ k q, mt_f_X1_isSafe k = some q → pm_Cal l 1 27 RX1 k q := by
  intro k q h
  unfold mt_f_X1_isSafe at h
  cases h
noncomputable def mF_X1_isSafe : pm_F := pm_fn mE_X1_isSafe 1
theorem mM_X1_isSafe (l : Launch) : pm_Met l yX1_isSafe cX1_isSafe 1 (some .boolean) 1 27 mF_X1_isSafe := pm_met (own := RX1) (E := mE_X1_isSafe) (ini := false) (by decide) rfl ⟨mk_g_X1_isSafe, mk_p_X1_isSafe, mk_k_X1_isSafe, mk_f_X1_isSafe l, mk_o_X1_isSafe, mk_n_X1_isSafe, by decide⟩ rfl (fun h => by cases h)
noncomputable def mt_g_X1_risesByKind : Nat → Option (Nat × Nat) := fun k => match k with
  | 19 => some (0, 1)
  | 64 => some (0, 13)
  | 67 => some (0, 14)
  | _ => none
noncomputable def mt_p_X1_risesByKind : Nat → Option (Nat × Nat) := fun _ => none
noncomputable def mt_k_X1_risesByKind : Nat → Option Value := fun _ => none
noncomputable def mt_f_X1_risesByKind : Nat → Option (Nat × Nat × Nat × pm_F) := fun _ => none
noncomputable def mt_o_X1_risesByKind : Nat → Option Nat := fun _ => none
noncomputable def mt_n_X1_risesByKind : Nat → Option Nat := fun _ => none
noncomputable def mE_X1_risesByKind : pm_E := (cX1_risesByKind, mt_g_X1_risesByKind, mt_p_X1_risesByKind, mt_k_X1_risesByKind, mt_f_X1_risesByKind, mt_o_X1_risesByKind, mt_n_X1_risesByKind, none, (some .int))
theorem mk_g_X1_risesByKind : ∀ k q, mt_g_X1_risesByKind k = some q → pm_Fok RX1 k q := by
  intro k q h
  unfold mt_g_X1_risesByKind at h
  split at h
  · cases h
    exact ⟨by decide, by decide, pt_116⟩
  · cases h
    exact ⟨by decide, by decide, pt_143⟩
  · cases h
    exact ⟨by decide, by decide, pt_144⟩
  · cases h
theorem mk_p_X1_risesByKind : ∀ k q, mt_p_X1_risesByKind k = some q → pm_Fok RX1 k q ∧ ((pm_ct q.1 q.2).2.2.2 = false ∨ (false = true ∧ (pm_ct q.1 q.2).1 = RX1)) := by
  intro k q h
  unfold mt_p_X1_risesByKind at h
  cases h
theorem mk_k_X1_risesByKind : ∀ k q, mt_k_X1_risesByKind k = some q → pm_Kok RX1 k q := by
  intro k q h
  unfold mt_k_X1_risesByKind at h
  cases h
theorem mk_o_X1_risesByKind : ∀ k q, mt_o_X1_risesByKind k = some q → pm_Oko RX1 k q := by
  intro k q h
  unfold mt_o_X1_risesByKind at h
  cases h
theorem mk_n_X1_risesByKind : ∀ k q, mt_n_X1_risesByKind k = some q → pm_Nok RX1 k q := by
  intro k q h
  unfold mt_n_X1_risesByKind at h
  cases h
theorem mk_f_X1_risesByKind (l : Launch) : ∀ k q, mt_f_X1_risesByKind k = some q → pm_Cal l 1 27 RX1 k q := by
  intro k q h
  unfold mt_f_X1_risesByKind at h
  cases h
noncomputable def mF_X1_risesByKind : pm_F := pm_fn mE_X1_risesByKind 1
theorem mM_X1_risesByKind (l : Launch) : pm_Met l yX1_risesByKind cX1_risesByKind 1 (some .int) 1 27 mF_X1_risesByKind := pm_met (own := RX1) (E := mE_X1_risesByKind) (ini := false) (by decide) rfl ⟨mk_g_X1_risesByKind, mk_p_X1_risesByKind, mk_k_X1_risesByKind, mk_f_X1_risesByKind l, mk_o_X1_risesByKind, mk_n_X1_risesByKind, by decide⟩ rfl (fun h => by cases h)
noncomputable def mt_g_X1_prove : Nat → Option (Nat × Nat) := fun k => match k with
  | 61 => some (0, 11)
  | _ => none
noncomputable def mt_p_X1_prove : Nat → Option (Nat × Nat) := fun k => match k with
  | 73 => some (0, 10)
  | 76 => some (0, 12)
  | _ => none
noncomputable def mt_k_X1_prove : Nat → Option Value := fun _ => none
noncomputable def mt_f_X1_prove : Nat → Option (Nat × Nat × Nat × pm_F) := fun k => match k with
  | 79 => some (0, 0, 0, mF_X1_isSafe)
  | 83 => some (0, 0, 0, mF_X1_risesByKind)
  | _ => none
noncomputable def mt_o_X1_prove : Nat → Option Nat := fun _ => none
noncomputable def mt_n_X1_prove : Nat → Option Nat := fun _ => none
noncomputable def mE_X1_prove : pm_E := (cX1_prove, mt_g_X1_prove, mt_p_X1_prove, mt_k_X1_prove, mt_f_X1_prove, mt_o_X1_prove, mt_n_X1_prove, none, none)
theorem mk_g_X1_prove : ∀ k q, mt_g_X1_prove k = some q → pm_Fok RX1 k q := by
  intro k q h
  unfold mt_g_X1_prove at h
  split at h
  · cases h
    exact ⟨by decide, by decide, pt_139⟩
  · cases h
theorem mk_p_X1_prove : ∀ k q, mt_p_X1_prove k = some q → pm_Fok RX1 k q ∧ ((pm_ct q.1 q.2).2.2.2 = false ∨ (false = true ∧ (pm_ct q.1 q.2).1 = RX1)) := by
  intro k q h
  unfold mt_p_X1_prove at h
  split at h
  · cases h
    exact ⟨⟨by decide, by decide, pt_137⟩, Or.inl rfl⟩
  · cases h
    exact ⟨⟨by decide, by decide, pt_141⟩, Or.inl rfl⟩
  · cases h
theorem mk_k_X1_prove : ∀ k q, mt_k_X1_prove k = some q → pm_Kok RX1 k q := by
  intro k q h
  unfold mt_k_X1_prove at h
  cases h
theorem mk_o_X1_prove : ∀ k q, mt_o_X1_prove k = some q → pm_Oko RX1 k q := by
  intro k q h
  unfold mt_o_X1_prove at h
  cases h
theorem mk_n_X1_prove : ∀ k q, mt_n_X1_prove k = some q → pm_Nok RX1 k q := by
  intro k q h
  unfold mt_n_X1_prove at h
  cases h
theorem mk_f_X1_prove (l : Launch) : ∀ k q, mt_f_X1_prove k = some q → pm_Cal l 2 47 RX1 k q := by
  intro k q h
  unfold mt_f_X1_prove at h
  split at h
  · cases h
    exact ⟨yX1_isSafe, cX1_isSafe, 1, (some .boolean), 1, 27, mM_X1_isSafe l, by decide, by decide, pt_346, pt_5, by decide, by decide, fun _ => ⟨by decide, rfl, pt_343, pt_345, pt_s3⟩, fun h => absurd h (by decide), fun h => absurd h (by decide)⟩
  · cases h
    exact ⟨yX1_risesByKind, cX1_risesByKind, 1, (some .int), 1, 27, mM_X1_risesByKind l, by decide, by decide, pt_350, pt_5, by decide, by decide, fun _ => ⟨by decide, rfl, pt_347, pt_349, pt_s4⟩, fun h => absurd h (by decide), fun h => absurd h (by decide)⟩
  · cases h
noncomputable def mF_X1_prove : pm_F := pm_fn mE_X1_prove 1
theorem mM_X1_prove (l : Launch) : pm_Met l yX1_prove cX1_prove 1 none 2 47 mF_X1_prove := pm_met (own := RX1) (E := mE_X1_prove) (ini := false) (by decide) rfl ⟨mk_g_X1_prove, mk_p_X1_prove, mk_k_X1_prove, mk_f_X1_prove l, mk_o_X1_prove, mk_n_X1_prove, by decide⟩ rfl (fun h => by cases h)
noncomputable def mt_g_X1_begin : Nat → Option (Nat × Nat) := fun k => match k with
  | 31 => some (0, 3)
  | _ => none
noncomputable def mt_p_X1_begin : Nat → Option (Nat × Nat) := fun k => match k with
  | 19 => some (0, 1)
  | 22 => some (0, 2)
  | 31 => some (0, 3)
  | 39 => some (0, 4)
  | 43 => some (0, 5)
  | 46 => some (0, 7)
  | 49 => some (0, 8)
  | 52 => some (0, 9)
  | 61 => some (0, 11)
  | 64 => some (0, 13)
  | 67 => some (0, 14)
  | _ => none
noncomputable def mt_k_X1_begin : Nat → Option Value := fun _ => none
noncomputable def mt_f_X1_begin : Nat → Option (Nat × Nat × Nat × pm_F) := fun k => match k with
  | 25 => some (1, 1, 9, mF_X0_isNumber)
  | 35 => some (1, 1, 9, mF_X0_fromBits)
  | 55 => some (1, 1, 9, mF_X2_hasField)
  | 70 => some (0, 0, 0, mF_X1_prove)
  | _ => none
noncomputable def mt_o_X1_begin : Nat → Option Nat := fun _ => none
noncomputable def mt_n_X1_begin : Nat → Option Nat := fun _ => none
noncomputable def mE_X1_begin : pm_E := (cX1_begin, mt_g_X1_begin, mt_p_X1_begin, mt_k_X1_begin, mt_f_X1_begin, mt_o_X1_begin, mt_n_X1_begin, none, none)
theorem mk_g_X1_begin : ∀ k q, mt_g_X1_begin k = some q → pm_Fok RX1 k q := by
  intro k q h
  unfold mt_g_X1_begin at h
  split at h
  · cases h
    exact ⟨by decide, by decide, pt_121⟩
  · cases h
theorem mk_p_X1_begin : ∀ k q, mt_p_X1_begin k = some q → pm_Fok RX1 k q ∧ ((pm_ct q.1 q.2).2.2.2 = false ∨ (false = true ∧ (pm_ct q.1 q.2).1 = RX1)) := by
  intro k q h
  unfold mt_p_X1_begin at h
  split at h
  · cases h
    exact ⟨⟨by decide, by decide, pt_116⟩, Or.inl rfl⟩
  · cases h
    exact ⟨⟨by decide, by decide, pt_119⟩, Or.inl rfl⟩
  · cases h
    exact ⟨⟨by decide, by decide, pt_121⟩, Or.inl rfl⟩
  · cases h
    exact ⟨⟨by decide, by decide, pt_123⟩, Or.inl rfl⟩
  · cases h
    exact ⟨⟨by decide, by decide, pt_125⟩, Or.inl rfl⟩
  · cases h
    exact ⟨⟨by decide, by decide, pt_130⟩, Or.inl rfl⟩
  · cases h
    exact ⟨⟨by decide, by decide, pt_133⟩, Or.inl rfl⟩
  · cases h
    exact ⟨⟨by decide, by decide, pt_135⟩, Or.inl rfl⟩
  · cases h
    exact ⟨⟨by decide, by decide, pt_139⟩, Or.inl rfl⟩
  · cases h
    exact ⟨⟨by decide, by decide, pt_143⟩, Or.inl rfl⟩
  · cases h
    exact ⟨⟨by decide, by decide, pt_144⟩, Or.inl rfl⟩
  · cases h
theorem mk_k_X1_begin : ∀ k q, mt_k_X1_begin k = some q → pm_Kok RX1 k q := by
  intro k q h
  unfold mt_k_X1_begin at h
  cases h
theorem mk_o_X1_begin : ∀ k q, mt_o_X1_begin k = some q → pm_Oko RX1 k q := by
  intro k q h
  unfold mt_o_X1_begin at h
  cases h
theorem mk_n_X1_begin : ∀ k q, mt_n_X1_begin k = some q → pm_Nok RX1 k q := by
  intro k q h
  unfold mt_n_X1_begin at h
  cases h
theorem mk_f_X1_begin (l : Launch) : ∀ k q, mt_f_X1_begin k = some q → pm_Cal l 3 78 RX1 k q := by
  intro k q h
  unfold mt_f_X1_begin at h
  split at h
  · cases h
    exact ⟨yX0_isNumber, cX0_isNumber, 2, (some .boolean), 1, 27, mM_X0_isNumber l, by decide, by decide, pt_238, pt_9, by decide, by decide, fun h => absurd h (by decide), fun _ => ⟨pt_336, pt_237⟩, fun h => absurd h (by decide)⟩
  · cases h
    exact ⟨yX0_fromBits, cX0_fromBits, 7, (some .double), 2, 52, mM_X0_fromBits l, by decide, by decide, pt_243, pt_9, by decide, by decide, fun h => absurd h (by decide), fun _ => ⟨pt_337, pt_242⟩, fun h => absurd h (by decide)⟩
  · cases h
    exact ⟨yX2_hasField, cX2_hasField, 1, (some .boolean), 1, 27, mM_X2_hasField l, by decide, by decide, pt_307, pt_10, by decide, by decide, fun h => absurd h (by decide), fun _ => ⟨pt_338, pt_306⟩, fun h => absurd h (by decide)⟩
  · cases h
    exact ⟨yX1_prove, cX1_prove, 1, none, 2, 47, mM_X1_prove l, by decide, by decide, pt_342, pt_5, by decide, by decide, fun _ => ⟨by decide, rfl, pt_339, pt_341, pt_s2⟩, fun h => absurd h (by decide), fun h => absurd h (by decide)⟩
  · cases h
noncomputable def mF_X1_begin : pm_F := pm_fn mE_X1_begin 7
theorem mM_X1_begin (l : Launch) : pm_Met l yX1_begin cX1_begin 7 none 3 78 mF_X1_begin := pm_met (own := RX1) (E := mE_X1_begin) (ini := false) (by decide) rfl ⟨mk_g_X1_begin, mk_p_X1_begin, mk_k_X1_begin, mk_f_X1_begin l, mk_o_X1_begin, mk_n_X1_begin, by decide⟩ rfl (fun h => by cases h)
noncomputable def mt_g_X1_addPart : Nat → Option (Nat × Nat) := fun k => match k with
  | 15 => some (0, 6)
  | 46 => some (0, 7)
  | 52 => some (0, 9)
  | 61 => some (0, 11)
  | 64 => some (0, 13)
  | 67 => some (0, 14)
  | 73 => some (0, 10)
  | 76 => some (0, 12)
  | _ => none
noncomputable def mt_p_X1_addPart : Nat → Option (Nat × Nat) := fun k => match k with
  | 46 => some (0, 7)
  | 49 => some (0, 8)
  | 52 => some (0, 9)
  | 61 => some (0, 11)
  | 64 => some (0, 13)
  | 67 => some (0, 14)
  | _ => none
noncomputable def mt_k_X1_addPart : Nat → Option Value := fun _ => none
noncomputable def mt_f_X1_addPart : Nat → Option (Nat × Nat × Nat × pm_F) := fun k => match k with
  | 70 => some (0, 0, 0, mF_X1_prove)
  | _ => none
noncomputable def mt_o_X1_addPart : Nat → Option Nat := fun _ => none
noncomputable def mt_n_X1_addPart : Nat → Option Nat := fun _ => none
noncomputable def mE_X1_addPart : pm_E := (cX1_addPart, mt_g_X1_addPart, mt_p_X1_addPart, mt_k_X1_addPart, mt_f_X1_addPart, mt_o_X1_addPart, mt_n_X1_addPart, none, none)
theorem mk_g_X1_addPart : ∀ k q, mt_g_X1_addPart k = some q → pm_Fok RX1 k q := by
  intro k q h
  unfold mt_g_X1_addPart at h
  split at h
  · cases h
    exact ⟨by decide, by decide, pt_127⟩
  · cases h
    exact ⟨by decide, by decide, pt_130⟩
  · cases h
    exact ⟨by decide, by decide, pt_135⟩
  · cases h
    exact ⟨by decide, by decide, pt_139⟩
  · cases h
    exact ⟨by decide, by decide, pt_143⟩
  · cases h
    exact ⟨by decide, by decide, pt_144⟩
  · cases h
    exact ⟨by decide, by decide, pt_137⟩
  · cases h
    exact ⟨by decide, by decide, pt_141⟩
  · cases h
theorem mk_p_X1_addPart : ∀ k q, mt_p_X1_addPart k = some q → pm_Fok RX1 k q ∧ ((pm_ct q.1 q.2).2.2.2 = false ∨ (false = true ∧ (pm_ct q.1 q.2).1 = RX1)) := by
  intro k q h
  unfold mt_p_X1_addPart at h
  split at h
  · cases h
    exact ⟨⟨by decide, by decide, pt_130⟩, Or.inl rfl⟩
  · cases h
    exact ⟨⟨by decide, by decide, pt_133⟩, Or.inl rfl⟩
  · cases h
    exact ⟨⟨by decide, by decide, pt_135⟩, Or.inl rfl⟩
  · cases h
    exact ⟨⟨by decide, by decide, pt_139⟩, Or.inl rfl⟩
  · cases h
    exact ⟨⟨by decide, by decide, pt_143⟩, Or.inl rfl⟩
  · cases h
    exact ⟨⟨by decide, by decide, pt_144⟩, Or.inl rfl⟩
  · cases h
theorem mk_k_X1_addPart : ∀ k q, mt_k_X1_addPart k = some q → pm_Kok RX1 k q := by
  intro k q h
  unfold mt_k_X1_addPart at h
  cases h
theorem mk_o_X1_addPart : ∀ k q, mt_o_X1_addPart k = some q → pm_Oko RX1 k q := by
  intro k q h
  unfold mt_o_X1_addPart at h
  cases h
theorem mk_n_X1_addPart : ∀ k q, mt_n_X1_addPart k = some q → pm_Nok RX1 k q := by
  intro k q h
  unfold mt_n_X1_addPart at h
  cases h
theorem mk_f_X1_addPart (l : Launch) : ∀ k q, mt_f_X1_addPart k = some q → pm_Cal l 3 67 RX1 k q := by
  intro k q h
  unfold mt_f_X1_addPart at h
  split at h
  · cases h
    exact ⟨yX1_prove, cX1_prove, 1, none, 2, 47, mM_X1_prove l, by decide, by decide, pt_342, pt_5, by decide, by decide, fun _ => ⟨by decide, rfl, pt_339, pt_341, pt_s2⟩, fun h => absurd h (by decide), fun h => absurd h (by decide)⟩
  · cases h
noncomputable def mF_X1_addPart : pm_F := pm_fn mE_X1_addPart 2
theorem mM_X1_addPart (l : Launch) : pm_Met l yX1_addPart cX1_addPart 2 none 3 67 mF_X1_addPart := pm_met (own := RX1) (E := mE_X1_addPart) (ini := false) (by decide) rfl ⟨mk_g_X1_addPart, mk_p_X1_addPart, mk_k_X1_addPart, mk_f_X1_addPart l, mk_o_X1_addPart, mk_n_X1_addPart, by decide⟩ rfl (fun h => by cases h)
noncomputable def mt_g_X2_gathers : Nat → Option (Nat × Nat) := fun _ => none
noncomputable def mt_p_X2_gathers : Nat → Option (Nat × Nat) := fun _ => none
noncomputable def mt_k_X2_gathers : Nat → Option Value := fun _ => none
noncomputable def mt_f_X2_gathers : Nat → Option (Nat × Nat × Nat × pm_F) := fun _ => none
noncomputable def mt_o_X2_gathers : Nat → Option Nat := fun _ => none
noncomputable def mt_n_X2_gathers : Nat → Option Nat := fun _ => none
noncomputable def mE_X2_gathers : pm_E := (cX2_gathers, mt_g_X2_gathers, mt_p_X2_gathers, mt_k_X2_gathers, mt_f_X2_gathers, mt_o_X2_gathers, mt_n_X2_gathers, none, (some .boolean))
theorem mk_g_X2_gathers : ∀ k q, mt_g_X2_gathers k = some q → pm_Fok RX2 k q := by
  intro k q h
  unfold mt_g_X2_gathers at h
  cases h
theorem mk_p_X2_gathers : ∀ k q, mt_p_X2_gathers k = some q → pm_Fok RX2 k q ∧ ((pm_ct q.1 q.2).2.2.2 = false ∨ (false = true ∧ (pm_ct q.1 q.2).1 = RX2)) := by
  intro k q h
  unfold mt_p_X2_gathers at h
  cases h
theorem mk_k_X2_gathers : ∀ k q, mt_k_X2_gathers k = some q → pm_Kok RX2 k q := by
  intro k q h
  unfold mt_k_X2_gathers at h
  cases h
theorem mk_o_X2_gathers : ∀ k q, mt_o_X2_gathers k = some q → pm_Oko RX2 k q := by
  intro k q h
  unfold mt_o_X2_gathers at h
  cases h
theorem mk_n_X2_gathers : ∀ k q, mt_n_X2_gathers k = some q → pm_Nok RX2 k q := by
  intro k q h
  unfold mt_n_X2_gathers at h
  cases h
theorem mk_f_X2_gathers (l : Launch) : ∀ k q, mt_f_X2_gathers k = some q → pm_Cal l 1 27 RX2 k q := by
  intro k q h
  unfold mt_f_X2_gathers at h
  cases h
noncomputable def mF_X2_gathers : pm_F := pm_fn mE_X2_gathers 1
theorem mM_X2_gathers (l : Launch) : pm_Met l yX2_gathers cX2_gathers 1 (some .boolean) 1 27 mF_X2_gathers := pm_met (own := RX2) (E := mE_X2_gathers) (ini := false) (by decide) rfl ⟨mk_g_X2_gathers, mk_p_X2_gathers, mk_k_X2_gathers, mk_f_X2_gathers l, mk_o_X2_gathers, mk_n_X2_gathers, by decide⟩ rfl (fun h => by cases h)
noncomputable def mt_g_X2_hasX : Nat → Option (Nat × Nat) := fun _ => none
noncomputable def mt_p_X2_hasX : Nat → Option (Nat × Nat) := fun _ => none
noncomputable def mt_k_X2_hasX : Nat → Option Value := fun _ => none
noncomputable def mt_f_X2_hasX : Nat → Option (Nat × Nat × Nat × pm_F) := fun _ => none
noncomputable def mt_o_X2_hasX : Nat → Option Nat := fun _ => none
noncomputable def mt_n_X2_hasX : Nat → Option Nat := fun _ => none
noncomputable def mE_X2_hasX : pm_E := (cX2_hasX, mt_g_X2_hasX, mt_p_X2_hasX, mt_k_X2_hasX, mt_f_X2_hasX, mt_o_X2_hasX, mt_n_X2_hasX, none, (some .boolean))
theorem mk_g_X2_hasX : ∀ k q, mt_g_X2_hasX k = some q → pm_Fok RX2 k q := by
  intro k q h
  unfold mt_g_X2_hasX at h
  cases h
theorem mk_p_X2_hasX : ∀ k q, mt_p_X2_hasX k = some q → pm_Fok RX2 k q ∧ ((pm_ct q.1 q.2).2.2.2 = false ∨ (false = true ∧ (pm_ct q.1 q.2).1 = RX2)) := by
  intro k q h
  unfold mt_p_X2_hasX at h
  cases h
theorem mk_k_X2_hasX : ∀ k q, mt_k_X2_hasX k = some q → pm_Kok RX2 k q := by
  intro k q h
  unfold mt_k_X2_hasX at h
  cases h
theorem mk_o_X2_hasX : ∀ k q, mt_o_X2_hasX k = some q → pm_Oko RX2 k q := by
  intro k q h
  unfold mt_o_X2_hasX at h
  cases h
theorem mk_n_X2_hasX : ∀ k q, mt_n_X2_hasX k = some q → pm_Nok RX2 k q := by
  intro k q h
  unfold mt_n_X2_hasX at h
  cases h
theorem mk_f_X2_hasX (l : Launch) : ∀ k q, mt_f_X2_hasX k = some q → pm_Cal l 1 27 RX2 k q := by
  intro k q h
  unfold mt_f_X2_hasX at h
  cases h
noncomputable def mF_X2_hasX : pm_F := pm_fn mE_X2_hasX 1
theorem mM_X2_hasX (l : Launch) : pm_Met l yX2_hasX cX2_hasX 1 (some .boolean) 1 27 mF_X2_hasX := pm_met (own := RX2) (E := mE_X2_hasX) (ini := false) (by decide) rfl ⟨mk_g_X2_hasX, mk_p_X2_hasX, mk_k_X2_hasX, mk_f_X2_hasX l, mk_o_X2_hasX, mk_n_X2_hasX, by decide⟩ rfl (fun h => by cases h)
noncomputable def mt_g_X2_failsBelow : Nat → Option (Nat × Nat) := fun _ => none
noncomputable def mt_p_X2_failsBelow : Nat → Option (Nat × Nat) := fun _ => none
noncomputable def mt_k_X2_failsBelow : Nat → Option Value := fun _ => none
noncomputable def mt_f_X2_failsBelow : Nat → Option (Nat × Nat × Nat × pm_F) := fun _ => none
noncomputable def mt_o_X2_failsBelow : Nat → Option Nat := fun _ => none
noncomputable def mt_n_X2_failsBelow : Nat → Option Nat := fun _ => none
noncomputable def mE_X2_failsBelow : pm_E := (cX2_failsBelow, mt_g_X2_failsBelow, mt_p_X2_failsBelow, mt_k_X2_failsBelow, mt_f_X2_failsBelow, mt_o_X2_failsBelow, mt_n_X2_failsBelow, none, (some .boolean))
theorem mk_g_X2_failsBelow : ∀ k q, mt_g_X2_failsBelow k = some q → pm_Fok RX2 k q := by
  intro k q h
  unfold mt_g_X2_failsBelow at h
  cases h
theorem mk_p_X2_failsBelow : ∀ k q, mt_p_X2_failsBelow k = some q → pm_Fok RX2 k q ∧ ((pm_ct q.1 q.2).2.2.2 = false ∨ (false = true ∧ (pm_ct q.1 q.2).1 = RX2)) := by
  intro k q h
  unfold mt_p_X2_failsBelow at h
  cases h
theorem mk_k_X2_failsBelow : ∀ k q, mt_k_X2_failsBelow k = some q → pm_Kok RX2 k q := by
  intro k q h
  unfold mt_k_X2_failsBelow at h
  cases h
theorem mk_o_X2_failsBelow : ∀ k q, mt_o_X2_failsBelow k = some q → pm_Oko RX2 k q := by
  intro k q h
  unfold mt_o_X2_failsBelow at h
  cases h
theorem mk_n_X2_failsBelow : ∀ k q, mt_n_X2_failsBelow k = some q → pm_Nok RX2 k q := by
  intro k q h
  unfold mt_n_X2_failsBelow at h
  cases h
theorem mk_f_X2_failsBelow (l : Launch) : ∀ k q, mt_f_X2_failsBelow k = some q → pm_Cal l 1 27 RX2 k q := by
  intro k q h
  unfold mt_f_X2_failsBelow at h
  cases h
noncomputable def mF_X2_failsBelow : pm_F := pm_fn mE_X2_failsBelow 1
theorem mM_X2_failsBelow (l : Launch) : pm_Met l yX2_failsBelow cX2_failsBelow 1 (some .boolean) 1 27 mF_X2_failsBelow := pm_met (own := RX2) (E := mE_X2_failsBelow) (ini := false) (by decide) rfl ⟨mk_g_X2_failsBelow, mk_p_X2_failsBelow, mk_k_X2_failsBelow, mk_f_X2_failsBelow l, mk_o_X2_failsBelow, mk_n_X2_failsBelow, by decide⟩ rfl (fun h => by cases h)
noncomputable def mt_g_X2_isNotBelow : Nat → Option (Nat × Nat) := fun _ => none
noncomputable def mt_p_X2_isNotBelow : Nat → Option (Nat × Nat) := fun _ => none
noncomputable def mt_k_X2_isNotBelow : Nat → Option Value := fun _ => none
noncomputable def mt_f_X2_isNotBelow : Nat → Option (Nat × Nat × Nat × pm_F) := fun k => match k with
  | 16 => some (1, 1, 9, mF_X0_isNumber)
  | 24 => some (1, 1, 9, mF_X0_fromBits)
  | _ => none
noncomputable def mt_o_X2_isNotBelow : Nat → Option Nat := fun _ => none
noncomputable def mt_n_X2_isNotBelow : Nat → Option Nat := fun _ => none
noncomputable def mE_X2_isNotBelow : pm_E := (cX2_isNotBelow, mt_g_X2_isNotBelow, mt_p_X2_isNotBelow, mt_k_X2_isNotBelow, mt_f_X2_isNotBelow, mt_o_X2_isNotBelow, mt_n_X2_isNotBelow, none, (some .boolean))
theorem mk_g_X2_isNotBelow : ∀ k q, mt_g_X2_isNotBelow k = some q → pm_Fok RX2 k q := by
  intro k q h
  unfold mt_g_X2_isNotBelow at h
  cases h
theorem mk_p_X2_isNotBelow : ∀ k q, mt_p_X2_isNotBelow k = some q → pm_Fok RX2 k q ∧ ((pm_ct q.1 q.2).2.2.2 = false ∨ (false = true ∧ (pm_ct q.1 q.2).1 = RX2)) := by
  intro k q h
  unfold mt_p_X2_isNotBelow at h
  cases h
theorem mk_k_X2_isNotBelow : ∀ k q, mt_k_X2_isNotBelow k = some q → pm_Kok RX2 k q := by
  intro k q h
  unfold mt_k_X2_isNotBelow at h
  cases h
theorem mk_o_X2_isNotBelow : ∀ k q, mt_o_X2_isNotBelow k = some q → pm_Oko RX2 k q := by
  intro k q h
  unfold mt_o_X2_isNotBelow at h
  cases h
theorem mk_n_X2_isNotBelow : ∀ k q, mt_n_X2_isNotBelow k = some q → pm_Nok RX2 k q := by
  intro k q h
  unfold mt_n_X2_isNotBelow at h
  cases h
theorem mk_f_X2_isNotBelow (l : Launch) : ∀ k q, mt_f_X2_isNotBelow k = some q → pm_Cal l 3 78 RX2 k q := by
  intro k q h
  unfold mt_f_X2_isNotBelow at h
  split at h
  · cases h
    exact ⟨yX0_isNumber, cX0_isNumber, 2, (some .boolean), 1, 27, mM_X0_isNumber l, by decide, by decide, pt_238, pt_9, by decide, by decide, fun h => absurd h (by decide), fun _ => ⟨pt_321, pt_237⟩, fun h => absurd h (by decide)⟩
  · cases h
    exact ⟨yX0_fromBits, cX0_fromBits, 7, (some .double), 2, 52, mM_X0_fromBits l, by decide, by decide, pt_243, pt_9, by decide, by decide, fun h => absurd h (by decide), fun _ => ⟨pt_322, pt_242⟩, fun h => absurd h (by decide)⟩
  · cases h
noncomputable def mF_X2_isNotBelow : pm_F := pm_fn mE_X2_isNotBelow 2
theorem mM_X2_isNotBelow (l : Launch) : pm_Met l yX2_isNotBelow cX2_isNotBelow 2 (some .boolean) 3 78 mF_X2_isNotBelow := pm_met (own := RX2) (E := mE_X2_isNotBelow) (ini := false) (by decide) rfl ⟨mk_g_X2_isNotBelow, mk_p_X2_isNotBelow, mk_k_X2_isNotBelow, mk_f_X2_isNotBelow l, mk_o_X2_isNotBelow, mk_n_X2_isNotBelow, by decide⟩ rfl (fun h => by cases h)
noncomputable def mt_g_X2_isShare : Nat → Option (Nat × Nat) := fun _ => none
noncomputable def mt_p_X2_isShare : Nat → Option (Nat × Nat) := fun _ => none
noncomputable def mt_k_X2_isShare : Nat → Option Value := fun _ => none
noncomputable def mt_f_X2_isShare : Nat → Option (Nat × Nat × Nat × pm_F) := fun k => match k with
  | 9 => some (1, 1, 9, mF_X2_isNotBelow)
  | 24 => some (1, 1, 9, mF_X0_fromBits)
  | _ => none
noncomputable def mt_o_X2_isShare : Nat → Option Nat := fun _ => none
noncomputable def mt_n_X2_isShare : Nat → Option Nat := fun _ => none
noncomputable def mE_X2_isShare : pm_E := (cX2_isShare, mt_g_X2_isShare, mt_p_X2_isShare, mt_k_X2_isShare, mt_f_X2_isShare, mt_o_X2_isShare, mt_n_X2_isShare, none, (some .boolean))
theorem mk_g_X2_isShare : ∀ k q, mt_g_X2_isShare k = some q → pm_Fok RX2 k q := by
  intro k q h
  unfold mt_g_X2_isShare at h
  cases h
theorem mk_p_X2_isShare : ∀ k q, mt_p_X2_isShare k = some q → pm_Fok RX2 k q ∧ ((pm_ct q.1 q.2).2.2.2 = false ∨ (false = true ∧ (pm_ct q.1 q.2).1 = RX2)) := by
  intro k q h
  unfold mt_p_X2_isShare at h
  cases h
theorem mk_k_X2_isShare : ∀ k q, mt_k_X2_isShare k = some q → pm_Kok RX2 k q := by
  intro k q h
  unfold mt_k_X2_isShare at h
  cases h
theorem mk_o_X2_isShare : ∀ k q, mt_o_X2_isShare k = some q → pm_Oko RX2 k q := by
  intro k q h
  unfold mt_o_X2_isShare at h
  cases h
theorem mk_n_X2_isShare : ∀ k q, mt_n_X2_isShare k = some q → pm_Nok RX2 k q := by
  intro k q h
  unfold mt_n_X2_isShare at h
  cases h
theorem mk_f_X2_isShare (l : Launch) : ∀ k q, mt_f_X2_isShare k = some q → pm_Cal l 4 99 RX2 k q := by
  intro k q h
  unfold mt_f_X2_isShare at h
  split at h
  · cases h
    exact ⟨yX2_isNotBelow, cX2_isNotBelow, 2, (some .boolean), 3, 78, mM_X2_isNotBelow l, by decide, by decide, pt_320, pt_10, by decide, by decide, fun h => absurd h (by decide), fun _ => ⟨pt_318, pt_319⟩, fun h => absurd h (by decide)⟩
  · cases h
    exact ⟨yX0_fromBits, cX0_fromBits, 7, (some .double), 2, 52, mM_X0_fromBits l, by decide, by decide, pt_243, pt_9, by decide, by decide, fun h => absurd h (by decide), fun _ => ⟨pt_322, pt_242⟩, fun h => absurd h (by decide)⟩
  · cases h
noncomputable def mF_X2_isShare : pm_F := pm_fn mE_X2_isShare 2
theorem mM_X2_isShare (l : Launch) : pm_Met l yX2_isShare cX2_isShare 2 (some .boolean) 4 99 mF_X2_isShare := pm_met (own := RX2) (E := mE_X2_isShare) (ini := false) (by decide) rfl ⟨mk_g_X2_isShare, mk_p_X2_isShare, mk_k_X2_isShare, mk_f_X2_isShare l, mk_o_X2_isShare, mk_n_X2_isShare, by decide⟩ rfl (fun h => by cases h)
noncomputable def mt_g_X2_isAbove : Nat → Option (Nat × Nat) := fun _ => none
noncomputable def mt_p_X2_isAbove : Nat → Option (Nat × Nat) := fun _ => none
noncomputable def mt_k_X2_isAbove : Nat → Option Value := fun _ => none
noncomputable def mt_f_X2_isAbove : Nat → Option (Nat × Nat × Nat × pm_F) := fun k => match k with
  | 16 => some (1, 1, 9, mF_X0_isNumber)
  | 24 => some (1, 1, 9, mF_X0_fromBits)
  | _ => none
noncomputable def mt_o_X2_isAbove : Nat → Option Nat := fun _ => none
noncomputable def mt_n_X2_isAbove : Nat → Option Nat := fun _ => none
noncomputable def mE_X2_isAbove : pm_E := (cX2_isAbove, mt_g_X2_isAbove, mt_p_X2_isAbove, mt_k_X2_isAbove, mt_f_X2_isAbove, mt_o_X2_isAbove, mt_n_X2_isAbove, none, (some .boolean))
theorem mk_g_X2_isAbove : ∀ k q, mt_g_X2_isAbove k = some q → pm_Fok RX2 k q := by
  intro k q h
  unfold mt_g_X2_isAbove at h
  cases h
theorem mk_p_X2_isAbove : ∀ k q, mt_p_X2_isAbove k = some q → pm_Fok RX2 k q ∧ ((pm_ct q.1 q.2).2.2.2 = false ∨ (false = true ∧ (pm_ct q.1 q.2).1 = RX2)) := by
  intro k q h
  unfold mt_p_X2_isAbove at h
  cases h
theorem mk_k_X2_isAbove : ∀ k q, mt_k_X2_isAbove k = some q → pm_Kok RX2 k q := by
  intro k q h
  unfold mt_k_X2_isAbove at h
  cases h
theorem mk_o_X2_isAbove : ∀ k q, mt_o_X2_isAbove k = some q → pm_Oko RX2 k q := by
  intro k q h
  unfold mt_o_X2_isAbove at h
  cases h
theorem mk_n_X2_isAbove : ∀ k q, mt_n_X2_isAbove k = some q → pm_Nok RX2 k q := by
  intro k q h
  unfold mt_n_X2_isAbove at h
  cases h
theorem mk_f_X2_isAbove (l : Launch) : ∀ k q, mt_f_X2_isAbove k = some q → pm_Cal l 3 78 RX2 k q := by
  intro k q h
  unfold mt_f_X2_isAbove at h
  split at h
  · cases h
    exact ⟨yX0_isNumber, cX0_isNumber, 2, (some .boolean), 1, 27, mM_X0_isNumber l, by decide, by decide, pt_238, pt_9, by decide, by decide, fun h => absurd h (by decide), fun _ => ⟨pt_321, pt_237⟩, fun h => absurd h (by decide)⟩
  · cases h
    exact ⟨yX0_fromBits, cX0_fromBits, 7, (some .double), 2, 52, mM_X0_fromBits l, by decide, by decide, pt_243, pt_9, by decide, by decide, fun h => absurd h (by decide), fun _ => ⟨pt_322, pt_242⟩, fun h => absurd h (by decide)⟩
  · cases h
noncomputable def mF_X2_isAbove : pm_F := pm_fn mE_X2_isAbove 2
theorem mM_X2_isAbove (l : Launch) : pm_Met l yX2_isAbove cX2_isAbove 2 (some .boolean) 3 78 mF_X2_isAbove := pm_met (own := RX2) (E := mE_X2_isAbove) (ini := false) (by decide) rfl ⟨mk_g_X2_isAbove, mk_p_X2_isAbove, mk_k_X2_isAbove, mk_f_X2_isAbove l, mk_o_X2_isAbove, mk_n_X2_isAbove, by decide⟩ rfl (fun h => by cases h)
noncomputable def mt_g_X2_takes : Nat → Option (Nat × Nat) := fun _ => none
noncomputable def mt_p_X2_takes : Nat → Option (Nat × Nat) := fun _ => none
noncomputable def mt_k_X2_takes : Nat → Option Value := fun _ => none
noncomputable def mt_f_X2_takes : Nat → Option (Nat × Nat × Nat × pm_F) := fun k => match k with
  | 9 => some (1, 1, 9, mF_X2_isNotBelow)
  | 13 => some (1, 1, 9, mF_X2_isShare)
  | 16 => some (1, 1, 9, mF_X0_isNumber)
  | 21 => some (1, 1, 9, mF_X2_isAbove)
  | _ => none
noncomputable def mt_o_X2_takes : Nat → Option Nat := fun _ => none
noncomputable def mt_n_X2_takes : Nat → Option Nat := fun _ => none
noncomputable def mE_X2_takes : pm_E := (cX2_takes, mt_g_X2_takes, mt_p_X2_takes, mt_k_X2_takes, mt_f_X2_takes, mt_o_X2_takes, mt_n_X2_takes, none, (some .boolean))
theorem mk_g_X2_takes : ∀ k q, mt_g_X2_takes k = some q → pm_Fok RX2 k q := by
  intro k q h
  unfold mt_g_X2_takes at h
  cases h
theorem mk_p_X2_takes : ∀ k q, mt_p_X2_takes k = some q → pm_Fok RX2 k q ∧ ((pm_ct q.1 q.2).2.2.2 = false ∨ (false = true ∧ (pm_ct q.1 q.2).1 = RX2)) := by
  intro k q h
  unfold mt_p_X2_takes at h
  cases h
theorem mk_k_X2_takes : ∀ k q, mt_k_X2_takes k = some q → pm_Kok RX2 k q := by
  intro k q h
  unfold mt_k_X2_takes at h
  cases h
theorem mk_o_X2_takes : ∀ k q, mt_o_X2_takes k = some q → pm_Oko RX2 k q := by
  intro k q h
  unfold mt_o_X2_takes at h
  cases h
theorem mk_n_X2_takes : ∀ k q, mt_n_X2_takes k = some q → pm_Nok RX2 k q := by
  intro k q h
  unfold mt_n_X2_takes at h
  cases h
theorem mk_f_X2_takes (l : Launch) : ∀ k q, mt_f_X2_takes k = some q → pm_Cal l 5 120 RX2 k q := by
  intro k q h
  unfold mt_f_X2_takes at h
  split at h
  · cases h
    exact ⟨yX2_isNotBelow, cX2_isNotBelow, 2, (some .boolean), 3, 78, mM_X2_isNotBelow l, by decide, by decide, pt_320, pt_10, by decide, by decide, fun h => absurd h (by decide), fun _ => ⟨pt_318, pt_319⟩, fun h => absurd h (by decide)⟩
  · cases h
    exact ⟨yX2_isShare, cX2_isShare, 2, (some .boolean), 4, 99, mM_X2_isShare l, by decide, by decide, pt_325, pt_10, by decide, by decide, fun h => absurd h (by decide), fun _ => ⟨pt_323, pt_324⟩, fun h => absurd h (by decide)⟩
  · cases h
    exact ⟨yX0_isNumber, cX0_isNumber, 2, (some .boolean), 1, 27, mM_X0_isNumber l, by decide, by decide, pt_238, pt_9, by decide, by decide, fun h => absurd h (by decide), fun _ => ⟨pt_321, pt_237⟩, fun h => absurd h (by decide)⟩
  · cases h
    exact ⟨yX2_isAbove, cX2_isAbove, 2, (some .boolean), 3, 78, mM_X2_isAbove l, by decide, by decide, pt_328, pt_10, by decide, by decide, fun h => absurd h (by decide), fun _ => ⟨pt_326, pt_327⟩, fun h => absurd h (by decide)⟩
  · cases h
noncomputable def mF_X2_takes : pm_F := pm_fn mE_X2_takes 5
theorem mM_X2_takes (l : Launch) : pm_Met l yX2_takes cX2_takes 5 (some .boolean) 5 120 mF_X2_takes := pm_met (own := RX2) (E := mE_X2_takes) (ini := false) (by decide) rfl ⟨mk_g_X2_takes, mk_p_X2_takes, mk_k_X2_takes, mk_f_X2_takes l, mk_o_X2_takes, mk_n_X2_takes, by decide⟩ rfl (fun h => by cases h)
noncomputable def mt_g_X3_valueOf : Nat → Option (Nat × Nat) := fun _ => none
noncomputable def mt_p_X3_valueOf : Nat → Option (Nat × Nat) := fun _ => none
noncomputable def mt_k_X3_valueOf : Nat → Option Value := fun _ => none
noncomputable def mt_f_X3_valueOf : Nat → Option (Nat × Nat × Nat × pm_F) := fun _ => none
noncomputable def mt_o_X3_valueOf : Nat → Option Nat := fun _ => none
noncomputable def mt_n_X3_valueOf : Nat → Option Nat := fun _ => none
noncomputable def mE_X3_valueOf : pm_E := (cX3_valueOf, mt_g_X3_valueOf, mt_p_X3_valueOf, mt_k_X3_valueOf, mt_f_X3_valueOf, mt_o_X3_valueOf, mt_n_X3_valueOf, none, (some .int))
theorem mk_g_X3_valueOf : ∀ k q, mt_g_X3_valueOf k = some q → pm_Fok RX3 k q := by
  intro k q h
  unfold mt_g_X3_valueOf at h
  cases h
theorem mk_p_X3_valueOf : ∀ k q, mt_p_X3_valueOf k = some q → pm_Fok RX3 k q ∧ ((pm_ct q.1 q.2).2.2.2 = false ∨ (false = true ∧ (pm_ct q.1 q.2).1 = RX3)) := by
  intro k q h
  unfold mt_p_X3_valueOf at h
  cases h
theorem mk_k_X3_valueOf : ∀ k q, mt_k_X3_valueOf k = some q → pm_Kok RX3 k q := by
  intro k q h
  unfold mt_k_X3_valueOf at h
  cases h
theorem mk_o_X3_valueOf : ∀ k q, mt_o_X3_valueOf k = some q → pm_Oko RX3 k q := by
  intro k q h
  unfold mt_o_X3_valueOf at h
  cases h
theorem mk_n_X3_valueOf : ∀ k q, mt_n_X3_valueOf k = some q → pm_Nok RX3 k q := by
  intro k q h
  unfold mt_n_X3_valueOf at h
  cases h
theorem mk_f_X3_valueOf (l : Launch) : ∀ k q, mt_f_X3_valueOf k = some q → pm_Cal l 1 27 RX3 k q := by
  intro k q h
  unfold mt_f_X3_valueOf at h
  cases h
noncomputable def mF_X3_valueOf : pm_F := pm_fn mE_X3_valueOf 1
theorem mM_X3_valueOf (l : Launch) : pm_Met l yX3_valueOf cX3_valueOf 1 (some .int) 1 27 mF_X3_valueOf := pm_met (own := RX3) (E := mE_X3_valueOf) (ini := false) (by decide) rfl ⟨mk_g_X3_valueOf, mk_p_X3_valueOf, mk_k_X3_valueOf, mk_f_X3_valueOf l, mk_o_X3_valueOf, mk_n_X3_valueOf, by decide⟩ rfl (fun h => by cases h)
noncomputable def mt_g_X3_codeOf : Nat → Option (Nat × Nat) := fun _ => none
noncomputable def mt_p_X3_codeOf : Nat → Option (Nat × Nat) := fun _ => none
noncomputable def mt_k_X3_codeOf : Nat → Option Value := fun _ => none
noncomputable def mt_f_X3_codeOf : Nat → Option (Nat × Nat × Nat × pm_F) := fun k => match k with
  | 9 => some (1, 1, 9, mF_X3_valueOf)
  | _ => none
noncomputable def mt_o_X3_codeOf : Nat → Option Nat := fun _ => none
noncomputable def mt_n_X3_codeOf : Nat → Option Nat := fun _ => none
noncomputable def mE_X3_codeOf : pm_E := (cX3_codeOf, mt_g_X3_codeOf, mt_p_X3_codeOf, mt_k_X3_codeOf, mt_f_X3_codeOf, mt_o_X3_codeOf, mt_n_X3_codeOf, none, (some .int))
theorem mk_g_X3_codeOf : ∀ k q, mt_g_X3_codeOf k = some q → pm_Fok RX3 k q := by
  intro k q h
  unfold mt_g_X3_codeOf at h
  cases h
theorem mk_p_X3_codeOf : ∀ k q, mt_p_X3_codeOf k = some q → pm_Fok RX3 k q ∧ ((pm_ct q.1 q.2).2.2.2 = false ∨ (false = true ∧ (pm_ct q.1 q.2).1 = RX3)) := by
  intro k q h
  unfold mt_p_X3_codeOf at h
  cases h
theorem mk_k_X3_codeOf : ∀ k q, mt_k_X3_codeOf k = some q → pm_Kok RX3 k q := by
  intro k q h
  unfold mt_k_X3_codeOf at h
  cases h
theorem mk_o_X3_codeOf : ∀ k q, mt_o_X3_codeOf k = some q → pm_Oko RX3 k q := by
  intro k q h
  unfold mt_o_X3_codeOf at h
  cases h
theorem mk_n_X3_codeOf : ∀ k q, mt_n_X3_codeOf k = some q → pm_Nok RX3 k q := by
  intro k q h
  unfold mt_n_X3_codeOf at h
  cases h
theorem mk_f_X3_codeOf (l : Launch) : ∀ k q, mt_f_X3_codeOf k = some q → pm_Cal l 2 47 RX3 k q := by
  intro k q h
  unfold mt_f_X3_codeOf at h
  split at h
  · cases h
    exact ⟨yX3_valueOf, cX3_valueOf, 1, (some .int), 1, 27, mM_X3_valueOf l, by decide, by decide, pt_215, pt_8, by decide, by decide, fun h => absurd h (by decide), fun _ => ⟨pt_213, pt_214⟩, fun h => absurd h (by decide)⟩
  · cases h
noncomputable def mF_X3_codeOf : pm_F := pm_fn mE_X3_codeOf 3
theorem mM_X3_codeOf (l : Launch) : pm_Met l yX3_codeOf cX3_codeOf 3 (some .int) 2 47 mF_X3_codeOf := pm_met (own := RX3) (E := mE_X3_codeOf) (ini := false) (by decide) rfl ⟨mk_g_X3_codeOf, mk_p_X3_codeOf, mk_k_X3_codeOf, mk_f_X3_codeOf l, mk_o_X3_codeOf, mk_n_X3_codeOf, by decide⟩ rfl (fun h => by cases h)
noncomputable def mt_g_X4_init : Nat → Option (Nat × Nat) := fun _ => none
noncomputable def mt_p_X4_init : Nat → Option (Nat × Nat) := fun _ => none
noncomputable def mt_k_X4_init : Nat → Option Value := fun _ => none
noncomputable def mt_f_X4_init : Nat → Option (Nat × Nat × Nat × pm_F) := fun _ => none
noncomputable def mt_o_X4_init : Nat → Option Nat := fun _ => none
noncomputable def mt_n_X4_init : Nat → Option Nat := fun k => match k with
  | 1 => some 2
  | _ => none
noncomputable def mE_X4_init : pm_E := (cX4_init, mt_g_X4_init, mt_p_X4_init, mt_k_X4_init, mt_f_X4_init, mt_o_X4_init, mt_n_X4_init, none, none)
theorem mk_g_X4_init : ∀ k q, mt_g_X4_init k = some q → pm_Fok RX4 k q := by
  intro k q h
  unfold mt_g_X4_init at h
  cases h
theorem mk_p_X4_init : ∀ k q, mt_p_X4_init k = some q → pm_Fok RX4 k q ∧ ((pm_ct q.1 q.2).2.2.2 = false ∨ (true = true ∧ (pm_ct q.1 q.2).1 = RX4)) := by
  intro k q h
  unfold mt_p_X4_init at h
  cases h
theorem mk_k_X4_init : ∀ k q, mt_k_X4_init k = some q → pm_Kok RX4 k q := by
  intro k q h
  unfold mt_k_X4_init at h
  cases h
theorem mk_o_X4_init : ∀ k q, mt_o_X4_init k = some q → pm_Oko RX4 k q := by
  intro k q h
  unfold mt_o_X4_init at h
  cases h
theorem mk_n_X4_init : ∀ k q, mt_n_X4_init k = some q → pm_Nok RX4 k q := by
  intro k q h
  unfold mt_n_X4_init at h
  split at h
  · cases h
    exact ⟨fun h => absurd h (by decide), fun h => absurd h (by decide), fun _ => ⟨pt_67, pt_17, pt_18⟩⟩
  · cases h
theorem mk_f_X4_init (l : Launch) : ∀ k q, mt_f_X4_init k = some q → pm_Cal l 1 27 RX4 k q := by
  intro k q h
  unfold mt_f_X4_init at h
  cases h
noncomputable def mF_X4_init : pm_F := pm_fn mE_X4_init 1
theorem mM_X4_init (l : Launch) : pm_Met l yX4_init cX4_init 1 none 1 27 mF_X4_init := pm_met (own := RX4) (E := mE_X4_init) (ini := true) (by decide) rfl ⟨mk_g_X4_init, mk_p_X4_init, mk_k_X4_init, mk_f_X4_init l, mk_o_X4_init, mk_n_X4_init, by decide⟩ rfl (fun h => by rfl)
noncomputable def mt_g_X4_begin : Nat → Option (Nat × Nat) := fun _ => none
noncomputable def mt_p_X4_begin : Nat → Option (Nat × Nat) := fun k => match k with
  | 7 => some (1, 0)
  | _ => none
noncomputable def mt_k_X4_begin : Nat → Option Value := fun _ => none
noncomputable def mt_f_X4_begin : Nat → Option (Nat × Nat × Nat × pm_F) := fun _ => none
noncomputable def mt_o_X4_begin : Nat → Option Nat := fun _ => none
noncomputable def mt_n_X4_begin : Nat → Option Nat := fun _ => none
noncomputable def mE_X4_begin : pm_E := (cX4_begin, mt_g_X4_begin, mt_p_X4_begin, mt_k_X4_begin, mt_f_X4_begin, mt_o_X4_begin, mt_n_X4_begin, none, none)
theorem mk_g_X4_begin : ∀ k q, mt_g_X4_begin k = some q → pm_Fok RX4 k q := by
  intro k q h
  unfold mt_g_X4_begin at h
  cases h
theorem mk_p_X4_begin : ∀ k q, mt_p_X4_begin k = some q → pm_Fok RX4 k q ∧ ((pm_ct q.1 q.2).2.2.2 = false ∨ (false = true ∧ (pm_ct q.1 q.2).1 = RX4)) := by
  intro k q h
  unfold mt_p_X4_begin at h
  split at h
  · cases h
    exact ⟨⟨by decide, by decide, pt_68⟩, Or.inl rfl⟩
  · cases h
theorem mk_k_X4_begin : ∀ k q, mt_k_X4_begin k = some q → pm_Kok RX4 k q := by
  intro k q h
  unfold mt_k_X4_begin at h
  cases h
theorem mk_o_X4_begin : ∀ k q, mt_o_X4_begin k = some q → pm_Oko RX4 k q := by
  intro k q h
  unfold mt_o_X4_begin at h
  cases h
theorem mk_n_X4_begin : ∀ k q, mt_n_X4_begin k = some q → pm_Nok RX4 k q := by
  intro k q h
  unfold mt_n_X4_begin at h
  cases h
theorem mk_f_X4_begin (l : Launch) : ∀ k q, mt_f_X4_begin k = some q → pm_Cal l 1 27 RX4 k q := by
  intro k q h
  unfold mt_f_X4_begin at h
  cases h
noncomputable def mF_X4_begin : pm_F := pm_fn mE_X4_begin 1
theorem mM_X4_begin (l : Launch) : pm_Met l yX4_begin cX4_begin 1 none 1 27 mF_X4_begin := pm_met (own := RX4) (E := mE_X4_begin) (ini := false) (by decide) rfl ⟨mk_g_X4_begin, mk_p_X4_begin, mk_k_X4_begin, mk_f_X4_begin l, mk_o_X4_begin, mk_n_X4_begin, by decide⟩ rfl (fun h => by cases h)
noncomputable def mt_g_X4_isLost : Nat → Option (Nat × Nat) := fun k => match k with
  | 7 => some (1, 0)
  | _ => none
noncomputable def mt_p_X4_isLost : Nat → Option (Nat × Nat) := fun _ => none
noncomputable def mt_k_X4_isLost : Nat → Option Value := fun _ => none
noncomputable def mt_f_X4_isLost : Nat → Option (Nat × Nat × Nat × pm_F) := fun _ => none
noncomputable def mt_o_X4_isLost : Nat → Option Nat := fun _ => none
noncomputable def mt_n_X4_isLost : Nat → Option Nat := fun _ => none
noncomputable def mE_X4_isLost : pm_E := (cX4_isLost, mt_g_X4_isLost, mt_p_X4_isLost, mt_k_X4_isLost, mt_f_X4_isLost, mt_o_X4_isLost, mt_n_X4_isLost, none, (some .boolean))
theorem mk_g_X4_isLost : ∀ k q, mt_g_X4_isLost k = some q → pm_Fok RX4 k q := by
  intro k q h
  unfold mt_g_X4_isLost at h
  split at h
  · cases h
    exact ⟨by decide, by decide, pt_68⟩
  · cases h
theorem mk_p_X4_isLost : ∀ k q, mt_p_X4_isLost k = some q → pm_Fok RX4 k q ∧ ((pm_ct q.1 q.2).2.2.2 = false ∨ (false = true ∧ (pm_ct q.1 q.2).1 = RX4)) := by
  intro k q h
  unfold mt_p_X4_isLost at h
  cases h
theorem mk_k_X4_isLost : ∀ k q, mt_k_X4_isLost k = some q → pm_Kok RX4 k q := by
  intro k q h
  unfold mt_k_X4_isLost at h
  cases h
theorem mk_o_X4_isLost : ∀ k q, mt_o_X4_isLost k = some q → pm_Oko RX4 k q := by
  intro k q h
  unfold mt_o_X4_isLost at h
  cases h
theorem mk_n_X4_isLost : ∀ k q, mt_n_X4_isLost k = some q → pm_Nok RX4 k q := by
  intro k q h
  unfold mt_n_X4_isLost at h
  cases h
theorem mk_f_X4_isLost (l : Launch) : ∀ k q, mt_f_X4_isLost k = some q → pm_Cal l 1 27 RX4 k q := by
  intro k q h
  unfold mt_f_X4_isLost at h
  cases h
noncomputable def mF_X4_isLost : pm_F := pm_fn mE_X4_isLost 1
theorem mM_X4_isLost (l : Launch) : pm_Met l yX4_isLost cX4_isLost 1 (some .boolean) 1 27 mF_X4_isLost := pm_met (own := RX4) (E := mE_X4_isLost) (ini := false) (by decide) rfl ⟨mk_g_X4_isLost, mk_p_X4_isLost, mk_k_X4_isLost, mk_f_X4_isLost l, mk_o_X4_isLost, mk_n_X4_isLost, by decide⟩ rfl (fun h => by cases h)
noncomputable def mt_g_X4_lose : Nat → Option (Nat × Nat) := fun _ => none
noncomputable def mt_p_X4_lose : Nat → Option (Nat × Nat) := fun k => match k with
  | 7 => some (1, 0)
  | _ => none
noncomputable def mt_k_X4_lose : Nat → Option Value := fun _ => none
noncomputable def mt_f_X4_lose : Nat → Option (Nat × Nat × Nat × pm_F) := fun _ => none
noncomputable def mt_o_X4_lose : Nat → Option Nat := fun _ => none
noncomputable def mt_n_X4_lose : Nat → Option Nat := fun _ => none
noncomputable def mE_X4_lose : pm_E := (cX4_lose, mt_g_X4_lose, mt_p_X4_lose, mt_k_X4_lose, mt_f_X4_lose, mt_o_X4_lose, mt_n_X4_lose, none, (some .double))
theorem mk_g_X4_lose : ∀ k q, mt_g_X4_lose k = some q → pm_Fok RX4 k q := by
  intro k q h
  unfold mt_g_X4_lose at h
  cases h
theorem mk_p_X4_lose : ∀ k q, mt_p_X4_lose k = some q → pm_Fok RX4 k q ∧ ((pm_ct q.1 q.2).2.2.2 = false ∨ (false = true ∧ (pm_ct q.1 q.2).1 = RX4)) := by
  intro k q h
  unfold mt_p_X4_lose at h
  split at h
  · cases h
    exact ⟨⟨by decide, by decide, pt_68⟩, Or.inl rfl⟩
  · cases h
theorem mk_k_X4_lose : ∀ k q, mt_k_X4_lose k = some q → pm_Kok RX4 k q := by
  intro k q h
  unfold mt_k_X4_lose at h
  cases h
theorem mk_o_X4_lose : ∀ k q, mt_o_X4_lose k = some q → pm_Oko RX4 k q := by
  intro k q h
  unfold mt_o_X4_lose at h
  cases h
theorem mk_n_X4_lose : ∀ k q, mt_n_X4_lose k = some q → pm_Nok RX4 k q := by
  intro k q h
  unfold mt_n_X4_lose at h
  cases h
theorem mk_f_X4_lose (l : Launch) : ∀ k q, mt_f_X4_lose k = some q → pm_Cal l 1 27 RX4 k q := by
  intro k q h
  unfold mt_f_X4_lose at h
  cases h
noncomputable def mF_X4_lose : pm_F := pm_fn mE_X4_lose 1
theorem mM_X4_lose (l : Launch) : pm_Met l yX4_lose cX4_lose 1 (some .double) 1 27 mF_X4_lose := pm_met (own := RX4) (E := mE_X4_lose) (ini := false) (by decide) rfl ⟨mk_g_X4_lose, mk_p_X4_lose, mk_k_X4_lose, mk_f_X4_lose l, mk_o_X4_lose, mk_n_X4_lose, by decide⟩ rfl (fun h => by cases h)
noncomputable def mt_g_X4_plus : Nat → Option (Nat × Nat) := fun _ => none
noncomputable def mt_p_X4_plus : Nat → Option (Nat × Nat) := fun _ => none
noncomputable def mt_k_X4_plus : Nat → Option Value := fun _ => none
noncomputable def mt_f_X4_plus : Nat → Option (Nat × Nat × Nat × pm_F) := fun k => match k with
  | 13 => some (1, 1, 9, mF_X0_isEndless)
  | 19 => some (0, 0, 1, mF_X4_lose)
  | _ => none
noncomputable def mt_o_X4_plus : Nat → Option Nat := fun _ => none
noncomputable def mt_n_X4_plus : Nat → Option Nat := fun _ => none
noncomputable def mE_X4_plus : pm_E := (cX4_plus, mt_g_X4_plus, mt_p_X4_plus, mt_k_X4_plus, mt_f_X4_plus, mt_o_X4_plus, mt_n_X4_plus, none, (some .double))
theorem mk_g_X4_plus : ∀ k q, mt_g_X4_plus k = some q → pm_Fok RX4 k q := by
  intro k q h
  unfold mt_g_X4_plus at h
  cases h
theorem mk_p_X4_plus : ∀ k q, mt_p_X4_plus k = some q → pm_Fok RX4 k q ∧ ((pm_ct q.1 q.2).2.2.2 = false ∨ (false = true ∧ (pm_ct q.1 q.2).1 = RX4)) := by
  intro k q h
  unfold mt_p_X4_plus at h
  cases h
theorem mk_k_X4_plus : ∀ k q, mt_k_X4_plus k = some q → pm_Kok RX4 k q := by
  intro k q h
  unfold mt_k_X4_plus at h
  cases h
theorem mk_o_X4_plus : ∀ k q, mt_o_X4_plus k = some q → pm_Oko RX4 k q := by
  intro k q h
  unfold mt_o_X4_plus at h
  cases h
theorem mk_n_X4_plus : ∀ k q, mt_n_X4_plus k = some q → pm_Nok RX4 k q := by
  intro k q h
  unfold mt_n_X4_plus at h
  cases h
theorem mk_f_X4_plus (l : Launch) : ∀ k q, mt_f_X4_plus k = some q → pm_Cal l 2 48 RX4 k q := by
  intro k q h
  unfold mt_f_X4_plus at h
  split at h
  · cases h
    exact ⟨yX0_isEndless, cX0_isEndless, 2, (some .boolean), 1, 27, mM_X0_isEndless l, by decide, by decide, pt_281, pt_9, by decide, by decide, fun h => absurd h (by decide), fun _ => ⟨pt_410, pt_280⟩, fun h => absurd h (by decide)⟩
  · cases h
    exact ⟨yX4_lose, cX4_lose, 1, (some .double), 1, 27, mM_X4_lose l, by decide, by decide, pt_393, pt_4, by decide, by decide, fun _ => ⟨by decide, rfl, pt_411, pt_391, pt_392⟩, fun h => absurd h (by decide), fun h => absurd h (by decide)⟩
  · cases h
noncomputable def mF_X4_plus : pm_F := pm_fn mE_X4_plus 5
theorem mM_X4_plus (l : Launch) : pm_Met l yX4_plus cX4_plus 5 (some .double) 2 48 mF_X4_plus := pm_met (own := RX4) (E := mE_X4_plus) (ini := false) (by decide) rfl ⟨mk_g_X4_plus, mk_p_X4_plus, mk_k_X4_plus, mk_f_X4_plus l, mk_o_X4_plus, mk_n_X4_plus, by decide⟩ rfl (fun h => by cases h)
noncomputable def mt_g_X4_minus : Nat → Option (Nat × Nat) := fun _ => none
noncomputable def mt_p_X4_minus : Nat → Option (Nat × Nat) := fun _ => none
noncomputable def mt_k_X4_minus : Nat → Option Value := fun _ => none
noncomputable def mt_f_X4_minus : Nat → Option (Nat × Nat × Nat × pm_F) := fun k => match k with
  | 13 => some (1, 1, 9, mF_X0_isEndless)
  | 19 => some (0, 0, 1, mF_X4_lose)
  | _ => none
noncomputable def mt_o_X4_minus : Nat → Option Nat := fun _ => none
noncomputable def mt_n_X4_minus : Nat → Option Nat := fun _ => none
noncomputable def mE_X4_minus : pm_E := (cX4_minus, mt_g_X4_minus, mt_p_X4_minus, mt_k_X4_minus, mt_f_X4_minus, mt_o_X4_minus, mt_n_X4_minus, none, (some .double))
theorem mk_g_X4_minus : ∀ k q, mt_g_X4_minus k = some q → pm_Fok RX4 k q := by
  intro k q h
  unfold mt_g_X4_minus at h
  cases h
theorem mk_p_X4_minus : ∀ k q, mt_p_X4_minus k = some q → pm_Fok RX4 k q ∧ ((pm_ct q.1 q.2).2.2.2 = false ∨ (false = true ∧ (pm_ct q.1 q.2).1 = RX4)) := by
  intro k q h
  unfold mt_p_X4_minus at h
  cases h
theorem mk_k_X4_minus : ∀ k q, mt_k_X4_minus k = some q → pm_Kok RX4 k q := by
  intro k q h
  unfold mt_k_X4_minus at h
  cases h
theorem mk_o_X4_minus : ∀ k q, mt_o_X4_minus k = some q → pm_Oko RX4 k q := by
  intro k q h
  unfold mt_o_X4_minus at h
  cases h
theorem mk_n_X4_minus : ∀ k q, mt_n_X4_minus k = some q → pm_Nok RX4 k q := by
  intro k q h
  unfold mt_n_X4_minus at h
  cases h
theorem mk_f_X4_minus (l : Launch) : ∀ k q, mt_f_X4_minus k = some q → pm_Cal l 2 48 RX4 k q := by
  intro k q h
  unfold mt_f_X4_minus at h
  split at h
  · cases h
    exact ⟨yX0_isEndless, cX0_isEndless, 2, (some .boolean), 1, 27, mM_X0_isEndless l, by decide, by decide, pt_281, pt_9, by decide, by decide, fun h => absurd h (by decide), fun _ => ⟨pt_410, pt_280⟩, fun h => absurd h (by decide)⟩
  · cases h
    exact ⟨yX4_lose, cX4_lose, 1, (some .double), 1, 27, mM_X4_lose l, by decide, by decide, pt_393, pt_4, by decide, by decide, fun _ => ⟨by decide, rfl, pt_411, pt_391, pt_392⟩, fun h => absurd h (by decide), fun h => absurd h (by decide)⟩
  · cases h
noncomputable def mF_X4_minus : pm_F := pm_fn mE_X4_minus 5
theorem mM_X4_minus (l : Launch) : pm_Met l yX4_minus cX4_minus 5 (some .double) 2 48 mF_X4_minus := pm_met (own := RX4) (E := mE_X4_minus) (ini := false) (by decide) rfl ⟨mk_g_X4_minus, mk_p_X4_minus, mk_k_X4_minus, mk_f_X4_minus l, mk_o_X4_minus, mk_n_X4_minus, by decide⟩ rfl (fun h => by cases h)
noncomputable def mt_g_X4_times : Nat → Option (Nat × Nat) := fun _ => none
noncomputable def mt_p_X4_times : Nat → Option (Nat × Nat) := fun _ => none
noncomputable def mt_k_X4_times : Nat → Option Value := fun _ => none
noncomputable def mt_f_X4_times : Nat → Option (Nat × Nat × Nat × pm_F) := fun k => match k with
  | 13 => some (1, 1, 9, mF_X0_isEndless)
  | 19 => some (0, 0, 1, mF_X4_lose)
  | _ => none
noncomputable def mt_o_X4_times : Nat → Option Nat := fun _ => none
noncomputable def mt_n_X4_times : Nat → Option Nat := fun _ => none
noncomputable def mE_X4_times : pm_E := (cX4_times, mt_g_X4_times, mt_p_X4_times, mt_k_X4_times, mt_f_X4_times, mt_o_X4_times, mt_n_X4_times, none, (some .double))
theorem mk_g_X4_times : ∀ k q, mt_g_X4_times k = some q → pm_Fok RX4 k q := by
  intro k q h
  unfold mt_g_X4_times at h
  cases h
theorem mk_p_X4_times : ∀ k q, mt_p_X4_times k = some q → pm_Fok RX4 k q ∧ ((pm_ct q.1 q.2).2.2.2 = false ∨ (false = true ∧ (pm_ct q.1 q.2).1 = RX4)) := by
  intro k q h
  unfold mt_p_X4_times at h
  cases h
theorem mk_k_X4_times : ∀ k q, mt_k_X4_times k = some q → pm_Kok RX4 k q := by
  intro k q h
  unfold mt_k_X4_times at h
  cases h
theorem mk_o_X4_times : ∀ k q, mt_o_X4_times k = some q → pm_Oko RX4 k q := by
  intro k q h
  unfold mt_o_X4_times at h
  cases h
theorem mk_n_X4_times : ∀ k q, mt_n_X4_times k = some q → pm_Nok RX4 k q := by
  intro k q h
  unfold mt_n_X4_times at h
  cases h
theorem mk_f_X4_times (l : Launch) : ∀ k q, mt_f_X4_times k = some q → pm_Cal l 2 48 RX4 k q := by
  intro k q h
  unfold mt_f_X4_times at h
  split at h
  · cases h
    exact ⟨yX0_isEndless, cX0_isEndless, 2, (some .boolean), 1, 27, mM_X0_isEndless l, by decide, by decide, pt_281, pt_9, by decide, by decide, fun h => absurd h (by decide), fun _ => ⟨pt_410, pt_280⟩, fun h => absurd h (by decide)⟩
  · cases h
    exact ⟨yX4_lose, cX4_lose, 1, (some .double), 1, 27, mM_X4_lose l, by decide, by decide, pt_393, pt_4, by decide, by decide, fun _ => ⟨by decide, rfl, pt_411, pt_391, pt_392⟩, fun h => absurd h (by decide), fun h => absurd h (by decide)⟩
  · cases h
noncomputable def mF_X4_times : pm_F := pm_fn mE_X4_times 5
theorem mM_X4_times (l : Launch) : pm_Met l yX4_times cX4_times 5 (some .double) 2 48 mF_X4_times := pm_met (own := RX4) (E := mE_X4_times) (ini := false) (by decide) rfl ⟨mk_g_X4_times, mk_p_X4_times, mk_k_X4_times, mk_f_X4_times l, mk_o_X4_times, mk_n_X4_times, by decide⟩ rfl (fun h => by cases h)
noncomputable def mt_g_X4_over : Nat → Option (Nat × Nat) := fun _ => none
noncomputable def mt_p_X4_over : Nat → Option (Nat × Nat) := fun _ => none
noncomputable def mt_k_X4_over : Nat → Option Value := fun _ => none
noncomputable def mt_f_X4_over : Nat → Option (Nat × Nat × Nat × pm_F) := fun k => match k with
  | 13 => some (1, 1, 9, mF_X0_isEndless)
  | 19 => some (0, 0, 1, mF_X4_lose)
  | _ => none
noncomputable def mt_o_X4_over : Nat → Option Nat := fun _ => none
noncomputable def mt_n_X4_over : Nat → Option Nat := fun _ => none
noncomputable def mE_X4_over : pm_E := (cX4_over, mt_g_X4_over, mt_p_X4_over, mt_k_X4_over, mt_f_X4_over, mt_o_X4_over, mt_n_X4_over, none, (some .double))
theorem mk_g_X4_over : ∀ k q, mt_g_X4_over k = some q → pm_Fok RX4 k q := by
  intro k q h
  unfold mt_g_X4_over at h
  cases h
theorem mk_p_X4_over : ∀ k q, mt_p_X4_over k = some q → pm_Fok RX4 k q ∧ ((pm_ct q.1 q.2).2.2.2 = false ∨ (false = true ∧ (pm_ct q.1 q.2).1 = RX4)) := by
  intro k q h
  unfold mt_p_X4_over at h
  cases h
theorem mk_k_X4_over : ∀ k q, mt_k_X4_over k = some q → pm_Kok RX4 k q := by
  intro k q h
  unfold mt_k_X4_over at h
  cases h
theorem mk_o_X4_over : ∀ k q, mt_o_X4_over k = some q → pm_Oko RX4 k q := by
  intro k q h
  unfold mt_o_X4_over at h
  cases h
theorem mk_n_X4_over : ∀ k q, mt_n_X4_over k = some q → pm_Nok RX4 k q := by
  intro k q h
  unfold mt_n_X4_over at h
  cases h
theorem mk_f_X4_over (l : Launch) : ∀ k q, mt_f_X4_over k = some q → pm_Cal l 2 48 RX4 k q := by
  intro k q h
  unfold mt_f_X4_over at h
  split at h
  · cases h
    exact ⟨yX0_isEndless, cX0_isEndless, 2, (some .boolean), 1, 27, mM_X0_isEndless l, by decide, by decide, pt_281, pt_9, by decide, by decide, fun h => absurd h (by decide), fun _ => ⟨pt_410, pt_280⟩, fun h => absurd h (by decide)⟩
  · cases h
    exact ⟨yX4_lose, cX4_lose, 1, (some .double), 1, 27, mM_X4_lose l, by decide, by decide, pt_393, pt_4, by decide, by decide, fun _ => ⟨by decide, rfl, pt_411, pt_391, pt_392⟩, fun h => absurd h (by decide), fun h => absurd h (by decide)⟩
  · cases h
noncomputable def mF_X4_over : pm_F := pm_fn mE_X4_over 5
theorem mM_X4_over (l : Launch) : pm_Met l yX4_over cX4_over 5 (some .double) 2 48 mF_X4_over := pm_met (own := RX4) (E := mE_X4_over) (ini := false) (by decide) rfl ⟨mk_g_X4_over, mk_p_X4_over, mk_k_X4_over, mk_f_X4_over l, mk_o_X4_over, mk_n_X4_over, by decide⟩ rfl (fun h => by cases h)
noncomputable def mt_g_X5_init : Nat → Option (Nat × Nat) := fun _ => none
noncomputable def mt_p_X5_init : Nat → Option (Nat × Nat) := fun k => match k with
  | 9 => some (2, 6)
  | 18 => some (2, 7)
  | 22 => some (2, 8)
  | _ => none
noncomputable def mt_k_X5_init : Nat → Option Value := fun _ => none
noncomputable def mt_f_X5_init : Nat → Option (Nat × Nat × Nat × pm_F) := fun k => match k with
  | 17 => some (2, 0, 1, mF_X4_init)
  | _ => none
noncomputable def mt_o_X5_init : Nat → Option Nat := fun k => match k with
  | 15 => some 1
  | _ => none
noncomputable def mt_n_X5_init : Nat → Option Nat := fun k => match k with
  | 3 => some 2
  | _ => none
noncomputable def mE_X5_init : pm_E := (cX5_init, mt_g_X5_init, mt_p_X5_init, mt_k_X5_init, mt_f_X5_init, mt_o_X5_init, mt_n_X5_init, none, none)
theorem mk_g_X5_init : ∀ k q, mt_g_X5_init k = some q → pm_Fok RX5 k q := by
  intro k q h
  unfold mt_g_X5_init at h
  cases h
theorem mk_p_X5_init : ∀ k q, mt_p_X5_init k = some q → pm_Fok RX5 k q ∧ ((pm_ct q.1 q.2).2.2.2 = false ∨ (true = true ∧ (pm_ct q.1 q.2).1 = RX5)) := by
  intro k q h
  unfold mt_p_X5_init at h
  split at h
  · cases h
    exact ⟨⟨by decide, by decide, pt_83⟩, Or.inr ⟨rfl, rfl⟩⟩
  · cases h
    exact ⟨⟨by decide, by decide, pt_84⟩, Or.inr ⟨rfl, rfl⟩⟩
  · cases h
    exact ⟨⟨by decide, by decide, pt_85⟩, Or.inr ⟨rfl, rfl⟩⟩
  · cases h
theorem mk_k_X5_init : ∀ k q, mt_k_X5_init k = some q → pm_Kok RX5 k q := by
  intro k q h
  unfold mt_k_X5_init at h
  cases h
theorem mk_o_X5_init : ∀ k q, mt_o_X5_init k = some q → pm_Oko RX5 k q := by
  intro k q h
  unfold mt_o_X5_init at h
  split at h
  · cases h
    exact ⟨fun _ => ⟨pt_62, pt_63, pt_4⟩, fun h => absurd h (by decide)⟩
  · cases h
theorem mk_n_X5_init : ∀ k q, mt_n_X5_init k = some q → pm_Nok RX5 k q := by
  intro k q h
  unfold mt_n_X5_init at h
  split at h
  · cases h
    exact ⟨fun h => absurd h (by decide), fun h => absurd h (by decide), fun _ => ⟨pt_61, pt_17, pt_18⟩⟩
  · cases h
theorem mk_f_X5_init (l : Launch) : ∀ k q, mt_f_X5_init k = some q → pm_Cal l 2 47 RX5 k q := by
  intro k q h
  unfold mt_f_X5_init at h
  split at h
  · cases h
    exact ⟨yX4_init, cX4_init, 1, none, 1, 27, mM_X4_init l, by decide, by decide, pt_66, pt_4, by decide, by decide, fun h => absurd h (by decide), fun h => absurd h (by decide), fun _ => ⟨rfl, rfl, pt_65, Or.inr ⟨_, rfl⟩⟩⟩
  · cases h
noncomputable def mF_X5_init : pm_F := pm_fn mE_X5_init 2
theorem mM_X5_init (l : Launch) : pm_Met l yX5_init cX5_init 2 none 2 47 mF_X5_init := pm_met (own := RX5) (E := mE_X5_init) (ini := true) (by decide) rfl ⟨mk_g_X5_init, mk_p_X5_init, mk_k_X5_init, mk_f_X5_init l, mk_o_X5_init, mk_n_X5_init, by decide⟩ rfl (fun h => by rfl)
noncomputable def mt_g_X5_fail : Nat → Option (Nat × Nat) := fun k => match k with
  | 83 => some (0, 0)
  | _ => none
noncomputable def mt_p_X5_fail : Nat → Option (Nat × Nat) := fun k => match k with
  | 30 => some (2, 0)
  | 33 => some (2, 1)
  | _ => none
noncomputable def mt_k_X5_fail : Nat → Option Value := fun _ => none
noncomputable def mt_f_X5_fail : Nat → Option (Nat × Nat × Nat × pm_F) := fun _ => none
noncomputable def mt_o_X5_fail : Nat → Option Nat := fun _ => none
noncomputable def mt_n_X5_fail : Nat → Option Nat := fun _ => none
noncomputable def mE_X5_fail : pm_E := (cX5_fail, mt_g_X5_fail, mt_p_X5_fail, mt_k_X5_fail, mt_f_X5_fail, mt_o_X5_fail, mt_n_X5_fail, none, (some .double))
theorem mk_g_X5_fail : ∀ k q, mt_g_X5_fail k = some q → pm_Fok RX5 k q := by
  intro k q h
  unfold mt_g_X5_fail at h
  split at h
  · cases h
    exact ⟨by decide, by decide, pt_114⟩
  · cases h
theorem mk_p_X5_fail : ∀ k q, mt_p_X5_fail k = some q → pm_Fok RX5 k q ∧ ((pm_ct q.1 q.2).2.2.2 = false ∨ (false = true ∧ (pm_ct q.1 q.2).1 = RX5)) := by
  intro k q h
  unfold mt_p_X5_fail at h
  split at h
  · cases h
    exact ⟨⟨by decide, by decide, pt_72⟩, Or.inl rfl⟩
  · cases h
    exact ⟨⟨by decide, by decide, pt_74⟩, Or.inl rfl⟩
  · cases h
theorem mk_k_X5_fail : ∀ k q, mt_k_X5_fail k = some q → pm_Kok RX5 k q := by
  intro k q h
  unfold mt_k_X5_fail at h
  cases h
theorem mk_o_X5_fail : ∀ k q, mt_o_X5_fail k = some q → pm_Oko RX5 k q := by
  intro k q h
  unfold mt_o_X5_fail at h
  cases h
theorem mk_n_X5_fail : ∀ k q, mt_n_X5_fail k = some q → pm_Nok RX5 k q := by
  intro k q h
  unfold mt_n_X5_fail at h
  cases h
theorem mk_f_X5_fail (l : Launch) : ∀ k q, mt_f_X5_fail k = some q → pm_Cal l 1 27 RX5 k q := by
  intro k q h
  unfold mt_f_X5_fail at h
  cases h
noncomputable def mF_X5_fail : pm_F := pm_fn mE_X5_fail 3
theorem mM_X5_fail (l : Launch) : pm_Met l yX5_fail cX5_fail 3 (some .double) 1 27 mF_X5_fail := pm_met (own := RX5) (E := mE_X5_fail) (ini := false) (by decide) rfl ⟨mk_g_X5_fail, mk_p_X5_fail, mk_k_X5_fail, mk_f_X5_fail l, mk_o_X5_fail, mk_n_X5_fail, by decide⟩ rfl (fun h => by cases h)
noncomputable def mt_g_X6_countOf : Nat → Option (Nat × Nat) := fun k => match k with
  | 9 => some (3, 0)
  | _ => none
noncomputable def mt_p_X6_countOf : Nat → Option (Nat × Nat) := fun _ => none
noncomputable def mt_k_X6_countOf : Nat → Option Value := fun _ => none
noncomputable def mt_f_X6_countOf : Nat → Option (Nat × Nat × Nat × pm_F) := fun _ => none
noncomputable def mt_o_X6_countOf : Nat → Option Nat := fun _ => none
noncomputable def mt_n_X6_countOf : Nat → Option Nat := fun _ => none
noncomputable def mE_X6_countOf : pm_E := (cX6_countOf, mt_g_X6_countOf, mt_p_X6_countOf, mt_k_X6_countOf, mt_f_X6_countOf, mt_o_X6_countOf, mt_n_X6_countOf, none, (some .double))
theorem mk_g_X6_countOf : ∀ k q, mt_g_X6_countOf k = some q → pm_Fok RX6 k q := by
  intro k q h
  unfold mt_g_X6_countOf at h
  split at h
  · cases h
    exact ⟨by decide, by decide, pt_25⟩
  · cases h
theorem mk_p_X6_countOf : ∀ k q, mt_p_X6_countOf k = some q → pm_Fok RX6 k q ∧ ((pm_ct q.1 q.2).2.2.2 = false ∨ (false = true ∧ (pm_ct q.1 q.2).1 = RX6)) := by
  intro k q h
  unfold mt_p_X6_countOf at h
  cases h
theorem mk_k_X6_countOf : ∀ k q, mt_k_X6_countOf k = some q → pm_Kok RX6 k q := by
  intro k q h
  unfold mt_k_X6_countOf at h
  cases h
theorem mk_o_X6_countOf : ∀ k q, mt_o_X6_countOf k = some q → pm_Oko RX6 k q := by
  intro k q h
  unfold mt_o_X6_countOf at h
  cases h
theorem mk_n_X6_countOf : ∀ k q, mt_n_X6_countOf k = some q → pm_Nok RX6 k q := by
  intro k q h
  unfold mt_n_X6_countOf at h
  cases h
theorem mk_f_X6_countOf (l : Launch) : ∀ k q, mt_f_X6_countOf k = some q → pm_Cal l 1 27 RX6 k q := by
  intro k q h
  unfold mt_f_X6_countOf at h
  cases h
noncomputable def mF_X6_countOf : pm_F := pm_fn mE_X6_countOf 3
theorem mM_X6_countOf (l : Launch) : pm_Met l yX6_countOf cX6_countOf 3 (some .double) 1 27 mF_X6_countOf := pm_met (own := RX6) (E := mE_X6_countOf) (ini := false) (by decide) rfl ⟨mk_g_X6_countOf, mk_p_X6_countOf, mk_k_X6_countOf, mk_f_X6_countOf l, mk_o_X6_countOf, mk_n_X6_countOf, by decide⟩ rfl (fun h => by cases h)
noncomputable def mt_g_X6_rootOfCount : Nat → Option (Nat × Nat) := fun k => match k with
  | 15 => some (3, 1)
  | _ => none
noncomputable def mt_p_X6_rootOfCount : Nat → Option (Nat × Nat) := fun _ => none
noncomputable def mt_k_X6_rootOfCount : Nat → Option Value := fun _ => none
noncomputable def mt_f_X6_rootOfCount : Nat → Option (Nat × Nat × Nat × pm_F) := fun _ => none
noncomputable def mt_o_X6_rootOfCount : Nat → Option Nat := fun _ => none
noncomputable def mt_n_X6_rootOfCount : Nat → Option Nat := fun _ => none
noncomputable def mE_X6_rootOfCount : pm_E := (cX6_rootOfCount, mt_g_X6_rootOfCount, mt_p_X6_rootOfCount, mt_k_X6_rootOfCount, mt_f_X6_rootOfCount, mt_o_X6_rootOfCount, mt_n_X6_rootOfCount, none, (some .double))
theorem mk_g_X6_rootOfCount : ∀ k q, mt_g_X6_rootOfCount k = some q → pm_Fok RX6 k q := by
  intro k q h
  unfold mt_g_X6_rootOfCount at h
  split at h
  · cases h
    exact ⟨by decide, by decide, pt_26⟩
  · cases h
theorem mk_p_X6_rootOfCount : ∀ k q, mt_p_X6_rootOfCount k = some q → pm_Fok RX6 k q ∧ ((pm_ct q.1 q.2).2.2.2 = false ∨ (false = true ∧ (pm_ct q.1 q.2).1 = RX6)) := by
  intro k q h
  unfold mt_p_X6_rootOfCount at h
  cases h
theorem mk_k_X6_rootOfCount : ∀ k q, mt_k_X6_rootOfCount k = some q → pm_Kok RX6 k q := by
  intro k q h
  unfold mt_k_X6_rootOfCount at h
  cases h
theorem mk_o_X6_rootOfCount : ∀ k q, mt_o_X6_rootOfCount k = some q → pm_Oko RX6 k q := by
  intro k q h
  unfold mt_o_X6_rootOfCount at h
  cases h
theorem mk_n_X6_rootOfCount : ∀ k q, mt_n_X6_rootOfCount k = some q → pm_Nok RX6 k q := by
  intro k q h
  unfold mt_n_X6_rootOfCount at h
  cases h
theorem mk_f_X6_rootOfCount (l : Launch) : ∀ k q, mt_f_X6_rootOfCount k = some q → pm_Cal l 1 27 RX6 k q := by
  intro k q h
  unfold mt_f_X6_rootOfCount at h
  cases h
noncomputable def mF_X6_rootOfCount : pm_F := pm_fn mE_X6_rootOfCount 3
theorem mM_X6_rootOfCount (l : Launch) : pm_Met l yX6_rootOfCount cX6_rootOfCount 3 (some .double) 1 27 mF_X6_rootOfCount := pm_met (own := RX6) (E := mE_X6_rootOfCount) (ini := false) (by decide) rfl ⟨mk_g_X6_rootOfCount, mk_p_X6_rootOfCount, mk_k_X6_rootOfCount, mk_f_X6_rootOfCount l, mk_o_X6_rootOfCount, mk_n_X6_rootOfCount, by decide⟩ rfl (fun h => by cases h)
noncomputable def mt_g_X5_saturated : Nat → Option (Nat × Nat) := fun k => match k with
  | 18 => some (2, 7)
  | _ => none
noncomputable def mt_p_X5_saturated : Nat → Option (Nat × Nat) := fun _ => none
noncomputable def mt_k_X5_saturated : Nat → Option Value := fun _ => none
noncomputable def mt_f_X5_saturated : Nat → Option (Nat × Nat × Nat × pm_F) := fun k => match k with
  | 165 => some (0, 2, 1, mF_X4_plus)
  | 168 => some (0, 2, 1, mF_X4_over)
  | _ => none
noncomputable def mt_o_X5_saturated : Nat → Option Nat := fun _ => none
noncomputable def mt_n_X5_saturated : Nat → Option Nat := fun _ => none
noncomputable def mE_X5_saturated : pm_E := (cX5_saturated, mt_g_X5_saturated, mt_p_X5_saturated, mt_k_X5_saturated, mt_f_X5_saturated, mt_o_X5_saturated, mt_n_X5_saturated, none, (some .double))
theorem mk_g_X5_saturated : ∀ k q, mt_g_X5_saturated k = some q → pm_Fok RX5 k q := by
  intro k q h
  unfold mt_g_X5_saturated at h
  split at h
  · cases h
    exact ⟨by decide, by decide, pt_84⟩
  · cases h
theorem mk_p_X5_saturated : ∀ k q, mt_p_X5_saturated k = some q → pm_Fok RX5 k q ∧ ((pm_ct q.1 q.2).2.2.2 = false ∨ (false = true ∧ (pm_ct q.1 q.2).1 = RX5)) := by
  intro k q h
  unfold mt_p_X5_saturated at h
  cases h
theorem mk_k_X5_saturated : ∀ k q, mt_k_X5_saturated k = some q → pm_Kok RX5 k q := by
  intro k q h
  unfold mt_k_X5_saturated at h
  cases h
theorem mk_o_X5_saturated : ∀ k q, mt_o_X5_saturated k = some q → pm_Oko RX5 k q := by
  intro k q h
  unfold mt_o_X5_saturated at h
  cases h
theorem mk_n_X5_saturated : ∀ k q, mt_n_X5_saturated k = some q → pm_Nok RX5 k q := by
  intro k q h
  unfold mt_n_X5_saturated at h
  cases h
theorem mk_f_X5_saturated (l : Launch) : ∀ k q, mt_f_X5_saturated k = some q → pm_Cal l 3 72 RX5 k q := by
  intro k q h
  unfold mt_f_X5_saturated at h
  split at h
  · cases h
    exact ⟨yX4_plus, cX4_plus, 5, (some .double), 2, 48, mM_X4_plus l, by decide, by decide, pt_409, pt_4, by decide, by decide, fun _ => ⟨by decide, rfl, pt_406, pt_407, pt_408⟩, fun h => absurd h (by decide), fun h => absurd h (by decide)⟩
  · cases h
    exact ⟨yX4_over, cX4_over, 5, (some .double), 2, 48, mM_X4_over l, by decide, by decide, pt_415, pt_4, by decide, by decide, fun _ => ⟨by decide, rfl, pt_412, pt_413, pt_414⟩, fun h => absurd h (by decide), fun h => absurd h (by decide)⟩
  · cases h
noncomputable def mF_X5_saturated : pm_F := pm_fn mE_X5_saturated 5
theorem mM_X5_saturated (l : Launch) : pm_Met l yX5_saturated cX5_saturated 5 (some .double) 3 72 mF_X5_saturated := pm_met (own := RX5) (E := mE_X5_saturated) (ini := false) (by decide) rfl ⟨mk_g_X5_saturated, mk_p_X5_saturated, mk_k_X5_saturated, mk_f_X5_saturated l, mk_o_X5_saturated, mk_n_X5_saturated, by decide⟩ rfl (fun h => by cases h)
noncomputable def mt_g_X6_hasAverage : Nat → Option (Nat × Nat) := fun k => match k with
  | 25 => some (3, 4)
  | 35 => some (3, 7)
  | _ => none
noncomputable def mt_p_X6_hasAverage : Nat → Option (Nat × Nat) := fun _ => none
noncomputable def mt_k_X6_hasAverage : Nat → Option Value := fun _ => none
noncomputable def mt_f_X6_hasAverage : Nat → Option (Nat × Nat × Nat × pm_F) := fun _ => none
noncomputable def mt_o_X6_hasAverage : Nat → Option Nat := fun _ => none
noncomputable def mt_n_X6_hasAverage : Nat → Option Nat := fun _ => none
noncomputable def mE_X6_hasAverage : pm_E := (cX6_hasAverage, mt_g_X6_hasAverage, mt_p_X6_hasAverage, mt_k_X6_hasAverage, mt_f_X6_hasAverage, mt_o_X6_hasAverage, mt_n_X6_hasAverage, none, (some .boolean))
theorem mk_g_X6_hasAverage : ∀ k q, mt_g_X6_hasAverage k = some q → pm_Fok RX6 k q := by
  intro k q h
  unfold mt_g_X6_hasAverage at h
  split at h
  · cases h
    exact ⟨by decide, by decide, pt_29⟩
  · cases h
    exact ⟨by decide, by decide, pt_32⟩
  · cases h
theorem mk_p_X6_hasAverage : ∀ k q, mt_p_X6_hasAverage k = some q → pm_Fok RX6 k q ∧ ((pm_ct q.1 q.2).2.2.2 = false ∨ (false = true ∧ (pm_ct q.1 q.2).1 = RX6)) := by
  intro k q h
  unfold mt_p_X6_hasAverage at h
  cases h
theorem mk_k_X6_hasAverage : ∀ k q, mt_k_X6_hasAverage k = some q → pm_Kok RX6 k q := by
  intro k q h
  unfold mt_k_X6_hasAverage at h
  cases h
theorem mk_o_X6_hasAverage : ∀ k q, mt_o_X6_hasAverage k = some q → pm_Oko RX6 k q := by
  intro k q h
  unfold mt_o_X6_hasAverage at h
  cases h
theorem mk_n_X6_hasAverage : ∀ k q, mt_n_X6_hasAverage k = some q → pm_Nok RX6 k q := by
  intro k q h
  unfold mt_n_X6_hasAverage at h
  cases h
theorem mk_f_X6_hasAverage (l : Launch) : ∀ k q, mt_f_X6_hasAverage k = some q → pm_Cal l 1 27 RX6 k q := by
  intro k q h
  unfold mt_f_X6_hasAverage at h
  cases h
noncomputable def mF_X6_hasAverage : pm_F := pm_fn mE_X6_hasAverage 2
theorem mM_X6_hasAverage (l : Launch) : pm_Met l yX6_hasAverage cX6_hasAverage 2 (some .boolean) 1 27 mF_X6_hasAverage := pm_met (own := RX6) (E := mE_X6_hasAverage) (ini := false) (by decide) rfl ⟨mk_g_X6_hasAverage, mk_p_X6_hasAverage, mk_k_X6_hasAverage, mk_f_X6_hasAverage l, mk_o_X6_hasAverage, mk_n_X6_hasAverage, by decide⟩ rfl (fun h => by cases h)
noncomputable def mt_g_X6_lengthOf : Nat → Option (Nat × Nat) := fun k => match k with
  | 19 => some (3, 2)
  | _ => none
noncomputable def mt_p_X6_lengthOf : Nat → Option (Nat × Nat) := fun _ => none
noncomputable def mt_k_X6_lengthOf : Nat → Option Value := fun _ => none
noncomputable def mt_f_X6_lengthOf : Nat → Option (Nat × Nat × Nat × pm_F) := fun _ => none
noncomputable def mt_o_X6_lengthOf : Nat → Option Nat := fun _ => none
noncomputable def mt_n_X6_lengthOf : Nat → Option Nat := fun _ => none
noncomputable def mE_X6_lengthOf : pm_E := (cX6_lengthOf, mt_g_X6_lengthOf, mt_p_X6_lengthOf, mt_k_X6_lengthOf, mt_f_X6_lengthOf, mt_o_X6_lengthOf, mt_n_X6_lengthOf, none, (some .double))
theorem mk_g_X6_lengthOf : ∀ k q, mt_g_X6_lengthOf k = some q → pm_Fok RX6 k q := by
  intro k q h
  unfold mt_g_X6_lengthOf at h
  split at h
  · cases h
    exact ⟨by decide, by decide, pt_27⟩
  · cases h
theorem mk_p_X6_lengthOf : ∀ k q, mt_p_X6_lengthOf k = some q → pm_Fok RX6 k q ∧ ((pm_ct q.1 q.2).2.2.2 = false ∨ (false = true ∧ (pm_ct q.1 q.2).1 = RX6)) := by
  intro k q h
  unfold mt_p_X6_lengthOf at h
  cases h
theorem mk_k_X6_lengthOf : ∀ k q, mt_k_X6_lengthOf k = some q → pm_Kok RX6 k q := by
  intro k q h
  unfold mt_k_X6_lengthOf at h
  cases h
theorem mk_o_X6_lengthOf : ∀ k q, mt_o_X6_lengthOf k = some q → pm_Oko RX6 k q := by
  intro k q h
  unfold mt_o_X6_lengthOf at h
  cases h
theorem mk_n_X6_lengthOf : ∀ k q, mt_n_X6_lengthOf k = some q → pm_Nok RX6 k q := by
  intro k q h
  unfold mt_n_X6_lengthOf at h
  cases h
theorem mk_f_X6_lengthOf (l : Launch) : ∀ k q, mt_f_X6_lengthOf k = some q → pm_Cal l 1 27 RX6 k q := by
  intro k q h
  unfold mt_f_X6_lengthOf at h
  cases h
noncomputable def mF_X6_lengthOf : pm_F := pm_fn mE_X6_lengthOf 3
theorem mM_X6_lengthOf (l : Launch) : pm_Met l yX6_lengthOf cX6_lengthOf 3 (some .double) 1 27 mF_X6_lengthOf := pm_met (own := RX6) (E := mE_X6_lengthOf) (ini := false) (by decide) rfl ⟨mk_g_X6_lengthOf, mk_p_X6_lengthOf, mk_k_X6_lengthOf, mk_f_X6_lengthOf l, mk_o_X6_lengthOf, mk_n_X6_lengthOf, by decide⟩ rfl (fun h => by cases h)
noncomputable def mt_g_X6_averageOf : Nat → Option (Nat × Nat) := fun k => match k with
  | 22 => some (3, 3)
  | 25 => some (3, 4)
  | 35 => some (3, 7)
  | 38 => some (3, 8)
  | _ => none
noncomputable def mt_p_X6_averageOf : Nat → Option (Nat × Nat) := fun _ => none
noncomputable def mt_k_X6_averageOf : Nat → Option Value := fun _ => none
noncomputable def mt_f_X6_averageOf : Nat → Option (Nat × Nat × Nat × pm_F) := fun _ => none
noncomputable def mt_o_X6_averageOf : Nat → Option Nat := fun _ => none
noncomputable def mt_n_X6_averageOf : Nat → Option Nat := fun _ => none
noncomputable def mE_X6_averageOf : pm_E := (cX6_averageOf, mt_g_X6_averageOf, mt_p_X6_averageOf, mt_k_X6_averageOf, mt_f_X6_averageOf, mt_o_X6_averageOf, mt_n_X6_averageOf, none, (some .double))
theorem mk_g_X6_averageOf : ∀ k q, mt_g_X6_averageOf k = some q → pm_Fok RX6 k q := by
  intro k q h
  unfold mt_g_X6_averageOf at h
  split at h
  · cases h
    exact ⟨by decide, by decide, pt_28⟩
  · cases h
    exact ⟨by decide, by decide, pt_29⟩
  · cases h
    exact ⟨by decide, by decide, pt_32⟩
  · cases h
    exact ⟨by decide, by decide, pt_33⟩
  · cases h
theorem mk_p_X6_averageOf : ∀ k q, mt_p_X6_averageOf k = some q → pm_Fok RX6 k q ∧ ((pm_ct q.1 q.2).2.2.2 = false ∨ (false = true ∧ (pm_ct q.1 q.2).1 = RX6)) := by
  intro k q h
  unfold mt_p_X6_averageOf at h
  cases h
theorem mk_k_X6_averageOf : ∀ k q, mt_k_X6_averageOf k = some q → pm_Kok RX6 k q := by
  intro k q h
  unfold mt_k_X6_averageOf at h
  cases h
theorem mk_o_X6_averageOf : ∀ k q, mt_o_X6_averageOf k = some q → pm_Oko RX6 k q := by
  intro k q h
  unfold mt_o_X6_averageOf at h
  cases h
theorem mk_n_X6_averageOf : ∀ k q, mt_n_X6_averageOf k = some q → pm_Nok RX6 k q := by
  intro k q h
  unfold mt_n_X6_averageOf at h
  cases h
theorem mk_f_X6_averageOf (l : Launch) : ∀ k q, mt_f_X6_averageOf k = some q → pm_Cal l 1 27 RX6 k q := by
  intro k q h
  unfold mt_f_X6_averageOf at h
  cases h
noncomputable def mF_X6_averageOf : pm_F := pm_fn mE_X6_averageOf 3
theorem mM_X6_averageOf (l : Launch) : pm_Met l yX6_averageOf cX6_averageOf 3 (some .double) 1 27 mF_X6_averageOf := pm_met (own := RX6) (E := mE_X6_averageOf) (ini := false) (by decide) rfl ⟨mk_g_X6_averageOf, mk_p_X6_averageOf, mk_k_X6_averageOf, mk_f_X6_averageOf l, mk_o_X6_averageOf, mk_n_X6_averageOf, by decide⟩ rfl (fun h => by cases h)
noncomputable def mt_g_X5_normed : Nat → Option (Nat × Nat) := fun k => match k with
  | 9 => some (2, 6)
  | 18 => some (2, 7)
  | 26 => some (2, 5)
  | 98 => some (0, 4)
  | 106 => some (0, 2)
  | 142 => some (0, 5)
  | _ => none
noncomputable def mt_p_X5_normed : Nat → Option (Nat × Nat) := fun _ => none
noncomputable def mt_k_X5_normed : Nat → Option Value := fun _ => none
noncomputable def mt_f_X5_normed : Nat → Option (Nat × Nat × Nat × pm_F) := fun k => match k with
  | 102 => some (0, 0, 1, mF_X4_lose)
  | 109 => some (0, 2, 3, mF_X6_countOf)
  | 139 => some (0, 2, 1, mF_X4_times)
  | 165 => some (0, 2, 1, mF_X4_plus)
  | 168 => some (0, 2, 1, mF_X4_over)
  | 171 => some (0, 1, 3, mF_X6_hasAverage)
  | 174 => some (0, 2, 3, mF_X6_lengthOf)
  | 177 => some (0, 1, 3, mF_X6_averageOf)
  | 180 => some (0, 2, 1, mF_X4_minus)
  | _ => none
noncomputable def mt_o_X5_normed : Nat → Option Nat := fun _ => none
noncomputable def mt_n_X5_normed : Nat → Option Nat := fun _ => none
noncomputable def mE_X5_normed : pm_E := (cX5_normed, mt_g_X5_normed, mt_p_X5_normed, mt_k_X5_normed, mt_f_X5_normed, mt_o_X5_normed, mt_n_X5_normed, none, (some .double))
theorem mk_g_X5_normed : ∀ k q, mt_g_X5_normed k = some q → pm_Fok RX5 k q := by
  intro k q h
  unfold mt_g_X5_normed at h
  split at h
  · cases h
    exact ⟨by decide, by decide, pt_83⟩
  · cases h
    exact ⟨by decide, by decide, pt_84⟩
  · cases h
    exact ⟨by decide, by decide, pt_82⟩
  · cases h
    exact ⟨by decide, by decide, pt_124⟩
  · cases h
    exact ⟨by decide, by decide, pt_120⟩
  · cases h
    exact ⟨by decide, by decide, pt_126⟩
  · cases h
theorem mk_p_X5_normed : ∀ k q, mt_p_X5_normed k = some q → pm_Fok RX5 k q ∧ ((pm_ct q.1 q.2).2.2.2 = false ∨ (false = true ∧ (pm_ct q.1 q.2).1 = RX5)) := by
  intro k q h
  unfold mt_p_X5_normed at h
  cases h
theorem mk_k_X5_normed : ∀ k q, mt_k_X5_normed k = some q → pm_Kok RX5 k q := by
  intro k q h
  unfold mt_k_X5_normed at h
  cases h
theorem mk_o_X5_normed : ∀ k q, mt_o_X5_normed k = some q → pm_Oko RX5 k q := by
  intro k q h
  unfold mt_o_X5_normed at h
  cases h
theorem mk_n_X5_normed : ∀ k q, mt_n_X5_normed k = some q → pm_Nok RX5 k q := by
  intro k q h
  unfold mt_n_X5_normed at h
  cases h
theorem mk_f_X5_normed (l : Launch) : ∀ k q, mt_f_X5_normed k = some q → pm_Cal l 3 72 RX5 k q := by
  intro k q h
  unfold mt_f_X5_normed at h
  split at h
  · cases h
    exact ⟨yX4_lose, cX4_lose, 1, (some .double), 1, 27, mM_X4_lose l, by decide, by decide, pt_393, pt_4, by decide, by decide, fun _ => ⟨by decide, rfl, pt_390, pt_391, pt_392⟩, fun h => absurd h (by decide), fun h => absurd h (by decide)⟩
  · cases h
    exact ⟨yX6_countOf, cX6_countOf, 3, (some .double), 1, 27, mM_X6_countOf l, by decide, by decide, pt_397, pt_2, by decide, by decide, fun _ => ⟨by decide, rfl, pt_394, pt_395, pt_396⟩, fun h => absurd h (by decide), fun h => absurd h (by decide)⟩
  · cases h
    exact ⟨yX4_times, cX4_times, 5, (some .double), 2, 48, mM_X4_times l, by decide, by decide, pt_433, pt_4, by decide, by decide, fun _ => ⟨by decide, rfl, pt_430, pt_431, pt_432⟩, fun h => absurd h (by decide), fun h => absurd h (by decide)⟩
  · cases h
    exact ⟨yX4_plus, cX4_plus, 5, (some .double), 2, 48, mM_X4_plus l, by decide, by decide, pt_409, pt_4, by decide, by decide, fun _ => ⟨by decide, rfl, pt_406, pt_407, pt_408⟩, fun h => absurd h (by decide), fun h => absurd h (by decide)⟩
  · cases h
    exact ⟨yX4_over, cX4_over, 5, (some .double), 2, 48, mM_X4_over l, by decide, by decide, pt_415, pt_4, by decide, by decide, fun _ => ⟨by decide, rfl, pt_412, pt_413, pt_414⟩, fun h => absurd h (by decide), fun h => absurd h (by decide)⟩
  · cases h
    exact ⟨yX6_hasAverage, cX6_hasAverage, 2, (some .boolean), 1, 27, mM_X6_hasAverage l, by decide, by decide, pt_267, pt_2, by decide, by decide, fun _ => ⟨by decide, rfl, pt_420, pt_265, pt_266⟩, fun h => absurd h (by decide), fun h => absurd h (by decide)⟩
  · cases h
    exact ⟨yX6_lengthOf, cX6_lengthOf, 3, (some .double), 1, 27, mM_X6_lengthOf l, by decide, by decide, pt_424, pt_2, by decide, by decide, fun _ => ⟨by decide, rfl, pt_421, pt_422, pt_423⟩, fun h => absurd h (by decide), fun h => absurd h (by decide)⟩
  · cases h
    exact ⟨yX6_averageOf, cX6_averageOf, 3, (some .double), 1, 27, mM_X6_averageOf l, by decide, by decide, pt_271, pt_2, by decide, by decide, fun _ => ⟨by decide, rfl, pt_425, pt_269, pt_270⟩, fun h => absurd h (by decide), fun h => absurd h (by decide)⟩
  · cases h
    exact ⟨yX4_minus, cX4_minus, 5, (some .double), 2, 48, mM_X4_minus l, by decide, by decide, pt_429, pt_4, by decide, by decide, fun _ => ⟨by decide, rfl, pt_426, pt_427, pt_428⟩, fun h => absurd h (by decide), fun h => absurd h (by decide)⟩
  · cases h
noncomputable def mF_X5_normed : pm_F := pm_fn mE_X5_normed 15
theorem mM_X5_normed (l : Launch) : pm_Met l yX5_normed cX5_normed 15 (some .double) 3 72 mF_X5_normed := pm_met (own := RX5) (E := mE_X5_normed) (ini := false) (by decide) rfl ⟨mk_g_X5_normed, mk_p_X5_normed, mk_k_X5_normed, mk_f_X5_normed l, mk_o_X5_normed, mk_n_X5_normed, by decide⟩ rfl (fun h => by cases h)
noncomputable def mt_g_X6_hasColumn : Nat → Option (Nat × Nat) := fun k => match k with
  | 28 => some (3, 5)
  | _ => none
noncomputable def mt_p_X6_hasColumn : Nat → Option (Nat × Nat) := fun _ => none
noncomputable def mt_k_X6_hasColumn : Nat → Option Value := fun _ => none
noncomputable def mt_f_X6_hasColumn : Nat → Option (Nat × Nat × Nat × pm_F) := fun _ => none
noncomputable def mt_o_X6_hasColumn : Nat → Option Nat := fun _ => none
noncomputable def mt_n_X6_hasColumn : Nat → Option Nat := fun _ => none
noncomputable def mE_X6_hasColumn : pm_E := (cX6_hasColumn, mt_g_X6_hasColumn, mt_p_X6_hasColumn, mt_k_X6_hasColumn, mt_f_X6_hasColumn, mt_o_X6_hasColumn, mt_n_X6_hasColumn, none, (some .boolean))
theorem mk_g_X6_hasColumn : ∀ k q, mt_g_X6_hasColumn k = some q → pm_Fok RX6 k q := by
  intro k q h
  unfold mt_g_X6_hasColumn at h
  split at h
  · cases h
    exact ⟨by decide, by decide, pt_30⟩
  · cases h
theorem mk_p_X6_hasColumn : ∀ k q, mt_p_X6_hasColumn k = some q → pm_Fok RX6 k q ∧ ((pm_ct q.1 q.2).2.2.2 = false ∨ (false = true ∧ (pm_ct q.1 q.2).1 = RX6)) := by
  intro k q h
  unfold mt_p_X6_hasColumn at h
  cases h
theorem mk_k_X6_hasColumn : ∀ k q, mt_k_X6_hasColumn k = some q → pm_Kok RX6 k q := by
  intro k q h
  unfold mt_k_X6_hasColumn at h
  cases h
theorem mk_o_X6_hasColumn : ∀ k q, mt_o_X6_hasColumn k = some q → pm_Oko RX6 k q := by
  intro k q h
  unfold mt_o_X6_hasColumn at h
  cases h
theorem mk_n_X6_hasColumn : ∀ k q, mt_n_X6_hasColumn k = some q → pm_Nok RX6 k q := by
  intro k q h
  unfold mt_n_X6_hasColumn at h
  cases h
theorem mk_f_X6_hasColumn (l : Launch) : ∀ k q, mt_f_X6_hasColumn k = some q → pm_Cal l 1 27 RX6 k q := by
  intro k q h
  unfold mt_f_X6_hasColumn at h
  cases h
noncomputable def mF_X6_hasColumn : pm_F := pm_fn mE_X6_hasColumn 3
theorem mM_X6_hasColumn (l : Launch) : pm_Met l yX6_hasColumn cX6_hasColumn 3 (some .boolean) 1 27 mF_X6_hasColumn := pm_met (own := RX6) (E := mE_X6_hasColumn) (ini := false) (by decide) rfl ⟨mk_g_X6_hasColumn, mk_p_X6_hasColumn, mk_k_X6_hasColumn, mk_f_X6_hasColumn l, mk_o_X6_hasColumn, mk_n_X6_hasColumn, by decide⟩ rfl (fun h => by cases h)
noncomputable def mt_g_X6_columnOf : Nat → Option (Nat × Nat) := fun k => match k with
  | 32 => some (3, 6)
  | _ => none
noncomputable def mt_p_X6_columnOf : Nat → Option (Nat × Nat) := fun _ => none
noncomputable def mt_k_X6_columnOf : Nat → Option Value := fun _ => none
noncomputable def mt_f_X6_columnOf : Nat → Option (Nat × Nat × Nat × pm_F) := fun _ => none
noncomputable def mt_o_X6_columnOf : Nat → Option Nat := fun _ => none
noncomputable def mt_n_X6_columnOf : Nat → Option Nat := fun _ => none
noncomputable def mE_X6_columnOf : pm_E := (cX6_columnOf, mt_g_X6_columnOf, mt_p_X6_columnOf, mt_k_X6_columnOf, mt_f_X6_columnOf, mt_o_X6_columnOf, mt_n_X6_columnOf, none, (some .double))
theorem mk_g_X6_columnOf : ∀ k q, mt_g_X6_columnOf k = some q → pm_Fok RX6 k q := by
  intro k q h
  unfold mt_g_X6_columnOf at h
  split at h
  · cases h
    exact ⟨by decide, by decide, pt_31⟩
  · cases h
theorem mk_p_X6_columnOf : ∀ k q, mt_p_X6_columnOf k = some q → pm_Fok RX6 k q ∧ ((pm_ct q.1 q.2).2.2.2 = false ∨ (false = true ∧ (pm_ct q.1 q.2).1 = RX6)) := by
  intro k q h
  unfold mt_p_X6_columnOf at h
  cases h
theorem mk_k_X6_columnOf : ∀ k q, mt_k_X6_columnOf k = some q → pm_Kok RX6 k q := by
  intro k q h
  unfold mt_k_X6_columnOf at h
  cases h
theorem mk_o_X6_columnOf : ∀ k q, mt_o_X6_columnOf k = some q → pm_Oko RX6 k q := by
  intro k q h
  unfold mt_o_X6_columnOf at h
  cases h
theorem mk_n_X6_columnOf : ∀ k q, mt_n_X6_columnOf k = some q → pm_Nok RX6 k q := by
  intro k q h
  unfold mt_n_X6_columnOf at h
  cases h
theorem mk_f_X6_columnOf (l : Launch) : ∀ k q, mt_f_X6_columnOf k = some q → pm_Cal l 1 27 RX6 k q := by
  intro k q h
  unfold mt_f_X6_columnOf at h
  cases h
noncomputable def mF_X6_columnOf : pm_F := pm_fn mE_X6_columnOf 3
theorem mM_X6_columnOf (l : Launch) : pm_Met l yX6_columnOf cX6_columnOf 3 (some .double) 1 27 mF_X6_columnOf := pm_met (own := RX6) (E := mE_X6_columnOf) (ini := false) (by decide) rfl ⟨mk_g_X6_columnOf, mk_p_X6_columnOf, mk_k_X6_columnOf, mk_f_X6_columnOf l, mk_o_X6_columnOf, mk_n_X6_columnOf, by decide⟩ rfl (fun h => by cases h)
noncomputable def mt_g_X5_filled : Nat → Option (Nat × Nat) := fun k => match k with
  | 9 => some (2, 6)
  | 18 => some (2, 7)
  | 26 => some (2, 5)
  | _ => none
noncomputable def mt_p_X5_filled : Nat → Option (Nat × Nat) := fun _ => none
noncomputable def mt_k_X5_filled : Nat → Option Value := fun _ => none
noncomputable def mt_f_X5_filled : Nat → Option (Nat × Nat × Nat × pm_F) := fun k => match k with
  | 102 => some (0, 0, 1, mF_X4_lose)
  | 158 => some (0, 2, 3, mF_X6_hasColumn)
  | 162 => some (0, 2, 3, mF_X6_columnOf)
  | _ => none
noncomputable def mt_o_X5_filled : Nat → Option Nat := fun _ => none
noncomputable def mt_n_X5_filled : Nat → Option Nat := fun _ => none
noncomputable def mE_X5_filled : pm_E := (cX5_filled, mt_g_X5_filled, mt_p_X5_filled, mt_k_X5_filled, mt_f_X5_filled, mt_o_X5_filled, mt_n_X5_filled, none, (some .double))
theorem mk_g_X5_filled : ∀ k q, mt_g_X5_filled k = some q → pm_Fok RX5 k q := by
  intro k q h
  unfold mt_g_X5_filled at h
  split at h
  · cases h
    exact ⟨by decide, by decide, pt_83⟩
  · cases h
    exact ⟨by decide, by decide, pt_84⟩
  · cases h
    exact ⟨by decide, by decide, pt_82⟩
  · cases h
theorem mk_p_X5_filled : ∀ k q, mt_p_X5_filled k = some q → pm_Fok RX5 k q ∧ ((pm_ct q.1 q.2).2.2.2 = false ∨ (false = true ∧ (pm_ct q.1 q.2).1 = RX5)) := by
  intro k q h
  unfold mt_p_X5_filled at h
  cases h
theorem mk_k_X5_filled : ∀ k q, mt_k_X5_filled k = some q → pm_Kok RX5 k q := by
  intro k q h
  unfold mt_k_X5_filled at h
  cases h
theorem mk_o_X5_filled : ∀ k q, mt_o_X5_filled k = some q → pm_Oko RX5 k q := by
  intro k q h
  unfold mt_o_X5_filled at h
  cases h
theorem mk_n_X5_filled : ∀ k q, mt_n_X5_filled k = some q → pm_Nok RX5 k q := by
  intro k q h
  unfold mt_n_X5_filled at h
  cases h
theorem mk_f_X5_filled (l : Launch) : ∀ k q, mt_f_X5_filled k = some q → pm_Cal l 2 49 RX5 k q := by
  intro k q h
  unfold mt_f_X5_filled at h
  split at h
  · cases h
    exact ⟨yX4_lose, cX4_lose, 1, (some .double), 1, 27, mM_X4_lose l, by decide, by decide, pt_393, pt_4, by decide, by decide, fun _ => ⟨by decide, rfl, pt_390, pt_391, pt_392⟩, fun h => absurd h (by decide), fun h => absurd h (by decide)⟩
  · cases h
    exact ⟨yX6_hasColumn, cX6_hasColumn, 3, (some .boolean), 1, 27, mM_X6_hasColumn l, by decide, by decide, pt_441, pt_2, by decide, by decide, fun _ => ⟨by decide, rfl, pt_438, pt_439, pt_440⟩, fun h => absurd h (by decide), fun h => absurd h (by decide)⟩
  · cases h
    exact ⟨yX6_columnOf, cX6_columnOf, 3, (some .double), 1, 27, mM_X6_columnOf l, by decide, by decide, pt_445, pt_2, by decide, by decide, fun _ => ⟨by decide, rfl, pt_442, pt_443, pt_444⟩, fun h => absurd h (by decide), fun h => absurd h (by decide)⟩
  · cases h
noncomputable def mF_X5_filled : pm_F := pm_fn mE_X5_filled 2
theorem mM_X5_filled (l : Launch) : pm_Met l yX5_filled cX5_filled 2 (some .double) 2 49 mF_X5_filled := pm_met (own := RX5) (E := mE_X5_filled) (ini := false) (by decide) rfl ⟨mk_g_X5_filled, mk_p_X5_filled, mk_k_X5_filled, mk_f_X5_filled l, mk_o_X5_filled, mk_n_X5_filled, by decide⟩ rfl (fun h => by cases h)
noncomputable def mt_g_X5_workAlone : Nat → Option (Nat × Nat) := fun k => match k with
  | 9 => some (2, 6)
  | 18 => some (2, 7)
  | 26 => some (2, 5)
  | 52 => some (0, 1)
  | 94 => some (0, 3)
  | 98 => some (0, 4)
  | 106 => some (0, 2)
  | _ => none
noncomputable def mt_p_X5_workAlone : Nat → Option (Nat × Nat) := fun _ => none
noncomputable def mt_k_X5_workAlone : Nat → Option Value := fun _ => none
noncomputable def mt_f_X5_workAlone : Nat → Option (Nat × Nat × Nat × pm_F) := fun k => match k with
  | 102 => some (0, 0, 1, mF_X4_lose)
  | 109 => some (0, 2, 3, mF_X6_countOf)
  | 115 => some (0, 2, 3, mF_X6_rootOfCount)
  | 118 => some (0, 2, 2, mF_X5_saturated)
  | 122 => some (0, 1, 2, mF_X5_normed)
  | 125 => some (0, 1, 2, mF_X5_filled)
  | _ => none
noncomputable def mt_o_X5_workAlone : Nat → Option Nat := fun _ => none
noncomputable def mt_n_X5_workAlone : Nat → Option Nat := fun _ => none
noncomputable def mE_X5_workAlone : pm_E := (cX5_workAlone, mt_g_X5_workAlone, mt_p_X5_workAlone, mt_k_X5_workAlone, mt_f_X5_workAlone, mt_o_X5_workAlone, mt_n_X5_workAlone, none, (some .double))
theorem mk_g_X5_workAlone : ∀ k q, mt_g_X5_workAlone k = some q → pm_Fok RX5 k q := by
  intro k q h
  unfold mt_g_X5_workAlone at h
  split at h
  · cases h
    exact ⟨by decide, by decide, pt_83⟩
  · cases h
    exact ⟨by decide, by decide, pt_84⟩
  · cases h
    exact ⟨by decide, by decide, pt_82⟩
  · cases h
    exact ⟨by decide, by decide, pt_117⟩
  · cases h
    exact ⟨by decide, by decide, pt_122⟩
  · cases h
    exact ⟨by decide, by decide, pt_124⟩
  · cases h
    exact ⟨by decide, by decide, pt_120⟩
  · cases h
theorem mk_p_X5_workAlone : ∀ k q, mt_p_X5_workAlone k = some q → pm_Fok RX5 k q ∧ ((pm_ct q.1 q.2).2.2.2 = false ∨ (false = true ∧ (pm_ct q.1 q.2).1 = RX5)) := by
  intro k q h
  unfold mt_p_X5_workAlone at h
  cases h
theorem mk_k_X5_workAlone : ∀ k q, mt_k_X5_workAlone k = some q → pm_Kok RX5 k q := by
  intro k q h
  unfold mt_k_X5_workAlone at h
  cases h
theorem mk_o_X5_workAlone : ∀ k q, mt_o_X5_workAlone k = some q → pm_Oko RX5 k q := by
  intro k q h
  unfold mt_o_X5_workAlone at h
  cases h
theorem mk_n_X5_workAlone : ∀ k q, mt_n_X5_workAlone k = some q → pm_Nok RX5 k q := by
  intro k q h
  unfold mt_n_X5_workAlone at h
  cases h
theorem mk_f_X5_workAlone (l : Launch) : ∀ k q, mt_f_X5_workAlone k = some q → pm_Cal l 4 106 RX5 k q := by
  intro k q h
  unfold mt_f_X5_workAlone at h
  split at h
  · cases h
    exact ⟨yX4_lose, cX4_lose, 1, (some .double), 1, 27, mM_X4_lose l, by decide, by decide, pt_393, pt_4, by decide, by decide, fun _ => ⟨by decide, rfl, pt_390, pt_391, pt_392⟩, fun h => absurd h (by decide), fun h => absurd h (by decide)⟩
  · cases h
    exact ⟨yX6_countOf, cX6_countOf, 3, (some .double), 1, 27, mM_X6_countOf l, by decide, by decide, pt_397, pt_2, by decide, by decide, fun _ => ⟨by decide, rfl, pt_394, pt_395, pt_396⟩, fun h => absurd h (by decide), fun h => absurd h (by decide)⟩
  · cases h
    exact ⟨yX6_rootOfCount, cX6_rootOfCount, 3, (some .double), 1, 27, mM_X6_rootOfCount l, by decide, by decide, pt_401, pt_2, by decide, by decide, fun _ => ⟨by decide, rfl, pt_398, pt_399, pt_400⟩, fun h => absurd h (by decide), fun h => absurd h (by decide)⟩
  · cases h
    exact ⟨yX5_saturated, cX5_saturated, 5, (some .double), 3, 72, mM_X5_saturated l, by decide, by decide, pt_405, pt_3, by decide, by decide, fun _ => ⟨by decide, rfl, pt_402, pt_404, pt_s9⟩, fun h => absurd h (by decide), fun h => absurd h (by decide)⟩
  · cases h
    exact ⟨yX5_normed, cX5_normed, 15, (some .double), 3, 72, mM_X5_normed l, by decide, by decide, pt_419, pt_3, by decide, by decide, fun _ => ⟨by decide, rfl, pt_416, pt_418, pt_s10⟩, fun h => absurd h (by decide), fun h => absurd h (by decide)⟩
  · cases h
    exact ⟨yX5_filled, cX5_filled, 2, (some .double), 2, 49, mM_X5_filled l, by decide, by decide, pt_437, pt_3, by decide, by decide, fun _ => ⟨by decide, rfl, pt_434, pt_436, pt_s11⟩, fun h => absurd h (by decide), fun h => absurd h (by decide)⟩
  · cases h
noncomputable def mF_X5_workAlone : pm_F := pm_fn mE_X5_workAlone 2
theorem mM_X5_workAlone (l : Launch) : pm_Met l yX5_workAlone cX5_workAlone 2 (some .double) 4 106 mF_X5_workAlone := pm_met (own := RX5) (E := mE_X5_workAlone) (ini := false) (by decide) rfl ⟨mk_g_X5_workAlone, mk_p_X5_workAlone, mk_k_X5_workAlone, mk_f_X5_workAlone l, mk_o_X5_workAlone, mk_n_X5_workAlone, by decide⟩ rfl (fun h => by cases h)
noncomputable def mt_g_X5_sum : Nat → Option (Nat × Nat) := fun k => match k with
  | 18 => some (2, 7)
  | 22 => some (2, 8)
  | _ => none
noncomputable def mt_p_X5_sum : Nat → Option (Nat × Nat) := fun _ => none
noncomputable def mt_k_X5_sum : Nat → Option Value := fun _ => none
noncomputable def mt_f_X5_sum : Nat → Option (Nat × Nat × Nat × pm_F) := fun k => match k with
  | 165 => some (0, 2, 1, mF_X4_plus)
  | _ => none
noncomputable def mt_o_X5_sum : Nat → Option Nat := fun _ => none
noncomputable def mt_n_X5_sum : Nat → Option Nat := fun _ => none
noncomputable def mE_X5_sum : pm_E := (cX5_sum, mt_g_X5_sum, mt_p_X5_sum, mt_k_X5_sum, mt_f_X5_sum, mt_o_X5_sum, mt_n_X5_sum, none, (some .double))
theorem mk_g_X5_sum : ∀ k q, mt_g_X5_sum k = some q → pm_Fok RX5 k q := by
  intro k q h
  unfold mt_g_X5_sum at h
  split at h
  · cases h
    exact ⟨by decide, by decide, pt_84⟩
  · cases h
    exact ⟨by decide, by decide, pt_85⟩
  · cases h
theorem mk_p_X5_sum : ∀ k q, mt_p_X5_sum k = some q → pm_Fok RX5 k q ∧ ((pm_ct q.1 q.2).2.2.2 = false ∨ (false = true ∧ (pm_ct q.1 q.2).1 = RX5)) := by
  intro k q h
  unfold mt_p_X5_sum at h
  cases h
theorem mk_k_X5_sum : ∀ k q, mt_k_X5_sum k = some q → pm_Kok RX5 k q := by
  intro k q h
  unfold mt_k_X5_sum at h
  cases h
theorem mk_o_X5_sum : ∀ k q, mt_o_X5_sum k = some q → pm_Oko RX5 k q := by
  intro k q h
  unfold mt_o_X5_sum at h
  cases h
theorem mk_n_X5_sum : ∀ k q, mt_n_X5_sum k = some q → pm_Nok RX5 k q := by
  intro k q h
  unfold mt_n_X5_sum at h
  cases h
theorem mk_f_X5_sum (l : Launch) : ∀ k q, mt_f_X5_sum k = some q → pm_Cal l 3 72 RX5 k q := by
  intro k q h
  unfold mt_f_X5_sum at h
  split at h
  · cases h
    exact ⟨yX4_plus, cX4_plus, 5, (some .double), 2, 48, mM_X4_plus l, by decide, by decide, pt_409, pt_4, by decide, by decide, fun _ => ⟨by decide, rfl, pt_406, pt_407, pt_408⟩, fun h => absurd h (by decide), fun h => absurd h (by decide)⟩
  · cases h
noncomputable def mF_X5_sum : pm_F := pm_fn mE_X5_sum 6
theorem mM_X5_sum (l : Launch) : pm_Met l yX5_sum cX5_sum 6 (some .double) 3 72 mF_X5_sum := pm_met (own := RX5) (E := mE_X5_sum) (ini := false) (by decide) rfl ⟨mk_g_X5_sum, mk_p_X5_sum, mk_k_X5_sum, mk_f_X5_sum l, mk_o_X5_sum, mk_n_X5_sum, by decide⟩ rfl (fun h => by cases h)
noncomputable def mt_g_X5_product : Nat → Option (Nat × Nat) := fun k => match k with
  | 18 => some (2, 7)
  | 22 => some (2, 8)
  | _ => none
noncomputable def mt_p_X5_product : Nat → Option (Nat × Nat) := fun _ => none
noncomputable def mt_k_X5_product : Nat → Option Value := fun _ => none
noncomputable def mt_f_X5_product : Nat → Option (Nat × Nat × Nat × pm_F) := fun k => match k with
  | 139 => some (0, 2, 1, mF_X4_times)
  | _ => none
noncomputable def mt_o_X5_product : Nat → Option Nat := fun _ => none
noncomputable def mt_n_X5_product : Nat → Option Nat := fun _ => none
noncomputable def mE_X5_product : pm_E := (cX5_product, mt_g_X5_product, mt_p_X5_product, mt_k_X5_product, mt_f_X5_product, mt_o_X5_product, mt_n_X5_product, none, (some .double))
theorem mk_g_X5_product : ∀ k q, mt_g_X5_product k = some q → pm_Fok RX5 k q := by
  intro k q h
  unfold mt_g_X5_product at h
  split at h
  · cases h
    exact ⟨by decide, by decide, pt_84⟩
  · cases h
    exact ⟨by decide, by decide, pt_85⟩
  · cases h
theorem mk_p_X5_product : ∀ k q, mt_p_X5_product k = some q → pm_Fok RX5 k q ∧ ((pm_ct q.1 q.2).2.2.2 = false ∨ (false = true ∧ (pm_ct q.1 q.2).1 = RX5)) := by
  intro k q h
  unfold mt_p_X5_product at h
  cases h
theorem mk_k_X5_product : ∀ k q, mt_k_X5_product k = some q → pm_Kok RX5 k q := by
  intro k q h
  unfold mt_k_X5_product at h
  cases h
theorem mk_o_X5_product : ∀ k q, mt_o_X5_product k = some q → pm_Oko RX5 k q := by
  intro k q h
  unfold mt_o_X5_product at h
  cases h
theorem mk_n_X5_product : ∀ k q, mt_n_X5_product k = some q → pm_Nok RX5 k q := by
  intro k q h
  unfold mt_n_X5_product at h
  cases h
theorem mk_f_X5_product (l : Launch) : ∀ k q, mt_f_X5_product k = some q → pm_Cal l 3 72 RX5 k q := by
  intro k q h
  unfold mt_f_X5_product at h
  split at h
  · cases h
    exact ⟨yX4_times, cX4_times, 5, (some .double), 2, 48, mM_X4_times l, by decide, by decide, pt_433, pt_4, by decide, by decide, fun _ => ⟨by decide, rfl, pt_430, pt_431, pt_432⟩, fun h => absurd h (by decide), fun h => absurd h (by decide)⟩
  · cases h
noncomputable def mF_X5_product : pm_F := pm_fn mE_X5_product 6
theorem mM_X5_product (l : Launch) : pm_Met l yX5_product cX5_product 6 (some .double) 3 72 mF_X5_product := pm_met (own := RX5) (E := mE_X5_product) (ini := false) (by decide) rfl ⟨mk_g_X5_product, mk_p_X5_product, mk_k_X5_product, mk_f_X5_product l, mk_o_X5_product, mk_n_X5_product, by decide⟩ rfl (fun h => by cases h)
noncomputable def mt_g_X5_best : Nat → Option (Nat × Nat) := fun k => match k with
  | 18 => some (2, 7)
  | 22 => some (2, 8)
  | _ => none
noncomputable def mt_p_X5_best : Nat → Option (Nat × Nat) := fun _ => none
noncomputable def mt_k_X5_best : Nat → Option Value := fun _ => none
noncomputable def mt_f_X5_best : Nat → Option (Nat × Nat × Nat × pm_F) := fun k => match k with
  | 139 => some (0, 2, 1, mF_X4_times)
  | 165 => some (0, 2, 1, mF_X4_plus)
  | 180 => some (0, 2, 1, mF_X4_minus)
  | 183 => some (1, 2, 9, mF_X0_greaterOf)
  | _ => none
noncomputable def mt_o_X5_best : Nat → Option Nat := fun _ => none
noncomputable def mt_n_X5_best : Nat → Option Nat := fun _ => none
noncomputable def mE_X5_best : pm_E := (cX5_best, mt_g_X5_best, mt_p_X5_best, mt_k_X5_best, mt_f_X5_best, mt_o_X5_best, mt_n_X5_best, none, (some .double))
theorem mk_g_X5_best : ∀ k q, mt_g_X5_best k = some q → pm_Fok RX5 k q := by
  intro k q h
  unfold mt_g_X5_best at h
  split at h
  · cases h
    exact ⟨by decide, by decide, pt_84⟩
  · cases h
    exact ⟨by decide, by decide, pt_85⟩
  · cases h
theorem mk_p_X5_best : ∀ k q, mt_p_X5_best k = some q → pm_Fok RX5 k q ∧ ((pm_ct q.1 q.2).2.2.2 = false ∨ (false = true ∧ (pm_ct q.1 q.2).1 = RX5)) := by
  intro k q h
  unfold mt_p_X5_best at h
  cases h
theorem mk_k_X5_best : ∀ k q, mt_k_X5_best k = some q → pm_Kok RX5 k q := by
  intro k q h
  unfold mt_k_X5_best at h
  cases h
theorem mk_o_X5_best : ∀ k q, mt_o_X5_best k = some q → pm_Oko RX5 k q := by
  intro k q h
  unfold mt_o_X5_best at h
  cases h
theorem mk_n_X5_best : ∀ k q, mt_n_X5_best k = some q → pm_Nok RX5 k q := by
  intro k q h
  unfold mt_n_X5_best at h
  cases h
theorem mk_f_X5_best (l : Launch) : ∀ k q, mt_f_X5_best k = some q → pm_Cal l 3 72 RX5 k q := by
  intro k q h
  unfold mt_f_X5_best at h
  split at h
  · cases h
    exact ⟨yX4_times, cX4_times, 5, (some .double), 2, 48, mM_X4_times l, by decide, by decide, pt_433, pt_4, by decide, by decide, fun _ => ⟨by decide, rfl, pt_430, pt_431, pt_432⟩, fun h => absurd h (by decide), fun h => absurd h (by decide)⟩
  · cases h
    exact ⟨yX4_plus, cX4_plus, 5, (some .double), 2, 48, mM_X4_plus l, by decide, by decide, pt_409, pt_4, by decide, by decide, fun _ => ⟨by decide, rfl, pt_406, pt_407, pt_408⟩, fun h => absurd h (by decide), fun h => absurd h (by decide)⟩
  · cases h
    exact ⟨yX4_minus, cX4_minus, 5, (some .double), 2, 48, mM_X4_minus l, by decide, by decide, pt_429, pt_4, by decide, by decide, fun _ => ⟨by decide, rfl, pt_426, pt_427, pt_428⟩, fun h => absurd h (by decide), fun h => absurd h (by decide)⟩
  · cases h
    exact ⟨yX0_greaterOf, cX0_greaterOf, 4, (some .double), 2, 48, mM_X0_greaterOf l, by decide, by decide, pt_464, pt_9, by decide, by decide, fun h => absurd h (by decide), fun _ => ⟨pt_462, pt_463⟩, fun h => absurd h (by decide)⟩
  · cases h
noncomputable def mF_X5_best : pm_F := pm_fn mE_X5_best 10
theorem mM_X5_best (l : Launch) : pm_Met l yX5_best cX5_best 10 (some .double) 3 72 mF_X5_best := pm_met (own := RX5) (E := mE_X5_best) (ini := false) (by decide) rfl ⟨mk_g_X5_best, mk_p_X5_best, mk_k_X5_best, mk_f_X5_best l, mk_o_X5_best, mk_n_X5_best, by decide⟩ rfl (fun h => by cases h)
noncomputable def mt_g_X5_decay : Nat → Option (Nat × Nat) := fun k => match k with
  | 18 => some (2, 7)
  | _ => none
noncomputable def mt_p_X5_decay : Nat → Option (Nat × Nat) := fun _ => none
noncomputable def mt_k_X5_decay : Nat → Option Value := fun _ => none
noncomputable def mt_f_X5_decay : Nat → Option (Nat × Nat × Nat × pm_F) := fun k => match k with
  | 168 => some (0, 2, 1, mF_X4_over)
  | 180 => some (0, 2, 1, mF_X4_minus)
  | 186 => some (1, 1, 9, mF_X0_sizeOf)
  | _ => none
noncomputable def mt_o_X5_decay : Nat → Option Nat := fun _ => none
noncomputable def mt_n_X5_decay : Nat → Option Nat := fun _ => none
noncomputable def mE_X5_decay : pm_E := (cX5_decay, mt_g_X5_decay, mt_p_X5_decay, mt_k_X5_decay, mt_f_X5_decay, mt_o_X5_decay, mt_n_X5_decay, none, (some .double))
theorem mk_g_X5_decay : ∀ k q, mt_g_X5_decay k = some q → pm_Fok RX5 k q := by
  intro k q h
  unfold mt_g_X5_decay at h
  split at h
  · cases h
    exact ⟨by decide, by decide, pt_84⟩
  · cases h
theorem mk_p_X5_decay : ∀ k q, mt_p_X5_decay k = some q → pm_Fok RX5 k q ∧ ((pm_ct q.1 q.2).2.2.2 = false ∨ (false = true ∧ (pm_ct q.1 q.2).1 = RX5)) := by
  intro k q h
  unfold mt_p_X5_decay at h
  cases h
theorem mk_k_X5_decay : ∀ k q, mt_k_X5_decay k = some q → pm_Kok RX5 k q := by
  intro k q h
  unfold mt_k_X5_decay at h
  cases h
theorem mk_o_X5_decay : ∀ k q, mt_o_X5_decay k = some q → pm_Oko RX5 k q := by
  intro k q h
  unfold mt_o_X5_decay at h
  cases h
theorem mk_n_X5_decay : ∀ k q, mt_n_X5_decay k = some q → pm_Nok RX5 k q := by
  intro k q h
  unfold mt_n_X5_decay at h
  cases h
theorem mk_f_X5_decay (l : Launch) : ∀ k q, mt_f_X5_decay k = some q → pm_Cal l 3 72 RX5 k q := by
  intro k q h
  unfold mt_f_X5_decay at h
  split at h
  · cases h
    exact ⟨yX4_over, cX4_over, 5, (some .double), 2, 48, mM_X4_over l, by decide, by decide, pt_415, pt_4, by decide, by decide, fun _ => ⟨by decide, rfl, pt_412, pt_413, pt_414⟩, fun h => absurd h (by decide), fun h => absurd h (by decide)⟩
  · cases h
    exact ⟨yX4_minus, cX4_minus, 5, (some .double), 2, 48, mM_X4_minus l, by decide, by decide, pt_429, pt_4, by decide, by decide, fun _ => ⟨by decide, rfl, pt_426, pt_427, pt_428⟩, fun h => absurd h (by decide), fun h => absurd h (by decide)⟩
  · cases h
    exact ⟨yX0_sizeOf, cX0_sizeOf, 2, (some .double), 1, 27, mM_X0_sizeOf l, by decide, by decide, pt_286, pt_9, by decide, by decide, fun h => absurd h (by decide), fun _ => ⟨pt_469, pt_285⟩, fun h => absurd h (by decide)⟩
  · cases h
noncomputable def mF_X5_decay : pm_F := pm_fn mE_X5_decay 11
theorem mM_X5_decay (l : Launch) : pm_Met l yX5_decay cX5_decay 11 (some .double) 3 72 mF_X5_decay := pm_met (own := RX5) (E := mE_X5_decay) (ini := false) (by decide) rfl ⟨mk_g_X5_decay, mk_p_X5_decay, mk_k_X5_decay, mk_f_X5_decay l, mk_o_X5_decay, mk_n_X5_decay, by decide⟩ rfl (fun h => by cases h)
noncomputable def mt_g_X5_near : Nat → Option (Nat × Nat) := fun k => match k with
  | 18 => some (2, 7)
  | _ => none
noncomputable def mt_p_X5_near : Nat → Option (Nat × Nat) := fun _ => none
noncomputable def mt_k_X5_near : Nat → Option Value := fun _ => none
noncomputable def mt_f_X5_near : Nat → Option (Nat × Nat × Nat × pm_F) := fun k => match k with
  | 139 => some (0, 2, 1, mF_X4_times)
  | 165 => some (0, 2, 1, mF_X4_plus)
  | 168 => some (0, 2, 1, mF_X4_over)
  | 180 => some (0, 2, 1, mF_X4_minus)
  | _ => none
noncomputable def mt_o_X5_near : Nat → Option Nat := fun _ => none
noncomputable def mt_n_X5_near : Nat → Option Nat := fun _ => none
noncomputable def mE_X5_near : pm_E := (cX5_near, mt_g_X5_near, mt_p_X5_near, mt_k_X5_near, mt_f_X5_near, mt_o_X5_near, mt_n_X5_near, none, (some .double))
theorem mk_g_X5_near : ∀ k q, mt_g_X5_near k = some q → pm_Fok RX5 k q := by
  intro k q h
  unfold mt_g_X5_near at h
  split at h
  · cases h
    exact ⟨by decide, by decide, pt_84⟩
  · cases h
theorem mk_p_X5_near : ∀ k q, mt_p_X5_near k = some q → pm_Fok RX5 k q ∧ ((pm_ct q.1 q.2).2.2.2 = false ∨ (false = true ∧ (pm_ct q.1 q.2).1 = RX5)) := by
  intro k q h
  unfold mt_p_X5_near at h
  cases h
theorem mk_k_X5_near : ∀ k q, mt_k_X5_near k = some q → pm_Kok RX5 k q := by
  intro k q h
  unfold mt_k_X5_near at h
  cases h
theorem mk_o_X5_near : ∀ k q, mt_o_X5_near k = some q → pm_Oko RX5 k q := by
  intro k q h
  unfold mt_o_X5_near at h
  cases h
theorem mk_n_X5_near : ∀ k q, mt_n_X5_near k = some q → pm_Nok RX5 k q := by
  intro k q h
  unfold mt_n_X5_near at h
  cases h
theorem mk_f_X5_near (l : Launch) : ∀ k q, mt_f_X5_near k = some q → pm_Cal l 3 72 RX5 k q := by
  intro k q h
  unfold mt_f_X5_near at h
  split at h
  · cases h
    exact ⟨yX4_times, cX4_times, 5, (some .double), 2, 48, mM_X4_times l, by decide, by decide, pt_433, pt_4, by decide, by decide, fun _ => ⟨by decide, rfl, pt_430, pt_431, pt_432⟩, fun h => absurd h (by decide), fun h => absurd h (by decide)⟩
  · cases h
    exact ⟨yX4_plus, cX4_plus, 5, (some .double), 2, 48, mM_X4_plus l, by decide, by decide, pt_409, pt_4, by decide, by decide, fun _ => ⟨by decide, rfl, pt_406, pt_407, pt_408⟩, fun h => absurd h (by decide), fun h => absurd h (by decide)⟩
  · cases h
    exact ⟨yX4_over, cX4_over, 5, (some .double), 2, 48, mM_X4_over l, by decide, by decide, pt_415, pt_4, by decide, by decide, fun _ => ⟨by decide, rfl, pt_412, pt_413, pt_414⟩, fun h => absurd h (by decide), fun h => absurd h (by decide)⟩
  · cases h
    exact ⟨yX4_minus, cX4_minus, 5, (some .double), 2, 48, mM_X4_minus l, by decide, by decide, pt_429, pt_4, by decide, by decide, fun _ => ⟨by decide, rfl, pt_426, pt_427, pt_428⟩, fun h => absurd h (by decide), fun h => absurd h (by decide)⟩
  · cases h
noncomputable def mF_X5_near : pm_F := pm_fn mE_X5_near 9
theorem mM_X5_near (l : Launch) : pm_Met l yX5_near cX5_near 9 (some .double) 3 72 mF_X5_near := pm_met (own := RX5) (E := mE_X5_near) (ini := false) (by decide) rfl ⟨mk_g_X5_near, mk_p_X5_near, mk_k_X5_near, mk_f_X5_near l, mk_o_X5_near, mk_n_X5_near, by decide⟩ rfl (fun h => by cases h)
noncomputable def mt_g_X5_workParts : Nat → Option (Nat × Nat) := fun k => match k with
  | 18 => some (2, 7)
  | 22 => some (2, 8)
  | 52 => some (0, 1)
  | 62 => some (0, 7)
  | 98 => some (0, 4)
  | 142 => some (0, 5)
  | _ => none
noncomputable def mt_p_X5_workParts : Nat → Option (Nat × Nat) := fun _ => none
noncomputable def mt_k_X5_workParts : Nat → Option Value := fun _ => none
noncomputable def mt_f_X5_workParts : Nat → Option (Nat × Nat × Nat × pm_F) := fun k => match k with
  | 129 => some (0, 2, 2, mF_X5_sum)
  | 132 => some (0, 2, 2, mF_X5_product)
  | 135 => some (0, 3, 2, mF_X5_best)
  | 139 => some (0, 2, 1, mF_X4_times)
  | 145 => some (0, 3, 2, mF_X5_decay)
  | 149 => some (0, 3, 2, mF_X5_near)
  | 152 => some (1, 1, 9, mF_X0_floorOf)
  | _ => none
noncomputable def mt_o_X5_workParts : Nat → Option Nat := fun _ => none
noncomputable def mt_n_X5_workParts : Nat → Option Nat := fun _ => none
noncomputable def mE_X5_workParts : pm_E := (cX5_workParts, mt_g_X5_workParts, mt_p_X5_workParts, mt_k_X5_workParts, mt_f_X5_workParts, mt_o_X5_workParts, mt_n_X5_workParts, none, (some .double))
theorem mk_g_X5_workParts : ∀ k q, mt_g_X5_workParts k = some q → pm_Fok RX5 k q := by
  intro k q h
  unfold mt_g_X5_workParts at h
  split at h
  · cases h
    exact ⟨by decide, by decide, pt_84⟩
  · cases h
    exact ⟨by decide, by decide, pt_85⟩
  · cases h
    exact ⟨by decide, by decide, pt_117⟩
  · cases h
    exact ⟨by decide, by decide, pt_131⟩
  · cases h
    exact ⟨by decide, by decide, pt_124⟩
  · cases h
    exact ⟨by decide, by decide, pt_126⟩
  · cases h
theorem mk_p_X5_workParts : ∀ k q, mt_p_X5_workParts k = some q → pm_Fok RX5 k q ∧ ((pm_ct q.1 q.2).2.2.2 = false ∨ (false = true ∧ (pm_ct q.1 q.2).1 = RX5)) := by
  intro k q h
  unfold mt_p_X5_workParts at h
  cases h
theorem mk_k_X5_workParts : ∀ k q, mt_k_X5_workParts k = some q → pm_Kok RX5 k q := by
  intro k q h
  unfold mt_k_X5_workParts at h
  cases h
theorem mk_o_X5_workParts : ∀ k q, mt_o_X5_workParts k = some q → pm_Oko RX5 k q := by
  intro k q h
  unfold mt_o_X5_workParts at h
  cases h
theorem mk_n_X5_workParts : ∀ k q, mt_n_X5_workParts k = some q → pm_Nok RX5 k q := by
  intro k q h
  unfold mt_n_X5_workParts at h
  cases h
theorem mk_f_X5_workParts (l : Launch) : ∀ k q, mt_f_X5_workParts k = some q → pm_Cal l 4 102 RX5 k q := by
  intro k q h
  unfold mt_f_X5_workParts at h
  split at h
  · cases h
    exact ⟨yX5_sum, cX5_sum, 6, (some .double), 3, 72, mM_X5_sum l, by decide, by decide, pt_453, pt_3, by decide, by decide, fun _ => ⟨by decide, rfl, pt_450, pt_452, pt_s13⟩, fun h => absurd h (by decide), fun h => absurd h (by decide)⟩
  · cases h
    exact ⟨yX5_product, cX5_product, 6, (some .double), 3, 72, mM_X5_product l, by decide, by decide, pt_457, pt_3, by decide, by decide, fun _ => ⟨by decide, rfl, pt_454, pt_456, pt_s14⟩, fun h => absurd h (by decide), fun h => absurd h (by decide)⟩
  · cases h
    exact ⟨yX5_best, cX5_best, 10, (some .double), 3, 72, mM_X5_best l, by decide, by decide, pt_461, pt_3, by decide, by decide, fun _ => ⟨by decide, rfl, pt_458, pt_460, pt_s15⟩, fun h => absurd h (by decide), fun h => absurd h (by decide)⟩
  · cases h
    exact ⟨yX4_times, cX4_times, 5, (some .double), 2, 48, mM_X4_times l, by decide, by decide, pt_433, pt_4, by decide, by decide, fun _ => ⟨by decide, rfl, pt_430, pt_431, pt_432⟩, fun h => absurd h (by decide), fun h => absurd h (by decide)⟩
  · cases h
    exact ⟨yX5_decay, cX5_decay, 11, (some .double), 3, 72, mM_X5_decay l, by decide, by decide, pt_468, pt_3, by decide, by decide, fun _ => ⟨by decide, rfl, pt_465, pt_467, pt_s16⟩, fun h => absurd h (by decide), fun h => absurd h (by decide)⟩
  · cases h
    exact ⟨yX5_near, cX5_near, 9, (some .double), 3, 72, mM_X5_near l, by decide, by decide, pt_473, pt_3, by decide, by decide, fun _ => ⟨by decide, rfl, pt_470, pt_472, pt_s17⟩, fun h => absurd h (by decide), fun h => absurd h (by decide)⟩
  · cases h
    exact ⟨yX0_floorOf, cX0_floorOf, 4, (some .double), 2, 48, mM_X0_floorOf l, by decide, by decide, pt_476, pt_9, by decide, by decide, fun h => absurd h (by decide), fun _ => ⟨pt_474, pt_475⟩, fun h => absurd h (by decide)⟩
  · cases h
noncomputable def mF_X5_workParts : pm_F := pm_fn mE_X5_workParts 5
theorem mM_X5_workParts (l : Launch) : pm_Met l yX5_workParts cX5_workParts 5 (some .double) 4 102 mF_X5_workParts := pm_met (own := RX5) (E := mE_X5_workParts) (ini := false) (by decide) rfl ⟨mk_g_X5_workParts, mk_p_X5_workParts, mk_k_X5_workParts, mk_f_X5_workParts l, mk_o_X5_workParts, mk_n_X5_workParts, by decide⟩ rfl (fun h => by cases h)
noncomputable def mt_g_X5_judge : Nat → Option (Nat × Nat) := fun k => match k with
  | 18 => some (2, 7)
  | 52 => some (0, 1)
  | _ => none
noncomputable def mt_p_X5_judge : Nat → Option (Nat × Nat) := fun _ => none
noncomputable def mt_k_X5_judge : Nat → Option Value := fun _ => none
noncomputable def mt_f_X5_judge : Nat → Option (Nat × Nat × Nat × pm_F) := fun k => match k with
  | 49 => some (0, 2, 2, mF_X5_fail)
  | 86 => some (0, 0, 1, mF_X4_isLost)
  | 90 => some (1, 1, 9, mF_X2_failsBelow)
  | _ => none
noncomputable def mt_o_X5_judge : Nat → Option Nat := fun _ => none
noncomputable def mt_n_X5_judge : Nat → Option Nat := fun _ => none
noncomputable def mE_X5_judge : pm_E := (cX5_judge, mt_g_X5_judge, mt_p_X5_judge, mt_k_X5_judge, mt_f_X5_judge, mt_o_X5_judge, mt_n_X5_judge, none, (some .double))
theorem mk_g_X5_judge : ∀ k q, mt_g_X5_judge k = some q → pm_Fok RX5 k q := by
  intro k q h
  unfold mt_g_X5_judge at h
  split at h
  · cases h
    exact ⟨by decide, by decide, pt_84⟩
  · cases h
    exact ⟨by decide, by decide, pt_117⟩
  · cases h
theorem mk_p_X5_judge : ∀ k q, mt_p_X5_judge k = some q → pm_Fok RX5 k q ∧ ((pm_ct q.1 q.2).2.2.2 = false ∨ (false = true ∧ (pm_ct q.1 q.2).1 = RX5)) := by
  intro k q h
  unfold mt_p_X5_judge at h
  cases h
theorem mk_k_X5_judge : ∀ k q, mt_k_X5_judge k = some q → pm_Kok RX5 k q := by
  intro k q h
  unfold mt_k_X5_judge at h
  cases h
theorem mk_o_X5_judge : ∀ k q, mt_o_X5_judge k = some q → pm_Oko RX5 k q := by
  intro k q h
  unfold mt_o_X5_judge at h
  cases h
theorem mk_n_X5_judge : ∀ k q, mt_n_X5_judge k = some q → pm_Nok RX5 k q := by
  intro k q h
  unfold mt_n_X5_judge at h
  cases h
theorem mk_f_X5_judge (l : Launch) : ∀ k q, mt_f_X5_judge k = some q → pm_Cal l 2 49 RX5 k q := by
  intro k q h
  unfold mt_f_X5_judge at h
  split at h
  · cases h
    exact ⟨yX5_fail, cX5_fail, 3, (some .double), 1, 27, mM_X5_fail l, by decide, by decide, pt_377, pt_3, by decide, by decide, fun _ => ⟨by decide, rfl, pt_374, pt_376, pt_s6⟩, fun h => absurd h (by decide), fun h => absurd h (by decide)⟩
  · cases h
    exact ⟨yX4_isLost, cX4_isLost, 1, (some .boolean), 1, 27, mM_X4_isLost l, by decide, by decide, pt_485, pt_4, by decide, by decide, fun _ => ⟨by decide, rfl, pt_482, pt_483, pt_484⟩, fun h => absurd h (by decide), fun h => absurd h (by decide)⟩
  · cases h
    exact ⟨yX2_failsBelow, cX2_failsBelow, 1, (some .boolean), 1, 27, mM_X2_failsBelow l, by decide, by decide, pt_488, pt_10, by decide, by decide, fun h => absurd h (by decide), fun _ => ⟨pt_486, pt_487⟩, fun h => absurd h (by decide)⟩
  · cases h
noncomputable def mF_X5_judge : pm_F := pm_fn mE_X5_judge 4
theorem mM_X5_judge (l : Launch) : pm_Met l yX5_judge cX5_judge 4 (some .double) 2 49 mF_X5_judge := pm_met (own := RX5) (E := mE_X5_judge) (ini := false) (by decide) rfl ⟨mk_g_X5_judge, mk_p_X5_judge, mk_k_X5_judge, mk_f_X5_judge l, mk_o_X5_judge, mk_n_X5_judge, by decide⟩ rfl (fun h => by cases h)
noncomputable def mt_g_X6_init : Nat → Option (Nat × Nat) := fun _ => none
noncomputable def mt_p_X6_init : Nat → Option (Nat × Nat) := fun k => match k with
  | 9 => some (3, 0)
  | 15 => some (3, 1)
  | 19 => some (3, 2)
  | 22 => some (3, 3)
  | 25 => some (3, 4)
  | 28 => some (3, 5)
  | 32 => some (3, 6)
  | 35 => some (3, 7)
  | 38 => some (3, 8)
  | _ => none
noncomputable def mt_k_X6_init : Nat → Option Value := fun _ => none
noncomputable def mt_f_X6_init : Nat → Option (Nat × Nat × Nat × pm_F) := fun _ => none
noncomputable def mt_o_X6_init : Nat → Option Nat := fun _ => none
noncomputable def mt_n_X6_init : Nat → Option Nat := fun k => match k with
  | 3 => some 2
  | _ => none
noncomputable def mE_X6_init : pm_E := (cX6_init, mt_g_X6_init, mt_p_X6_init, mt_k_X6_init, mt_f_X6_init, mt_o_X6_init, mt_n_X6_init, none, none)
theorem mk_g_X6_init : ∀ k q, mt_g_X6_init k = some q → pm_Fok RX6 k q := by
  intro k q h
  unfold mt_g_X6_init at h
  cases h
theorem mk_p_X6_init : ∀ k q, mt_p_X6_init k = some q → pm_Fok RX6 k q ∧ ((pm_ct q.1 q.2).2.2.2 = false ∨ (true = true ∧ (pm_ct q.1 q.2).1 = RX6)) := by
  intro k q h
  unfold mt_p_X6_init at h
  split at h
  · cases h
    exact ⟨⟨by decide, by decide, pt_25⟩, Or.inr ⟨rfl, rfl⟩⟩
  · cases h
    exact ⟨⟨by decide, by decide, pt_26⟩, Or.inr ⟨rfl, rfl⟩⟩
  · cases h
    exact ⟨⟨by decide, by decide, pt_27⟩, Or.inr ⟨rfl, rfl⟩⟩
  · cases h
    exact ⟨⟨by decide, by decide, pt_28⟩, Or.inr ⟨rfl, rfl⟩⟩
  · cases h
    exact ⟨⟨by decide, by decide, pt_29⟩, Or.inr ⟨rfl, rfl⟩⟩
  · cases h
    exact ⟨⟨by decide, by decide, pt_30⟩, Or.inr ⟨rfl, rfl⟩⟩
  · cases h
    exact ⟨⟨by decide, by decide, pt_31⟩, Or.inr ⟨rfl, rfl⟩⟩
  · cases h
    exact ⟨⟨by decide, by decide, pt_32⟩, Or.inr ⟨rfl, rfl⟩⟩
  · cases h
    exact ⟨⟨by decide, by decide, pt_33⟩, Or.inr ⟨rfl, rfl⟩⟩
  · cases h
theorem mk_k_X6_init : ∀ k q, mt_k_X6_init k = some q → pm_Kok RX6 k q := by
  intro k q h
  unfold mt_k_X6_init at h
  cases h
theorem mk_o_X6_init : ∀ k q, mt_o_X6_init k = some q → pm_Oko RX6 k q := by
  intro k q h
  unfold mt_o_X6_init at h
  cases h
theorem mk_n_X6_init : ∀ k q, mt_n_X6_init k = some q → pm_Nok RX6 k q := by
  intro k q h
  unfold mt_n_X6_init at h
  split at h
  · cases h
    exact ⟨fun h => absurd h (by decide), fun h => absurd h (by decide), fun _ => ⟨pt_24, pt_17, pt_18⟩⟩
  · cases h
theorem mk_f_X6_init (l : Launch) : ∀ k q, mt_f_X6_init k = some q → pm_Cal l 1 27 RX6 k q := by
  intro k q h
  unfold mt_f_X6_init at h
  cases h
noncomputable def mF_X6_init : pm_F := pm_fn mE_X6_init 1
theorem mM_X6_init (l : Launch) : pm_Met l yX6_init cX6_init 1 none 1 27 mF_X6_init := pm_met (own := RX6) (E := mE_X6_init) (ini := true) (by decide) rfl ⟨mk_g_X6_init, mk_p_X6_init, mk_k_X6_init, mk_f_X6_init l, mk_o_X6_init, mk_n_X6_init, by decide⟩ rfl (fun h => by rfl)
noncomputable def mt_g_X6_put : Nat → Option (Nat × Nat) := fun k => match k with
  | 9 => some (3, 0)
  | 15 => some (3, 1)
  | 19 => some (3, 2)
  | 22 => some (3, 3)
  | 25 => some (3, 4)
  | _ => none
noncomputable def mt_p_X6_put : Nat → Option (Nat × Nat) := fun _ => none
noncomputable def mt_k_X6_put : Nat → Option Value := fun _ => none
noncomputable def mt_f_X6_put : Nat → Option (Nat × Nat × Nat × pm_F) := fun k => match k with
  | 41 => some (1, 1, 9, mF_X3_codeOf)
  | 47 => some (1, 1, 9, mF_X3_valueOf)
  | 50 => some (1, 1, 9, mF_X0_rootOf)
  | _ => none
noncomputable def mt_o_X6_put : Nat → Option Nat := fun _ => none
noncomputable def mt_n_X6_put : Nat → Option Nat := fun _ => none
noncomputable def mE_X6_put : pm_E := (cX6_put, mt_g_X6_put, mt_p_X6_put, mt_k_X6_put, mt_f_X6_put, mt_o_X6_put, mt_n_X6_put, none, none)
theorem mk_g_X6_put : ∀ k q, mt_g_X6_put k = some q → pm_Fok RX6 k q := by
  intro k q h
  unfold mt_g_X6_put at h
  split at h
  · cases h
    exact ⟨by decide, by decide, pt_25⟩
  · cases h
    exact ⟨by decide, by decide, pt_26⟩
  · cases h
    exact ⟨by decide, by decide, pt_27⟩
  · cases h
    exact ⟨by decide, by decide, pt_28⟩
  · cases h
    exact ⟨by decide, by decide, pt_29⟩
  · cases h
theorem mk_p_X6_put : ∀ k q, mt_p_X6_put k = some q → pm_Fok RX6 k q ∧ ((pm_ct q.1 q.2).2.2.2 = false ∨ (false = true ∧ (pm_ct q.1 q.2).1 = RX6)) := by
  intro k q h
  unfold mt_p_X6_put at h
  cases h
theorem mk_k_X6_put : ∀ k q, mt_k_X6_put k = some q → pm_Kok RX6 k q := by
  intro k q h
  unfold mt_k_X6_put at h
  cases h
theorem mk_o_X6_put : ∀ k q, mt_o_X6_put k = some q → pm_Oko RX6 k q := by
  intro k q h
  unfold mt_o_X6_put at h
  cases h
theorem mk_n_X6_put : ∀ k q, mt_n_X6_put k = some q → pm_Nok RX6 k q := by
  intro k q h
  unfold mt_n_X6_put at h
  cases h
theorem mk_f_X6_put (l : Launch) : ∀ k q, mt_f_X6_put k = some q → pm_Cal l 3 81 RX6 k q := by
  intro k q h
  unfold mt_f_X6_put at h
  split at h
  · cases h
    exact ⟨yX3_codeOf, cX3_codeOf, 3, (some .int), 2, 47, mM_X3_codeOf l, by decide, by decide, pt_212, pt_8, by decide, by decide, fun h => absurd h (by decide), fun _ => ⟨pt_210, pt_211⟩, fun h => absurd h (by decide)⟩
  · cases h
    exact ⟨yX3_valueOf, cX3_valueOf, 1, (some .int), 1, 27, mM_X3_valueOf l, by decide, by decide, pt_215, pt_8, by decide, by decide, fun h => absurd h (by decide), fun _ => ⟨pt_216, pt_214⟩, fun h => absurd h (by decide)⟩
  · cases h
    exact ⟨yX0_rootOf, cX0_rootOf, 10, (some .double), 2, 52, mM_X0_rootOf l, by decide, by decide, pt_219, pt_9, by decide, by decide, fun h => absurd h (by decide), fun _ => ⟨pt_217, pt_218⟩, fun h => absurd h (by decide)⟩
  · cases h
noncomputable def mF_X6_put : pm_F := pm_fn mE_X6_put 7
theorem mM_X6_put (l : Launch) : pm_Met l yX6_put cX6_put 7 none 3 81 mF_X6_put := pm_met (own := RX6) (E := mE_X6_put) (ini := false) (by decide) rfl ⟨mk_g_X6_put, mk_p_X6_put, mk_k_X6_put, mk_f_X6_put l, mk_o_X6_put, mk_n_X6_put, by decide⟩ rfl (fun h => by cases h)
noncomputable def mt_g_X6_fillColumn : Nat → Option (Nat × Nat) := fun k => match k with
  | 28 => some (3, 5)
  | 32 => some (3, 6)
  | _ => none
noncomputable def mt_p_X6_fillColumn : Nat → Option (Nat × Nat) := fun _ => none
noncomputable def mt_k_X6_fillColumn : Nat → Option Value := fun _ => none
noncomputable def mt_f_X6_fillColumn : Nat → Option (Nat × Nat × Nat × pm_F) := fun k => match k with
  | 56 => some (1, 1, 9, mF_X0_isNumber)
  | 60 => some (1, 1, 9, mF_X0_fromBits)
  | _ => none
noncomputable def mt_o_X6_fillColumn : Nat → Option Nat := fun _ => none
noncomputable def mt_n_X6_fillColumn : Nat → Option Nat := fun _ => none
noncomputable def mE_X6_fillColumn : pm_E := (cX6_fillColumn, mt_g_X6_fillColumn, mt_p_X6_fillColumn, mt_k_X6_fillColumn, mt_f_X6_fillColumn, mt_o_X6_fillColumn, mt_n_X6_fillColumn, none, none)
theorem mk_g_X6_fillColumn : ∀ k q, mt_g_X6_fillColumn k = some q → pm_Fok RX6 k q := by
  intro k q h
  unfold mt_g_X6_fillColumn at h
  split at h
  · cases h
    exact ⟨by decide, by decide, pt_30⟩
  · cases h
    exact ⟨by decide, by decide, pt_31⟩
  · cases h
theorem mk_p_X6_fillColumn : ∀ k q, mt_p_X6_fillColumn k = some q → pm_Fok RX6 k q ∧ ((pm_ct q.1 q.2).2.2.2 = false ∨ (false = true ∧ (pm_ct q.1 q.2).1 = RX6)) := by
  intro k q h
  unfold mt_p_X6_fillColumn at h
  cases h
theorem mk_k_X6_fillColumn : ∀ k q, mt_k_X6_fillColumn k = some q → pm_Kok RX6 k q := by
  intro k q h
  unfold mt_k_X6_fillColumn at h
  cases h
theorem mk_o_X6_fillColumn : ∀ k q, mt_o_X6_fillColumn k = some q → pm_Oko RX6 k q := by
  intro k q h
  unfold mt_o_X6_fillColumn at h
  cases h
theorem mk_n_X6_fillColumn : ∀ k q, mt_n_X6_fillColumn k = some q → pm_Nok RX6 k q := by
  intro k q h
  unfold mt_n_X6_fillColumn at h
  cases h
theorem mk_f_X6_fillColumn (l : Launch) : ∀ k q, mt_f_X6_fillColumn k = some q → pm_Cal l 3 78 RX6 k q := by
  intro k q h
  unfold mt_f_X6_fillColumn at h
  split at h
  · cases h
    exact ⟨yX0_isNumber, cX0_isNumber, 2, (some .boolean), 1, 27, mM_X0_isNumber l, by decide, by decide, pt_238, pt_9, by decide, by decide, fun h => absurd h (by decide), fun _ => ⟨pt_236, pt_237⟩, fun h => absurd h (by decide)⟩
  · cases h
    exact ⟨yX0_fromBits, cX0_fromBits, 7, (some .double), 2, 52, mM_X0_fromBits l, by decide, by decide, pt_243, pt_9, by decide, by decide, fun h => absurd h (by decide), fun _ => ⟨pt_241, pt_242⟩, fun h => absurd h (by decide)⟩
  · cases h
noncomputable def mF_X6_fillColumn : pm_F := pm_fn mE_X6_fillColumn 6
theorem mM_X6_fillColumn (l : Launch) : pm_Met l yX6_fillColumn cX6_fillColumn 6 none 3 78 mF_X6_fillColumn := pm_met (own := RX6) (E := mE_X6_fillColumn) (ini := false) (by decide) rfl ⟨mk_g_X6_fillColumn, mk_p_X6_fillColumn, mk_k_X6_fillColumn, mk_f_X6_fillColumn l, mk_o_X6_fillColumn, mk_n_X6_fillColumn, by decide⟩ rfl (fun h => by cases h)
noncomputable def mt_g_X6_giveAverage : Nat → Option (Nat × Nat) := fun k => match k with
  | 35 => some (3, 7)
  | 38 => some (3, 8)
  | _ => none
noncomputable def mt_p_X6_giveAverage : Nat → Option (Nat × Nat) := fun _ => none
noncomputable def mt_k_X6_giveAverage : Nat → Option Value := fun _ => none
noncomputable def mt_f_X6_giveAverage : Nat → Option (Nat × Nat × Nat × pm_F) := fun _ => none
noncomputable def mt_o_X6_giveAverage : Nat → Option Nat := fun _ => none
noncomputable def mt_n_X6_giveAverage : Nat → Option Nat := fun _ => none
noncomputable def mE_X6_giveAverage : pm_E := (cX6_giveAverage, mt_g_X6_giveAverage, mt_p_X6_giveAverage, mt_k_X6_giveAverage, mt_f_X6_giveAverage, mt_o_X6_giveAverage, mt_n_X6_giveAverage, none, none)
theorem mk_g_X6_giveAverage : ∀ k q, mt_g_X6_giveAverage k = some q → pm_Fok RX6 k q := by
  intro k q h
  unfold mt_g_X6_giveAverage at h
  split at h
  · cases h
    exact ⟨by decide, by decide, pt_32⟩
  · cases h
    exact ⟨by decide, by decide, pt_33⟩
  · cases h
theorem mk_p_X6_giveAverage : ∀ k q, mt_p_X6_giveAverage k = some q → pm_Fok RX6 k q ∧ ((pm_ct q.1 q.2).2.2.2 = false ∨ (false = true ∧ (pm_ct q.1 q.2).1 = RX6)) := by
  intro k q h
  unfold mt_p_X6_giveAverage at h
  cases h
theorem mk_k_X6_giveAverage : ∀ k q, mt_k_X6_giveAverage k = some q → pm_Kok RX6 k q := by
  intro k q h
  unfold mt_k_X6_giveAverage at h
  cases h
theorem mk_o_X6_giveAverage : ∀ k q, mt_o_X6_giveAverage k = some q → pm_Oko RX6 k q := by
  intro k q h
  unfold mt_o_X6_giveAverage at h
  cases h
theorem mk_n_X6_giveAverage : ∀ k q, mt_n_X6_giveAverage k = some q → pm_Nok RX6 k q := by
  intro k q h
  unfold mt_n_X6_giveAverage at h
  cases h
theorem mk_f_X6_giveAverage (l : Launch) : ∀ k q, mt_f_X6_giveAverage k = some q → pm_Cal l 1 27 RX6 k q := by
  intro k q h
  unfold mt_f_X6_giveAverage at h
  cases h
noncomputable def mF_X6_giveAverage : pm_F := pm_fn mE_X6_giveAverage 4
theorem mM_X6_giveAverage (l : Launch) : pm_Met l yX6_giveAverage cX6_giveAverage 4 none 1 27 mF_X6_giveAverage := pm_met (own := RX6) (E := mE_X6_giveAverage) (ini := false) (by decide) rfl ⟨mk_g_X6_giveAverage, mk_p_X6_giveAverage, mk_k_X6_giveAverage, mk_f_X6_giveAverage l, mk_o_X6_giveAverage, mk_n_X6_giveAverage, by decide⟩ rfl (fun h => by cases h)
noncomputable def mt_g_X6_giveNoAverage : Nat → Option (Nat × Nat) := fun k => match k with
  | 35 => some (3, 7)
  | _ => none
noncomputable def mt_p_X6_giveNoAverage : Nat → Option (Nat × Nat) := fun _ => none
noncomputable def mt_k_X6_giveNoAverage : Nat → Option Value := fun _ => none
noncomputable def mt_f_X6_giveNoAverage : Nat → Option (Nat × Nat × Nat × pm_F) := fun _ => none
noncomputable def mt_o_X6_giveNoAverage : Nat → Option Nat := fun _ => none
noncomputable def mt_n_X6_giveNoAverage : Nat → Option Nat := fun _ => none
noncomputable def mE_X6_giveNoAverage : pm_E := (cX6_giveNoAverage, mt_g_X6_giveNoAverage, mt_p_X6_giveNoAverage, mt_k_X6_giveNoAverage, mt_f_X6_giveNoAverage, mt_o_X6_giveNoAverage, mt_n_X6_giveNoAverage, none, none)
theorem mk_g_X6_giveNoAverage : ∀ k q, mt_g_X6_giveNoAverage k = some q → pm_Fok RX6 k q := by
  intro k q h
  unfold mt_g_X6_giveNoAverage at h
  split at h
  · cases h
    exact ⟨by decide, by decide, pt_32⟩
  · cases h
theorem mk_p_X6_giveNoAverage : ∀ k q, mt_p_X6_giveNoAverage k = some q → pm_Fok RX6 k q ∧ ((pm_ct q.1 q.2).2.2.2 = false ∨ (false = true ∧ (pm_ct q.1 q.2).1 = RX6)) := by
  intro k q h
  unfold mt_p_X6_giveNoAverage at h
  cases h
theorem mk_k_X6_giveNoAverage : ∀ k q, mt_k_X6_giveNoAverage k = some q → pm_Kok RX6 k q := by
  intro k q h
  unfold mt_k_X6_giveNoAverage at h
  cases h
theorem mk_o_X6_giveNoAverage : ∀ k q, mt_o_X6_giveNoAverage k = some q → pm_Oko RX6 k q := by
  intro k q h
  unfold mt_o_X6_giveNoAverage at h
  cases h
theorem mk_n_X6_giveNoAverage : ∀ k q, mt_n_X6_giveNoAverage k = some q → pm_Nok RX6 k q := by
  intro k q h
  unfold mt_n_X6_giveNoAverage at h
  cases h
theorem mk_f_X6_giveNoAverage (l : Launch) : ∀ k q, mt_f_X6_giveNoAverage k = some q → pm_Cal l 1 27 RX6 k q := by
  intro k q h
  unfold mt_f_X6_giveNoAverage at h
  cases h
noncomputable def mF_X6_giveNoAverage : pm_F := pm_fn mE_X6_giveNoAverage 2
theorem mM_X6_giveNoAverage (l : Launch) : pm_Met l yX6_giveNoAverage cX6_giveNoAverage 2 none 1 27 mF_X6_giveNoAverage := pm_met (own := RX6) (E := mE_X6_giveNoAverage) (ini := false) (by decide) rfl ⟨mk_g_X6_giveNoAverage, mk_p_X6_giveNoAverage, mk_k_X6_giveNoAverage, mk_f_X6_giveNoAverage l, mk_o_X6_giveNoAverage, mk_n_X6_giveNoAverage, by decide⟩ rfl (fun h => by cases h)
noncomputable def mt_g_X6_reset : Nat → Option (Nat × Nat) := fun _ => none
noncomputable def mt_p_X6_reset : Nat → Option (Nat × Nat) := fun _ => none
noncomputable def mt_k_X6_reset : Nat → Option Value := fun k => match k with
  | 68 => some (.long (9221120237041090560))
  | _ => none
noncomputable def mt_f_X6_reset : Nat → Option (Nat × Nat × Nat × pm_F) := fun k => match k with
  | 64 => some (0, 4, 3, mF_X6_put)
  | 70 => some (0, 3, 3, mF_X6_fillColumn)
  | 74 => some (0, 1, 3, mF_X6_giveNoAverage)
  | _ => none
noncomputable def mt_o_X6_reset : Nat → Option Nat := fun _ => none
noncomputable def mt_n_X6_reset : Nat → Option Nat := fun _ => none
noncomputable def mE_X6_reset : pm_E := (cX6_reset, mt_g_X6_reset, mt_p_X6_reset, mt_k_X6_reset, mt_f_X6_reset, mt_o_X6_reset, mt_n_X6_reset, none, none)
theorem mk_g_X6_reset : ∀ k q, mt_g_X6_reset k = some q → pm_Fok RX6 k q := by
  intro k q h
  unfold mt_g_X6_reset at h
  cases h
theorem mk_p_X6_reset : ∀ k q, mt_p_X6_reset k = some q → pm_Fok RX6 k q ∧ ((pm_ct q.1 q.2).2.2.2 = false ∨ (false = true ∧ (pm_ct q.1 q.2).1 = RX6)) := by
  intro k q h
  unfold mt_p_X6_reset at h
  cases h
theorem mk_k_X6_reset : ∀ k q, mt_k_X6_reset k = some q → pm_Kok RX6 k q := by
  intro k q h
  unfold mt_k_X6_reset at h
  split at h
  · cases h
    exact pt_522
  · cases h
theorem mk_o_X6_reset : ∀ k q, mt_o_X6_reset k = some q → pm_Oko RX6 k q := by
  intro k q h
  unfold mt_o_X6_reset at h
  cases h
theorem mk_n_X6_reset : ∀ k q, mt_n_X6_reset k = some q → pm_Nok RX6 k q := by
  intro k q h
  unfold mt_n_X6_reset at h
  cases h
theorem mk_f_X6_reset (l : Launch) : ∀ k q, mt_f_X6_reset k = some q → pm_Cal l 4 107 RX6 k q := by
  intro k q h
  unfold mt_f_X6_reset at h
  split at h
  · cases h
    exact ⟨yX6_put, cX6_put, 7, none, 3, 81, mM_X6_put l, by decide, by decide, pt_209, pt_2, by decide, by decide, fun _ => ⟨by decide, rfl, pt_521, pt_207, pt_208⟩, fun h => absurd h (by decide), fun h => absurd h (by decide)⟩
  · cases h
    exact ⟨yX6_fillColumn, cX6_fillColumn, 6, none, 3, 78, mM_X6_fillColumn l, by decide, by decide, pt_235, pt_2, by decide, by decide, fun _ => ⟨by decide, rfl, pt_523, pt_233, pt_234⟩, fun h => absurd h (by decide), fun h => absurd h (by decide)⟩
  · cases h
    exact ⟨yX6_giveNoAverage, cX6_giveNoAverage, 2, none, 1, 27, mM_X6_giveNoAverage l, by decide, by decide, pt_254, pt_2, by decide, by decide, fun _ => ⟨by decide, rfl, pt_524, pt_252, pt_253⟩, fun h => absurd h (by decide), fun h => absurd h (by decide)⟩
  · cases h
noncomputable def mF_X6_reset : pm_F := pm_fn mE_X6_reset 3
theorem mM_X6_reset (l : Launch) : pm_Met l yX6_reset cX6_reset 3 none 4 107 mF_X6_reset := pm_met (own := RX6) (E := mE_X6_reset) (ini := false) (by decide) rfl ⟨mk_g_X6_reset, mk_p_X6_reset, mk_k_X6_reset, mk_f_X6_reset l, mk_o_X6_reset, mk_n_X6_reset, by decide⟩ rfl (fun h => by cases h)
noncomputable def mt_g_X7_init : Nat → Option (Nat × Nat) := fun k => match k with
  | 10 => some (4, 0)
  | 27 => some (4, 2)
  | 34 => some (4, 4)
  | _ => none
noncomputable def mt_p_X7_init : Nat → Option (Nat × Nat) := fun k => match k with
  | 10 => some (4, 0)
  | 21 => some (4, 1)
  | 27 => some (4, 2)
  | 34 => some (4, 4)
  | 38 => some (4, 5)
  | 42 => some (4, 6)
  | _ => none
noncomputable def mt_k_X7_init : Nat → Option Value := fun _ => none
noncomputable def mt_f_X7_init : Nat → Option (Nat × Nat × Nat × pm_F) := fun k => match k with
  | 9 => some (2, 0, 3, mF_X6_init)
  | 18 => some (2, 1, 2, mF_X5_init)
  | 31 => some (2, 1, 0, mF_X1_init)
  | _ => none
noncomputable def mt_o_X7_init : Nat → Option Nat := fun k => match k with
  | 7 => some 3
  | 16 => some 2
  | 25 => some 0
  | _ => none
noncomputable def mt_n_X7_init : Nat → Option Nat := fun k => match k with
  | 1 => some 2
  | _ => none
noncomputable def mE_X7_init : pm_E := (cX7_init, mt_g_X7_init, mt_p_X7_init, mt_k_X7_init, mt_f_X7_init, mt_o_X7_init, mt_n_X7_init, none, none)
theorem mk_g_X7_init : ∀ k q, mt_g_X7_init k = some q → pm_Fok RX7 k q := by
  intro k q h
  unfold mt_g_X7_init at h
  split at h
  · cases h
    exact ⟨by decide, by decide, pt_176⟩
  · cases h
    exact ⟨by decide, by decide, pt_178⟩
  · cases h
    exact ⟨by decide, by decide, pt_180⟩
  · cases h
theorem mk_p_X7_init : ∀ k q, mt_p_X7_init k = some q → pm_Fok RX7 k q ∧ ((pm_ct q.1 q.2).2.2.2 = false ∨ (true = true ∧ (pm_ct q.1 q.2).1 = RX7)) := by
  intro k q h
  unfold mt_p_X7_init at h
  split at h
  · cases h
    exact ⟨⟨by decide, by decide, pt_176⟩, Or.inr ⟨rfl, rfl⟩⟩
  · cases h
    exact ⟨⟨by decide, by decide, pt_177⟩, Or.inr ⟨rfl, rfl⟩⟩
  · cases h
    exact ⟨⟨by decide, by decide, pt_178⟩, Or.inr ⟨rfl, rfl⟩⟩
  · cases h
    exact ⟨⟨by decide, by decide, pt_180⟩, Or.inr ⟨rfl, rfl⟩⟩
  · cases h
    exact ⟨⟨by decide, by decide, pt_181⟩, Or.inr ⟨rfl, rfl⟩⟩
  · cases h
    exact ⟨⟨by decide, by decide, pt_182⟩, Or.inr ⟨rfl, rfl⟩⟩
  · cases h
theorem mk_k_X7_init : ∀ k q, mt_k_X7_init k = some q → pm_Kok RX7 k q := by
  intro k q h
  unfold mt_k_X7_init at h
  cases h
theorem mk_o_X7_init : ∀ k q, mt_o_X7_init k = some q → pm_Oko RX7 k q := by
  intro k q h
  unfold mt_o_X7_init at h
  split at h
  · cases h
    exact ⟨fun _ => ⟨pt_19, pt_20, pt_2⟩, fun h => absurd h (by decide)⟩
  · cases h
    exact ⟨fun _ => ⟨pt_56, pt_57, pt_3⟩, fun h => absurd h (by decide)⟩
  · cases h
    exact ⟨fun _ => ⟨pt_105, pt_107, pt_5⟩, fun h => absurd h (by decide)⟩
  · cases h
theorem mk_n_X7_init : ∀ k q, mt_n_X7_init k = some q → pm_Nok RX7 k q := by
  intro k q h
  unfold mt_n_X7_init at h
  split at h
  · cases h
    exact ⟨fun h => absurd h (by decide), fun h => absurd h (by decide), fun _ => ⟨pt_16, pt_17, pt_18⟩⟩
  · cases h
theorem mk_f_X7_init (l : Launch) : ∀ k q, mt_f_X7_init k = some q → pm_Cal l 3 68 RX7 k q := by
  intro k q h
  unfold mt_f_X7_init at h
  split at h
  · cases h
    exact ⟨yX6_init, cX6_init, 1, none, 1, 27, mM_X6_init l, by decide, by decide, pt_23, pt_2, by decide, by decide, fun h => absurd h (by decide), fun h => absurd h (by decide), fun _ => ⟨rfl, rfl, pt_22, Or.inl pt_21⟩⟩
  · cases h
    exact ⟨yX5_init, cX5_init, 2, none, 2, 47, mM_X5_init l, by decide, by decide, pt_60, pt_3, by decide, by decide, fun h => absurd h (by decide), fun h => absurd h (by decide), fun _ => ⟨rfl, rfl, pt_59, Or.inl pt_58⟩⟩
  · cases h
    exact ⟨yX1_init, cX1_init, 2, none, 1, 27, mM_X1_init l, by decide, by decide, pt_110, pt_5, by decide, by decide, fun h => absurd h (by decide), fun h => absurd h (by decide), fun _ => ⟨rfl, rfl, pt_109, Or.inl pt_108⟩⟩
  · cases h
noncomputable def mF_X7_init : pm_F := pm_fn mE_X7_init 2
theorem mM_X7_init (l : Launch) : pm_Met l yX7_init cX7_init 2 none 3 68 mF_X7_init := pm_met (own := RX7) (E := mE_X7_init) (ini := true) (by decide) rfl ⟨mk_g_X7_init, mk_p_X7_init, mk_k_X7_init, mk_f_X7_init l, mk_o_X7_init, mk_n_X7_init, by decide⟩ rfl (fun h => by rfl)
noncomputable def mt_g_X7_isIn : Nat → Option (Nat × Nat) := fun _ => none
noncomputable def mt_p_X7_isIn : Nat → Option (Nat × Nat) := fun _ => none
noncomputable def mt_k_X7_isIn : Nat → Option Value := fun _ => none
noncomputable def mt_f_X7_isIn : Nat → Option (Nat × Nat × Nat × pm_F) := fun _ => none
noncomputable def mt_o_X7_isIn : Nat → Option Nat := fun _ => none
noncomputable def mt_n_X7_isIn : Nat → Option Nat := fun _ => none
noncomputable def mE_X7_isIn : pm_E := (cX7_isIn, mt_g_X7_isIn, mt_p_X7_isIn, mt_k_X7_isIn, mt_f_X7_isIn, mt_o_X7_isIn, mt_n_X7_isIn, none, (some .boolean))
theorem mk_g_X7_isIn : ∀ k q, mt_g_X7_isIn k = some q → pm_Fok RX7 k q := by
  intro k q h
  unfold mt_g_X7_isIn at h
  cases h
theorem mk_p_X7_isIn : ∀ k q, mt_p_X7_isIn k = some q → pm_Fok RX7 k q ∧ ((pm_ct q.1 q.2).2.2.2 = false ∨ (false = true ∧ (pm_ct q.1 q.2).1 = RX7)) := by
  intro k q h
  unfold mt_p_X7_isIn at h
  cases h
theorem mk_k_X7_isIn : ∀ k q, mt_k_X7_isIn k = some q → pm_Kok RX7 k q := by
  intro k q h
  unfold mt_k_X7_isIn at h
  cases h
theorem mk_o_X7_isIn : ∀ k q, mt_o_X7_isIn k = some q → pm_Oko RX7 k q := by
  intro k q h
  unfold mt_o_X7_isIn at h
  cases h
theorem mk_n_X7_isIn : ∀ k q, mt_n_X7_isIn k = some q → pm_Nok RX7 k q := by
  intro k q h
  unfold mt_n_X7_isIn at h
  cases h
theorem mk_f_X7_isIn (l : Launch) : ∀ k q, mt_f_X7_isIn k = some q → pm_Cal l 1 27 RX7 k q := by
  intro k q h
  unfold mt_f_X7_isIn at h
  cases h
noncomputable def mF_X7_isIn : pm_F := pm_fn mE_X7_isIn 2
theorem mM_X7_isIn (l : Launch) : pm_Met l yX7_isIn cX7_isIn 2 (some .boolean) 1 27 mF_X7_isIn := pm_met (own := RX7) (E := mE_X7_isIn) (ini := false) (by decide) rfl ⟨mk_g_X7_isIn, mk_p_X7_isIn, mk_k_X7_isIn, mk_f_X7_isIn l, mk_o_X7_isIn, mk_n_X7_isIn, by decide⟩ rfl (fun h => by cases h)
noncomputable def mt_g_X7_tell : Nat → Option (Nat × Nat) := fun k => match k with
  | 10 => some (4, 0)
  | _ => none
noncomputable def mt_p_X7_tell : Nat → Option (Nat × Nat) := fun _ => none
noncomputable def mt_k_X7_tell : Nat → Option Value := fun k => match k with
  | 50 => some (.int (100001))
  | _ => none
noncomputable def mt_f_X7_tell : Nat → Option (Nat × Nat × Nat × pm_F) := fun k => match k with
  | 46 => some (1, 2, 4, mF_X7_isIn)
  | 51 => some (0, 4, 3, mF_X6_put)
  | _ => none
noncomputable def mt_o_X7_tell : Nat → Option Nat := fun _ => none
noncomputable def mt_n_X7_tell : Nat → Option Nat := fun _ => none
noncomputable def mE_X7_tell : pm_E := (cX7_tell, mt_g_X7_tell, mt_p_X7_tell, mt_k_X7_tell, mt_f_X7_tell, mt_o_X7_tell, mt_n_X7_tell, none, (some .int))
theorem mk_g_X7_tell : ∀ k q, mt_g_X7_tell k = some q → pm_Fok RX7 k q := by
  intro k q h
  unfold mt_g_X7_tell at h
  split at h
  · cases h
    exact ⟨by decide, by decide, pt_176⟩
  · cases h
theorem mk_p_X7_tell : ∀ k q, mt_p_X7_tell k = some q → pm_Fok RX7 k q ∧ ((pm_ct q.1 q.2).2.2.2 = false ∨ (false = true ∧ (pm_ct q.1 q.2).1 = RX7)) := by
  intro k q h
  unfold mt_p_X7_tell at h
  cases h
theorem mk_k_X7_tell : ∀ k q, mt_k_X7_tell k = some q → pm_Kok RX7 k q := by
  intro k q h
  unfold mt_k_X7_tell at h
  split at h
  · cases h
    exact pt_205
  · cases h
theorem mk_o_X7_tell : ∀ k q, mt_o_X7_tell k = some q → pm_Oko RX7 k q := by
  intro k q h
  unfold mt_o_X7_tell at h
  cases h
theorem mk_n_X7_tell : ∀ k q, mt_n_X7_tell k = some q → pm_Nok RX7 k q := by
  intro k q h
  unfold mt_n_X7_tell at h
  cases h
theorem mk_f_X7_tell (l : Launch) : ∀ k q, mt_f_X7_tell k = some q → pm_Cal l 4 107 RX7 k q := by
  intro k q h
  unfold mt_f_X7_tell at h
  split at h
  · cases h
    exact ⟨yX7_isIn, cX7_isIn, 2, (some .boolean), 1, 27, mM_X7_isIn l, by decide, by decide, pt_204, pt_1, by decide, by decide, fun h => absurd h (by decide), fun _ => ⟨pt_202, pt_203⟩, fun h => absurd h (by decide)⟩
  · cases h
    exact ⟨yX6_put, cX6_put, 7, none, 3, 81, mM_X6_put l, by decide, by decide, pt_209, pt_2, by decide, by decide, fun _ => ⟨by decide, rfl, pt_206, pt_207, pt_208⟩, fun h => absurd h (by decide), fun h => absurd h (by decide)⟩
  · cases h
noncomputable def mF_X7_tell : pm_F := pm_fn mE_X7_tell 5
theorem mM_X7_tell (l : Launch) : pm_Met l yX7_tell cX7_tell 5 (some .int) 4 107 mF_X7_tell := pm_met (own := RX7) (E := mE_X7_tell) (ini := false) (by decide) rfl ⟨mk_g_X7_tell, mk_p_X7_tell, mk_k_X7_tell, mk_f_X7_tell l, mk_o_X7_tell, mk_n_X7_tell, by decide⟩ rfl (fun h => by cases h)
noncomputable def mt_g_X7_column : Nat → Option (Nat × Nat) := fun k => match k with
  | 10 => some (4, 0)
  | _ => none
noncomputable def mt_p_X7_column : Nat → Option (Nat × Nat) := fun _ => none
noncomputable def mt_k_X7_column : Nat → Option Value := fun _ => none
noncomputable def mt_f_X7_column : Nat → Option (Nat × Nat × Nat × pm_F) := fun k => match k with
  | 46 => some (1, 2, 4, mF_X7_isIn)
  | 55 => some (0, 3, 3, mF_X6_fillColumn)
  | _ => none
noncomputable def mt_o_X7_column : Nat → Option Nat := fun _ => none
noncomputable def mt_n_X7_column : Nat → Option Nat := fun _ => none
noncomputable def mE_X7_column : pm_E := (cX7_column, mt_g_X7_column, mt_p_X7_column, mt_k_X7_column, mt_f_X7_column, mt_o_X7_column, mt_n_X7_column, none, (some .int))
theorem mk_g_X7_column : ∀ k q, mt_g_X7_column k = some q → pm_Fok RX7 k q := by
  intro k q h
  unfold mt_g_X7_column at h
  split at h
  · cases h
    exact ⟨by decide, by decide, pt_176⟩
  · cases h
theorem mk_p_X7_column : ∀ k q, mt_p_X7_column k = some q → pm_Fok RX7 k q ∧ ((pm_ct q.1 q.2).2.2.2 = false ∨ (false = true ∧ (pm_ct q.1 q.2).1 = RX7)) := by
  intro k q h
  unfold mt_p_X7_column at h
  cases h
theorem mk_k_X7_column : ∀ k q, mt_k_X7_column k = some q → pm_Kok RX7 k q := by
  intro k q h
  unfold mt_k_X7_column at h
  cases h
theorem mk_o_X7_column : ∀ k q, mt_o_X7_column k = some q → pm_Oko RX7 k q := by
  intro k q h
  unfold mt_o_X7_column at h
  cases h
theorem mk_n_X7_column : ∀ k q, mt_n_X7_column k = some q → pm_Nok RX7 k q := by
  intro k q h
  unfold mt_n_X7_column at h
  cases h
theorem mk_f_X7_column (l : Launch) : ∀ k q, mt_f_X7_column k = some q → pm_Cal l 4 103 RX7 k q := by
  intro k q h
  unfold mt_f_X7_column at h
  split at h
  · cases h
    exact ⟨yX7_isIn, cX7_isIn, 2, (some .boolean), 1, 27, mM_X7_isIn l, by decide, by decide, pt_204, pt_1, by decide, by decide, fun h => absurd h (by decide), fun _ => ⟨pt_202, pt_203⟩, fun h => absurd h (by decide)⟩
  · cases h
    exact ⟨yX6_fillColumn, cX6_fillColumn, 6, none, 3, 78, mM_X6_fillColumn l, by decide, by decide, pt_235, pt_2, by decide, by decide, fun _ => ⟨by decide, rfl, pt_232, pt_233, pt_234⟩, fun h => absurd h (by decide), fun h => absurd h (by decide)⟩
  · cases h
noncomputable def mF_X7_column : pm_F := pm_fn mE_X7_column 5
theorem mM_X7_column (l : Launch) : pm_Met l yX7_column cX7_column 5 (some .int) 4 103 mF_X7_column := pm_met (own := RX7) (E := mE_X7_column) (ini := false) (by decide) rfl ⟨mk_g_X7_column, mk_p_X7_column, mk_k_X7_column, mk_f_X7_column l, mk_o_X7_column, mk_n_X7_column, by decide⟩ rfl (fun h => by cases h)
noncomputable def mt_g_X7_given : Nat → Option (Nat × Nat) := fun k => match k with
  | 10 => some (4, 0)
  | _ => none
noncomputable def mt_p_X7_given : Nat → Option (Nat × Nat) := fun _ => none
noncomputable def mt_k_X7_given : Nat → Option Value := fun _ => none
noncomputable def mt_f_X7_given : Nat → Option (Nat × Nat × Nat × pm_F) := fun k => match k with
  | 46 => some (1, 2, 4, mF_X7_isIn)
  | 59 => some (1, 1, 9, mF_X0_isNumber)
  | 65 => some (0, 1, 3, mF_X6_giveNoAverage)
  | 68 => some (1, 1, 9, mF_X0_fromBits)
  | 72 => some (0, 2, 3, mF_X6_giveAverage)
  | _ => none
noncomputable def mt_o_X7_given : Nat → Option Nat := fun _ => none
noncomputable def mt_n_X7_given : Nat → Option Nat := fun _ => none
noncomputable def mE_X7_given : pm_E := (cX7_given, mt_g_X7_given, mt_p_X7_given, mt_k_X7_given, mt_f_X7_given, mt_o_X7_given, mt_n_X7_given, none, (some .int))
theorem mk_g_X7_given : ∀ k q, mt_g_X7_given k = some q → pm_Fok RX7 k q := by
  intro k q h
  unfold mt_g_X7_given at h
  split at h
  · cases h
    exact ⟨by decide, by decide, pt_176⟩
  · cases h
theorem mk_p_X7_given : ∀ k q, mt_p_X7_given k = some q → pm_Fok RX7 k q ∧ ((pm_ct q.1 q.2).2.2.2 = false ∨ (false = true ∧ (pm_ct q.1 q.2).1 = RX7)) := by
  intro k q h
  unfold mt_p_X7_given at h
  cases h
theorem mk_k_X7_given : ∀ k q, mt_k_X7_given k = some q → pm_Kok RX7 k q := by
  intro k q h
  unfold mt_k_X7_given at h
  cases h
theorem mk_o_X7_given : ∀ k q, mt_o_X7_given k = some q → pm_Oko RX7 k q := by
  intro k q h
  unfold mt_o_X7_given at h
  cases h
theorem mk_n_X7_given : ∀ k q, mt_n_X7_given k = some q → pm_Nok RX7 k q := by
  intro k q h
  unfold mt_n_X7_given at h
  cases h
theorem mk_f_X7_given (l : Launch) : ∀ k q, mt_f_X7_given k = some q → pm_Cal l 3 78 RX7 k q := by
  intro k q h
  unfold mt_f_X7_given at h
  split at h
  · cases h
    exact ⟨yX7_isIn, cX7_isIn, 2, (some .boolean), 1, 27, mM_X7_isIn l, by decide, by decide, pt_204, pt_1, by decide, by decide, fun h => absurd h (by decide), fun _ => ⟨pt_202, pt_203⟩, fun h => absurd h (by decide)⟩
  · cases h
    exact ⟨yX0_isNumber, cX0_isNumber, 2, (some .boolean), 1, 27, mM_X0_isNumber l, by decide, by decide, pt_238, pt_9, by decide, by decide, fun h => absurd h (by decide), fun _ => ⟨pt_250, pt_237⟩, fun h => absurd h (by decide)⟩
  · cases h
    exact ⟨yX6_giveNoAverage, cX6_giveNoAverage, 2, none, 1, 27, mM_X6_giveNoAverage l, by decide, by decide, pt_254, pt_2, by decide, by decide, fun _ => ⟨by decide, rfl, pt_251, pt_252, pt_253⟩, fun h => absurd h (by decide), fun h => absurd h (by decide)⟩
  · cases h
    exact ⟨yX0_fromBits, cX0_fromBits, 7, (some .double), 2, 52, mM_X0_fromBits l, by decide, by decide, pt_243, pt_9, by decide, by decide, fun h => absurd h (by decide), fun _ => ⟨pt_255, pt_242⟩, fun h => absurd h (by decide)⟩
  · cases h
    exact ⟨yX6_giveAverage, cX6_giveAverage, 4, none, 1, 27, mM_X6_giveAverage l, by decide, by decide, pt_259, pt_2, by decide, by decide, fun _ => ⟨by decide, rfl, pt_256, pt_257, pt_258⟩, fun h => absurd h (by decide), fun h => absurd h (by decide)⟩
  · cases h
noncomputable def mF_X7_given : pm_F := pm_fn mE_X7_given 6
theorem mM_X7_given (l : Launch) : pm_Met l yX7_given cX7_given 6 (some .int) 3 78 mF_X7_given := pm_met (own := RX7) (E := mE_X7_given) (ini := false) (by decide) rfl ⟨mk_g_X7_given, mk_p_X7_given, mk_k_X7_given, mk_f_X7_given l, mk_o_X7_given, mk_n_X7_given, by decide⟩ rfl (fun h => by cases h)
noncomputable def mt_g_X7_average : Nat → Option (Nat × Nat) := fun k => match k with
  | 10 => some (4, 0)
  | _ => none
noncomputable def mt_p_X7_average : Nat → Option (Nat × Nat) := fun _ => none
noncomputable def mt_k_X7_average : Nat → Option Value := fun k => match k with
  | 88 => some (.long (9221120237041090560))
  | _ => none
noncomputable def mt_f_X7_average : Nat → Option (Nat × Nat × Nat × pm_F) := fun k => match k with
  | 46 => some (1, 2, 4, mF_X7_isIn)
  | 76 => some (0, 1, 3, mF_X6_hasAverage)
  | 80 => some (0, 1, 3, mF_X6_averageOf)
  | 84 => some (1, 1, 9, mF_X0_toBits)
  | _ => none
noncomputable def mt_o_X7_average : Nat → Option Nat := fun _ => none
noncomputable def mt_n_X7_average : Nat → Option Nat := fun _ => none
noncomputable def mE_X7_average : pm_E := (cX7_average, mt_g_X7_average, mt_p_X7_average, mt_k_X7_average, mt_f_X7_average, mt_o_X7_average, mt_n_X7_average, none, (some .long))
theorem mk_g_X7_average : ∀ k q, mt_g_X7_average k = some q → pm_Fok RX7 k q := by
  intro k q h
  unfold mt_g_X7_average at h
  split at h
  · cases h
    exact ⟨by decide, by decide, pt_176⟩
  · cases h
theorem mk_p_X7_average : ∀ k q, mt_p_X7_average k = some q → pm_Fok RX7 k q ∧ ((pm_ct q.1 q.2).2.2.2 = false ∨ (false = true ∧ (pm_ct q.1 q.2).1 = RX7)) := by
  intro k q h
  unfold mt_p_X7_average at h
  cases h
theorem mk_k_X7_average : ∀ k q, mt_k_X7_average k = some q → pm_Kok RX7 k q := by
  intro k q h
  unfold mt_k_X7_average at h
  split at h
  · cases h
    exact pt_290
  · cases h
theorem mk_o_X7_average : ∀ k q, mt_o_X7_average k = some q → pm_Oko RX7 k q := by
  intro k q h
  unfold mt_o_X7_average at h
  cases h
theorem mk_n_X7_average : ∀ k q, mt_n_X7_average k = some q → pm_Nok RX7 k q := by
  intro k q h
  unfold mt_n_X7_average at h
  cases h
theorem mk_f_X7_average (l : Launch) : ∀ k q, mt_f_X7_average k = some q → pm_Cal l 4 101 RX7 k q := by
  intro k q h
  unfold mt_f_X7_average at h
  split at h
  · cases h
    exact ⟨yX7_isIn, cX7_isIn, 2, (some .boolean), 1, 27, mM_X7_isIn l, by decide, by decide, pt_204, pt_1, by decide, by decide, fun h => absurd h (by decide), fun _ => ⟨pt_202, pt_203⟩, fun h => absurd h (by decide)⟩
  · cases h
    exact ⟨yX6_hasAverage, cX6_hasAverage, 2, (some .boolean), 1, 27, mM_X6_hasAverage l, by decide, by decide, pt_267, pt_2, by decide, by decide, fun _ => ⟨by decide, rfl, pt_264, pt_265, pt_266⟩, fun h => absurd h (by decide), fun h => absurd h (by decide)⟩
  · cases h
    exact ⟨yX6_averageOf, cX6_averageOf, 3, (some .double), 1, 27, mM_X6_averageOf l, by decide, by decide, pt_271, pt_2, by decide, by decide, fun _ => ⟨by decide, rfl, pt_268, pt_269, pt_270⟩, fun h => absurd h (by decide), fun h => absurd h (by decide)⟩
  · cases h
    exact ⟨yX0_toBits, cX0_toBits, 4, (some .long), 3, 78, mM_X0_toBits l, by decide, by decide, pt_274, pt_9, by decide, by decide, fun h => absurd h (by decide), fun _ => ⟨pt_272, pt_273⟩, fun h => absurd h (by decide)⟩
  · cases h
noncomputable def mF_X7_average : pm_F := pm_fn mE_X7_average 2
theorem mM_X7_average (l : Launch) : pm_Met l yX7_average cX7_average 2 (some .long) 4 101 mF_X7_average := pm_met (own := RX7) (E := mE_X7_average) (ini := false) (by decide) rfl ⟨mk_g_X7_average, mk_p_X7_average, mk_k_X7_average, mk_f_X7_average l, mk_o_X7_average, mk_n_X7_average, by decide⟩ rfl (fun h => by cases h)
noncomputable def mt_g_X7_packed : Nat → Option (Nat × Nat) := fun _ => none
noncomputable def mt_p_X7_packed : Nat → Option (Nat × Nat) := fun _ => none
noncomputable def mt_k_X7_packed : Nat → Option Value := fun k => match k with
  | 50 => some (.int (100001))
  | _ => none
noncomputable def mt_f_X7_packed : Nat → Option (Nat × Nat × Nat × pm_F) := fun k => match k with
  | 46 => some (1, 2, 4, mF_X7_isIn)
  | 90 => some (1, 1, 9, mF_X3_codeOf)
  | 96 => some (1, 1, 9, mF_X3_valueOf)
  | _ => none
noncomputable def mt_o_X7_packed : Nat → Option Nat := fun _ => none
noncomputable def mt_n_X7_packed : Nat → Option Nat := fun _ => none
noncomputable def mE_X7_packed : pm_E := (cX7_packed, mt_g_X7_packed, mt_p_X7_packed, mt_k_X7_packed, mt_f_X7_packed, mt_o_X7_packed, mt_n_X7_packed, none, (some .int))
theorem mk_g_X7_packed : ∀ k q, mt_g_X7_packed k = some q → pm_Fok RX7 k q := by
  intro k q h
  unfold mt_g_X7_packed at h
  cases h
theorem mk_p_X7_packed : ∀ k q, mt_p_X7_packed k = some q → pm_Fok RX7 k q ∧ ((pm_ct q.1 q.2).2.2.2 = false ∨ (false = true ∧ (pm_ct q.1 q.2).1 = RX7)) := by
  intro k q h
  unfold mt_p_X7_packed at h
  cases h
theorem mk_k_X7_packed : ∀ k q, mt_k_X7_packed k = some q → pm_Kok RX7 k q := by
  intro k q h
  unfold mt_k_X7_packed at h
  split at h
  · cases h
    exact pt_205
  · cases h
theorem mk_o_X7_packed : ∀ k q, mt_o_X7_packed k = some q → pm_Oko RX7 k q := by
  intro k q h
  unfold mt_o_X7_packed at h
  cases h
theorem mk_n_X7_packed : ∀ k q, mt_n_X7_packed k = some q → pm_Nok RX7 k q := by
  intro k q h
  unfold mt_n_X7_packed at h
  cases h
theorem mk_f_X7_packed (l : Launch) : ∀ k q, mt_f_X7_packed k = some q → pm_Cal l 3 69 RX7 k q := by
  intro k q h
  unfold mt_f_X7_packed at h
  split at h
  · cases h
    exact ⟨yX7_isIn, cX7_isIn, 2, (some .boolean), 1, 27, mM_X7_isIn l, by decide, by decide, pt_204, pt_1, by decide, by decide, fun h => absurd h (by decide), fun _ => ⟨pt_202, pt_203⟩, fun h => absurd h (by decide)⟩
  · cases h
    exact ⟨yX3_codeOf, cX3_codeOf, 3, (some .int), 2, 47, mM_X3_codeOf l, by decide, by decide, pt_212, pt_8, by decide, by decide, fun h => absurd h (by decide), fun _ => ⟨pt_295, pt_211⟩, fun h => absurd h (by decide)⟩
  · cases h
    exact ⟨yX3_valueOf, cX3_valueOf, 1, (some .int), 1, 27, mM_X3_valueOf l, by decide, by decide, pt_215, pt_8, by decide, by decide, fun h => absurd h (by decide), fun _ => ⟨pt_296, pt_214⟩, fun h => absurd h (by decide)⟩
  · cases h
noncomputable def mF_X7_packed : pm_F := pm_fn mE_X7_packed 4
theorem mM_X7_packed (l : Launch) : pm_Met l yX7_packed cX7_packed 4 (some .int) 3 69 mF_X7_packed := pm_met (own := RX7) (E := mE_X7_packed) (ini := false) (by decide) rfl ⟨mk_g_X7_packed, mk_p_X7_packed, mk_k_X7_packed, mk_f_X7_packed l, mk_o_X7_packed, mk_n_X7_packed, by decide⟩ rfl (fun h => by cases h)
noncomputable def mt_g_X7_isFormula : Nat → Option (Nat × Nat) := fun k => match k with
  | 109 => some (4, 3)
  | _ => none
noncomputable def mt_p_X7_isFormula : Nat → Option (Nat × Nat) := fun _ => none
noncomputable def mt_k_X7_isFormula : Nat → Option Value := fun _ => none
noncomputable def mt_f_X7_isFormula : Nat → Option (Nat × Nat × Nat × pm_F) := fun k => match k with
  | 46 => some (1, 2, 4, mF_X7_isIn)
  | _ => none
noncomputable def mt_o_X7_isFormula : Nat → Option Nat := fun _ => none
noncomputable def mt_n_X7_isFormula : Nat → Option Nat := fun _ => none
noncomputable def mE_X7_isFormula : pm_E := (cX7_isFormula, mt_g_X7_isFormula, mt_p_X7_isFormula, mt_k_X7_isFormula, mt_f_X7_isFormula, mt_o_X7_isFormula, mt_n_X7_isFormula, none, (some .boolean))
theorem mk_g_X7_isFormula : ∀ k q, mt_g_X7_isFormula k = some q → pm_Fok RX7 k q := by
  intro k q h
  unfold mt_g_X7_isFormula at h
  split at h
  · cases h
    exact ⟨by decide, by decide, pt_179⟩
  · cases h
theorem mk_p_X7_isFormula : ∀ k q, mt_p_X7_isFormula k = some q → pm_Fok RX7 k q ∧ ((pm_ct q.1 q.2).2.2.2 = false ∨ (false = true ∧ (pm_ct q.1 q.2).1 = RX7)) := by
  intro k q h
  unfold mt_p_X7_isFormula at h
  cases h
theorem mk_k_X7_isFormula : ∀ k q, mt_k_X7_isFormula k = some q → pm_Kok RX7 k q := by
  intro k q h
  unfold mt_k_X7_isFormula at h
  cases h
theorem mk_o_X7_isFormula : ∀ k q, mt_o_X7_isFormula k = some q → pm_Oko RX7 k q := by
  intro k q h
  unfold mt_o_X7_isFormula at h
  cases h
theorem mk_n_X7_isFormula : ∀ k q, mt_n_X7_isFormula k = some q → pm_Nok RX7 k q := by
  intro k q h
  unfold mt_n_X7_isFormula at h
  cases h
theorem mk_f_X7_isFormula (l : Launch) : ∀ k q, mt_f_X7_isFormula k = some q → pm_Cal l 2 48 RX7 k q := by
  intro k q h
  unfold mt_f_X7_isFormula at h
  split at h
  · cases h
    exact ⟨yX7_isIn, cX7_isIn, 2, (some .boolean), 1, 27, mM_X7_isIn l, by decide, by decide, pt_204, pt_1, by decide, by decide, fun h => absurd h (by decide), fun _ => ⟨pt_202, pt_203⟩, fun h => absurd h (by decide)⟩
  · cases h
noncomputable def mF_X7_isFormula : pm_F := pm_fn mE_X7_isFormula 2
theorem mM_X7_isFormula (l : Launch) : pm_Met l yX7_isFormula cX7_isFormula 2 (some .boolean) 2 48 mF_X7_isFormula := pm_met (own := RX7) (E := mE_X7_isFormula) (ini := false) (by decide) rfl ⟨mk_g_X7_isFormula, mk_p_X7_isFormula, mk_k_X7_isFormula, mk_f_X7_isFormula l, mk_o_X7_isFormula, mk_n_X7_isFormula, by decide⟩ rfl (fun h => by cases h)
noncomputable def mt_g_X7_placesAreRight : Nat → Option (Nat × Nat) := fun _ => none
noncomputable def mt_p_X7_placesAreRight : Nat → Option (Nat × Nat) := fun _ => none
noncomputable def mt_k_X7_placesAreRight : Nat → Option Value := fun _ => none
noncomputable def mt_f_X7_placesAreRight : Nat → Option (Nat × Nat × Nat × pm_F) := fun k => match k with
  | 46 => some (1, 2, 4, mF_X7_isIn)
  | 113 => some (1, 1, 9, mF_X2_hasX)
  | 131 => some (0, 1, 4, mF_X7_isFormula)
  | 186 => some (1, 1, 9, mF_X2_hasField)
  | _ => none
noncomputable def mt_o_X7_placesAreRight : Nat → Option Nat := fun _ => none
noncomputable def mt_n_X7_placesAreRight : Nat → Option Nat := fun _ => none
noncomputable def mE_X7_placesAreRight : pm_E := (cX7_placesAreRight, mt_g_X7_placesAreRight, mt_p_X7_placesAreRight, mt_k_X7_placesAreRight, mt_f_X7_placesAreRight, mt_o_X7_placesAreRight, mt_n_X7_placesAreRight, none, (some .boolean))
theorem mk_g_X7_placesAreRight : ∀ k q, mt_g_X7_placesAreRight k = some q → pm_Fok RX7 k q := by
  intro k q h
  unfold mt_g_X7_placesAreRight at h
  cases h
theorem mk_p_X7_placesAreRight : ∀ k q, mt_p_X7_placesAreRight k = some q → pm_Fok RX7 k q ∧ ((pm_ct q.1 q.2).2.2.2 = false ∨ (false = true ∧ (pm_ct q.1 q.2).1 = RX7)) := by
  intro k q h
  unfold mt_p_X7_placesAreRight at h
  cases h
theorem mk_k_X7_placesAreRight : ∀ k q, mt_k_X7_placesAreRight k = some q → pm_Kok RX7 k q := by
  intro k q h
  unfold mt_k_X7_placesAreRight at h
  cases h
theorem mk_o_X7_placesAreRight : ∀ k q, mt_o_X7_placesAreRight k = some q → pm_Oko RX7 k q := by
  intro k q h
  unfold mt_o_X7_placesAreRight at h
  cases h
theorem mk_n_X7_placesAreRight : ∀ k q, mt_n_X7_placesAreRight k = some q → pm_Nok RX7 k q := by
  intro k q h
  unfold mt_n_X7_placesAreRight at h
  cases h
theorem mk_f_X7_placesAreRight (l : Launch) : ∀ k q, mt_f_X7_placesAreRight k = some q → pm_Cal l 3 69 RX7 k q := by
  intro k q h
  unfold mt_f_X7_placesAreRight at h
  split at h
  · cases h
    exact ⟨yX7_isIn, cX7_isIn, 2, (some .boolean), 1, 27, mM_X7_isIn l, by decide, by decide, pt_204, pt_1, by decide, by decide, fun h => absurd h (by decide), fun _ => ⟨pt_202, pt_203⟩, fun h => absurd h (by decide)⟩
  · cases h
    exact ⟨yX2_hasX, cX2_hasX, 1, (some .boolean), 1, 27, mM_X2_hasX l, by decide, by decide, pt_314, pt_10, by decide, by decide, fun h => absurd h (by decide), fun _ => ⟨pt_312, pt_313⟩, fun h => absurd h (by decide)⟩
  · cases h
    exact ⟨yX7_isFormula, cX7_isFormula, 2, (some .boolean), 2, 48, mM_X7_isFormula l, by decide, by decide, pt_311, pt_1, by decide, by decide, fun _ => ⟨by decide, rfl, pt_308, pt_310, pt_s1⟩, fun h => absurd h (by decide), fun h => absurd h (by decide)⟩
  · cases h
    exact ⟨yX2_hasField, cX2_hasField, 1, (some .boolean), 1, 27, mM_X2_hasField l, by decide, by decide, pt_307, pt_10, by decide, by decide, fun h => absurd h (by decide), fun _ => ⟨pt_305, pt_306⟩, fun h => absurd h (by decide)⟩
  · cases h
noncomputable def mF_X7_placesAreRight : pm_F := pm_fn mE_X7_placesAreRight 4
theorem mM_X7_placesAreRight (l : Launch) : pm_Met l yX7_placesAreRight cX7_placesAreRight 4 (some .boolean) 3 69 mF_X7_placesAreRight := pm_met (own := RX7) (E := mE_X7_placesAreRight) (ini := false) (by decide) rfl ⟨mk_g_X7_placesAreRight, mk_p_X7_placesAreRight, mk_k_X7_placesAreRight, mk_f_X7_placesAreRight l, mk_o_X7_placesAreRight, mk_n_X7_placesAreRight, by decide⟩ rfl (fun h => by cases h)
noncomputable def mt_g_X7_sizeOf : Nat → Option (Nat × Nat) := fun k => match k with
  | 147 => some (0, 9)
  | _ => none
noncomputable def mt_p_X7_sizeOf : Nat → Option (Nat × Nat) := fun _ => none
noncomputable def mt_k_X7_sizeOf : Nat → Option Value := fun _ => none
noncomputable def mt_f_X7_sizeOf : Nat → Option (Nat × Nat × Nat × pm_F) := fun _ => none
noncomputable def mt_o_X7_sizeOf : Nat → Option Nat := fun _ => none
noncomputable def mt_n_X7_sizeOf : Nat → Option Nat := fun _ => none
noncomputable def mE_X7_sizeOf : pm_E := (cX7_sizeOf, mt_g_X7_sizeOf, mt_p_X7_sizeOf, mt_k_X7_sizeOf, mt_f_X7_sizeOf, mt_o_X7_sizeOf, mt_n_X7_sizeOf, none, (some .int))
theorem mk_g_X7_sizeOf : ∀ k q, mt_g_X7_sizeOf k = some q → pm_Fok RX7 k q := by
  intro k q h
  unfold mt_g_X7_sizeOf at h
  split at h
  · cases h
    exact ⟨by decide, by decide, pt_136⟩
  · cases h
theorem mk_p_X7_sizeOf : ∀ k q, mt_p_X7_sizeOf k = some q → pm_Fok RX7 k q ∧ ((pm_ct q.1 q.2).2.2.2 = false ∨ (false = true ∧ (pm_ct q.1 q.2).1 = RX7)) := by
  intro k q h
  unfold mt_p_X7_sizeOf at h
  cases h
theorem mk_k_X7_sizeOf : ∀ k q, mt_k_X7_sizeOf k = some q → pm_Kok RX7 k q := by
  intro k q h
  unfold mt_k_X7_sizeOf at h
  cases h
theorem mk_o_X7_sizeOf : ∀ k q, mt_o_X7_sizeOf k = some q → pm_Oko RX7 k q := by
  intro k q h
  unfold mt_o_X7_sizeOf at h
  cases h
theorem mk_n_X7_sizeOf : ∀ k q, mt_n_X7_sizeOf k = some q → pm_Nok RX7 k q := by
  intro k q h
  unfold mt_n_X7_sizeOf at h
  cases h
theorem mk_f_X7_sizeOf (l : Launch) : ∀ k q, mt_f_X7_sizeOf k = some q → pm_Cal l 1 27 RX7 k q := by
  intro k q h
  unfold mt_f_X7_sizeOf at h
  cases h
noncomputable def mF_X7_sizeOf : pm_F := pm_fn mE_X7_sizeOf 1
theorem mM_X7_sizeOf (l : Launch) : pm_Met l yX7_sizeOf cX7_sizeOf 1 (some .int) 1 27 mF_X7_sizeOf := pm_met (own := RX7) (E := mE_X7_sizeOf) (ini := false) (by decide) rfl ⟨mk_g_X7_sizeOf, mk_p_X7_sizeOf, mk_k_X7_sizeOf, mk_f_X7_sizeOf l, mk_o_X7_sizeOf, mk_n_X7_sizeOf, by decide⟩ rfl (fun h => by cases h)
noncomputable def mt_g_X7_formula : Nat → Option (Nat × Nat) := fun k => match k with
  | 27 => some (4, 2)
  | 109 => some (4, 3)
  | 128 => some (0, 0)
  | _ => none
noncomputable def mt_p_X7_formula : Nat → Option (Nat × Nat) := fun k => match k with
  | 109 => some (4, 3)
  | _ => none
noncomputable def mt_k_X7_formula : Nat → Option Value := fun _ => none
noncomputable def mt_f_X7_formula : Nat → Option (Nat × Nat × Nat × pm_F) := fun k => match k with
  | 46 => some (1, 2, 4, mF_X7_isIn)
  | 101 => some (0, 3, 4, mF_X7_placesAreRight)
  | 105 => some (1, 3, 9, mF_X2_takes)
  | 113 => some (1, 1, 9, mF_X2_hasX)
  | 116 => some (1, 1, 4, mF_X7_sizeOf)
  | 120 => some (0, 4, 0, mF_X1_begin)
  | 124 => some (0, 1, 0, mF_X1_addPart)
  | _ => none
noncomputable def mt_o_X7_formula : Nat → Option Nat := fun _ => none
noncomputable def mt_n_X7_formula : Nat → Option Nat := fun _ => none
noncomputable def mE_X7_formula : pm_E := (cX7_formula, mt_g_X7_formula, mt_p_X7_formula, mt_k_X7_formula, mt_f_X7_formula, mt_o_X7_formula, mt_n_X7_formula, none, (some .int))
theorem mk_g_X7_formula : ∀ k q, mt_g_X7_formula k = some q → pm_Fok RX7 k q := by
  intro k q h
  unfold mt_g_X7_formula at h
  split at h
  · cases h
    exact ⟨by decide, by decide, pt_178⟩
  · cases h
    exact ⟨by decide, by decide, pt_179⟩
  · cases h
    exact ⟨by decide, by decide, pt_115⟩
  · cases h
theorem mk_p_X7_formula : ∀ k q, mt_p_X7_formula k = some q → pm_Fok RX7 k q ∧ ((pm_ct q.1 q.2).2.2.2 = false ∨ (false = true ∧ (pm_ct q.1 q.2).1 = RX7)) := by
  intro k q h
  unfold mt_p_X7_formula at h
  split at h
  · cases h
    exact ⟨⟨by decide, by decide, pt_179⟩, Or.inl rfl⟩
  · cases h
theorem mk_k_X7_formula : ∀ k q, mt_k_X7_formula k = some q → pm_Kok RX7 k q := by
  intro k q h
  unfold mt_k_X7_formula at h
  cases h
theorem mk_o_X7_formula : ∀ k q, mt_o_X7_formula k = some q → pm_Oko RX7 k q := by
  intro k q h
  unfold mt_o_X7_formula at h
  cases h
theorem mk_n_X7_formula : ∀ k q, mt_n_X7_formula k = some q → pm_Nok RX7 k q := by
  intro k q h
  unfold mt_n_X7_formula at h
  cases h
theorem mk_f_X7_formula (l : Launch) : ∀ k q, mt_f_X7_formula k = some q → pm_Cal l 6 144 RX7 k q := by
  intro k q h
  unfold mt_f_X7_formula at h
  split at h
  · cases h
    exact ⟨yX7_isIn, cX7_isIn, 2, (some .boolean), 1, 27, mM_X7_isIn l, by decide, by decide, pt_204, pt_1, by decide, by decide, fun h => absurd h (by decide), fun _ => ⟨pt_202, pt_203⟩, fun h => absurd h (by decide)⟩
  · cases h
    exact ⟨yX7_placesAreRight, cX7_placesAreRight, 4, (some .boolean), 3, 69, mM_X7_placesAreRight l, by decide, by decide, pt_304, pt_1, by decide, by decide, fun _ => ⟨by decide, rfl, pt_301, pt_303, pt_s0⟩, fun h => absurd h (by decide), fun h => absurd h (by decide)⟩
  · cases h
    exact ⟨yX2_takes, cX2_takes, 5, (some .boolean), 5, 120, mM_X2_takes l, by decide, by decide, pt_317, pt_10, by decide, by decide, fun h => absurd h (by decide), fun _ => ⟨pt_315, pt_316⟩, fun h => absurd h (by decide)⟩
  · cases h
    exact ⟨yX2_hasX, cX2_hasX, 1, (some .boolean), 1, 27, mM_X2_hasX l, by decide, by decide, pt_314, pt_10, by decide, by decide, fun h => absurd h (by decide), fun _ => ⟨pt_312, pt_313⟩, fun h => absurd h (by decide)⟩
  · cases h
    exact ⟨yX7_sizeOf, cX7_sizeOf, 1, (some .int), 1, 27, mM_X7_sizeOf l, by decide, by decide, pt_331, pt_1, by decide, by decide, fun h => absurd h (by decide), fun _ => ⟨pt_329, pt_330⟩, fun h => absurd h (by decide)⟩
  · cases h
    exact ⟨yX1_begin, cX1_begin, 7, none, 3, 78, mM_X1_begin l, by decide, by decide, pt_335, pt_5, by decide, by decide, fun _ => ⟨by decide, rfl, pt_332, pt_333, pt_334⟩, fun h => absurd h (by decide), fun h => absurd h (by decide)⟩
  · cases h
    exact ⟨yX1_addPart, cX1_addPart, 2, none, 3, 67, mM_X1_addPart l, by decide, by decide, pt_354, pt_5, by decide, by decide, fun _ => ⟨by decide, rfl, pt_351, pt_352, pt_353⟩, fun h => absurd h (by decide), fun h => absurd h (by decide)⟩
  · cases h
noncomputable def mF_X7_formula : pm_F := pm_fn mE_X7_formula 11
theorem mM_X7_formula (l : Launch) : pm_Met l yX7_formula cX7_formula 11 (some .int) 6 144 mF_X7_formula := pm_met (own := RX7) (E := mE_X7_formula) (ini := false) (by decide) rfl ⟨mk_g_X7_formula, mk_p_X7_formula, mk_k_X7_formula, mk_f_X7_formula l, mk_o_X7_formula, mk_n_X7_formula, by decide⟩ rfl (fun h => by cases h)
noncomputable def mt_g_X7_part : Nat → Option (Nat × Nat) := fun k => match k with
  | 27 => some (4, 2)
  | 134 => some (0, 1)
  | 140 => some (0, 8)
  | 144 => some (0, 7)
  | 147 => some (0, 9)
  | _ => none
noncomputable def mt_p_X7_part : Nat → Option (Nat × Nat) := fun _ => none
noncomputable def mt_k_X7_part : Nat → Option Value := fun _ => none
noncomputable def mt_f_X7_part : Nat → Option (Nat × Nat × Nat × pm_F) := fun k => match k with
  | 124 => some (0, 1, 0, mF_X1_addPart)
  | 131 => some (0, 1, 4, mF_X7_isFormula)
  | 137 => some (1, 1, 9, mF_X2_gathers)
  | _ => none
noncomputable def mt_o_X7_part : Nat → Option Nat := fun _ => none
noncomputable def mt_n_X7_part : Nat → Option Nat := fun _ => none
noncomputable def mE_X7_part : pm_E := (cX7_part, mt_g_X7_part, mt_p_X7_part, mt_k_X7_part, mt_f_X7_part, mt_o_X7_part, mt_n_X7_part, none, (some .int))
theorem mk_g_X7_part : ∀ k q, mt_g_X7_part k = some q → pm_Fok RX7 k q := by
  intro k q h
  unfold mt_g_X7_part at h
  split at h
  · cases h
    exact ⟨by decide, by decide, pt_178⟩
  · cases h
    exact ⟨by decide, by decide, pt_118⟩
  · cases h
    exact ⟨by decide, by decide, pt_134⟩
  · cases h
    exact ⟨by decide, by decide, pt_132⟩
  · cases h
    exact ⟨by decide, by decide, pt_136⟩
  · cases h
theorem mk_p_X7_part : ∀ k q, mt_p_X7_part k = some q → pm_Fok RX7 k q ∧ ((pm_ct q.1 q.2).2.2.2 = false ∨ (false = true ∧ (pm_ct q.1 q.2).1 = RX7)) := by
  intro k q h
  unfold mt_p_X7_part at h
  cases h
theorem mk_k_X7_part : ∀ k q, mt_k_X7_part k = some q → pm_Kok RX7 k q := by
  intro k q h
  unfold mt_k_X7_part at h
  cases h
theorem mk_o_X7_part : ∀ k q, mt_o_X7_part k = some q → pm_Oko RX7 k q := by
  intro k q h
  unfold mt_o_X7_part at h
  cases h
theorem mk_n_X7_part : ∀ k q, mt_n_X7_part k = some q → pm_Nok RX7 k q := by
  intro k q h
  unfold mt_n_X7_part at h
  cases h
theorem mk_f_X7_part (l : Launch) : ∀ k q, mt_f_X7_part k = some q → pm_Cal l 4 88 RX7 k q := by
  intro k q h
  unfold mt_f_X7_part at h
  split at h
  · cases h
    exact ⟨yX1_addPart, cX1_addPart, 2, none, 3, 67, mM_X1_addPart l, by decide, by decide, pt_354, pt_5, by decide, by decide, fun _ => ⟨by decide, rfl, pt_351, pt_352, pt_353⟩, fun h => absurd h (by decide), fun h => absurd h (by decide)⟩
  · cases h
    exact ⟨yX7_isFormula, cX7_isFormula, 2, (some .boolean), 2, 48, mM_X7_isFormula l, by decide, by decide, pt_311, pt_1, by decide, by decide, fun _ => ⟨by decide, rfl, pt_308, pt_310, pt_s1⟩, fun h => absurd h (by decide), fun h => absurd h (by decide)⟩
  · cases h
    exact ⟨yX2_gathers, cX2_gathers, 1, (some .boolean), 1, 27, mM_X2_gathers l, by decide, by decide, pt_361, pt_10, by decide, by decide, fun h => absurd h (by decide), fun _ => ⟨pt_359, pt_360⟩, fun h => absurd h (by decide)⟩
  · cases h
noncomputable def mF_X7_part : pm_F := pm_fn mE_X7_part 5
theorem mM_X7_part (l : Launch) : pm_Met l yX7_part cX7_part 5 (some .int) 4 88 mF_X7_part := pm_met (own := RX7) (E := mE_X7_part) (ini := false) (by decide) rfl ⟨mk_g_X7_part, mk_p_X7_part, mk_k_X7_part, mk_f_X7_part l, mk_o_X7_part, mk_n_X7_part, by decide⟩ rfl (fun h => by cases h)
noncomputable def mt_g_X7_told : Nat → Option (Nat × Nat) := fun k => match k with
  | 34 => some (4, 4)
  | _ => none
noncomputable def mt_p_X7_told : Nat → Option (Nat × Nat) := fun _ => none
noncomputable def mt_k_X7_told : Nat → Option Value := fun _ => none
noncomputable def mt_f_X7_told : Nat → Option (Nat × Nat × Nat × pm_F) := fun k => match k with
  | 46 => some (1, 2, 4, mF_X7_isIn)
  | _ => none
noncomputable def mt_o_X7_told : Nat → Option Nat := fun _ => none
noncomputable def mt_n_X7_told : Nat → Option Nat := fun _ => none
noncomputable def mE_X7_told : pm_E := (cX7_told, mt_g_X7_told, mt_p_X7_told, mt_k_X7_told, mt_f_X7_told, mt_o_X7_told, mt_n_X7_told, none, (some .int))
theorem mk_g_X7_told : ∀ k q, mt_g_X7_told k = some q → pm_Fok RX7 k q := by
  intro k q h
  unfold mt_g_X7_told at h
  split at h
  · cases h
    exact ⟨by decide, by decide, pt_180⟩
  · cases h
theorem mk_p_X7_told : ∀ k q, mt_p_X7_told k = some q → pm_Fok RX7 k q ∧ ((pm_ct q.1 q.2).2.2.2 = false ∨ (false = true ∧ (pm_ct q.1 q.2).1 = RX7)) := by
  intro k q h
  unfold mt_p_X7_told at h
  cases h
theorem mk_k_X7_told : ∀ k q, mt_k_X7_told k = some q → pm_Kok RX7 k q := by
  intro k q h
  unfold mt_k_X7_told at h
  cases h
theorem mk_o_X7_told : ∀ k q, mt_o_X7_told k = some q → pm_Oko RX7 k q := by
  intro k q h
  unfold mt_o_X7_told at h
  cases h
theorem mk_n_X7_told : ∀ k q, mt_n_X7_told k = some q → pm_Nok RX7 k q := by
  intro k q h
  unfold mt_n_X7_told at h
  cases h
theorem mk_f_X7_told (l : Launch) : ∀ k q, mt_f_X7_told k = some q → pm_Cal l 2 48 RX7 k q := by
  intro k q h
  unfold mt_f_X7_told at h
  split at h
  · cases h
    exact ⟨yX7_isIn, cX7_isIn, 2, (some .boolean), 1, 27, mM_X7_isIn l, by decide, by decide, pt_204, pt_1, by decide, by decide, fun h => absurd h (by decide), fun _ => ⟨pt_202, pt_203⟩, fun h => absurd h (by decide)⟩
  · cases h
noncomputable def mF_X7_told : pm_F := pm_fn mE_X7_told 2
theorem mM_X7_told (l : Launch) : pm_Met l yX7_told cX7_told 2 (some .int) 2 48 mF_X7_told := pm_met (own := RX7) (E := mE_X7_told) (ini := false) (by decide) rfl ⟨mk_g_X7_told, mk_p_X7_told, mk_k_X7_told, mk_f_X7_told l, mk_o_X7_told, mk_n_X7_told, by decide⟩ rfl (fun h => by cases h)
noncomputable def mt_g_X7_about : Nat → Option (Nat × Nat) := fun k => match k with
  | 27 => some (4, 2)
  | 134 => some (0, 1)
  | 144 => some (0, 7)
  | 147 => some (0, 9)
  | 168 => some (0, 10)
  | 171 => some (0, 11)
  | 174 => some (0, 12)
  | _ => none
noncomputable def mt_p_X7_about : Nat → Option (Nat × Nat) := fun _ => none
noncomputable def mt_k_X7_about : Nat → Option Value := fun _ => none
noncomputable def mt_f_X7_about : Nat → Option (Nat × Nat × Nat × pm_F) := fun k => match k with
  | 46 => some (1, 2, 4, mF_X7_isIn)
  | 131 => some (0, 1, 4, mF_X7_isFormula)
  | _ => none
noncomputable def mt_o_X7_about : Nat → Option Nat := fun _ => none
noncomputable def mt_n_X7_about : Nat → Option Nat := fun _ => none
noncomputable def mE_X7_about : pm_E := (cX7_about, mt_g_X7_about, mt_p_X7_about, mt_k_X7_about, mt_f_X7_about, mt_o_X7_about, mt_n_X7_about, none, (some .int))
theorem mk_g_X7_about : ∀ k q, mt_g_X7_about k = some q → pm_Fok RX7 k q := by
  intro k q h
  unfold mt_g_X7_about at h
  split at h
  · cases h
    exact ⟨by decide, by decide, pt_178⟩
  · cases h
    exact ⟨by decide, by decide, pt_118⟩
  · cases h
    exact ⟨by decide, by decide, pt_132⟩
  · cases h
    exact ⟨by decide, by decide, pt_136⟩
  · cases h
    exact ⟨by decide, by decide, pt_138⟩
  · cases h
    exact ⟨by decide, by decide, pt_140⟩
  · cases h
    exact ⟨by decide, by decide, pt_142⟩
  · cases h
theorem mk_p_X7_about : ∀ k q, mt_p_X7_about k = some q → pm_Fok RX7 k q ∧ ((pm_ct q.1 q.2).2.2.2 = false ∨ (false = true ∧ (pm_ct q.1 q.2).1 = RX7)) := by
  intro k q h
  unfold mt_p_X7_about at h
  cases h
theorem mk_k_X7_about : ∀ k q, mt_k_X7_about k = some q → pm_Kok RX7 k q := by
  intro k q h
  unfold mt_k_X7_about at h
  cases h
theorem mk_o_X7_about : ∀ k q, mt_o_X7_about k = some q → pm_Oko RX7 k q := by
  intro k q h
  unfold mt_o_X7_about at h
  cases h
theorem mk_n_X7_about : ∀ k q, mt_n_X7_about k = some q → pm_Nok RX7 k q := by
  intro k q h
  unfold mt_n_X7_about at h
  cases h
theorem mk_f_X7_about (l : Launch) : ∀ k q, mt_f_X7_about k = some q → pm_Cal l 3 69 RX7 k q := by
  intro k q h
  unfold mt_f_X7_about at h
  split at h
  · cases h
    exact ⟨yX7_isIn, cX7_isIn, 2, (some .boolean), 1, 27, mM_X7_isIn l, by decide, by decide, pt_204, pt_1, by decide, by decide, fun h => absurd h (by decide), fun _ => ⟨pt_202, pt_203⟩, fun h => absurd h (by decide)⟩
  · cases h
    exact ⟨yX7_isFormula, cX7_isFormula, 2, (some .boolean), 2, 48, mM_X7_isFormula l, by decide, by decide, pt_311, pt_1, by decide, by decide, fun _ => ⟨by decide, rfl, pt_308, pt_310, pt_s1⟩, fun h => absurd h (by decide), fun h => absurd h (by decide)⟩
  · cases h
noncomputable def mF_X7_about : pm_F := pm_fn mE_X7_about 4
theorem mM_X7_about (l : Launch) : pm_Met l yX7_about cX7_about 4 (some .int) 3 69 mF_X7_about := pm_met (own := RX7) (E := mE_X7_about) (ini := false) (by decide) rfl ⟨mk_g_X7_about, mk_p_X7_about, mk_k_X7_about, mk_f_X7_about l, mk_o_X7_about, mk_n_X7_about, by decide⟩ rfl (fun h => by cases h)
noncomputable def mt_g_X7_partOf : Nat → Option (Nat × Nat) := fun k => match k with
  | 27 => some (4, 2)
  | 128 => some (0, 0)
  | 144 => some (0, 7)
  | 177 => some (0, 6)
  | _ => none
noncomputable def mt_p_X7_partOf : Nat → Option (Nat × Nat) := fun _ => none
noncomputable def mt_k_X7_partOf : Nat → Option Value := fun _ => none
noncomputable def mt_f_X7_partOf : Nat → Option (Nat × Nat × Nat × pm_F) := fun k => match k with
  | 46 => some (1, 2, 4, mF_X7_isIn)
  | 131 => some (0, 1, 4, mF_X7_isFormula)
  | _ => none
noncomputable def mt_o_X7_partOf : Nat → Option Nat := fun _ => none
noncomputable def mt_n_X7_partOf : Nat → Option Nat := fun _ => none
noncomputable def mE_X7_partOf : pm_E := (cX7_partOf, mt_g_X7_partOf, mt_p_X7_partOf, mt_k_X7_partOf, mt_f_X7_partOf, mt_o_X7_partOf, mt_n_X7_partOf, none, (some .int))
theorem mk_g_X7_partOf : ∀ k q, mt_g_X7_partOf k = some q → pm_Fok RX7 k q := by
  intro k q h
  unfold mt_g_X7_partOf at h
  split at h
  · cases h
    exact ⟨by decide, by decide, pt_178⟩
  · cases h
    exact ⟨by decide, by decide, pt_115⟩
  · cases h
    exact ⟨by decide, by decide, pt_132⟩
  · cases h
    exact ⟨by decide, by decide, pt_129⟩
  · cases h
theorem mk_p_X7_partOf : ∀ k q, mt_p_X7_partOf k = some q → pm_Fok RX7 k q ∧ ((pm_ct q.1 q.2).2.2.2 = false ∨ (false = true ∧ (pm_ct q.1 q.2).1 = RX7)) := by
  intro k q h
  unfold mt_p_X7_partOf at h
  cases h
theorem mk_k_X7_partOf : ∀ k q, mt_k_X7_partOf k = some q → pm_Kok RX7 k q := by
  intro k q h
  unfold mt_k_X7_partOf at h
  cases h
theorem mk_o_X7_partOf : ∀ k q, mt_o_X7_partOf k = some q → pm_Oko RX7 k q := by
  intro k q h
  unfold mt_o_X7_partOf at h
  cases h
theorem mk_n_X7_partOf : ∀ k q, mt_n_X7_partOf k = some q → pm_Nok RX7 k q := by
  intro k q h
  unfold mt_n_X7_partOf at h
  cases h
theorem mk_f_X7_partOf (l : Launch) : ∀ k q, mt_f_X7_partOf k = some q → pm_Cal l 3 69 RX7 k q := by
  intro k q h
  unfold mt_f_X7_partOf at h
  split at h
  · cases h
    exact ⟨yX7_isIn, cX7_isIn, 2, (some .boolean), 1, 27, mM_X7_isIn l, by decide, by decide, pt_204, pt_1, by decide, by decide, fun h => absurd h (by decide), fun _ => ⟨pt_202, pt_203⟩, fun h => absurd h (by decide)⟩
  · cases h
    exact ⟨yX7_isFormula, cX7_isFormula, 2, (some .boolean), 2, 48, mM_X7_isFormula l, by decide, by decide, pt_311, pt_1, by decide, by decide, fun _ => ⟨by decide, rfl, pt_308, pt_310, pt_s1⟩, fun h => absurd h (by decide), fun h => absurd h (by decide)⟩
  · cases h
noncomputable def mF_X7_partOf : pm_F := pm_fn mE_X7_partOf 3
theorem mM_X7_partOf (l : Launch) : pm_Met l yX7_partOf cX7_partOf 3 (some .int) 3 69 mF_X7_partOf := pm_met (own := RX7) (E := mE_X7_partOf) (ini := false) (by decide) rfl ⟨mk_g_X7_partOf, mk_p_X7_partOf, mk_k_X7_partOf, mk_f_X7_partOf l, mk_o_X7_partOf, mk_n_X7_partOf, by decide⟩ rfl (fun h => by cases h)
noncomputable def mt_g_X7_goesAhead : Nat → Option (Nat × Nat) := fun k => match k with
  | 38 => some (4, 5)
  | 42 => some (4, 6)
  | _ => none
noncomputable def mt_p_X7_goesAhead : Nat → Option (Nat × Nat) := fun _ => none
noncomputable def mt_k_X7_goesAhead : Nat → Option Value := fun _ => none
noncomputable def mt_f_X7_goesAhead : Nat → Option (Nat × Nat × Nat × pm_F) := fun _ => none
noncomputable def mt_o_X7_goesAhead : Nat → Option Nat := fun _ => none
noncomputable def mt_n_X7_goesAhead : Nat → Option Nat := fun _ => none
noncomputable def mE_X7_goesAhead : pm_E := (cX7_goesAhead, mt_g_X7_goesAhead, mt_p_X7_goesAhead, mt_k_X7_goesAhead, mt_f_X7_goesAhead, mt_o_X7_goesAhead, mt_n_X7_goesAhead, none, (some .boolean))
theorem mk_g_X7_goesAhead : ∀ k q, mt_g_X7_goesAhead k = some q → pm_Fok RX7 k q := by
  intro k q h
  unfold mt_g_X7_goesAhead at h
  split at h
  · cases h
    exact ⟨by decide, by decide, pt_181⟩
  · cases h
    exact ⟨by decide, by decide, pt_182⟩
  · cases h
theorem mk_p_X7_goesAhead : ∀ k q, mt_p_X7_goesAhead k = some q → pm_Fok RX7 k q ∧ ((pm_ct q.1 q.2).2.2.2 = false ∨ (false = true ∧ (pm_ct q.1 q.2).1 = RX7)) := by
  intro k q h
  unfold mt_p_X7_goesAhead at h
  cases h
theorem mk_k_X7_goesAhead : ∀ k q, mt_k_X7_goesAhead k = some q → pm_Kok RX7 k q := by
  intro k q h
  unfold mt_k_X7_goesAhead at h
  cases h
theorem mk_o_X7_goesAhead : ∀ k q, mt_o_X7_goesAhead k = some q → pm_Oko RX7 k q := by
  intro k q h
  unfold mt_o_X7_goesAhead at h
  cases h
theorem mk_n_X7_goesAhead : ∀ k q, mt_n_X7_goesAhead k = some q → pm_Nok RX7 k q := by
  intro k q h
  unfold mt_n_X7_goesAhead at h
  cases h
theorem mk_f_X7_goesAhead (l : Launch) : ∀ k q, mt_f_X7_goesAhead k = some q → pm_Cal l 1 27 RX7 k q := by
  intro k q h
  unfold mt_f_X7_goesAhead at h
  cases h
noncomputable def mF_X7_goesAhead : pm_F := pm_fn mE_X7_goesAhead 3
theorem mM_X7_goesAhead (l : Launch) : pm_Met l yX7_goesAhead cX7_goesAhead 3 (some .boolean) 1 27 mF_X7_goesAhead := pm_met (own := RX7) (E := mE_X7_goesAhead) (ini := false) (by decide) rfl ⟨mk_g_X7_goesAhead, mk_p_X7_goesAhead, mk_k_X7_goesAhead, mk_f_X7_goesAhead l, mk_o_X7_goesAhead, mk_n_X7_goesAhead, by decide⟩ rfl (fun h => by cases h)
noncomputable def mt_g_X7_howManyAheadOf : Nat → Option (Nat × Nat) := fun _ => none
noncomputable def mt_p_X7_howManyAheadOf : Nat → Option (Nat × Nat) := fun _ => none
noncomputable def mt_k_X7_howManyAheadOf : Nat → Option Value := fun _ => none
noncomputable def mt_f_X7_howManyAheadOf : Nat → Option (Nat × Nat × Nat × pm_F) := fun k => match k with
  | 189 => some (0, 2, 4, mF_X7_goesAhead)
  | _ => none
noncomputable def mt_o_X7_howManyAheadOf : Nat → Option Nat := fun _ => none
noncomputable def mt_n_X7_howManyAheadOf : Nat → Option Nat := fun _ => none
noncomputable def mE_X7_howManyAheadOf : pm_E := (cX7_howManyAheadOf, mt_g_X7_howManyAheadOf, mt_p_X7_howManyAheadOf, mt_k_X7_howManyAheadOf, mt_f_X7_howManyAheadOf, mt_o_X7_howManyAheadOf, mt_n_X7_howManyAheadOf, none, (some .int))
theorem mk_g_X7_howManyAheadOf : ∀ k q, mt_g_X7_howManyAheadOf k = some q → pm_Fok RX7 k q := by
  intro k q h
  unfold mt_g_X7_howManyAheadOf at h
  cases h
theorem mk_p_X7_howManyAheadOf : ∀ k q, mt_p_X7_howManyAheadOf k = some q → pm_Fok RX7 k q ∧ ((pm_ct q.1 q.2).2.2.2 = false ∨ (false = true ∧ (pm_ct q.1 q.2).1 = RX7)) := by
  intro k q h
  unfold mt_p_X7_howManyAheadOf at h
  cases h
theorem mk_k_X7_howManyAheadOf : ∀ k q, mt_k_X7_howManyAheadOf k = some q → pm_Kok RX7 k q := by
  intro k q h
  unfold mt_k_X7_howManyAheadOf at h
  cases h
theorem mk_o_X7_howManyAheadOf : ∀ k q, mt_o_X7_howManyAheadOf k = some q → pm_Oko RX7 k q := by
  intro k q h
  unfold mt_o_X7_howManyAheadOf at h
  cases h
theorem mk_n_X7_howManyAheadOf : ∀ k q, mt_n_X7_howManyAheadOf k = some q → pm_Nok RX7 k q := by
  intro k q h
  unfold mt_n_X7_howManyAheadOf at h
  cases h
theorem mk_f_X7_howManyAheadOf (l : Launch) : ∀ k q, mt_f_X7_howManyAheadOf k = some q → pm_Cal l 2 49 RX7 k q := by
  intro k q h
  unfold mt_f_X7_howManyAheadOf at h
  split at h
  · cases h
    exact ⟨yX7_goesAhead, cX7_goesAhead, 3, (some .boolean), 1, 27, mM_X7_goesAhead l, by decide, by decide, pt_512, pt_1, by decide, by decide, fun _ => ⟨by decide, rfl, pt_509, pt_511, pt_s20⟩, fun h => absurd h (by decide), fun h => absurd h (by decide)⟩
  · cases h
noncomputable def mF_X7_howManyAheadOf : pm_F := pm_fn mE_X7_howManyAheadOf 4
theorem mM_X7_howManyAheadOf (l : Launch) : pm_Met l yX7_howManyAheadOf cX7_howManyAheadOf 4 (some .int) 2 49 mF_X7_howManyAheadOf := pm_met (own := RX7) (E := mE_X7_howManyAheadOf) (ini := false) (by decide) rfl ⟨mk_g_X7_howManyAheadOf, mk_p_X7_howManyAheadOf, mk_k_X7_howManyAheadOf, mk_f_X7_howManyAheadOf l, mk_o_X7_howManyAheadOf, mk_n_X7_howManyAheadOf, by decide⟩ rfl (fun h => by cases h)
noncomputable def mt_g_X7_clear : Nat → Option (Nat × Nat) := fun k => match k with
  | 10 => some (4, 0)
  | _ => none
noncomputable def mt_p_X7_clear : Nat → Option (Nat × Nat) := fun _ => none
noncomputable def mt_k_X7_clear : Nat → Option Value := fun _ => none
noncomputable def mt_f_X7_clear : Nat → Option (Nat × Nat × Nat × pm_F) := fun k => match k with
  | 183 => some (0, 0, 3, mF_X6_reset)
  | _ => none
noncomputable def mt_o_X7_clear : Nat → Option Nat := fun _ => none
noncomputable def mt_n_X7_clear : Nat → Option Nat := fun _ => none
noncomputable def mE_X7_clear : pm_E := (cX7_clear, mt_g_X7_clear, mt_p_X7_clear, mt_k_X7_clear, mt_f_X7_clear, mt_o_X7_clear, mt_n_X7_clear, none, (some .int))
theorem mk_g_X7_clear : ∀ k q, mt_g_X7_clear k = some q → pm_Fok RX7 k q := by
  intro k q h
  unfold mt_g_X7_clear at h
  split at h
  · cases h
    exact ⟨by decide, by decide, pt_176⟩
  · cases h
theorem mk_p_X7_clear : ∀ k q, mt_p_X7_clear k = some q → pm_Fok RX7 k q ∧ ((pm_ct q.1 q.2).2.2.2 = false ∨ (false = true ∧ (pm_ct q.1 q.2).1 = RX7)) := by
  intro k q h
  unfold mt_p_X7_clear at h
  cases h
theorem mk_k_X7_clear : ∀ k q, mt_k_X7_clear k = some q → pm_Kok RX7 k q := by
  intro k q h
  unfold mt_k_X7_clear at h
  cases h
theorem mk_o_X7_clear : ∀ k q, mt_o_X7_clear k = some q → pm_Oko RX7 k q := by
  intro k q h
  unfold mt_o_X7_clear at h
  cases h
theorem mk_n_X7_clear : ∀ k q, mt_n_X7_clear k = some q → pm_Nok RX7 k q := by
  intro k q h
  unfold mt_n_X7_clear at h
  cases h
theorem mk_f_X7_clear (l : Launch) : ∀ k q, mt_f_X7_clear k = some q → pm_Cal l 5 129 RX7 k q := by
  intro k q h
  unfold mt_f_X7_clear at h
  split at h
  · cases h
    exact ⟨yX6_reset, cX6_reset, 3, none, 4, 107, mM_X6_reset l, by decide, by decide, pt_520, pt_2, by decide, by decide, fun _ => ⟨by decide, rfl, pt_517, pt_518, pt_519⟩, fun h => absurd h (by decide), fun h => absurd h (by decide)⟩
  · cases h
noncomputable def mF_X7_clear : pm_F := pm_fn mE_X7_clear 1
theorem mM_X7_clear (l : Launch) : pm_Met l yX7_clear cX7_clear 1 (some .int) 5 129 mF_X7_clear := pm_met (own := RX7) (E := mE_X7_clear) (ini := false) (by decide) rfl ⟨mk_g_X7_clear, mk_p_X7_clear, mk_k_X7_clear, mk_f_X7_clear l, mk_o_X7_clear, mk_n_X7_clear, by decide⟩ rfl (fun h => by cases h)
noncomputable def mt_g_X7_forget : Nat → Option (Nat × Nat) := fun k => match k with
  | 109 => some (4, 3)
  | _ => none
noncomputable def mt_p_X7_forget : Nat → Option (Nat × Nat) := fun k => match k with
  | 109 => some (4, 3)
  | _ => none
noncomputable def mt_k_X7_forget : Nat → Option Value := fun _ => none
noncomputable def mt_f_X7_forget : Nat → Option (Nat × Nat × Nat × pm_F) := fun _ => none
noncomputable def mt_o_X7_forget : Nat → Option Nat := fun _ => none
noncomputable def mt_n_X7_forget : Nat → Option Nat := fun _ => none
noncomputable def mE_X7_forget : pm_E := (cX7_forget, mt_g_X7_forget, mt_p_X7_forget, mt_k_X7_forget, mt_f_X7_forget, mt_o_X7_forget, mt_n_X7_forget, none, (some .int))
theorem mk_g_X7_forget : ∀ k q, mt_g_X7_forget k = some q → pm_Fok RX7 k q := by
  intro k q h
  unfold mt_g_X7_forget at h
  split at h
  · cases h
    exact ⟨by decide, by decide, pt_179⟩
  · cases h
theorem mk_p_X7_forget : ∀ k q, mt_p_X7_forget k = some q → pm_Fok RX7 k q ∧ ((pm_ct q.1 q.2).2.2.2 = false ∨ (false = true ∧ (pm_ct q.1 q.2).1 = RX7)) := by
  intro k q h
  unfold mt_p_X7_forget at h
  split at h
  · cases h
    exact ⟨⟨by decide, by decide, pt_179⟩, Or.inl rfl⟩
  · cases h
theorem mk_k_X7_forget : ∀ k q, mt_k_X7_forget k = some q → pm_Kok RX7 k q := by
  intro k q h
  unfold mt_k_X7_forget at h
  cases h
theorem mk_o_X7_forget : ∀ k q, mt_o_X7_forget k = some q → pm_Oko RX7 k q := by
  intro k q h
  unfold mt_o_X7_forget at h
  cases h
theorem mk_n_X7_forget : ∀ k q, mt_n_X7_forget k = some q → pm_Nok RX7 k q := by
  intro k q h
  unfold mt_n_X7_forget at h
  cases h
theorem mk_f_X7_forget (l : Launch) : ∀ k q, mt_f_X7_forget k = some q → pm_Cal l 1 27 RX7 k q := by
  intro k q h
  unfold mt_f_X7_forget at h
  cases h
noncomputable def mF_X7_forget : pm_F := pm_fn mE_X7_forget 2
theorem mM_X7_forget (l : Launch) : pm_Met l yX7_forget cX7_forget 2 (some .int) 1 27 mF_X7_forget := pm_met (own := RX7) (E := mE_X7_forget) (ini := false) (by decide) rfl ⟨mk_g_X7_forget, mk_p_X7_forget, mk_k_X7_forget, mk_f_X7_forget l, mk_o_X7_forget, mk_n_X7_forget, by decide⟩ rfl (fun h => by cases h)
noncomputable def mt_g_X8_noReal : Nat → Option (Nat × Nat) := fun _ => none
noncomputable def mt_p_X8_noReal : Nat → Option (Nat × Nat) := fun _ => none
noncomputable def mt_k_X8_noReal : Nat → Option Value := fun k => match k with
  | 135 => some (.long (9221120237041090560))
  | _ => none
noncomputable def mt_f_X8_noReal : Nat → Option (Nat × Nat × Nat × pm_F) := fun _ => none
noncomputable def mt_o_X8_noReal : Nat → Option Nat := fun _ => none
noncomputable def mt_n_X8_noReal : Nat → Option Nat := fun k => match k with
  | 137 => some 0
  | _ => none
noncomputable def mE_X8_noReal : pm_E := (cX8_noReal, mt_g_X8_noReal, mt_p_X8_noReal, mt_k_X8_noReal, mt_f_X8_noReal, mt_o_X8_noReal, mt_n_X8_noReal, none, (some .double))
theorem mk_g_X8_noReal : ∀ k q, mt_g_X8_noReal k = some q → pm_Fok RX8 k q := by
  intro k q h
  unfold mt_g_X8_noReal at h
  cases h
theorem mk_p_X8_noReal : ∀ k q, mt_p_X8_noReal k = some q → pm_Fok RX8 k q ∧ ((pm_ct q.1 q.2).2.2.2 = false ∨ (false = true ∧ (pm_ct q.1 q.2).1 = RX8)) := by
  intro k q h
  unfold mt_p_X8_noReal at h
  cases h
theorem mk_k_X8_noReal : ∀ k q, mt_k_X8_noReal k = some q → pm_Kok RX8 k q := by
  intro k q h
  unfold mt_k_X8_noReal at h
  split at h
  · cases h
    exact pt_542
  · cases h
theorem mk_o_X8_noReal : ∀ k q, mt_o_X8_noReal k = some q → pm_Oko RX8 k q := by
  intro k q h
  unfold mt_o_X8_noReal at h
  cases h
theorem mk_n_X8_noReal : ∀ k q, mt_n_X8_noReal k = some q → pm_Nok RX8 k q := by
  intro k q h
  unfold mt_n_X8_noReal at h
  split at h
  · cases h
    exact ⟨fun _ => ⟨pt_543, pt_545, pt_544, pt_7⟩, fun h => absurd h (by decide), fun h => absurd h (by decide)⟩
  · cases h
theorem mk_f_X8_noReal (l : Launch) : ∀ k q, mt_f_X8_noReal k = some q → pm_Cal l 1 27 RX8 k q := by
  intro k q h
  unfold mt_f_X8_noReal at h
  cases h
noncomputable def mF_X8_noReal : pm_F := pm_fn mE_X8_noReal 0
theorem mM_X8_noReal (l : Launch) : pm_Met l yX8_noReal cX8_noReal 0 (some .double) 1 27 mF_X8_noReal := pm_met (own := RX8) (E := mE_X8_noReal) (ini := false) (by decide) rfl ⟨mk_g_X8_noReal, mk_p_X8_noReal, mk_k_X8_noReal, mk_f_X8_noReal l, mk_o_X8_noReal, mk_n_X8_noReal, by decide⟩ rfl (fun h => by cases h)
noncomputable def mt_g_X8_clear : Nat → Option (Nat × Nat) := fun k => match k with
  | 7 => some (5, 0)
  | 13 => some (5, 1)
  | 16 => some (5, 2)
  | 23 => some (5, 4)
  | _ => none
noncomputable def mt_p_X8_clear : Nat → Option (Nat × Nat) := fun _ => none
noncomputable def mt_k_X8_clear : Nat → Option Value := fun _ => none
noncomputable def mt_f_X8_clear : Nat → Option (Nat × Nat × Nat × pm_F) := fun k => match k with
  | 85 => some (1, 0, 5, mF_X8_noReal)
  | _ => none
noncomputable def mt_o_X8_clear : Nat → Option Nat := fun _ => none
noncomputable def mt_n_X8_clear : Nat → Option Nat := fun _ => none
noncomputable def mE_X8_clear : pm_E := (cX8_clear, mt_g_X8_clear, mt_p_X8_clear, mt_k_X8_clear, mt_f_X8_clear, mt_o_X8_clear, mt_n_X8_clear, none, (some .int))
theorem mk_g_X8_clear : ∀ k q, mt_g_X8_clear k = some q → pm_Fok RX8 k q := by
  intro k q h
  unfold mt_g_X8_clear at h
  split at h
  · cases h
    exact ⟨by decide, by decide, pt_546⟩
  · cases h
    exact ⟨by decide, by decide, pt_547⟩
  · cases h
    exact ⟨by decide, by decide, pt_548⟩
  · cases h
    exact ⟨by decide, by decide, pt_550⟩
  · cases h
theorem mk_p_X8_clear : ∀ k q, mt_p_X8_clear k = some q → pm_Fok RX8 k q ∧ ((pm_ct q.1 q.2).2.2.2 = false ∨ (false = true ∧ (pm_ct q.1 q.2).1 = RX8)) := by
  intro k q h
  unfold mt_p_X8_clear at h
  cases h
theorem mk_k_X8_clear : ∀ k q, mt_k_X8_clear k = some q → pm_Kok RX8 k q := by
  intro k q h
  unfold mt_k_X8_clear at h
  cases h
theorem mk_o_X8_clear : ∀ k q, mt_o_X8_clear k = some q → pm_Oko RX8 k q := by
  intro k q h
  unfold mt_o_X8_clear at h
  cases h
theorem mk_n_X8_clear : ∀ k q, mt_n_X8_clear k = some q → pm_Nok RX8 k q := by
  intro k q h
  unfold mt_n_X8_clear at h
  cases h
theorem mk_f_X8_clear (l : Launch) : ∀ k q, mt_f_X8_clear k = some q → pm_Cal l 2 46 RX8 k q := by
  intro k q h
  unfold mt_f_X8_clear at h
  split at h
  · cases h
    exact ⟨yX8_noReal, cX8_noReal, 0, (some .double), 1, 27, mM_X8_noReal l, by decide, by decide, pt_541, pt_6, by decide, by decide, fun h => absurd h (by decide), fun _ => ⟨pt_539, pt_540⟩, fun h => absurd h (by decide)⟩
  · cases h
noncomputable def mF_X8_clear : pm_F := pm_fn mE_X8_clear 2
theorem mM_X8_clear (l : Launch) : pm_Met l yX8_clear cX8_clear 2 (some .int) 2 46 mF_X8_clear := pm_met (own := RX8) (E := mE_X8_clear) (ini := false) (by decide) rfl ⟨mk_g_X8_clear, mk_p_X8_clear, mk_k_X8_clear, mk_f_X8_clear l, mk_o_X8_clear, mk_n_X8_clear, by decide⟩ rfl (fun h => by cases h)
noncomputable def mt_g_X8_init : Nat → Option (Nat × Nat) := fun _ => none
noncomputable def mt_p_X8_init : Nat → Option (Nat × Nat) := fun k => match k with
  | 7 => some (5, 0)
  | 13 => some (5, 1)
  | 16 => some (5, 2)
  | 20 => some (5, 3)
  | 23 => some (5, 4)
  | 27 => some (5, 6)
  | 30 => some (5, 7)
  | 33 => some (5, 8)
  | 36 => some (5, 9)
  | 39 => some (5, 10)
  | 42 => some (5, 11)
  | 45 => some (5, 12)
  | 48 => some (5, 13)
  | 51 => some (5, 14)
  | 54 => some (5, 15)
  | 57 => some (5, 16)
  | 60 => some (5, 17)
  | 63 => some (5, 18)
  | 66 => some (5, 19)
  | 69 => some (5, 20)
  | 72 => some (5, 29)
  | 75 => some (5, 30)
  | 78 => some (5, 31)
  | _ => none
noncomputable def mt_k_X8_init : Nat → Option Value := fun _ => none
noncomputable def mt_f_X8_init : Nat → Option (Nat × Nat × Nat × pm_F) := fun k => match k with
  | 81 => some (0, 0, 5, mF_X8_clear)
  | _ => none
noncomputable def mt_o_X8_init : Nat → Option Nat := fun _ => none
noncomputable def mt_n_X8_init : Nat → Option Nat := fun k => match k with
  | 1 => some 2
  | _ => none
noncomputable def mE_X8_init : pm_E := (cX8_init, mt_g_X8_init, mt_p_X8_init, mt_k_X8_init, mt_f_X8_init, mt_o_X8_init, mt_n_X8_init, none, none)
theorem mk_g_X8_init : ∀ k q, mt_g_X8_init k = some q → pm_Fok RX8 k q := by
  intro k q h
  unfold mt_g_X8_init at h
  cases h
theorem mk_p_X8_init : ∀ k q, mt_p_X8_init k = some q → pm_Fok RX8 k q ∧ ((pm_ct q.1 q.2).2.2.2 = false ∨ (true = true ∧ (pm_ct q.1 q.2).1 = RX8)) := by
  intro k q h
  unfold mt_p_X8_init at h
  split at h
  · cases h
    exact ⟨⟨by decide, by decide, pt_546⟩, Or.inr ⟨rfl, rfl⟩⟩
  · cases h
    exact ⟨⟨by decide, by decide, pt_547⟩, Or.inr ⟨rfl, rfl⟩⟩
  · cases h
    exact ⟨⟨by decide, by decide, pt_548⟩, Or.inr ⟨rfl, rfl⟩⟩
  · cases h
    exact ⟨⟨by decide, by decide, pt_549⟩, Or.inr ⟨rfl, rfl⟩⟩
  · cases h
    exact ⟨⟨by decide, by decide, pt_550⟩, Or.inr ⟨rfl, rfl⟩⟩
  · cases h
    exact ⟨⟨by decide, by decide, pt_552⟩, Or.inr ⟨rfl, rfl⟩⟩
  · cases h
    exact ⟨⟨by decide, by decide, pt_553⟩, Or.inr ⟨rfl, rfl⟩⟩
  · cases h
    exact ⟨⟨by decide, by decide, pt_554⟩, Or.inr ⟨rfl, rfl⟩⟩
  · cases h
    exact ⟨⟨by decide, by decide, pt_555⟩, Or.inr ⟨rfl, rfl⟩⟩
  · cases h
    exact ⟨⟨by decide, by decide, pt_556⟩, Or.inr ⟨rfl, rfl⟩⟩
  · cases h
    exact ⟨⟨by decide, by decide, pt_557⟩, Or.inr ⟨rfl, rfl⟩⟩
  · cases h
    exact ⟨⟨by decide, by decide, pt_558⟩, Or.inr ⟨rfl, rfl⟩⟩
  · cases h
    exact ⟨⟨by decide, by decide, pt_559⟩, Or.inr ⟨rfl, rfl⟩⟩
  · cases h
    exact ⟨⟨by decide, by decide, pt_560⟩, Or.inr ⟨rfl, rfl⟩⟩
  · cases h
    exact ⟨⟨by decide, by decide, pt_561⟩, Or.inr ⟨rfl, rfl⟩⟩
  · cases h
    exact ⟨⟨by decide, by decide, pt_562⟩, Or.inr ⟨rfl, rfl⟩⟩
  · cases h
    exact ⟨⟨by decide, by decide, pt_563⟩, Or.inr ⟨rfl, rfl⟩⟩
  · cases h
    exact ⟨⟨by decide, by decide, pt_564⟩, Or.inr ⟨rfl, rfl⟩⟩
  · cases h
    exact ⟨⟨by decide, by decide, pt_565⟩, Or.inr ⟨rfl, rfl⟩⟩
  · cases h
    exact ⟨⟨by decide, by decide, pt_566⟩, Or.inr ⟨rfl, rfl⟩⟩
  · cases h
    exact ⟨⟨by decide, by decide, pt_575⟩, Or.inr ⟨rfl, rfl⟩⟩
  · cases h
    exact ⟨⟨by decide, by decide, pt_576⟩, Or.inr ⟨rfl, rfl⟩⟩
  · cases h
    exact ⟨⟨by decide, by decide, pt_577⟩, Or.inr ⟨rfl, rfl⟩⟩
  · cases h
theorem mk_k_X8_init : ∀ k q, mt_k_X8_init k = some q → pm_Kok RX8 k q := by
  intro k q h
  unfold mt_k_X8_init at h
  cases h
theorem mk_o_X8_init : ∀ k q, mt_o_X8_init k = some q → pm_Oko RX8 k q := by
  intro k q h
  unfold mt_o_X8_init at h
  cases h
theorem mk_n_X8_init : ∀ k q, mt_n_X8_init k = some q → pm_Nok RX8 k q := by
  intro k q h
  unfold mt_n_X8_init at h
  split at h
  · cases h
    exact ⟨fun h => absurd h (by decide), fun h => absurd h (by decide), fun _ => ⟨pt_534, pt_17, pt_18⟩⟩
  · cases h
theorem mk_f_X8_init (l : Launch) : ∀ k q, mt_f_X8_init k = some q → pm_Cal l 3 67 RX8 k q := by
  intro k q h
  unfold mt_f_X8_init at h
  split at h
  · cases h
    exact ⟨yX8_clear, cX8_clear, 2, (some .int), 2, 46, mM_X8_clear l, by decide, by decide, pt_538, pt_6, by decide, by decide, fun _ => ⟨by decide, rfl, pt_535, pt_536, pt_537⟩, fun h => absurd h (by decide), fun h => absurd h (by decide)⟩
  · cases h
noncomputable def mF_X8_init : pm_F := pm_fn mE_X8_init 1
theorem mM_X8_init (l : Launch) : pm_Met l yX8_init cX8_init 1 none 3 67 mF_X8_init := pm_met (own := RX8) (E := mE_X8_init) (ini := true) (by decide) rfl ⟨mk_g_X8_init, mk_p_X8_init, mk_k_X8_init, mk_f_X8_init l, mk_o_X8_init, mk_n_X8_init, by decide⟩ rfl (fun h => by rfl)
noncomputable def mt_g_X8_in : Nat → Option (Nat × Nat) := fun _ => none
noncomputable def mt_p_X8_in : Nat → Option (Nat × Nat) := fun _ => none
noncomputable def mt_k_X8_in : Nat → Option Value := fun _ => none
noncomputable def mt_f_X8_in : Nat → Option (Nat × Nat × Nat × pm_F) := fun _ => none
noncomputable def mt_o_X8_in : Nat → Option Nat := fun _ => none
noncomputable def mt_n_X8_in : Nat → Option Nat := fun _ => none
noncomputable def mE_X8_in : pm_E := (cX8_in, mt_g_X8_in, mt_p_X8_in, mt_k_X8_in, mt_f_X8_in, mt_o_X8_in, mt_n_X8_in, none, (some .boolean))
theorem mk_g_X8_in : ∀ k q, mt_g_X8_in k = some q → pm_Fok RX8 k q := by
  intro k q h
  unfold mt_g_X8_in at h
  cases h
theorem mk_p_X8_in : ∀ k q, mt_p_X8_in k = some q → pm_Fok RX8 k q ∧ ((pm_ct q.1 q.2).2.2.2 = false ∨ (false = true ∧ (pm_ct q.1 q.2).1 = RX8)) := by
  intro k q h
  unfold mt_p_X8_in at h
  cases h
theorem mk_k_X8_in : ∀ k q, mt_k_X8_in k = some q → pm_Kok RX8 k q := by
  intro k q h
  unfold mt_k_X8_in at h
  cases h
theorem mk_o_X8_in : ∀ k q, mt_o_X8_in k = some q → pm_Oko RX8 k q := by
  intro k q h
  unfold mt_o_X8_in at h
  cases h
theorem mk_n_X8_in : ∀ k q, mt_n_X8_in k = some q → pm_Nok RX8 k q := by
  intro k q h
  unfold mt_n_X8_in at h
  cases h
theorem mk_f_X8_in (l : Launch) : ∀ k q, mt_f_X8_in k = some q → pm_Cal l 1 27 RX8 k q := by
  intro k q h
  unfold mt_f_X8_in at h
  cases h
noncomputable def mF_X8_in : pm_F := pm_fn mE_X8_in 3
theorem mM_X8_in (l : Launch) : pm_Met l yX8_in cX8_in 3 (some .boolean) 1 27 mF_X8_in := pm_met (own := RX8) (E := mE_X8_in) (ini := false) (by decide) rfl ⟨mk_g_X8_in, mk_p_X8_in, mk_k_X8_in, mk_f_X8_in l, mk_o_X8_in, mk_n_X8_in, by decide⟩ rfl (fun h => by cases h)
noncomputable def mt_g_X8_tell : Nat → Option (Nat × Nat) := fun k => match k with
  | 7 => some (5, 0)
  | 13 => some (5, 1)
  | _ => none
noncomputable def mt_p_X8_tell : Nat → Option (Nat × Nat) := fun _ => none
noncomputable def mt_k_X8_tell : Nat → Option Value := fun k => match k with
  | 93 => some (.int (100000))
  | _ => none
noncomputable def mt_f_X8_tell : Nat → Option (Nat × Nat × Nat × pm_F) := fun k => match k with
  | 89 => some (1, 3, 5, mF_X8_in)
  | _ => none
noncomputable def mt_o_X8_tell : Nat → Option Nat := fun _ => none
noncomputable def mt_n_X8_tell : Nat → Option Nat := fun _ => none
noncomputable def mE_X8_tell : pm_E := (cX8_tell, mt_g_X8_tell, mt_p_X8_tell, mt_k_X8_tell, mt_f_X8_tell, mt_o_X8_tell, mt_n_X8_tell, none, (some .int))
theorem mk_g_X8_tell : ∀ k q, mt_g_X8_tell k = some q → pm_Fok RX8 k q := by
  intro k q h
  unfold mt_g_X8_tell at h
  split at h
  · cases h
    exact ⟨by decide, by decide, pt_546⟩
  · cases h
    exact ⟨by decide, by decide, pt_547⟩
  · cases h
theorem mk_p_X8_tell : ∀ k q, mt_p_X8_tell k = some q → pm_Fok RX8 k q ∧ ((pm_ct q.1 q.2).2.2.2 = false ∨ (false = true ∧ (pm_ct q.1 q.2).1 = RX8)) := by
  intro k q h
  unfold mt_p_X8_tell at h
  cases h
theorem mk_k_X8_tell : ∀ k q, mt_k_X8_tell k = some q → pm_Kok RX8 k q := by
  intro k q h
  unfold mt_k_X8_tell at h
  split at h
  · cases h
    exact pt_651
  · cases h
theorem mk_o_X8_tell : ∀ k q, mt_o_X8_tell k = some q → pm_Oko RX8 k q := by
  intro k q h
  unfold mt_o_X8_tell at h
  cases h
theorem mk_n_X8_tell : ∀ k q, mt_n_X8_tell k = some q → pm_Nok RX8 k q := by
  intro k q h
  unfold mt_n_X8_tell at h
  cases h
theorem mk_f_X8_tell (l : Launch) : ∀ k q, mt_f_X8_tell k = some q → pm_Cal l 2 49 RX8 k q := by
  intro k q h
  unfold mt_f_X8_tell at h
  split at h
  · cases h
    exact ⟨yX8_in, cX8_in, 3, (some .boolean), 1, 27, mM_X8_in l, by decide, by decide, pt_650, pt_6, by decide, by decide, fun h => absurd h (by decide), fun _ => ⟨pt_648, pt_649⟩, fun h => absurd h (by decide)⟩
  · cases h
noncomputable def mF_X8_tell : pm_F := pm_fn mE_X8_tell 5
theorem mM_X8_tell (l : Launch) : pm_Met l yX8_tell cX8_tell 5 (some .int) 2 49 mF_X8_tell := pm_met (own := RX8) (E := mE_X8_tell) (ini := false) (by decide) rfl ⟨mk_g_X8_tell, mk_p_X8_tell, mk_k_X8_tell, mk_f_X8_tell l, mk_o_X8_tell, mk_n_X8_tell, by decide⟩ rfl (fun h => by cases h)
noncomputable def mt_g_X8_realOfBits : Nat → Option (Nat × Nat) := fun _ => none
noncomputable def mt_p_X8_realOfBits : Nat → Option (Nat × Nat) := fun _ => none
noncomputable def mt_k_X8_realOfBits : Nat → Option Value := fun k => match k with
  | 140 => some (.long (9223372036854775807))
  | 142 => some (.long (9218868437227405312))
  | _ => none
noncomputable def mt_f_X8_realOfBits : Nat → Option (Nat × Nat × Nat × pm_F) := fun k => match k with
  | 85 => some (1, 0, 5, mF_X8_noReal)
  | _ => none
noncomputable def mt_o_X8_realOfBits : Nat → Option Nat := fun _ => none
noncomputable def mt_n_X8_realOfBits : Nat → Option Nat := fun k => match k with
  | 137 => some 0
  | _ => none
noncomputable def mE_X8_realOfBits : pm_E := (cX8_realOfBits, mt_g_X8_realOfBits, mt_p_X8_realOfBits, mt_k_X8_realOfBits, mt_f_X8_realOfBits, mt_o_X8_realOfBits, mt_n_X8_realOfBits, none, (some .double))
theorem mk_g_X8_realOfBits : ∀ k q, mt_g_X8_realOfBits k = some q → pm_Fok RX8 k q := by
  intro k q h
  unfold mt_g_X8_realOfBits at h
  cases h
theorem mk_p_X8_realOfBits : ∀ k q, mt_p_X8_realOfBits k = some q → pm_Fok RX8 k q ∧ ((pm_ct q.1 q.2).2.2.2 = false ∨ (false = true ∧ (pm_ct q.1 q.2).1 = RX8)) := by
  intro k q h
  unfold mt_p_X8_realOfBits at h
  cases h
theorem mk_k_X8_realOfBits : ∀ k q, mt_k_X8_realOfBits k = some q → pm_Kok RX8 k q := by
  intro k q h
  unfold mt_k_X8_realOfBits at h
  split at h
  · cases h
    exact pt_659
  · cases h
    exact pt_660
  · cases h
theorem mk_o_X8_realOfBits : ∀ k q, mt_o_X8_realOfBits k = some q → pm_Oko RX8 k q := by
  intro k q h
  unfold mt_o_X8_realOfBits at h
  cases h
theorem mk_n_X8_realOfBits : ∀ k q, mt_n_X8_realOfBits k = some q → pm_Nok RX8 k q := by
  intro k q h
  unfold mt_n_X8_realOfBits at h
  split at h
  · cases h
    exact ⟨fun _ => ⟨pt_543, pt_545, pt_544, pt_7⟩, fun h => absurd h (by decide), fun h => absurd h (by decide)⟩
  · cases h
theorem mk_f_X8_realOfBits (l : Launch) : ∀ k q, mt_f_X8_realOfBits k = some q → pm_Cal l 2 46 RX8 k q := by
  intro k q h
  unfold mt_f_X8_realOfBits at h
  split at h
  · cases h
    exact ⟨yX8_noReal, cX8_noReal, 0, (some .double), 1, 27, mM_X8_noReal l, by decide, by decide, pt_541, pt_6, by decide, by decide, fun h => absurd h (by decide), fun _ => ⟨pt_539, pt_540⟩, fun h => absurd h (by decide)⟩
  · cases h
noncomputable def mF_X8_realOfBits : pm_F := pm_fn mE_X8_realOfBits 2
theorem mM_X8_realOfBits (l : Launch) : pm_Met l yX8_realOfBits cX8_realOfBits 2 (some .double) 2 46 mF_X8_realOfBits := pm_met (own := RX8) (E := mE_X8_realOfBits) (ini := false) (by decide) rfl ⟨mk_g_X8_realOfBits, mk_p_X8_realOfBits, mk_k_X8_realOfBits, mk_f_X8_realOfBits l, mk_o_X8_realOfBits, mk_n_X8_realOfBits, by decide⟩ rfl (fun h => by cases h)
noncomputable def mt_g_X8_column : Nat → Option (Nat × Nat) := fun k => match k with
  | 16 => some (5, 2)
  | _ => none
noncomputable def mt_p_X8_column : Nat → Option (Nat × Nat) := fun _ => none
noncomputable def mt_k_X8_column : Nat → Option Value := fun _ => none
noncomputable def mt_f_X8_column : Nat → Option (Nat × Nat × Nat × pm_F) := fun k => match k with
  | 89 => some (1, 3, 5, mF_X8_in)
  | 94 => some (1, 1, 5, mF_X8_realOfBits)
  | _ => none
noncomputable def mt_o_X8_column : Nat → Option Nat := fun _ => none
noncomputable def mt_n_X8_column : Nat → Option Nat := fun _ => none
noncomputable def mE_X8_column : pm_E := (cX8_column, mt_g_X8_column, mt_p_X8_column, mt_k_X8_column, mt_f_X8_column, mt_o_X8_column, mt_n_X8_column, none, (some .int))
theorem mk_g_X8_column : ∀ k q, mt_g_X8_column k = some q → pm_Fok RX8 k q := by
  intro k q h
  unfold mt_g_X8_column at h
  split at h
  · cases h
    exact ⟨by decide, by decide, pt_548⟩
  · cases h
theorem mk_p_X8_column : ∀ k q, mt_p_X8_column k = some q → pm_Fok RX8 k q ∧ ((pm_ct q.1 q.2).2.2.2 = false ∨ (false = true ∧ (pm_ct q.1 q.2).1 = RX8)) := by
  intro k q h
  unfold mt_p_X8_column at h
  cases h
theorem mk_k_X8_column : ∀ k q, mt_k_X8_column k = some q → pm_Kok RX8 k q := by
  intro k q h
  unfold mt_k_X8_column at h
  cases h
theorem mk_o_X8_column : ∀ k q, mt_o_X8_column k = some q → pm_Oko RX8 k q := by
  intro k q h
  unfold mt_o_X8_column at h
  cases h
theorem mk_n_X8_column : ∀ k q, mt_n_X8_column k = some q → pm_Nok RX8 k q := by
  intro k q h
  unfold mt_n_X8_column at h
  cases h
theorem mk_f_X8_column (l : Launch) : ∀ k q, mt_f_X8_column k = some q → pm_Cal l 3 67 RX8 k q := by
  intro k q h
  unfold mt_f_X8_column at h
  split at h
  · cases h
    exact ⟨yX8_in, cX8_in, 3, (some .boolean), 1, 27, mM_X8_in l, by decide, by decide, pt_650, pt_6, by decide, by decide, fun h => absurd h (by decide), fun _ => ⟨pt_648, pt_649⟩, fun h => absurd h (by decide)⟩
  · cases h
    exact ⟨yX8_realOfBits, cX8_realOfBits, 2, (some .double), 2, 46, mM_X8_realOfBits l, by decide, by decide, pt_658, pt_6, by decide, by decide, fun h => absurd h (by decide), fun _ => ⟨pt_656, pt_657⟩, fun h => absurd h (by decide)⟩
  · cases h
noncomputable def mF_X8_column : pm_F := pm_fn mE_X8_column 5
theorem mM_X8_column (l : Launch) : pm_Met l yX8_column cX8_column 5 (some .int) 3 67 mF_X8_column := pm_met (own := RX8) (E := mE_X8_column) (ini := false) (by decide) rfl ⟨mk_g_X8_column, mk_p_X8_column, mk_k_X8_column, mk_f_X8_column l, mk_o_X8_column, mk_n_X8_column, by decide⟩ rfl (fun h => by cases h)
noncomputable def mt_g_X8_given : Nat → Option (Nat × Nat) := fun k => match k with
  | 20 => some (5, 3)
  | 23 => some (5, 4)
  | _ => none
noncomputable def mt_p_X8_given : Nat → Option (Nat × Nat) := fun _ => none
noncomputable def mt_k_X8_given : Nat → Option Value := fun _ => none
noncomputable def mt_f_X8_given : Nat → Option (Nat × Nat × Nat × pm_F) := fun k => match k with
  | 89 => some (1, 3, 5, mF_X8_in)
  | 94 => some (1, 1, 5, mF_X8_realOfBits)
  | _ => none
noncomputable def mt_o_X8_given : Nat → Option Nat := fun _ => none
noncomputable def mt_n_X8_given : Nat → Option Nat := fun _ => none
noncomputable def mE_X8_given : pm_E := (cX8_given, mt_g_X8_given, mt_p_X8_given, mt_k_X8_given, mt_f_X8_given, mt_o_X8_given, mt_n_X8_given, none, (some .int))
theorem mk_g_X8_given : ∀ k q, mt_g_X8_given k = some q → pm_Fok RX8 k q := by
  intro k q h
  unfold mt_g_X8_given at h
  split at h
  · cases h
    exact ⟨by decide, by decide, pt_549⟩
  · cases h
    exact ⟨by decide, by decide, pt_550⟩
  · cases h
theorem mk_p_X8_given : ∀ k q, mt_p_X8_given k = some q → pm_Fok RX8 k q ∧ ((pm_ct q.1 q.2).2.2.2 = false ∨ (false = true ∧ (pm_ct q.1 q.2).1 = RX8)) := by
  intro k q h
  unfold mt_p_X8_given at h
  cases h
theorem mk_k_X8_given : ∀ k q, mt_k_X8_given k = some q → pm_Kok RX8 k q := by
  intro k q h
  unfold mt_k_X8_given at h
  cases h
theorem mk_o_X8_given : ∀ k q, mt_o_X8_given k = some q → pm_Oko RX8 k q := by
  intro k q h
  unfold mt_o_X8_given at h
  cases h
theorem mk_n_X8_given : ∀ k q, mt_n_X8_given k = some q → pm_Nok RX8 k q := by
  intro k q h
  unfold mt_n_X8_given at h
  cases h
theorem mk_f_X8_given (l : Launch) : ∀ k q, mt_f_X8_given k = some q → pm_Cal l 3 67 RX8 k q := by
  intro k q h
  unfold mt_f_X8_given at h
  split at h
  · cases h
    exact ⟨yX8_in, cX8_in, 3, (some .boolean), 1, 27, mM_X8_in l, by decide, by decide, pt_650, pt_6, by decide, by decide, fun h => absurd h (by decide), fun _ => ⟨pt_648, pt_649⟩, fun h => absurd h (by decide)⟩
  · cases h
    exact ⟨yX8_realOfBits, cX8_realOfBits, 2, (some .double), 2, 46, mM_X8_realOfBits l, by decide, by decide, pt_658, pt_6, by decide, by decide, fun h => absurd h (by decide), fun _ => ⟨pt_656, pt_657⟩, fun h => absurd h (by decide)⟩
  · cases h
noncomputable def mF_X8_given : pm_F := pm_fn mE_X8_given 6
theorem mM_X8_given (l : Launch) : pm_Met l yX8_given cX8_given 6 (some .int) 3 67 mF_X8_given := pm_met (own := RX8) (E := mE_X8_given) (ini := false) (by decide) rfl ⟨mk_g_X8_given, mk_p_X8_given, mk_k_X8_given, mk_f_X8_given l, mk_o_X8_given, mk_n_X8_given, by decide⟩ rfl (fun h => by cases h)
noncomputable def mt_g_X8_valueOf : Nat → Option (Nat × Nat) := fun _ => none
noncomputable def mt_p_X8_valueOf : Nat → Option (Nat × Nat) := fun _ => none
noncomputable def mt_k_X8_valueOf : Nat → Option Value := fun _ => none
noncomputable def mt_f_X8_valueOf : Nat → Option (Nat × Nat × Nat × pm_F) := fun _ => none
noncomputable def mt_o_X8_valueOf : Nat → Option Nat := fun _ => none
noncomputable def mt_n_X8_valueOf : Nat → Option Nat := fun _ => none
noncomputable def mE_X8_valueOf : pm_E := (cX8_valueOf, mt_g_X8_valueOf, mt_p_X8_valueOf, mt_k_X8_valueOf, mt_f_X8_valueOf, mt_o_X8_valueOf, mt_n_X8_valueOf, none, (some .int))
theorem mk_g_X8_valueOf : ∀ k q, mt_g_X8_valueOf k = some q → pm_Fok RX8 k q := by
  intro k q h
  unfold mt_g_X8_valueOf at h
  cases h
theorem mk_p_X8_valueOf : ∀ k q, mt_p_X8_valueOf k = some q → pm_Fok RX8 k q ∧ ((pm_ct q.1 q.2).2.2.2 = false ∨ (false = true ∧ (pm_ct q.1 q.2).1 = RX8)) := by
  intro k q h
  unfold mt_p_X8_valueOf at h
  cases h
theorem mk_k_X8_valueOf : ∀ k q, mt_k_X8_valueOf k = some q → pm_Kok RX8 k q := by
  intro k q h
  unfold mt_k_X8_valueOf at h
  cases h
theorem mk_o_X8_valueOf : ∀ k q, mt_o_X8_valueOf k = some q → pm_Oko RX8 k q := by
  intro k q h
  unfold mt_o_X8_valueOf at h
  cases h
theorem mk_n_X8_valueOf : ∀ k q, mt_n_X8_valueOf k = some q → pm_Nok RX8 k q := by
  intro k q h
  unfold mt_n_X8_valueOf at h
  cases h
theorem mk_f_X8_valueOf (l : Launch) : ∀ k q, mt_f_X8_valueOf k = some q → pm_Cal l 1 27 RX8 k q := by
  intro k q h
  unfold mt_f_X8_valueOf at h
  cases h
noncomputable def mF_X8_valueOf : pm_F := pm_fn mE_X8_valueOf 1
theorem mM_X8_valueOf (l : Launch) : pm_Met l yX8_valueOf cX8_valueOf 1 (some .int) 1 27 mF_X8_valueOf := pm_met (own := RX8) (E := mE_X8_valueOf) (ini := false) (by decide) rfl ⟨mk_g_X8_valueOf, mk_p_X8_valueOf, mk_k_X8_valueOf, mk_f_X8_valueOf l, mk_o_X8_valueOf, mk_n_X8_valueOf, by decide⟩ rfl (fun h => by cases h)
noncomputable def mt_g_X8_byteOf : Nat → Option (Nat × Nat) := fun _ => none
noncomputable def mt_p_X8_byteOf : Nat → Option (Nat × Nat) := fun _ => none
noncomputable def mt_k_X8_byteOf : Nat → Option Value := fun _ => none
noncomputable def mt_f_X8_byteOf : Nat → Option (Nat × Nat × Nat × pm_F) := fun k => match k with
  | 98 => some (1, 1, 5, mF_X8_valueOf)
  | _ => none
noncomputable def mt_o_X8_byteOf : Nat → Option Nat := fun _ => none
noncomputable def mt_n_X8_byteOf : Nat → Option Nat := fun _ => none
noncomputable def mE_X8_byteOf : pm_E := (cX8_byteOf, mt_g_X8_byteOf, mt_p_X8_byteOf, mt_k_X8_byteOf, mt_f_X8_byteOf, mt_o_X8_byteOf, mt_n_X8_byteOf, none, (some .int))
theorem mk_g_X8_byteOf : ∀ k q, mt_g_X8_byteOf k = some q → pm_Fok RX8 k q := by
  intro k q h
  unfold mt_g_X8_byteOf at h
  cases h
theorem mk_p_X8_byteOf : ∀ k q, mt_p_X8_byteOf k = some q → pm_Fok RX8 k q ∧ ((pm_ct q.1 q.2).2.2.2 = false ∨ (false = true ∧ (pm_ct q.1 q.2).1 = RX8)) := by
  intro k q h
  unfold mt_p_X8_byteOf at h
  cases h
theorem mk_k_X8_byteOf : ∀ k q, mt_k_X8_byteOf k = some q → pm_Kok RX8 k q := by
  intro k q h
  unfold mt_k_X8_byteOf at h
  cases h
theorem mk_o_X8_byteOf : ∀ k q, mt_o_X8_byteOf k = some q → pm_Oko RX8 k q := by
  intro k q h
  unfold mt_o_X8_byteOf at h
  cases h
theorem mk_n_X8_byteOf : ∀ k q, mt_n_X8_byteOf k = some q → pm_Nok RX8 k q := by
  intro k q h
  unfold mt_n_X8_byteOf at h
  cases h
theorem mk_f_X8_byteOf (l : Launch) : ∀ k q, mt_f_X8_byteOf k = some q → pm_Cal l 2 47 RX8 k q := by
  intro k q h
  unfold mt_f_X8_byteOf at h
  split at h
  · cases h
    exact ⟨yX8_valueOf, cX8_valueOf, 1, (some .int), 1, 27, mM_X8_valueOf l, by decide, by decide, pt_674, pt_6, by decide, by decide, fun h => absurd h (by decide), fun _ => ⟨pt_672, pt_673⟩, fun h => absurd h (by decide)⟩
  · cases h
noncomputable def mF_X8_byteOf : pm_F := pm_fn mE_X8_byteOf 2
theorem mM_X8_byteOf (l : Launch) : pm_Met l yX8_byteOf cX8_byteOf 2 (some .int) 2 47 mF_X8_byteOf := pm_met (own := RX8) (E := mE_X8_byteOf) (ini := false) (by decide) rfl ⟨mk_g_X8_byteOf, mk_p_X8_byteOf, mk_k_X8_byteOf, mk_f_X8_byteOf l, mk_o_X8_byteOf, mk_n_X8_byteOf, by decide⟩ rfl (fun h => by cases h)
noncomputable def mt_g_X8_packed : Nat → Option (Nat × Nat) := fun _ => none
noncomputable def mt_p_X8_packed : Nat → Option (Nat × Nat) := fun _ => none
noncomputable def mt_k_X8_packed : Nat → Option Value := fun k => match k with
  | 93 => some (.int (100000))
  | _ => none
noncomputable def mt_f_X8_packed : Nat → Option (Nat × Nat × Nat × pm_F) := fun k => match k with
  | 89 => some (1, 3, 5, mF_X8_in)
  | 98 => some (1, 1, 5, mF_X8_valueOf)
  | 102 => some (1, 1, 5, mF_X8_byteOf)
  | _ => none
noncomputable def mt_o_X8_packed : Nat → Option Nat := fun _ => none
noncomputable def mt_n_X8_packed : Nat → Option Nat := fun _ => none
noncomputable def mE_X8_packed : pm_E := (cX8_packed, mt_g_X8_packed, mt_p_X8_packed, mt_k_X8_packed, mt_f_X8_packed, mt_o_X8_packed, mt_n_X8_packed, none, (some .int))
theorem mk_g_X8_packed : ∀ k q, mt_g_X8_packed k = some q → pm_Fok RX8 k q := by
  intro k q h
  unfold mt_g_X8_packed at h
  cases h
theorem mk_p_X8_packed : ∀ k q, mt_p_X8_packed k = some q → pm_Fok RX8 k q ∧ ((pm_ct q.1 q.2).2.2.2 = false ∨ (false = true ∧ (pm_ct q.1 q.2).1 = RX8)) := by
  intro k q h
  unfold mt_p_X8_packed at h
  cases h
theorem mk_k_X8_packed : ∀ k q, mt_k_X8_packed k = some q → pm_Kok RX8 k q := by
  intro k q h
  unfold mt_k_X8_packed at h
  split at h
  · cases h
    exact pt_651
  · cases h
theorem mk_o_X8_packed : ∀ k q, mt_o_X8_packed k = some q → pm_Oko RX8 k q := by
  intro k q h
  unfold mt_o_X8_packed at h
  cases h
theorem mk_n_X8_packed : ∀ k q, mt_n_X8_packed k = some q → pm_Nok RX8 k q := by
  intro k q h
  unfold mt_n_X8_packed at h
  cases h
theorem mk_f_X8_packed (l : Launch) : ∀ k q, mt_f_X8_packed k = some q → pm_Cal l 3 68 RX8 k q := by
  intro k q h
  unfold mt_f_X8_packed at h
  split at h
  · cases h
    exact ⟨yX8_in, cX8_in, 3, (some .boolean), 1, 27, mM_X8_in l, by decide, by decide, pt_650, pt_6, by decide, by decide, fun h => absurd h (by decide), fun _ => ⟨pt_648, pt_649⟩, fun h => absurd h (by decide)⟩
  · cases h
    exact ⟨yX8_valueOf, cX8_valueOf, 1, (some .int), 1, 27, mM_X8_valueOf l, by decide, by decide, pt_674, pt_6, by decide, by decide, fun h => absurd h (by decide), fun _ => ⟨pt_672, pt_673⟩, fun h => absurd h (by decide)⟩
  · cases h
    exact ⟨yX8_byteOf, cX8_byteOf, 2, (some .int), 2, 47, mM_X8_byteOf l, by decide, by decide, pt_671, pt_6, by decide, by decide, fun h => absurd h (by decide), fun _ => ⟨pt_669, pt_670⟩, fun h => absurd h (by decide)⟩
  · cases h
noncomputable def mF_X8_packed : pm_F := pm_fn mE_X8_packed 3
theorem mM_X8_packed (l : Launch) : pm_Met l yX8_packed cX8_packed 3 (some .int) 3 68 mF_X8_packed := pm_met (own := RX8) (E := mE_X8_packed) (ini := false) (by decide) rfl ⟨mk_g_X8_packed, mk_p_X8_packed, mk_k_X8_packed, mk_f_X8_packed l, mk_o_X8_packed, mk_n_X8_packed, by decide⟩ rfl (fun h => by cases h)
noncomputable def mt_g_X8_isEndlessReal : Nat → Option (Nat × Nat) := fun _ => none
noncomputable def mt_p_X8_isEndlessReal : Nat → Option (Nat × Nat) := fun _ => none
noncomputable def mt_k_X8_isEndlessReal : Nat → Option Value := fun k => match k with
  | 144 => some (.double (9218868437227405311))
  | 146 => some (.double (18442240474082181119))
  | _ => none
noncomputable def mt_f_X8_isEndlessReal : Nat → Option (Nat × Nat × Nat × pm_F) := fun _ => none
noncomputable def mt_o_X8_isEndlessReal : Nat → Option Nat := fun _ => none
noncomputable def mt_n_X8_isEndlessReal : Nat → Option Nat := fun _ => none
noncomputable def mE_X8_isEndlessReal : pm_E := (cX8_isEndlessReal, mt_g_X8_isEndlessReal, mt_p_X8_isEndlessReal, mt_k_X8_isEndlessReal, mt_f_X8_isEndlessReal, mt_o_X8_isEndlessReal, mt_n_X8_isEndlessReal, none, (some .boolean))
theorem mk_g_X8_isEndlessReal : ∀ k q, mt_g_X8_isEndlessReal k = some q → pm_Fok RX8 k q := by
  intro k q h
  unfold mt_g_X8_isEndlessReal at h
  cases h
theorem mk_p_X8_isEndlessReal : ∀ k q, mt_p_X8_isEndlessReal k = some q → pm_Fok RX8 k q ∧ ((pm_ct q.1 q.2).2.2.2 = false ∨ (false = true ∧ (pm_ct q.1 q.2).1 = RX8)) := by
  intro k q h
  unfold mt_p_X8_isEndlessReal at h
  cases h
theorem mk_k_X8_isEndlessReal : ∀ k q, mt_k_X8_isEndlessReal k = some q → pm_Kok RX8 k q := by
  intro k q h
  unfold mt_k_X8_isEndlessReal at h
  split at h
  · cases h
    exact pt_689
  · cases h
    exact pt_690
  · cases h
theorem mk_o_X8_isEndlessReal : ∀ k q, mt_o_X8_isEndlessReal k = some q → pm_Oko RX8 k q := by
  intro k q h
  unfold mt_o_X8_isEndlessReal at h
  cases h
theorem mk_n_X8_isEndlessReal : ∀ k q, mt_n_X8_isEndlessReal k = some q → pm_Nok RX8 k q := by
  intro k q h
  unfold mt_n_X8_isEndlessReal at h
  cases h
theorem mk_f_X8_isEndlessReal (l : Launch) : ∀ k q, mt_f_X8_isEndlessReal k = some q → pm_Cal l 1 27 RX8 k q := by
  intro k q h
  unfold mt_f_X8_isEndlessReal at h
  cases h
noncomputable def mF_X8_isEndlessReal : pm_F := pm_fn mE_X8_isEndlessReal 2
theorem mM_X8_isEndlessReal (l : Launch) : pm_Met l yX8_isEndlessReal cX8_isEndlessReal 2 (some .boolean) 1 27 mF_X8_isEndlessReal := pm_met (own := RX8) (E := mE_X8_isEndlessReal) (ini := false) (by decide) rfl ⟨mk_g_X8_isEndlessReal, mk_p_X8_isEndlessReal, mk_k_X8_isEndlessReal, mk_f_X8_isEndlessReal l, mk_o_X8_isEndlessReal, mk_n_X8_isEndlessReal, by decide⟩ rfl (fun h => by cases h)
noncomputable def mt_g_X8_realOver : Nat → Option (Nat × Nat) := fun _ => none
noncomputable def mt_p_X8_realOver : Nat → Option (Nat × Nat) := fun _ => none
noncomputable def mt_k_X8_realOver : Nat → Option Value := fun _ => none
noncomputable def mt_f_X8_realOver : Nat → Option (Nat × Nat × Nat × pm_F) := fun k => match k with
  | 85 => some (1, 0, 5, mF_X8_noReal)
  | 148 => some (1, 1, 5, mF_X8_isEndlessReal)
  | _ => none
noncomputable def mt_o_X8_realOver : Nat → Option Nat := fun _ => none
noncomputable def mt_n_X8_realOver : Nat → Option Nat := fun _ => none
noncomputable def mE_X8_realOver : pm_E := (cX8_realOver, mt_g_X8_realOver, mt_p_X8_realOver, mt_k_X8_realOver, mt_f_X8_realOver, mt_o_X8_realOver, mt_n_X8_realOver, none, (some .double))
theorem mk_g_X8_realOver : ∀ k q, mt_g_X8_realOver k = some q → pm_Fok RX8 k q := by
  intro k q h
  unfold mt_g_X8_realOver at h
  cases h
theorem mk_p_X8_realOver : ∀ k q, mt_p_X8_realOver k = some q → pm_Fok RX8 k q ∧ ((pm_ct q.1 q.2).2.2.2 = false ∨ (false = true ∧ (pm_ct q.1 q.2).1 = RX8)) := by
  intro k q h
  unfold mt_p_X8_realOver at h
  cases h
theorem mk_k_X8_realOver : ∀ k q, mt_k_X8_realOver k = some q → pm_Kok RX8 k q := by
  intro k q h
  unfold mt_k_X8_realOver at h
  cases h
theorem mk_o_X8_realOver : ∀ k q, mt_o_X8_realOver k = some q → pm_Oko RX8 k q := by
  intro k q h
  unfold mt_o_X8_realOver at h
  cases h
theorem mk_n_X8_realOver : ∀ k q, mt_n_X8_realOver k = some q → pm_Nok RX8 k q := by
  intro k q h
  unfold mt_n_X8_realOver at h
  cases h
theorem mk_f_X8_realOver (l : Launch) : ∀ k q, mt_f_X8_realOver k = some q → pm_Cal l 2 48 RX8 k q := by
  intro k q h
  unfold mt_f_X8_realOver at h
  split at h
  · cases h
    exact ⟨yX8_noReal, cX8_noReal, 0, (some .double), 1, 27, mM_X8_noReal l, by decide, by decide, pt_541, pt_6, by decide, by decide, fun h => absurd h (by decide), fun _ => ⟨pt_539, pt_540⟩, fun h => absurd h (by decide)⟩
  · cases h
    exact ⟨yX8_isEndlessReal, cX8_isEndlessReal, 2, (some .boolean), 1, 27, mM_X8_isEndlessReal l, by decide, by decide, pt_688, pt_6, by decide, by decide, fun h => absurd h (by decide), fun _ => ⟨pt_686, pt_687⟩, fun h => absurd h (by decide)⟩
  · cases h
noncomputable def mF_X8_realOver : pm_F := pm_fn mE_X8_realOver 4
theorem mM_X8_realOver (l : Launch) : pm_Met l yX8_realOver cX8_realOver 4 (some .double) 2 48 mF_X8_realOver := pm_met (own := RX8) (E := mE_X8_realOver) (ini := false) (by decide) rfl ⟨mk_g_X8_realOver, mk_p_X8_realOver, mk_k_X8_realOver, mk_f_X8_realOver l, mk_o_X8_realOver, mk_n_X8_realOver, by decide⟩ rfl (fun h => by cases h)
noncomputable def mt_g_X8_averageOf : Nat → Option (Nat × Nat) := fun k => match k with
  | 13 => some (5, 1)
  | 20 => some (5, 3)
  | 23 => some (5, 4)
  | _ => none
noncomputable def mt_p_X8_averageOf : Nat → Option (Nat × Nat) := fun _ => none
noncomputable def mt_k_X8_averageOf : Nat → Option Value := fun _ => none
noncomputable def mt_f_X8_averageOf : Nat → Option (Nat × Nat × Nat × pm_F) := fun k => match k with
  | 98 => some (1, 1, 5, mF_X8_valueOf)
  | 102 => some (1, 1, 5, mF_X8_byteOf)
  | 105 => some (1, 2, 5, mF_X8_realOver)
  | _ => none
noncomputable def mt_o_X8_averageOf : Nat → Option Nat := fun _ => none
noncomputable def mt_n_X8_averageOf : Nat → Option Nat := fun _ => none
noncomputable def mE_X8_averageOf : pm_E := (cX8_averageOf, mt_g_X8_averageOf, mt_p_X8_averageOf, mt_k_X8_averageOf, mt_f_X8_averageOf, mt_o_X8_averageOf, mt_n_X8_averageOf, none, (some .double))
theorem mk_g_X8_averageOf : ∀ k q, mt_g_X8_averageOf k = some q → pm_Fok RX8 k q := by
  intro k q h
  unfold mt_g_X8_averageOf at h
  split at h
  · cases h
    exact ⟨by decide, by decide, pt_547⟩
  · cases h
    exact ⟨by decide, by decide, pt_549⟩
  · cases h
    exact ⟨by decide, by decide, pt_550⟩
  · cases h
theorem mk_p_X8_averageOf : ∀ k q, mt_p_X8_averageOf k = some q → pm_Fok RX8 k q ∧ ((pm_ct q.1 q.2).2.2.2 = false ∨ (false = true ∧ (pm_ct q.1 q.2).1 = RX8)) := by
  intro k q h
  unfold mt_p_X8_averageOf at h
  cases h
theorem mk_k_X8_averageOf : ∀ k q, mt_k_X8_averageOf k = some q → pm_Kok RX8 k q := by
  intro k q h
  unfold mt_k_X8_averageOf at h
  cases h
theorem mk_o_X8_averageOf : ∀ k q, mt_o_X8_averageOf k = some q → pm_Oko RX8 k q := by
  intro k q h
  unfold mt_o_X8_averageOf at h
  cases h
theorem mk_n_X8_averageOf : ∀ k q, mt_n_X8_averageOf k = some q → pm_Nok RX8 k q := by
  intro k q h
  unfold mt_n_X8_averageOf at h
  cases h
theorem mk_f_X8_averageOf (l : Launch) : ∀ k q, mt_f_X8_averageOf k = some q → pm_Cal l 3 71 RX8 k q := by
  intro k q h
  unfold mt_f_X8_averageOf at h
  split at h
  · cases h
    exact ⟨yX8_valueOf, cX8_valueOf, 1, (some .int), 1, 27, mM_X8_valueOf l, by decide, by decide, pt_674, pt_6, by decide, by decide, fun h => absurd h (by decide), fun _ => ⟨pt_672, pt_673⟩, fun h => absurd h (by decide)⟩
  · cases h
    exact ⟨yX8_byteOf, cX8_byteOf, 2, (some .int), 2, 47, mM_X8_byteOf l, by decide, by decide, pt_671, pt_6, by decide, by decide, fun h => absurd h (by decide), fun _ => ⟨pt_669, pt_670⟩, fun h => absurd h (by decide)⟩
  · cases h
    exact ⟨yX8_realOver, cX8_realOver, 4, (some .double), 2, 48, mM_X8_realOver l, by decide, by decide, pt_685, pt_6, by decide, by decide, fun h => absurd h (by decide), fun _ => ⟨pt_683, pt_684⟩, fun h => absurd h (by decide)⟩
  · cases h
noncomputable def mF_X8_averageOf : pm_F := pm_fn mE_X8_averageOf 6
theorem mM_X8_averageOf (l : Launch) : pm_Met l yX8_averageOf cX8_averageOf 6 (some .double) 3 71 mF_X8_averageOf := pm_met (own := RX8) (E := mE_X8_averageOf) (ini := false) (by decide) rfl ⟨mk_g_X8_averageOf, mk_p_X8_averageOf, mk_k_X8_averageOf, mk_f_X8_averageOf l, mk_o_X8_averageOf, mk_n_X8_averageOf, by decide⟩ rfl (fun h => by cases h)
noncomputable def mt_g_Jxe99ae_isNaN_b9ae7 : Nat → Option (Nat × Nat) := fun _ => none
noncomputable def mt_p_Jxe99ae_isNaN_b9ae7 : Nat → Option (Nat × Nat) := fun _ => none
noncomputable def mt_k_Jxe99ae_isNaN_b9ae7 : Nat → Option Value := fun _ => none
noncomputable def mt_f_Jxe99ae_isNaN_b9ae7 : Nat → Option (Nat × Nat × Nat × pm_F) := fun _ => none
noncomputable def mt_o_Jxe99ae_isNaN_b9ae7 : Nat → Option Nat := fun _ => none
noncomputable def mt_n_Jxe99ae_isNaN_b9ae7 : Nat → Option Nat := fun _ => none
noncomputable def mE_Jxe99ae_isNaN_b9ae7 : pm_E := (cJxe99ae_isNaN_b9ae7, mt_g_Jxe99ae_isNaN_b9ae7, mt_p_Jxe99ae_isNaN_b9ae7, mt_k_Jxe99ae_isNaN_b9ae7, mt_f_Jxe99ae_isNaN_b9ae7, mt_o_Jxe99ae_isNaN_b9ae7, mt_n_Jxe99ae_isNaN_b9ae7, none, (some .boolean))
theorem mk_g_Jxe99ae_isNaN_b9ae7 : ∀ k q, mt_g_Jxe99ae_isNaN_b9ae7 k = some q → pm_Fok RJxe99ae k q := by
  intro k q h
  unfold mt_g_Jxe99ae_isNaN_b9ae7 at h
  cases h
theorem mk_p_Jxe99ae_isNaN_b9ae7 : ∀ k q, mt_p_Jxe99ae_isNaN_b9ae7 k = some q → pm_Fok RJxe99ae k q ∧ ((pm_ct q.1 q.2).2.2.2 = false ∨ (false = true ∧ (pm_ct q.1 q.2).1 = RJxe99ae)) := by
  intro k q h
  unfold mt_p_Jxe99ae_isNaN_b9ae7 at h
  cases h
theorem mk_k_Jxe99ae_isNaN_b9ae7 : ∀ k q, mt_k_Jxe99ae_isNaN_b9ae7 k = some q → pm_Kok RJxe99ae k q := by
  intro k q h
  unfold mt_k_Jxe99ae_isNaN_b9ae7 at h
  cases h
theorem mk_o_Jxe99ae_isNaN_b9ae7 : ∀ k q, mt_o_Jxe99ae_isNaN_b9ae7 k = some q → pm_Oko RJxe99ae k q := by
  intro k q h
  unfold mt_o_Jxe99ae_isNaN_b9ae7 at h
  cases h
theorem mk_n_Jxe99ae_isNaN_b9ae7 : ∀ k q, mt_n_Jxe99ae_isNaN_b9ae7 k = some q → pm_Nok RJxe99ae k q := by
  intro k q h
  unfold mt_n_Jxe99ae_isNaN_b9ae7 at h
  cases h
theorem mk_f_Jxe99ae_isNaN_b9ae7 (l : Launch) : ∀ k q, mt_f_Jxe99ae_isNaN_b9ae7 k = some q → pm_Cal l 1 27 RJxe99ae k q := by
  intro k q h
  unfold mt_f_Jxe99ae_isNaN_b9ae7 at h
  cases h
noncomputable def mF_Jxe99ae_isNaN_b9ae7 : pm_F := pm_fn mE_Jxe99ae_isNaN_b9ae7 2
theorem mM_Jxe99ae_isNaN_b9ae7 (l : Launch) : pm_Met l yJxe99ae_isNaN_b9ae7 cJxe99ae_isNaN_b9ae7 2 (some .boolean) 1 27 mF_Jxe99ae_isNaN_b9ae7 := pm_met (own := RJxe99ae) (E := mE_Jxe99ae_isNaN_b9ae7) (ini := false) (by decide) rfl ⟨mk_g_Jxe99ae_isNaN_b9ae7, mk_p_Jxe99ae_isNaN_b9ae7, mk_k_Jxe99ae_isNaN_b9ae7, mk_f_Jxe99ae_isNaN_b9ae7 l, mk_o_Jxe99ae_isNaN_b9ae7, mk_n_Jxe99ae_isNaN_b9ae7, by decide⟩ rfl (fun h => by cases h)
noncomputable def mt_g_Jxe99ae_doubleToLongBits_ccdee : Nat → Option (Nat × Nat) := fun _ => none
noncomputable def mt_p_Jxe99ae_doubleToLongBits_ccdee : Nat → Option (Nat × Nat) := fun _ => none
noncomputable def mt_k_Jxe99ae_doubleToLongBits_ccdee : Nat → Option Value := fun k => match k with
  | 137 => some (.long (9221120237041090560))
  | _ => none
noncomputable def mt_f_Jxe99ae_doubleToLongBits_ccdee : Nat → Option (Nat × Nat × Nat × pm_F) := fun k => match k with
  | 122 => some (1, 1, 9, mF_Jxe99ae_isNaN_b9ae7)
  | _ => none
noncomputable def mt_o_Jxe99ae_doubleToLongBits_ccdee : Nat → Option Nat := fun _ => none
noncomputable def mt_n_Jxe99ae_doubleToLongBits_ccdee : Nat → Option Nat := fun k => match k with
  | 134 => some 1
  | _ => none
noncomputable def mE_Jxe99ae_doubleToLongBits_ccdee : pm_E := (cJxe99ae_doubleToLongBits_ccdee, mt_g_Jxe99ae_doubleToLongBits_ccdee, mt_p_Jxe99ae_doubleToLongBits_ccdee, mt_k_Jxe99ae_doubleToLongBits_ccdee, mt_f_Jxe99ae_doubleToLongBits_ccdee, mt_o_Jxe99ae_doubleToLongBits_ccdee, mt_n_Jxe99ae_doubleToLongBits_ccdee, none, (some .long))
theorem mk_g_Jxe99ae_doubleToLongBits_ccdee : ∀ k q, mt_g_Jxe99ae_doubleToLongBits_ccdee k = some q → pm_Fok RJxe99ae k q := by
  intro k q h
  unfold mt_g_Jxe99ae_doubleToLongBits_ccdee at h
  cases h
theorem mk_p_Jxe99ae_doubleToLongBits_ccdee : ∀ k q, mt_p_Jxe99ae_doubleToLongBits_ccdee k = some q → pm_Fok RJxe99ae k q ∧ ((pm_ct q.1 q.2).2.2.2 = false ∨ (false = true ∧ (pm_ct q.1 q.2).1 = RJxe99ae)) := by
  intro k q h
  unfold mt_p_Jxe99ae_doubleToLongBits_ccdee at h
  cases h
theorem mk_k_Jxe99ae_doubleToLongBits_ccdee : ∀ k q, mt_k_Jxe99ae_doubleToLongBits_ccdee k = some q → pm_Kok RJxe99ae k q := by
  intro k q h
  unfold mt_k_Jxe99ae_doubleToLongBits_ccdee at h
  split at h
  · cases h
    exact pt_700
  · cases h
theorem mk_o_Jxe99ae_doubleToLongBits_ccdee : ∀ k q, mt_o_Jxe99ae_doubleToLongBits_ccdee k = some q → pm_Oko RJxe99ae k q := by
  intro k q h
  unfold mt_o_Jxe99ae_doubleToLongBits_ccdee at h
  cases h
theorem mk_n_Jxe99ae_doubleToLongBits_ccdee : ∀ k q, mt_n_Jxe99ae_doubleToLongBits_ccdee k = some q → pm_Nok RJxe99ae k q := by
  intro k q h
  unfold mt_n_Jxe99ae_doubleToLongBits_ccdee at h
  split at h
  · cases h
    exact ⟨fun h => absurd h (by decide), fun _ => ⟨pt_697, pt_699, pt_698, pt_7⟩, fun h => absurd h (by decide)⟩
  · cases h
theorem mk_f_Jxe99ae_doubleToLongBits_ccdee (l : Launch) : ∀ k q, mt_f_Jxe99ae_doubleToLongBits_ccdee k = some q → pm_Cal l 2 48 RJxe99ae k q := by
  intro k q h
  unfold mt_f_Jxe99ae_doubleToLongBits_ccdee at h
  split at h
  · cases h
    exact ⟨yJxe99ae_isNaN_b9ae7, cJxe99ae_isNaN_b9ae7, 2, (some .boolean), 1, 27, mM_Jxe99ae_isNaN_b9ae7 l, by decide, by decide, pt_696, pt_7, by decide, by decide, fun h => absurd h (by decide), fun _ => ⟨pt_694, pt_695⟩, fun h => absurd h (by decide)⟩
  · cases h
noncomputable def mF_Jxe99ae_doubleToLongBits_ccdee : pm_F := pm_fn mE_Jxe99ae_doubleToLongBits_ccdee 2
theorem mM_Jxe99ae_doubleToLongBits_ccdee (l : Launch) : pm_Met l yJxe99ae_doubleToLongBits_ccdee cJxe99ae_doubleToLongBits_ccdee 2 (some .long) 2 48 mF_Jxe99ae_doubleToLongBits_ccdee := pm_met (own := RJxe99ae) (E := mE_Jxe99ae_doubleToLongBits_ccdee) (ini := false) (by decide) rfl ⟨mk_g_Jxe99ae_doubleToLongBits_ccdee, mk_p_Jxe99ae_doubleToLongBits_ccdee, mk_k_Jxe99ae_doubleToLongBits_ccdee, mk_f_Jxe99ae_doubleToLongBits_ccdee l, mk_o_Jxe99ae_doubleToLongBits_ccdee, mk_n_Jxe99ae_doubleToLongBits_ccdee, by decide⟩ rfl (fun h => by cases h)
noncomputable def mt_g_X8_average : Nat → Option (Nat × Nat) := fun _ => none
noncomputable def mt_p_X8_average : Nat → Option (Nat × Nat) := fun _ => none
noncomputable def mt_k_X8_average : Nat → Option Value := fun _ => none
noncomputable def mt_f_X8_average : Nat → Option (Nat × Nat × Nat × pm_F) := fun k => match k with
  | 89 => some (1, 3, 5, mF_X8_in)
  | 109 => some (0, 1, 5, mF_X8_averageOf)
  | 113 => some (1, 1, 9, mF_Jxe99ae_doubleToLongBits_ccdee)
  | _ => none
noncomputable def mt_o_X8_average : Nat → Option Nat := fun _ => none
noncomputable def mt_n_X8_average : Nat → Option Nat := fun _ => none
noncomputable def mE_X8_average : pm_E := (cX8_average, mt_g_X8_average, mt_p_X8_average, mt_k_X8_average, mt_f_X8_average, mt_o_X8_average, mt_n_X8_average, none, (some .long))
theorem mk_g_X8_average : ∀ k q, mt_g_X8_average k = some q → pm_Fok RX8 k q := by
  intro k q h
  unfold mt_g_X8_average at h
  cases h
theorem mk_p_X8_average : ∀ k q, mt_p_X8_average k = some q → pm_Fok RX8 k q ∧ ((pm_ct q.1 q.2).2.2.2 = false ∨ (false = true ∧ (pm_ct q.1 q.2).1 = RX8)) := by
  intro k q h
  unfold mt_p_X8_average at h
  cases h
theorem mk_k_X8_average : ∀ k q, mt_k_X8_average k = some q → pm_Kok RX8 k q := by
  intro k q h
  unfold mt_k_X8_average at h
  cases h
theorem mk_o_X8_average : ∀ k q, mt_o_X8_average k = some q → pm_Oko RX8 k q := by
  intro k q h
  unfold mt_o_X8_average at h
  cases h
theorem mk_n_X8_average : ∀ k q, mt_n_X8_average k = some q → pm_Nok RX8 k q := by
  intro k q h
  unfold mt_n_X8_average at h
  cases h
theorem mk_f_X8_average (l : Launch) : ∀ k q, mt_f_X8_average k = some q → pm_Cal l 4 96 RX8 k q := by
  intro k q h
  unfold mt_f_X8_average at h
  split at h
  · cases h
    exact ⟨yX8_in, cX8_in, 3, (some .boolean), 1, 27, mM_X8_in l, by decide, by decide, pt_650, pt_6, by decide, by decide, fun h => absurd h (by decide), fun _ => ⟨pt_648, pt_649⟩, fun h => absurd h (by decide)⟩
  · cases h
    exact ⟨yX8_averageOf, cX8_averageOf, 6, (some .double), 3, 71, mM_X8_averageOf l, by decide, by decide, pt_682, pt_6, by decide, by decide, fun _ => ⟨by decide, rfl, pt_679, pt_681, pt_s21⟩, fun h => absurd h (by decide), fun h => absurd h (by decide)⟩
  · cases h
    exact ⟨yJxe99ae_doubleToLongBits_ccdee, cJxe99ae_doubleToLongBits_ccdee, 2, (some .long), 2, 48, mM_Jxe99ae_doubleToLongBits_ccdee l, by decide, by decide, pt_693, pt_7, by decide, by decide, fun h => absurd h (by decide), fun _ => ⟨pt_691, pt_692⟩, fun h => absurd h (by decide)⟩
  · cases h
noncomputable def mF_X8_average : pm_F := pm_fn mE_X8_average 2
theorem mM_X8_average (l : Launch) : pm_Met l yX8_average cX8_average 2 (some .long) 4 96 mF_X8_average := pm_met (own := RX8) (E := mE_X8_average) (ini := false) (by decide) rfl ⟨mk_g_X8_average, mk_p_X8_average, mk_k_X8_average, mk_f_X8_average l, mk_o_X8_average, mk_n_X8_average, by decide⟩ rfl (fun h => by cases h)
noncomputable def mt_g_X8_isFormula : Nat → Option (Nat × Nat) := fun k => match k with
  | 119 => some (5, 5)
  | _ => none
noncomputable def mt_p_X8_isFormula : Nat → Option (Nat × Nat) := fun _ => none
noncomputable def mt_k_X8_isFormula : Nat → Option Value := fun _ => none
noncomputable def mt_f_X8_isFormula : Nat → Option (Nat × Nat × Nat × pm_F) := fun k => match k with
  | 89 => some (1, 3, 5, mF_X8_in)
  | _ => none
noncomputable def mt_o_X8_isFormula : Nat → Option Nat := fun _ => none
noncomputable def mt_n_X8_isFormula : Nat → Option Nat := fun _ => none
noncomputable def mE_X8_isFormula : pm_E := (cX8_isFormula, mt_g_X8_isFormula, mt_p_X8_isFormula, mt_k_X8_isFormula, mt_f_X8_isFormula, mt_o_X8_isFormula, mt_n_X8_isFormula, none, (some .boolean))
theorem mk_g_X8_isFormula : ∀ k q, mt_g_X8_isFormula k = some q → pm_Fok RX8 k q := by
  intro k q h
  unfold mt_g_X8_isFormula at h
  split at h
  · cases h
    exact ⟨by decide, by decide, pt_551⟩
  · cases h
theorem mk_p_X8_isFormula : ∀ k q, mt_p_X8_isFormula k = some q → pm_Fok RX8 k q ∧ ((pm_ct q.1 q.2).2.2.2 = false ∨ (false = true ∧ (pm_ct q.1 q.2).1 = RX8)) := by
  intro k q h
  unfold mt_p_X8_isFormula at h
  cases h
theorem mk_k_X8_isFormula : ∀ k q, mt_k_X8_isFormula k = some q → pm_Kok RX8 k q := by
  intro k q h
  unfold mt_k_X8_isFormula at h
  cases h
theorem mk_o_X8_isFormula : ∀ k q, mt_o_X8_isFormula k = some q → pm_Oko RX8 k q := by
  intro k q h
  unfold mt_o_X8_isFormula at h
  cases h
theorem mk_n_X8_isFormula : ∀ k q, mt_n_X8_isFormula k = some q → pm_Nok RX8 k q := by
  intro k q h
  unfold mt_n_X8_isFormula at h
  cases h
theorem mk_f_X8_isFormula (l : Launch) : ∀ k q, mt_f_X8_isFormula k = some q → pm_Cal l 2 49 RX8 k q := by
  intro k q h
  unfold mt_f_X8_isFormula at h
  split at h
  · cases h
    exact ⟨yX8_in, cX8_in, 3, (some .boolean), 1, 27, mM_X8_in l, by decide, by decide, pt_650, pt_6, by decide, by decide, fun h => absurd h (by decide), fun _ => ⟨pt_648, pt_649⟩, fun h => absurd h (by decide)⟩
  · cases h
noncomputable def mF_X8_isFormula : pm_F := pm_fn mE_X8_isFormula 2
theorem mM_X8_isFormula (l : Launch) : pm_Met l yX8_isFormula cX8_isFormula 2 (some .boolean) 2 49 mF_X8_isFormula := pm_met (own := RX8) (E := mE_X8_isFormula) (ini := false) (by decide) rfl ⟨mk_g_X8_isFormula, mk_p_X8_isFormula, mk_k_X8_isFormula, mk_f_X8_isFormula l, mk_o_X8_isFormula, mk_n_X8_isFormula, by decide⟩ rfl (fun h => by cases h)
noncomputable def mt_g_X8_isRight : Nat → Option (Nat × Nat) := fun _ => none
noncomputable def mt_p_X8_isRight : Nat → Option (Nat × Nat) := fun _ => none
noncomputable def mt_k_X8_isRight : Nat → Option Value := fun _ => none
noncomputable def mt_f_X8_isRight : Nat → Option (Nat × Nat × Nat × pm_F) := fun _ => none
noncomputable def mt_o_X8_isRight : Nat → Option Nat := fun _ => none
noncomputable def mt_n_X8_isRight : Nat → Option Nat := fun _ => none
noncomputable def mE_X8_isRight : pm_E := (cX8_isRight, mt_g_X8_isRight, mt_p_X8_isRight, mt_k_X8_isRight, mt_f_X8_isRight, mt_o_X8_isRight, mt_n_X8_isRight, none, (some .boolean))
theorem mk_g_X8_isRight : ∀ k q, mt_g_X8_isRight k = some q → pm_Fok RX8 k q := by
  intro k q h
  unfold mt_g_X8_isRight at h
  cases h
theorem mk_p_X8_isRight : ∀ k q, mt_p_X8_isRight k = some q → pm_Fok RX8 k q ∧ ((pm_ct q.1 q.2).2.2.2 = false ∨ (false = true ∧ (pm_ct q.1 q.2).1 = RX8)) := by
  intro k q h
  unfold mt_p_X8_isRight at h
  cases h
theorem mk_k_X8_isRight : ∀ k q, mt_k_X8_isRight k = some q → pm_Kok RX8 k q := by
  intro k q h
  unfold mt_k_X8_isRight at h
  cases h
theorem mk_o_X8_isRight : ∀ k q, mt_o_X8_isRight k = some q → pm_Oko RX8 k q := by
  intro k q h
  unfold mt_o_X8_isRight at h
  cases h
theorem mk_n_X8_isRight : ∀ k q, mt_n_X8_isRight k = some q → pm_Nok RX8 k q := by
  intro k q h
  unfold mt_n_X8_isRight at h
  cases h
theorem mk_f_X8_isRight (l : Launch) : ∀ k q, mt_f_X8_isRight k = some q → pm_Cal l 1 27 RX8 k q := by
  intro k q h
  unfold mt_f_X8_isRight at h
  cases h
noncomputable def mF_X8_isRight : pm_F := pm_fn mE_X8_isRight 5
theorem mM_X8_isRight (l : Launch) : pm_Met l yX8_isRight cX8_isRight 5 (some .boolean) 1 27 mF_X8_isRight := pm_met (own := RX8) (E := mE_X8_isRight) (ini := false) (by decide) rfl ⟨mk_g_X8_isRight, mk_p_X8_isRight, mk_k_X8_isRight, mk_f_X8_isRight l, mk_o_X8_isRight, mk_n_X8_isRight, by decide⟩ rfl (fun h => by cases h)
noncomputable def mt_g_X8_judge : Nat → Option (Nat × Nat) := fun k => match k with
  | 27 => some (5, 6)
  | 30 => some (5, 7)
  | 33 => some (5, 8)
  | 39 => some (5, 10)
  | 42 => some (5, 11)
  | 48 => some (5, 13)
  | 51 => some (5, 14)
  | 54 => some (5, 15)
  | 57 => some (5, 16)
  | _ => none
noncomputable def mt_p_X8_judge : Nat → Option (Nat × Nat) := fun _ => none
noncomputable def mt_k_X8_judge : Nat → Option Value := fun _ => none
noncomputable def mt_f_X8_judge : Nat → Option (Nat × Nat × Nat × pm_F) := fun k => match k with
  | 89 => some (1, 3, 5, mF_X8_in)
  | _ => none
noncomputable def mt_o_X8_judge : Nat → Option Nat := fun _ => none
noncomputable def mt_n_X8_judge : Nat → Option Nat := fun _ => none
noncomputable def mE_X8_judge : pm_E := (cX8_judge, mt_g_X8_judge, mt_p_X8_judge, mt_k_X8_judge, mt_f_X8_judge, mt_o_X8_judge, mt_n_X8_judge, none, none)
theorem mk_g_X8_judge : ∀ k q, mt_g_X8_judge k = some q → pm_Fok RX8 k q := by
  intro k q h
  unfold mt_g_X8_judge at h
  split at h
  · cases h
    exact ⟨by decide, by decide, pt_552⟩
  · cases h
    exact ⟨by decide, by decide, pt_553⟩
  · cases h
    exact ⟨by decide, by decide, pt_554⟩
  · cases h
    exact ⟨by decide, by decide, pt_556⟩
  · cases h
    exact ⟨by decide, by decide, pt_557⟩
  · cases h
    exact ⟨by decide, by decide, pt_559⟩
  · cases h
    exact ⟨by decide, by decide, pt_560⟩
  · cases h
    exact ⟨by decide, by decide, pt_561⟩
  · cases h
    exact ⟨by decide, by decide, pt_562⟩
  · cases h
theorem mk_p_X8_judge : ∀ k q, mt_p_X8_judge k = some q → pm_Fok RX8 k q ∧ ((pm_ct q.1 q.2).2.2.2 = false ∨ (false = true ∧ (pm_ct q.1 q.2).1 = RX8)) := by
  intro k q h
  unfold mt_p_X8_judge at h
  cases h
theorem mk_k_X8_judge : ∀ k q, mt_k_X8_judge k = some q → pm_Kok RX8 k q := by
  intro k q h
  unfold mt_k_X8_judge at h
  cases h
theorem mk_o_X8_judge : ∀ k q, mt_o_X8_judge k = some q → pm_Oko RX8 k q := by
  intro k q h
  unfold mt_o_X8_judge at h
  cases h
theorem mk_n_X8_judge : ∀ k q, mt_n_X8_judge k = some q → pm_Nok RX8 k q := by
  intro k q h
  unfold mt_n_X8_judge at h
  cases h
theorem mk_f_X8_judge (l : Launch) : ∀ k q, mt_f_X8_judge k = some q → pm_Cal l 2 49 RX8 k q := by
  intro k q h
  unfold mt_f_X8_judge at h
  split at h
  · cases h
    exact ⟨yX8_in, cX8_in, 3, (some .boolean), 1, 27, mM_X8_in l, by decide, by decide, pt_650, pt_6, by decide, by decide, fun h => absurd h (by decide), fun _ => ⟨pt_648, pt_649⟩, fun h => absurd h (by decide)⟩
  · cases h
noncomputable def mF_X8_judge : pm_F := pm_fn mE_X8_judge 9
theorem mM_X8_judge (l : Launch) : pm_Met l yX8_judge cX8_judge 9 none 2 49 mF_X8_judge := pm_met (own := RX8) (E := mE_X8_judge) (ini := false) (by decide) rfl ⟨mk_g_X8_judge, mk_p_X8_judge, mk_k_X8_judge, mk_f_X8_judge l, mk_o_X8_judge, mk_n_X8_judge, by decide⟩ rfl (fun h => by cases h)
noncomputable def mt_g_X8_formula : Nat → Option (Nat × Nat) := fun k => match k with
  | 27 => some (5, 6)
  | 30 => some (5, 7)
  | 33 => some (5, 8)
  | 36 => some (5, 9)
  | 39 => some (5, 10)
  | 42 => some (5, 11)
  | 45 => some (5, 12)
  | 48 => some (5, 13)
  | 119 => some (5, 5)
  | _ => none
noncomputable def mt_p_X8_formula : Nat → Option (Nat × Nat) := fun k => match k with
  | 119 => some (5, 5)
  | _ => none
noncomputable def mt_k_X8_formula : Nat → Option Value := fun _ => none
noncomputable def mt_f_X8_formula : Nat → Option (Nat × Nat × Nat × pm_F) := fun k => match k with
  | 89 => some (1, 3, 5, mF_X8_in)
  | 94 => some (1, 1, 5, mF_X8_realOfBits)
  | 123 => some (1, 3, 5, mF_X8_isRight)
  | 127 => some (0, 1, 5, mF_X8_isFormula)
  | 131 => some (0, 1, 5, mF_X8_judge)
  | _ => none
noncomputable def mt_o_X8_formula : Nat → Option Nat := fun _ => none
noncomputable def mt_n_X8_formula : Nat → Option Nat := fun _ => none
noncomputable def mE_X8_formula : pm_E := (cX8_formula, mt_g_X8_formula, mt_p_X8_formula, mt_k_X8_formula, mt_f_X8_formula, mt_o_X8_formula, mt_n_X8_formula, none, (some .int))
theorem mk_g_X8_formula : ∀ k q, mt_g_X8_formula k = some q → pm_Fok RX8 k q := by
  intro k q h
  unfold mt_g_X8_formula at h
  split at h
  · cases h
    exact ⟨by decide, by decide, pt_552⟩
  · cases h
    exact ⟨by decide, by decide, pt_553⟩
  · cases h
    exact ⟨by decide, by decide, pt_554⟩
  · cases h
    exact ⟨by decide, by decide, pt_555⟩
  · cases h
    exact ⟨by decide, by decide, pt_556⟩
  · cases h
    exact ⟨by decide, by decide, pt_557⟩
  · cases h
    exact ⟨by decide, by decide, pt_558⟩
  · cases h
    exact ⟨by decide, by decide, pt_559⟩
  · cases h
    exact ⟨by decide, by decide, pt_551⟩
  · cases h
theorem mk_p_X8_formula : ∀ k q, mt_p_X8_formula k = some q → pm_Fok RX8 k q ∧ ((pm_ct q.1 q.2).2.2.2 = false ∨ (false = true ∧ (pm_ct q.1 q.2).1 = RX8)) := by
  intro k q h
  unfold mt_p_X8_formula at h
  split at h
  · cases h
    exact ⟨⟨by decide, by decide, pt_551⟩, Or.inl rfl⟩
  · cases h
theorem mk_k_X8_formula : ∀ k q, mt_k_X8_formula k = some q → pm_Kok RX8 k q := by
  intro k q h
  unfold mt_k_X8_formula at h
  cases h
theorem mk_o_X8_formula : ∀ k q, mt_o_X8_formula k = some q → pm_Oko RX8 k q := by
  intro k q h
  unfold mt_o_X8_formula at h
  cases h
theorem mk_n_X8_formula : ∀ k q, mt_n_X8_formula k = some q → pm_Nok RX8 k q := by
  intro k q h
  unfold mt_n_X8_formula at h
  cases h
theorem mk_f_X8_formula (l : Launch) : ∀ k q, mt_f_X8_formula k = some q → pm_Cal l 3 77 RX8 k q := by
  intro k q h
  unfold mt_f_X8_formula at h
  split at h
  · cases h
    exact ⟨yX8_in, cX8_in, 3, (some .boolean), 1, 27, mM_X8_in l, by decide, by decide, pt_650, pt_6, by decide, by decide, fun h => absurd h (by decide), fun _ => ⟨pt_648, pt_649⟩, fun h => absurd h (by decide)⟩
  · cases h
    exact ⟨yX8_realOfBits, cX8_realOfBits, 2, (some .double), 2, 46, mM_X8_realOfBits l, by decide, by decide, pt_658, pt_6, by decide, by decide, fun h => absurd h (by decide), fun _ => ⟨pt_656, pt_657⟩, fun h => absurd h (by decide)⟩
  · cases h
    exact ⟨yX8_isRight, cX8_isRight, 5, (some .boolean), 1, 27, mM_X8_isRight l, by decide, by decide, pt_707, pt_6, by decide, by decide, fun h => absurd h (by decide), fun _ => ⟨pt_705, pt_706⟩, fun h => absurd h (by decide)⟩
  · cases h
    exact ⟨yX8_isFormula, cX8_isFormula, 2, (some .boolean), 2, 49, mM_X8_isFormula l, by decide, by decide, pt_711, pt_6, by decide, by decide, fun _ => ⟨by decide, rfl, pt_708, pt_710, pt_s22⟩, fun h => absurd h (by decide), fun h => absurd h (by decide)⟩
  · cases h
    exact ⟨yX8_judge, cX8_judge, 9, none, 2, 49, mM_X8_judge l, by decide, by decide, pt_715, pt_6, by decide, by decide, fun _ => ⟨by decide, rfl, pt_712, pt_714, pt_s23⟩, fun h => absurd h (by decide), fun h => absurd h (by decide)⟩
  · cases h
noncomputable def mF_X8_formula : pm_F := pm_fn mE_X8_formula 15
theorem mM_X8_formula (l : Launch) : pm_Met l yX8_formula cX8_formula 15 (some .int) 3 77 mF_X8_formula := pm_met (own := RX8) (E := mE_X8_formula) (ini := false) (by decide) rfl ⟨mk_g_X8_formula, mk_p_X8_formula, mk_k_X8_formula, mk_f_X8_formula l, mk_o_X8_formula, mk_n_X8_formula, by decide⟩ rfl (fun h => by cases h)
noncomputable def mt_g_X8_part : Nat → Option (Nat × Nat) := fun k => match k with
  | 27 => some (5, 6)
  | 39 => some (5, 10)
  | 42 => some (5, 11)
  | 45 => some (5, 12)
  | 48 => some (5, 13)
  | _ => none
noncomputable def mt_p_X8_part : Nat → Option (Nat × Nat) := fun _ => none
noncomputable def mt_k_X8_part : Nat → Option Value := fun _ => none
noncomputable def mt_f_X8_part : Nat → Option (Nat × Nat × Nat × pm_F) := fun k => match k with
  | 89 => some (1, 3, 5, mF_X8_in)
  | 127 => some (0, 1, 5, mF_X8_isFormula)
  | 131 => some (0, 1, 5, mF_X8_judge)
  | _ => none
noncomputable def mt_o_X8_part : Nat → Option Nat := fun _ => none
noncomputable def mt_n_X8_part : Nat → Option Nat := fun _ => none
noncomputable def mE_X8_part : pm_E := (cX8_part, mt_g_X8_part, mt_p_X8_part, mt_k_X8_part, mt_f_X8_part, mt_o_X8_part, mt_n_X8_part, none, (some .int))
theorem mk_g_X8_part : ∀ k q, mt_g_X8_part k = some q → pm_Fok RX8 k q := by
  intro k q h
  unfold mt_g_X8_part at h
  split at h
  · cases h
    exact ⟨by decide, by decide, pt_552⟩
  · cases h
    exact ⟨by decide, by decide, pt_556⟩
  · cases h
    exact ⟨by decide, by decide, pt_557⟩
  · cases h
    exact ⟨by decide, by decide, pt_558⟩
  · cases h
    exact ⟨by decide, by decide, pt_559⟩
  · cases h
theorem mk_p_X8_part : ∀ k q, mt_p_X8_part k = some q → pm_Fok RX8 k q ∧ ((pm_ct q.1 q.2).2.2.2 = false ∨ (false = true ∧ (pm_ct q.1 q.2).1 = RX8)) := by
  intro k q h
  unfold mt_p_X8_part at h
  cases h
theorem mk_k_X8_part : ∀ k q, mt_k_X8_part k = some q → pm_Kok RX8 k q := by
  intro k q h
  unfold mt_k_X8_part at h
  cases h
theorem mk_o_X8_part : ∀ k q, mt_o_X8_part k = some q → pm_Oko RX8 k q := by
  intro k q h
  unfold mt_o_X8_part at h
  cases h
theorem mk_n_X8_part : ∀ k q, mt_n_X8_part k = some q → pm_Nok RX8 k q := by
  intro k q h
  unfold mt_n_X8_part at h
  cases h
theorem mk_f_X8_part (l : Launch) : ∀ k q, mt_f_X8_part k = some q → pm_Cal l 3 77 RX8 k q := by
  intro k q h
  unfold mt_f_X8_part at h
  split at h
  · cases h
    exact ⟨yX8_in, cX8_in, 3, (some .boolean), 1, 27, mM_X8_in l, by decide, by decide, pt_650, pt_6, by decide, by decide, fun h => absurd h (by decide), fun _ => ⟨pt_648, pt_649⟩, fun h => absurd h (by decide)⟩
  · cases h
    exact ⟨yX8_isFormula, cX8_isFormula, 2, (some .boolean), 2, 49, mM_X8_isFormula l, by decide, by decide, pt_711, pt_6, by decide, by decide, fun _ => ⟨by decide, rfl, pt_708, pt_710, pt_s22⟩, fun h => absurd h (by decide), fun h => absurd h (by decide)⟩
  · cases h
    exact ⟨yX8_judge, cX8_judge, 9, none, 2, 49, mM_X8_judge l, by decide, by decide, pt_715, pt_6, by decide, by decide, fun _ => ⟨by decide, rfl, pt_712, pt_714, pt_s23⟩, fun h => absurd h (by decide), fun h => absurd h (by decide)⟩
  · cases h
noncomputable def mF_X8_part : pm_F := pm_fn mE_X8_part 3
theorem mM_X8_part (l : Launch) : pm_Met l yX8_part cX8_part 3 (some .int) 3 77 mF_X8_part := pm_met (own := RX8) (E := mE_X8_part) (ini := false) (by decide) rfl ⟨mk_g_X8_part, mk_p_X8_part, mk_k_X8_part, mk_f_X8_part l, mk_o_X8_part, mk_n_X8_part, by decide⟩ rfl (fun h => by cases h)
noncomputable def mt_g_X8_realPlus : Nat → Option (Nat × Nat) := fun _ => none
noncomputable def mt_p_X8_realPlus : Nat → Option (Nat × Nat) := fun _ => none
noncomputable def mt_k_X8_realPlus : Nat → Option Value := fun _ => none
noncomputable def mt_f_X8_realPlus : Nat → Option (Nat × Nat × Nat × pm_F) := fun k => match k with
  | 85 => some (1, 0, 5, mF_X8_noReal)
  | 148 => some (1, 1, 5, mF_X8_isEndlessReal)
  | _ => none
noncomputable def mt_o_X8_realPlus : Nat → Option Nat := fun _ => none
noncomputable def mt_n_X8_realPlus : Nat → Option Nat := fun _ => none
noncomputable def mE_X8_realPlus : pm_E := (cX8_realPlus, mt_g_X8_realPlus, mt_p_X8_realPlus, mt_k_X8_realPlus, mt_f_X8_realPlus, mt_o_X8_realPlus, mt_n_X8_realPlus, none, (some .double))
theorem mk_g_X8_realPlus : ∀ k q, mt_g_X8_realPlus k = some q → pm_Fok RX8 k q := by
  intro k q h
  unfold mt_g_X8_realPlus at h
  cases h
theorem mk_p_X8_realPlus : ∀ k q, mt_p_X8_realPlus k = some q → pm_Fok RX8 k q ∧ ((pm_ct q.1 q.2).2.2.2 = false ∨ (false = true ∧ (pm_ct q.1 q.2).1 = RX8)) := by
  intro k q h
  unfold mt_p_X8_realPlus at h
  cases h
theorem mk_k_X8_realPlus : ∀ k q, mt_k_X8_realPlus k = some q → pm_Kok RX8 k q := by
  intro k q h
  unfold mt_k_X8_realPlus at h
  cases h
theorem mk_o_X8_realPlus : ∀ k q, mt_o_X8_realPlus k = some q → pm_Oko RX8 k q := by
  intro k q h
  unfold mt_o_X8_realPlus at h
  cases h
theorem mk_n_X8_realPlus : ∀ k q, mt_n_X8_realPlus k = some q → pm_Nok RX8 k q := by
  intro k q h
  unfold mt_n_X8_realPlus at h
  cases h
theorem mk_f_X8_realPlus (l : Launch) : ∀ k q, mt_f_X8_realPlus k = some q → pm_Cal l 2 48 RX8 k q := by
  intro k q h
  unfold mt_f_X8_realPlus at h
  split at h
  · cases h
    exact ⟨yX8_noReal, cX8_noReal, 0, (some .double), 1, 27, mM_X8_noReal l, by decide, by decide, pt_541, pt_6, by decide, by decide, fun h => absurd h (by decide), fun _ => ⟨pt_539, pt_540⟩, fun h => absurd h (by decide)⟩
  · cases h
    exact ⟨yX8_isEndlessReal, cX8_isEndlessReal, 2, (some .boolean), 1, 27, mM_X8_isEndlessReal l, by decide, by decide, pt_688, pt_6, by decide, by decide, fun h => absurd h (by decide), fun _ => ⟨pt_686, pt_687⟩, fun h => absurd h (by decide)⟩
  · cases h
noncomputable def mF_X8_realPlus : pm_F := pm_fn mE_X8_realPlus 4
theorem mM_X8_realPlus (l : Launch) : pm_Met l yX8_realPlus cX8_realPlus 4 (some .double) 2 48 mF_X8_realPlus := pm_met (own := RX8) (E := mE_X8_realPlus) (ini := false) (by decide) rfl ⟨mk_g_X8_realPlus, mk_p_X8_realPlus, mk_k_X8_realPlus, mk_f_X8_realPlus l, mk_o_X8_realPlus, mk_n_X8_realPlus, by decide⟩ rfl (fun h => by cases h)
noncomputable def mt_g_X8_realLess : Nat → Option (Nat × Nat) := fun _ => none
noncomputable def mt_p_X8_realLess : Nat → Option (Nat × Nat) := fun _ => none
noncomputable def mt_k_X8_realLess : Nat → Option Value := fun _ => none
noncomputable def mt_f_X8_realLess : Nat → Option (Nat × Nat × Nat × pm_F) := fun k => match k with
  | 85 => some (1, 0, 5, mF_X8_noReal)
  | 148 => some (1, 1, 5, mF_X8_isEndlessReal)
  | _ => none
noncomputable def mt_o_X8_realLess : Nat → Option Nat := fun _ => none
noncomputable def mt_n_X8_realLess : Nat → Option Nat := fun _ => none
noncomputable def mE_X8_realLess : pm_E := (cX8_realLess, mt_g_X8_realLess, mt_p_X8_realLess, mt_k_X8_realLess, mt_f_X8_realLess, mt_o_X8_realLess, mt_n_X8_realLess, none, (some .double))
theorem mk_g_X8_realLess : ∀ k q, mt_g_X8_realLess k = some q → pm_Fok RX8 k q := by
  intro k q h
  unfold mt_g_X8_realLess at h
  cases h
theorem mk_p_X8_realLess : ∀ k q, mt_p_X8_realLess k = some q → pm_Fok RX8 k q ∧ ((pm_ct q.1 q.2).2.2.2 = false ∨ (false = true ∧ (pm_ct q.1 q.2).1 = RX8)) := by
  intro k q h
  unfold mt_p_X8_realLess at h
  cases h
theorem mk_k_X8_realLess : ∀ k q, mt_k_X8_realLess k = some q → pm_Kok RX8 k q := by
  intro k q h
  unfold mt_k_X8_realLess at h
  cases h
theorem mk_o_X8_realLess : ∀ k q, mt_o_X8_realLess k = some q → pm_Oko RX8 k q := by
  intro k q h
  unfold mt_o_X8_realLess at h
  cases h
theorem mk_n_X8_realLess : ∀ k q, mt_n_X8_realLess k = some q → pm_Nok RX8 k q := by
  intro k q h
  unfold mt_n_X8_realLess at h
  cases h
theorem mk_f_X8_realLess (l : Launch) : ∀ k q, mt_f_X8_realLess k = some q → pm_Cal l 2 48 RX8 k q := by
  intro k q h
  unfold mt_f_X8_realLess at h
  split at h
  · cases h
    exact ⟨yX8_noReal, cX8_noReal, 0, (some .double), 1, 27, mM_X8_noReal l, by decide, by decide, pt_541, pt_6, by decide, by decide, fun h => absurd h (by decide), fun _ => ⟨pt_539, pt_540⟩, fun h => absurd h (by decide)⟩
  · cases h
    exact ⟨yX8_isEndlessReal, cX8_isEndlessReal, 2, (some .boolean), 1, 27, mM_X8_isEndlessReal l, by decide, by decide, pt_688, pt_6, by decide, by decide, fun h => absurd h (by decide), fun _ => ⟨pt_686, pt_687⟩, fun h => absurd h (by decide)⟩
  · cases h
noncomputable def mF_X8_realLess : pm_F := pm_fn mE_X8_realLess 4
theorem mM_X8_realLess (l : Launch) : pm_Met l yX8_realLess cX8_realLess 4 (some .double) 2 48 mF_X8_realLess := pm_met (own := RX8) (E := mE_X8_realLess) (ini := false) (by decide) rfl ⟨mk_g_X8_realLess, mk_p_X8_realLess, mk_k_X8_realLess, mk_f_X8_realLess l, mk_o_X8_realLess, mk_n_X8_realLess, by decide⟩ rfl (fun h => by cases h)
noncomputable def mt_g_X8_realTimes : Nat → Option (Nat × Nat) := fun _ => none
noncomputable def mt_p_X8_realTimes : Nat → Option (Nat × Nat) := fun _ => none
noncomputable def mt_k_X8_realTimes : Nat → Option Value := fun _ => none
noncomputable def mt_f_X8_realTimes : Nat → Option (Nat × Nat × Nat × pm_F) := fun k => match k with
  | 85 => some (1, 0, 5, mF_X8_noReal)
  | 148 => some (1, 1, 5, mF_X8_isEndlessReal)
  | _ => none
noncomputable def mt_o_X8_realTimes : Nat → Option Nat := fun _ => none
noncomputable def mt_n_X8_realTimes : Nat → Option Nat := fun _ => none
noncomputable def mE_X8_realTimes : pm_E := (cX8_realTimes, mt_g_X8_realTimes, mt_p_X8_realTimes, mt_k_X8_realTimes, mt_f_X8_realTimes, mt_o_X8_realTimes, mt_n_X8_realTimes, none, (some .double))
theorem mk_g_X8_realTimes : ∀ k q, mt_g_X8_realTimes k = some q → pm_Fok RX8 k q := by
  intro k q h
  unfold mt_g_X8_realTimes at h
  cases h
theorem mk_p_X8_realTimes : ∀ k q, mt_p_X8_realTimes k = some q → pm_Fok RX8 k q ∧ ((pm_ct q.1 q.2).2.2.2 = false ∨ (false = true ∧ (pm_ct q.1 q.2).1 = RX8)) := by
  intro k q h
  unfold mt_p_X8_realTimes at h
  cases h
theorem mk_k_X8_realTimes : ∀ k q, mt_k_X8_realTimes k = some q → pm_Kok RX8 k q := by
  intro k q h
  unfold mt_k_X8_realTimes at h
  cases h
theorem mk_o_X8_realTimes : ∀ k q, mt_o_X8_realTimes k = some q → pm_Oko RX8 k q := by
  intro k q h
  unfold mt_o_X8_realTimes at h
  cases h
theorem mk_n_X8_realTimes : ∀ k q, mt_n_X8_realTimes k = some q → pm_Nok RX8 k q := by
  intro k q h
  unfold mt_n_X8_realTimes at h
  cases h
theorem mk_f_X8_realTimes (l : Launch) : ∀ k q, mt_f_X8_realTimes k = some q → pm_Cal l 2 48 RX8 k q := by
  intro k q h
  unfold mt_f_X8_realTimes at h
  split at h
  · cases h
    exact ⟨yX8_noReal, cX8_noReal, 0, (some .double), 1, 27, mM_X8_noReal l, by decide, by decide, pt_541, pt_6, by decide, by decide, fun h => absurd h (by decide), fun _ => ⟨pt_539, pt_540⟩, fun h => absurd h (by decide)⟩
  · cases h
    exact ⟨yX8_isEndlessReal, cX8_isEndlessReal, 2, (some .boolean), 1, 27, mM_X8_isEndlessReal l, by decide, by decide, pt_688, pt_6, by decide, by decide, fun h => absurd h (by decide), fun _ => ⟨pt_686, pt_687⟩, fun h => absurd h (by decide)⟩
  · cases h
noncomputable def mF_X8_realTimes : pm_F := pm_fn mE_X8_realTimes 4
theorem mM_X8_realTimes (l : Launch) : pm_Met l yX8_realTimes cX8_realTimes 4 (some .double) 2 48 mF_X8_realTimes := pm_met (own := RX8) (E := mE_X8_realTimes) (ini := false) (by decide) rfl ⟨mk_g_X8_realTimes, mk_p_X8_realTimes, mk_k_X8_realTimes, mk_f_X8_realTimes l, mk_o_X8_realTimes, mk_n_X8_realTimes, by decide⟩ rfl (fun h => by cases h)
noncomputable def mt_g_X8_greater : Nat → Option (Nat × Nat) := fun _ => none
noncomputable def mt_p_X8_greater : Nat → Option (Nat × Nat) := fun _ => none
noncomputable def mt_k_X8_greater : Nat → Option Value := fun _ => none
noncomputable def mt_f_X8_greater : Nat → Option (Nat × Nat × Nat × pm_F) := fun k => match k with
  | 85 => some (1, 0, 5, mF_X8_noReal)
  | 113 => some (1, 1, 9, mF_Jxe99ae_doubleToLongBits_ccdee)
  | _ => none
noncomputable def mt_o_X8_greater : Nat → Option Nat := fun _ => none
noncomputable def mt_n_X8_greater : Nat → Option Nat := fun _ => none
noncomputable def mE_X8_greater : pm_E := (cX8_greater, mt_g_X8_greater, mt_p_X8_greater, mt_k_X8_greater, mt_f_X8_greater, mt_o_X8_greater, mt_n_X8_greater, none, (some .double))
theorem mk_g_X8_greater : ∀ k q, mt_g_X8_greater k = some q → pm_Fok RX8 k q := by
  intro k q h
  unfold mt_g_X8_greater at h
  cases h
theorem mk_p_X8_greater : ∀ k q, mt_p_X8_greater k = some q → pm_Fok RX8 k q ∧ ((pm_ct q.1 q.2).2.2.2 = false ∨ (false = true ∧ (pm_ct q.1 q.2).1 = RX8)) := by
  intro k q h
  unfold mt_p_X8_greater at h
  cases h
theorem mk_k_X8_greater : ∀ k q, mt_k_X8_greater k = some q → pm_Kok RX8 k q := by
  intro k q h
  unfold mt_k_X8_greater at h
  cases h
theorem mk_o_X8_greater : ∀ k q, mt_o_X8_greater k = some q → pm_Oko RX8 k q := by
  intro k q h
  unfold mt_o_X8_greater at h
  cases h
theorem mk_n_X8_greater : ∀ k q, mt_n_X8_greater k = some q → pm_Nok RX8 k q := by
  intro k q h
  unfold mt_n_X8_greater at h
  cases h
theorem mk_f_X8_greater (l : Launch) : ∀ k q, mt_f_X8_greater k = some q → pm_Cal l 3 69 RX8 k q := by
  intro k q h
  unfold mt_f_X8_greater at h
  split at h
  · cases h
    exact ⟨yX8_noReal, cX8_noReal, 0, (some .double), 1, 27, mM_X8_noReal l, by decide, by decide, pt_541, pt_6, by decide, by decide, fun h => absurd h (by decide), fun _ => ⟨pt_539, pt_540⟩, fun h => absurd h (by decide)⟩
  · cases h
    exact ⟨yJxe99ae_doubleToLongBits_ccdee, cJxe99ae_doubleToLongBits_ccdee, 2, (some .long), 2, 48, mM_Jxe99ae_doubleToLongBits_ccdee l, by decide, by decide, pt_693, pt_7, by decide, by decide, fun h => absurd h (by decide), fun _ => ⟨pt_691, pt_692⟩, fun h => absurd h (by decide)⟩
  · cases h
noncomputable def mF_X8_greater : pm_F := pm_fn mE_X8_greater 4
theorem mM_X8_greater (l : Launch) : pm_Met l yX8_greater cX8_greater 4 (some .double) 3 69 mF_X8_greater := pm_met (own := RX8) (E := mE_X8_greater) (ini := false) (by decide) rfl ⟨mk_g_X8_greater, mk_p_X8_greater, mk_k_X8_greater, mk_f_X8_greater l, mk_o_X8_greater, mk_n_X8_greater, by decide⟩ rfl (fun h => by cases h)
noncomputable def mt_g_X8_down : Nat → Option (Nat × Nat) := fun _ => none
noncomputable def mt_p_X8_down : Nat → Option (Nat × Nat) := fun _ => none
noncomputable def mt_k_X8_down : Nat → Option Value := fun k => match k with
  | 152 => some (.double (4841369599423283200))
  | 154 => some (.double (14064741636278059008))
  | _ => none
noncomputable def mt_f_X8_down : Nat → Option (Nat × Nat × Nat × pm_F) := fun _ => none
noncomputable def mt_o_X8_down : Nat → Option Nat := fun _ => none
noncomputable def mt_n_X8_down : Nat → Option Nat := fun _ => none
noncomputable def mE_X8_down : pm_E := (cX8_down, mt_g_X8_down, mt_p_X8_down, mt_k_X8_down, mt_f_X8_down, mt_o_X8_down, mt_n_X8_down, none, (some .double))
theorem mk_g_X8_down : ∀ k q, mt_g_X8_down k = some q → pm_Fok RX8 k q := by
  intro k q h
  unfold mt_g_X8_down at h
  cases h
theorem mk_p_X8_down : ∀ k q, mt_p_X8_down k = some q → pm_Fok RX8 k q ∧ ((pm_ct q.1 q.2).2.2.2 = false ∨ (false = true ∧ (pm_ct q.1 q.2).1 = RX8)) := by
  intro k q h
  unfold mt_p_X8_down at h
  cases h
theorem mk_k_X8_down : ∀ k q, mt_k_X8_down k = some q → pm_Kok RX8 k q := by
  intro k q h
  unfold mt_k_X8_down at h
  split at h
  · cases h
    exact pt_758
  · cases h
    exact pt_759
  · cases h
theorem mk_o_X8_down : ∀ k q, mt_o_X8_down k = some q → pm_Oko RX8 k q := by
  intro k q h
  unfold mt_o_X8_down at h
  cases h
theorem mk_n_X8_down : ∀ k q, mt_n_X8_down k = some q → pm_Nok RX8 k q := by
  intro k q h
  unfold mt_n_X8_down at h
  cases h
theorem mk_f_X8_down (l : Launch) : ∀ k q, mt_f_X8_down k = some q → pm_Cal l 1 27 RX8 k q := by
  intro k q h
  unfold mt_f_X8_down at h
  cases h
noncomputable def mF_X8_down : pm_F := pm_fn mE_X8_down 4
theorem mM_X8_down (l : Launch) : pm_Met l yX8_down cX8_down 4 (some .double) 1 27 mF_X8_down := pm_met (own := RX8) (E := mE_X8_down) (ini := false) (by decide) rfl ⟨mk_g_X8_down, mk_p_X8_down, mk_k_X8_down, mk_f_X8_down l, mk_o_X8_down, mk_n_X8_down, by decide⟩ rfl (fun h => by cases h)
noncomputable def mt_g_X8_root : Nat → Option (Nat × Nat) := fun _ => none
noncomputable def mt_p_X8_root : Nat → Option (Nat × Nat) := fun _ => none
noncomputable def mt_k_X8_root : Nat → Option Value := fun k => match k with
  | 156 => some (.long (4503599627370495))
  | 158 => some (.long (4503599627370496))
  | 160 => some (.long (9007199254740992))
  | 162 => some (.long (4602678819172646912))
  | _ => none
noncomputable def mt_f_X8_root : Nat → Option (Nat × Nat × Nat × pm_F) := fun k => match k with
  | 113 => some (1, 1, 9, mF_Jxe99ae_doubleToLongBits_ccdee)
  | _ => none
noncomputable def mt_o_X8_root : Nat → Option Nat := fun _ => none
noncomputable def mt_n_X8_root : Nat → Option Nat := fun k => match k with
  | 137 => some 0
  | _ => none
noncomputable def mE_X8_root : pm_E := (cX8_root, mt_g_X8_root, mt_p_X8_root, mt_k_X8_root, mt_f_X8_root, mt_o_X8_root, mt_n_X8_root, none, (some .double))
theorem mk_g_X8_root : ∀ k q, mt_g_X8_root k = some q → pm_Fok RX8 k q := by
  intro k q h
  unfold mt_g_X8_root at h
  cases h
theorem mk_p_X8_root : ∀ k q, mt_p_X8_root k = some q → pm_Fok RX8 k q ∧ ((pm_ct q.1 q.2).2.2.2 = false ∨ (false = true ∧ (pm_ct q.1 q.2).1 = RX8)) := by
  intro k q h
  unfold mt_p_X8_root at h
  cases h
theorem mk_k_X8_root : ∀ k q, mt_k_X8_root k = some q → pm_Kok RX8 k q := by
  intro k q h
  unfold mt_k_X8_root at h
  split at h
  · cases h
    exact pt_739
  · cases h
    exact pt_740
  · cases h
    exact pt_741
  · cases h
    exact pt_742
  · cases h
theorem mk_o_X8_root : ∀ k q, mt_o_X8_root k = some q → pm_Oko RX8 k q := by
  intro k q h
  unfold mt_o_X8_root at h
  cases h
theorem mk_n_X8_root : ∀ k q, mt_n_X8_root k = some q → pm_Nok RX8 k q := by
  intro k q h
  unfold mt_n_X8_root at h
  split at h
  · cases h
    exact ⟨fun _ => ⟨pt_543, pt_545, pt_544, pt_7⟩, fun h => absurd h (by decide), fun h => absurd h (by decide)⟩
  · cases h
theorem mk_f_X8_root (l : Launch) : ∀ k q, mt_f_X8_root k = some q → pm_Cal l 3 69 RX8 k q := by
  intro k q h
  unfold mt_f_X8_root at h
  split at h
  · cases h
    exact ⟨yJxe99ae_doubleToLongBits_ccdee, cJxe99ae_doubleToLongBits_ccdee, 2, (some .long), 2, 48, mM_Jxe99ae_doubleToLongBits_ccdee l, by decide, by decide, pt_693, pt_7, by decide, by decide, fun h => absurd h (by decide), fun _ => ⟨pt_691, pt_692⟩, fun h => absurd h (by decide)⟩
  · cases h
noncomputable def mF_X8_root : pm_F := pm_fn mE_X8_root 15
theorem mM_X8_root (l : Launch) : pm_Met l yX8_root cX8_root 15 (some .double) 3 69 mF_X8_root := pm_met (own := RX8) (E := mE_X8_root) (ini := false) (by decide) rfl ⟨mk_g_X8_root, mk_p_X8_root, mk_k_X8_root, mk_f_X8_root l, mk_o_X8_root, mk_n_X8_root, by decide⟩ rfl (fun h => by cases h)
noncomputable def mt_g_X8_begin : Nat → Option (Nat × Nat) := fun k => match k with
  | 27 => some (5, 6)
  | 60 => some (5, 17)
  | 63 => some (5, 18)
  | 66 => some (5, 19)
  | 69 => some (5, 20)
  | 164 => some (5, 21)
  | 167 => some (5, 24)
  | 170 => some (5, 26)
  | _ => none
noncomputable def mt_p_X8_begin : Nat → Option (Nat × Nat) := fun k => match k with
  | 164 => some (5, 21)
  | 167 => some (5, 24)
  | 170 => some (5, 26)
  | _ => none
noncomputable def mt_k_X8_begin : Nat → Option Value := fun _ => none
noncomputable def mt_f_X8_begin : Nat → Option (Nat × Nat × Nat × pm_F) := fun _ => none
noncomputable def mt_o_X8_begin : Nat → Option Nat := fun _ => none
noncomputable def mt_n_X8_begin : Nat → Option Nat := fun _ => none
noncomputable def mE_X8_begin : pm_E := (cX8_begin, mt_g_X8_begin, mt_p_X8_begin, mt_k_X8_begin, mt_f_X8_begin, mt_o_X8_begin, mt_n_X8_begin, none, none)
theorem mk_g_X8_begin : ∀ k q, mt_g_X8_begin k = some q → pm_Fok RX8 k q := by
  intro k q h
  unfold mt_g_X8_begin at h
  split at h
  · cases h
    exact ⟨by decide, by decide, pt_552⟩
  · cases h
    exact ⟨by decide, by decide, pt_563⟩
  · cases h
    exact ⟨by decide, by decide, pt_564⟩
  · cases h
    exact ⟨by decide, by decide, pt_565⟩
  · cases h
    exact ⟨by decide, by decide, pt_566⟩
  · cases h
    exact ⟨by decide, by decide, pt_567⟩
  · cases h
    exact ⟨by decide, by decide, pt_570⟩
  · cases h
    exact ⟨by decide, by decide, pt_572⟩
  · cases h
theorem mk_p_X8_begin : ∀ k q, mt_p_X8_begin k = some q → pm_Fok RX8 k q ∧ ((pm_ct q.1 q.2).2.2.2 = false ∨ (false = true ∧ (pm_ct q.1 q.2).1 = RX8)) := by
  intro k q h
  unfold mt_p_X8_begin at h
  split at h
  · cases h
    exact ⟨⟨by decide, by decide, pt_567⟩, Or.inl rfl⟩
  · cases h
    exact ⟨⟨by decide, by decide, pt_570⟩, Or.inl rfl⟩
  · cases h
    exact ⟨⟨by decide, by decide, pt_572⟩, Or.inl rfl⟩
  · cases h
theorem mk_k_X8_begin : ∀ k q, mt_k_X8_begin k = some q → pm_Kok RX8 k q := by
  intro k q h
  unfold mt_k_X8_begin at h
  cases h
theorem mk_o_X8_begin : ∀ k q, mt_o_X8_begin k = some q → pm_Oko RX8 k q := by
  intro k q h
  unfold mt_o_X8_begin at h
  cases h
theorem mk_n_X8_begin : ∀ k q, mt_n_X8_begin k = some q → pm_Nok RX8 k q := by
  intro k q h
  unfold mt_n_X8_begin at h
  cases h
theorem mk_f_X8_begin (l : Launch) : ∀ k q, mt_f_X8_begin k = some q → pm_Cal l 1 27 RX8 k q := by
  intro k q h
  unfold mt_f_X8_begin at h
  cases h
noncomputable def mF_X8_begin : pm_F := pm_fn mE_X8_begin 2
theorem mM_X8_begin (l : Launch) : pm_Met l yX8_begin cX8_begin 2 none 1 27 mF_X8_begin := pm_met (own := RX8) (E := mE_X8_begin) (ini := false) (by decide) rfl ⟨mk_g_X8_begin, mk_p_X8_begin, mk_k_X8_begin, mk_f_X8_begin l, mk_o_X8_begin, mk_n_X8_begin, by decide⟩ rfl (fun h => by cases h)
noncomputable def mt_g_X8_worked : Nat → Option (Nat × Nat) := fun k => match k with
  | 7 => some (5, 0)
  | 13 => some (5, 1)
  | 16 => some (5, 2)
  | 27 => some (5, 6)
  | 30 => some (5, 7)
  | 33 => some (5, 8)
  | 36 => some (5, 9)
  | _ => none
noncomputable def mt_p_X8_worked : Nat → Option (Nat × Nat) := fun _ => none
noncomputable def mt_k_X8_worked : Nat → Option Value := fun _ => none
noncomputable def mt_f_X8_worked : Nat → Option (Nat × Nat × Nat × pm_F) := fun k => match k with
  | 89 => some (1, 3, 5, mF_X8_in)
  | 98 => some (1, 1, 5, mF_X8_valueOf)
  | 102 => some (1, 1, 5, mF_X8_byteOf)
  | 105 => some (1, 2, 5, mF_X8_realOver)
  | 109 => some (0, 1, 5, mF_X8_averageOf)
  | 173 => some (1, 1, 5, mF_X8_root)
  | 177 => some (1, 2, 5, mF_X8_realPlus)
  | 180 => some (1, 2, 5, mF_X8_realLess)
  | 183 => some (1, 2, 5, mF_X8_realTimes)
  | 186 => some (1, 2, 5, mF_X8_greater)
  | 189 => some (1, 1, 5, mF_X8_down)
  | _ => none
noncomputable def mt_o_X8_worked : Nat → Option Nat := fun _ => none
noncomputable def mt_n_X8_worked : Nat → Option Nat := fun _ => none
noncomputable def mE_X8_worked : pm_E := (cX8_worked, mt_g_X8_worked, mt_p_X8_worked, mt_k_X8_worked, mt_f_X8_worked, mt_o_X8_worked, mt_n_X8_worked, none, (some .double))
theorem mk_g_X8_worked : ∀ k q, mt_g_X8_worked k = some q → pm_Fok RX8 k q := by
  intro k q h
  unfold mt_g_X8_worked at h
  split at h
  · cases h
    exact ⟨by decide, by decide, pt_546⟩
  · cases h
    exact ⟨by decide, by decide, pt_547⟩
  · cases h
    exact ⟨by decide, by decide, pt_548⟩
  · cases h
    exact ⟨by decide, by decide, pt_552⟩
  · cases h
    exact ⟨by decide, by decide, pt_553⟩
  · cases h
    exact ⟨by decide, by decide, pt_554⟩
  · cases h
    exact ⟨by decide, by decide, pt_555⟩
  · cases h
theorem mk_p_X8_worked : ∀ k q, mt_p_X8_worked k = some q → pm_Fok RX8 k q ∧ ((pm_ct q.1 q.2).2.2.2 = false ∨ (false = true ∧ (pm_ct q.1 q.2).1 = RX8)) := by
  intro k q h
  unfold mt_p_X8_worked at h
  cases h
theorem mk_k_X8_worked : ∀ k q, mt_k_X8_worked k = some q → pm_Kok RX8 k q := by
  intro k q h
  unfold mt_k_X8_worked at h
  cases h
theorem mk_o_X8_worked : ∀ k q, mt_o_X8_worked k = some q → pm_Oko RX8 k q := by
  intro k q h
  unfold mt_o_X8_worked at h
  cases h
theorem mk_n_X8_worked : ∀ k q, mt_n_X8_worked k = some q → pm_Nok RX8 k q := by
  intro k q h
  unfold mt_n_X8_worked at h
  cases h
theorem mk_f_X8_worked (l : Launch) : ∀ k q, mt_f_X8_worked k = some q → pm_Cal l 4 103 RX8 k q := by
  intro k q h
  unfold mt_f_X8_worked at h
  split at h
  · cases h
    exact ⟨yX8_in, cX8_in, 3, (some .boolean), 1, 27, mM_X8_in l, by decide, by decide, pt_650, pt_6, by decide, by decide, fun h => absurd h (by decide), fun _ => ⟨pt_648, pt_649⟩, fun h => absurd h (by decide)⟩
  · cases h
    exact ⟨yX8_valueOf, cX8_valueOf, 1, (some .int), 1, 27, mM_X8_valueOf l, by decide, by decide, pt_674, pt_6, by decide, by decide, fun h => absurd h (by decide), fun _ => ⟨pt_672, pt_673⟩, fun h => absurd h (by decide)⟩
  · cases h
    exact ⟨yX8_byteOf, cX8_byteOf, 2, (some .int), 2, 47, mM_X8_byteOf l, by decide, by decide, pt_671, pt_6, by decide, by decide, fun h => absurd h (by decide), fun _ => ⟨pt_669, pt_670⟩, fun h => absurd h (by decide)⟩
  · cases h
    exact ⟨yX8_realOver, cX8_realOver, 4, (some .double), 2, 48, mM_X8_realOver l, by decide, by decide, pt_685, pt_6, by decide, by decide, fun h => absurd h (by decide), fun _ => ⟨pt_683, pt_684⟩, fun h => absurd h (by decide)⟩
  · cases h
    exact ⟨yX8_averageOf, cX8_averageOf, 6, (some .double), 3, 71, mM_X8_averageOf l, by decide, by decide, pt_682, pt_6, by decide, by decide, fun _ => ⟨by decide, rfl, pt_679, pt_681, pt_s21⟩, fun h => absurd h (by decide), fun h => absurd h (by decide)⟩
  · cases h
    exact ⟨yX8_root, cX8_root, 15, (some .double), 3, 69, mM_X8_root l, by decide, by decide, pt_738, pt_6, by decide, by decide, fun h => absurd h (by decide), fun _ => ⟨pt_736, pt_737⟩, fun h => absurd h (by decide)⟩
  · cases h
    exact ⟨yX8_realPlus, cX8_realPlus, 4, (some .double), 2, 48, mM_X8_realPlus l, by decide, by decide, pt_745, pt_6, by decide, by decide, fun h => absurd h (by decide), fun _ => ⟨pt_743, pt_744⟩, fun h => absurd h (by decide)⟩
  · cases h
    exact ⟨yX8_realLess, cX8_realLess, 4, (some .double), 2, 48, mM_X8_realLess l, by decide, by decide, pt_748, pt_6, by decide, by decide, fun h => absurd h (by decide), fun _ => ⟨pt_746, pt_747⟩, fun h => absurd h (by decide)⟩
  · cases h
    exact ⟨yX8_realTimes, cX8_realTimes, 4, (some .double), 2, 48, mM_X8_realTimes l, by decide, by decide, pt_751, pt_6, by decide, by decide, fun h => absurd h (by decide), fun _ => ⟨pt_749, pt_750⟩, fun h => absurd h (by decide)⟩
  · cases h
    exact ⟨yX8_greater, cX8_greater, 4, (some .double), 3, 69, mM_X8_greater l, by decide, by decide, pt_754, pt_6, by decide, by decide, fun h => absurd h (by decide), fun _ => ⟨pt_752, pt_753⟩, fun h => absurd h (by decide)⟩
  · cases h
    exact ⟨yX8_down, cX8_down, 4, (some .double), 1, 27, mM_X8_down l, by decide, by decide, pt_757, pt_6, by decide, by decide, fun h => absurd h (by decide), fun _ => ⟨pt_755, pt_756⟩, fun h => absurd h (by decide)⟩
  · cases h
noncomputable def mF_X8_worked : pm_F := pm_fn mE_X8_worked 19
theorem mM_X8_worked (l : Launch) : pm_Met l yX8_worked cX8_worked 19 (some .double) 4 103 mF_X8_worked := pm_met (own := RX8) (E := mE_X8_worked) (ini := false) (by decide) rfl ⟨mk_g_X8_worked, mk_p_X8_worked, mk_k_X8_worked, mk_f_X8_worked l, mk_o_X8_worked, mk_n_X8_worked, by decide⟩ rfl (fun h => by cases h)
noncomputable def mt_g_X8_give : Nat → Option (Nat × Nat) := fun k => match k with
  | 27 => some (5, 6)
  | 60 => some (5, 17)
  | 63 => some (5, 18)
  | 66 => some (5, 19)
  | 69 => some (5, 20)
  | 164 => some (5, 21)
  | _ => none
noncomputable def mt_p_X8_give : Nat → Option (Nat × Nat) := fun k => match k with
  | 164 => some (5, 21)
  | 192 => some (5, 28)
  | _ => none
noncomputable def mt_k_X8_give : Nat → Option Value := fun _ => none
noncomputable def mt_f_X8_give : Nat → Option (Nat × Nat × Nat × pm_F) := fun k => match k with
  | 177 => some (1, 2, 5, mF_X8_realPlus)
  | 183 => some (1, 2, 5, mF_X8_realTimes)
  | 186 => some (1, 2, 5, mF_X8_greater)
  | _ => none
noncomputable def mt_o_X8_give : Nat → Option Nat := fun _ => none
noncomputable def mt_n_X8_give : Nat → Option Nat := fun _ => none
noncomputable def mE_X8_give : pm_E := (cX8_give, mt_g_X8_give, mt_p_X8_give, mt_k_X8_give, mt_f_X8_give, mt_o_X8_give, mt_n_X8_give, none, none)
theorem mk_g_X8_give : ∀ k q, mt_g_X8_give k = some q → pm_Fok RX8 k q := by
  intro k q h
  unfold mt_g_X8_give at h
  split at h
  · cases h
    exact ⟨by decide, by decide, pt_552⟩
  · cases h
    exact ⟨by decide, by decide, pt_563⟩
  · cases h
    exact ⟨by decide, by decide, pt_564⟩
  · cases h
    exact ⟨by decide, by decide, pt_565⟩
  · cases h
    exact ⟨by decide, by decide, pt_566⟩
  · cases h
    exact ⟨by decide, by decide, pt_567⟩
  · cases h
theorem mk_p_X8_give : ∀ k q, mt_p_X8_give k = some q → pm_Fok RX8 k q ∧ ((pm_ct q.1 q.2).2.2.2 = false ∨ (false = true ∧ (pm_ct q.1 q.2).1 = RX8)) := by
  intro k q h
  unfold mt_p_X8_give at h
  split at h
  · cases h
    exact ⟨⟨by decide, by decide, pt_567⟩, Or.inl rfl⟩
  · cases h
    exact ⟨⟨by decide, by decide, pt_574⟩, Or.inl rfl⟩
  · cases h
theorem mk_k_X8_give : ∀ k q, mt_k_X8_give k = some q → pm_Kok RX8 k q := by
  intro k q h
  unfold mt_k_X8_give at h
  cases h
theorem mk_o_X8_give : ∀ k q, mt_o_X8_give k = some q → pm_Oko RX8 k q := by
  intro k q h
  unfold mt_o_X8_give at h
  cases h
theorem mk_n_X8_give : ∀ k q, mt_n_X8_give k = some q → pm_Nok RX8 k q := by
  intro k q h
  unfold mt_n_X8_give at h
  cases h
theorem mk_f_X8_give (l : Launch) : ∀ k q, mt_f_X8_give k = some q → pm_Cal l 4 92 RX8 k q := by
  intro k q h
  unfold mt_f_X8_give at h
  split at h
  · cases h
    exact ⟨yX8_realPlus, cX8_realPlus, 4, (some .double), 2, 48, mM_X8_realPlus l, by decide, by decide, pt_745, pt_6, by decide, by decide, fun h => absurd h (by decide), fun _ => ⟨pt_743, pt_744⟩, fun h => absurd h (by decide)⟩
  · cases h
    exact ⟨yX8_realTimes, cX8_realTimes, 4, (some .double), 2, 48, mM_X8_realTimes l, by decide, by decide, pt_751, pt_6, by decide, by decide, fun h => absurd h (by decide), fun _ => ⟨pt_749, pt_750⟩, fun h => absurd h (by decide)⟩
  · cases h
    exact ⟨yX8_greater, cX8_greater, 4, (some .double), 3, 69, mM_X8_greater l, by decide, by decide, pt_754, pt_6, by decide, by decide, fun h => absurd h (by decide), fun _ => ⟨pt_752, pt_753⟩, fun h => absurd h (by decide)⟩
  · cases h
noncomputable def mF_X8_give : pm_F := pm_fn mE_X8_give 5
theorem mM_X8_give (l : Launch) : pm_Met l yX8_give cX8_give 5 none 4 92 mF_X8_give := pm_met (own := RX8) (E := mE_X8_give) (ini := false) (by decide) rfl ⟨mk_g_X8_give, mk_p_X8_give, mk_k_X8_give, mk_f_X8_give l, mk_o_X8_give, mk_n_X8_give, by decide⟩ rfl (fun h => by cases h)
noncomputable def mt_g_X8_fail : Nat → Option (Nat × Nat) := fun k => match k with
  | 27 => some (5, 6)
  | 42 => some (5, 11)
  | 60 => some (5, 17)
  | 63 => some (5, 18)
  | 164 => some (5, 21)
  | 202 => some (5, 25)
  | _ => none
noncomputable def mt_p_X8_fail : Nat → Option (Nat × Nat) := fun k => match k with
  | 164 => some (5, 21)
  | 196 => some (5, 23)
  | 199 => some (5, 22)
  | 202 => some (5, 25)
  | _ => none
noncomputable def mt_k_X8_fail : Nat → Option Value := fun _ => none
noncomputable def mt_f_X8_fail : Nat → Option (Nat × Nat × Nat × pm_F) := fun k => match k with
  | 205 => some (0, 1, 5, mF_X8_begin)
  | _ => none
noncomputable def mt_o_X8_fail : Nat → Option Nat := fun _ => none
noncomputable def mt_n_X8_fail : Nat → Option Nat := fun _ => none
noncomputable def mE_X8_fail : pm_E := (cX8_fail, mt_g_X8_fail, mt_p_X8_fail, mt_k_X8_fail, mt_f_X8_fail, mt_o_X8_fail, mt_n_X8_fail, none, none)
theorem mk_g_X8_fail : ∀ k q, mt_g_X8_fail k = some q → pm_Fok RX8 k q := by
  intro k q h
  unfold mt_g_X8_fail at h
  split at h
  · cases h
    exact ⟨by decide, by decide, pt_552⟩
  · cases h
    exact ⟨by decide, by decide, pt_557⟩
  · cases h
    exact ⟨by decide, by decide, pt_563⟩
  · cases h
    exact ⟨by decide, by decide, pt_564⟩
  · cases h
    exact ⟨by decide, by decide, pt_567⟩
  · cases h
    exact ⟨by decide, by decide, pt_571⟩
  · cases h
theorem mk_p_X8_fail : ∀ k q, mt_p_X8_fail k = some q → pm_Fok RX8 k q ∧ ((pm_ct q.1 q.2).2.2.2 = false ∨ (false = true ∧ (pm_ct q.1 q.2).1 = RX8)) := by
  intro k q h
  unfold mt_p_X8_fail at h
  split at h
  · cases h
    exact ⟨⟨by decide, by decide, pt_567⟩, Or.inl rfl⟩
  · cases h
    exact ⟨⟨by decide, by decide, pt_569⟩, Or.inl rfl⟩
  · cases h
    exact ⟨⟨by decide, by decide, pt_568⟩, Or.inl rfl⟩
  · cases h
    exact ⟨⟨by decide, by decide, pt_571⟩, Or.inl rfl⟩
  · cases h
theorem mk_k_X8_fail : ∀ k q, mt_k_X8_fail k = some q → pm_Kok RX8 k q := by
  intro k q h
  unfold mt_k_X8_fail at h
  cases h
theorem mk_o_X8_fail : ∀ k q, mt_o_X8_fail k = some q → pm_Oko RX8 k q := by
  intro k q h
  unfold mt_o_X8_fail at h
  cases h
theorem mk_n_X8_fail : ∀ k q, mt_n_X8_fail k = some q → pm_Nok RX8 k q := by
  intro k q h
  unfold mt_n_X8_fail at h
  cases h
theorem mk_f_X8_fail (l : Launch) : ∀ k q, mt_f_X8_fail k = some q → pm_Cal l 2 48 RX8 k q := by
  intro k q h
  unfold mt_f_X8_fail at h
  split at h
  · cases h
    exact ⟨yX8_begin, cX8_begin, 2, none, 1, 27, mM_X8_begin l, by decide, by decide, pt_731, pt_6, by decide, by decide, fun _ => ⟨by decide, rfl, pt_728, pt_730, pt_s25⟩, fun h => absurd h (by decide), fun h => absurd h (by decide)⟩
  · cases h
noncomputable def mF_X8_fail : pm_F := pm_fn mE_X8_fail 2
theorem mM_X8_fail (l : Launch) : pm_Met l yX8_fail cX8_fail 2 none 2 48 mF_X8_fail := pm_met (own := RX8) (E := mE_X8_fail) (ini := false) (by decide) rfl ⟨mk_g_X8_fail, mk_p_X8_fail, mk_k_X8_fail, mk_f_X8_fail l, mk_o_X8_fail, mk_n_X8_fail, by decide⟩ rfl (fun h => by cases h)
noncomputable def mt_g_X8_work : Nat → Option (Nat × Nat) := fun k => match k with
  | 27 => some (5, 6)
  | 39 => some (5, 10)
  | 42 => some (5, 11)
  | 60 => some (5, 17)
  | 63 => some (5, 18)
  | 66 => some (5, 19)
  | 69 => some (5, 20)
  | 164 => some (5, 21)
  | _ => none
noncomputable def mt_p_X8_work : Nat → Option (Nat × Nat) := fun k => match k with
  | 164 => some (5, 21)
  | 167 => some (5, 24)
  | 170 => some (5, 26)
  | 192 => some (5, 28)
  | 196 => some (5, 23)
  | 199 => some (5, 22)
  | 202 => some (5, 25)
  | _ => none
noncomputable def mt_k_X8_work : Nat → Option Value := fun _ => none
noncomputable def mt_f_X8_work : Nat → Option (Nat × Nat × Nat × pm_F) := fun k => match k with
  | 89 => some (1, 3, 5, mF_X8_in)
  | 205 => some (0, 1, 5, mF_X8_begin)
  | 208 => some (0, 4, 5, mF_X8_worked)
  | 212 => some (0, 1, 5, mF_X8_fail)
  | 215 => some (0, 1, 5, mF_X8_give)
  | _ => none
noncomputable def mt_o_X8_work : Nat → Option Nat := fun _ => none
noncomputable def mt_n_X8_work : Nat → Option Nat := fun _ => none
noncomputable def mE_X8_work : pm_E := (cX8_work, mt_g_X8_work, mt_p_X8_work, mt_k_X8_work, mt_f_X8_work, mt_o_X8_work, mt_n_X8_work, none, none)
theorem mk_g_X8_work : ∀ k q, mt_g_X8_work k = some q → pm_Fok RX8 k q := by
  intro k q h
  unfold mt_g_X8_work at h
  split at h
  · cases h
    exact ⟨by decide, by decide, pt_552⟩
  · cases h
    exact ⟨by decide, by decide, pt_556⟩
  · cases h
    exact ⟨by decide, by decide, pt_557⟩
  · cases h
    exact ⟨by decide, by decide, pt_563⟩
  · cases h
    exact ⟨by decide, by decide, pt_564⟩
  · cases h
    exact ⟨by decide, by decide, pt_565⟩
  · cases h
    exact ⟨by decide, by decide, pt_566⟩
  · cases h
    exact ⟨by decide, by decide, pt_567⟩
  · cases h
theorem mk_p_X8_work : ∀ k q, mt_p_X8_work k = some q → pm_Fok RX8 k q ∧ ((pm_ct q.1 q.2).2.2.2 = false ∨ (false = true ∧ (pm_ct q.1 q.2).1 = RX8)) := by
  intro k q h
  unfold mt_p_X8_work at h
  split at h
  · cases h
    exact ⟨⟨by decide, by decide, pt_567⟩, Or.inl rfl⟩
  · cases h
    exact ⟨⟨by decide, by decide, pt_570⟩, Or.inl rfl⟩
  · cases h
    exact ⟨⟨by decide, by decide, pt_572⟩, Or.inl rfl⟩
  · cases h
    exact ⟨⟨by decide, by decide, pt_574⟩, Or.inl rfl⟩
  · cases h
    exact ⟨⟨by decide, by decide, pt_569⟩, Or.inl rfl⟩
  · cases h
    exact ⟨⟨by decide, by decide, pt_568⟩, Or.inl rfl⟩
  · cases h
    exact ⟨⟨by decide, by decide, pt_571⟩, Or.inl rfl⟩
  · cases h
theorem mk_k_X8_work : ∀ k q, mt_k_X8_work k = some q → pm_Kok RX8 k q := by
  intro k q h
  unfold mt_k_X8_work at h
  cases h
theorem mk_o_X8_work : ∀ k q, mt_o_X8_work k = some q → pm_Oko RX8 k q := by
  intro k q h
  unfold mt_o_X8_work at h
  cases h
theorem mk_n_X8_work : ∀ k q, mt_n_X8_work k = some q → pm_Nok RX8 k q := by
  intro k q h
  unfold mt_n_X8_work at h
  cases h
theorem mk_f_X8_work (l : Launch) : ∀ k q, mt_f_X8_work k = some q → pm_Cal l 5 141 RX8 k q := by
  intro k q h
  unfold mt_f_X8_work at h
  split at h
  · cases h
    exact ⟨yX8_in, cX8_in, 3, (some .boolean), 1, 27, mM_X8_in l, by decide, by decide, pt_650, pt_6, by decide, by decide, fun h => absurd h (by decide), fun _ => ⟨pt_648, pt_649⟩, fun h => absurd h (by decide)⟩
  · cases h
    exact ⟨yX8_begin, cX8_begin, 2, none, 1, 27, mM_X8_begin l, by decide, by decide, pt_731, pt_6, by decide, by decide, fun _ => ⟨by decide, rfl, pt_728, pt_730, pt_s25⟩, fun h => absurd h (by decide), fun h => absurd h (by decide)⟩
  · cases h
    exact ⟨yX8_worked, cX8_worked, 19, (some .double), 4, 103, mM_X8_worked l, by decide, by decide, pt_735, pt_6, by decide, by decide, fun _ => ⟨by decide, rfl, pt_732, pt_734, pt_s26⟩, fun h => absurd h (by decide), fun h => absurd h (by decide)⟩
  · cases h
    exact ⟨yX8_fail, cX8_fail, 2, none, 2, 48, mM_X8_fail l, by decide, by decide, pt_763, pt_6, by decide, by decide, fun _ => ⟨by decide, rfl, pt_760, pt_762, pt_s27⟩, fun h => absurd h (by decide), fun h => absurd h (by decide)⟩
  · cases h
    exact ⟨yX8_give, cX8_give, 5, none, 4, 92, mM_X8_give l, by decide, by decide, pt_767, pt_6, by decide, by decide, fun _ => ⟨by decide, rfl, pt_764, pt_766, pt_s28⟩, fun h => absurd h (by decide), fun h => absurd h (by decide)⟩
  · cases h
noncomputable def mF_X8_work : pm_F := pm_fn mE_X8_work 7
theorem mM_X8_work (l : Launch) : pm_Met l yX8_work cX8_work 7 none 5 141 mF_X8_work := pm_met (own := RX8) (E := mE_X8_work) (ini := false) (by decide) rfl ⟨mk_g_X8_work, mk_p_X8_work, mk_k_X8_work, mk_f_X8_work l, mk_o_X8_work, mk_n_X8_work, by decide⟩ rfl (fun h => by cases h)
noncomputable def mt_g_X8_score : Nat → Option (Nat × Nat) := fun k => match k with
  | 72 => some (5, 29)
  | 167 => some (5, 24)
  | 170 => some (5, 26)
  | 192 => some (5, 28)
  | 196 => some (5, 23)
  | 199 => some (5, 22)
  | 202 => some (5, 25)
  | _ => none
noncomputable def mt_p_X8_score : Nat → Option (Nat × Nat) := fun k => match k with
  | 223 => some (5, 27)
  | _ => none
noncomputable def mt_k_X8_score : Nat → Option Value := fun _ => none
noncomputable def mt_f_X8_score : Nat → Option (Nat × Nat × Nat × pm_F) := fun k => match k with
  | 89 => some (1, 3, 5, mF_X8_in)
  | 113 => some (1, 1, 9, mF_Jxe99ae_doubleToLongBits_ccdee)
  | 127 => some (0, 1, 5, mF_X8_isFormula)
  | 219 => some (0, 2, 5, mF_X8_work)
  | _ => none
noncomputable def mt_o_X8_score : Nat → Option Nat := fun _ => none
noncomputable def mt_n_X8_score : Nat → Option Nat := fun _ => none
noncomputable def mE_X8_score : pm_E := (cX8_score, mt_g_X8_score, mt_p_X8_score, mt_k_X8_score, mt_f_X8_score, mt_o_X8_score, mt_n_X8_score, none, (some .long))
theorem mk_g_X8_score : ∀ k q, mt_g_X8_score k = some q → pm_Fok RX8 k q := by
  intro k q h
  unfold mt_g_X8_score at h
  split at h
  · cases h
    exact ⟨by decide, by decide, pt_575⟩
  · cases h
    exact ⟨by decide, by decide, pt_570⟩
  · cases h
    exact ⟨by decide, by decide, pt_572⟩
  · cases h
    exact ⟨by decide, by decide, pt_574⟩
  · cases h
    exact ⟨by decide, by decide, pt_569⟩
  · cases h
    exact ⟨by decide, by decide, pt_568⟩
  · cases h
    exact ⟨by decide, by decide, pt_571⟩
  · cases h
theorem mk_p_X8_score : ∀ k q, mt_p_X8_score k = some q → pm_Fok RX8 k q ∧ ((pm_ct q.1 q.2).2.2.2 = false ∨ (false = true ∧ (pm_ct q.1 q.2).1 = RX8)) := by
  intro k q h
  unfold mt_p_X8_score at h
  split at h
  · cases h
    exact ⟨⟨by decide, by decide, pt_573⟩, Or.inl rfl⟩
  · cases h
theorem mk_k_X8_score : ∀ k q, mt_k_X8_score k = some q → pm_Kok RX8 k q := by
  intro k q h
  unfold mt_k_X8_score at h
  cases h
theorem mk_o_X8_score : ∀ k q, mt_o_X8_score k = some q → pm_Oko RX8 k q := by
  intro k q h
  unfold mt_o_X8_score at h
  cases h
theorem mk_n_X8_score : ∀ k q, mt_n_X8_score k = some q → pm_Nok RX8 k q := by
  intro k q h
  unfold mt_n_X8_score at h
  cases h
theorem mk_f_X8_score (l : Launch) : ∀ k q, mt_f_X8_score k = some q → pm_Cal l 6 167 RX8 k q := by
  intro k q h
  unfold mt_f_X8_score at h
  split at h
  · cases h
    exact ⟨yX8_in, cX8_in, 3, (some .boolean), 1, 27, mM_X8_in l, by decide, by decide, pt_650, pt_6, by decide, by decide, fun h => absurd h (by decide), fun _ => ⟨pt_648, pt_649⟩, fun h => absurd h (by decide)⟩
  · cases h
    exact ⟨yJxe99ae_doubleToLongBits_ccdee, cJxe99ae_doubleToLongBits_ccdee, 2, (some .long), 2, 48, mM_Jxe99ae_doubleToLongBits_ccdee l, by decide, by decide, pt_693, pt_7, by decide, by decide, fun h => absurd h (by decide), fun _ => ⟨pt_691, pt_692⟩, fun h => absurd h (by decide)⟩
  · cases h
    exact ⟨yX8_isFormula, cX8_isFormula, 2, (some .boolean), 2, 49, mM_X8_isFormula l, by decide, by decide, pt_711, pt_6, by decide, by decide, fun _ => ⟨by decide, rfl, pt_708, pt_710, pt_s22⟩, fun h => absurd h (by decide), fun h => absurd h (by decide)⟩
  · cases h
    exact ⟨yX8_work, cX8_work, 7, none, 5, 141, mM_X8_work l, by decide, by decide, pt_727, pt_6, by decide, by decide, fun _ => ⟨by decide, rfl, pt_724, pt_726, pt_s24⟩, fun h => absurd h (by decide), fun h => absurd h (by decide)⟩
  · cases h
noncomputable def mF_X8_score : pm_F := pm_fn mE_X8_score 3
theorem mM_X8_score (l : Launch) : pm_Met l yX8_score cX8_score 3 (some .long) 6 167 mF_X8_score := pm_met (own := RX8) (E := mE_X8_score) (ini := false) (by decide) rfl ⟨mk_g_X8_score, mk_p_X8_score, mk_k_X8_score, mk_f_X8_score l, mk_o_X8_score, mk_n_X8_score, by decide⟩ rfl (fun h => by cases h)
noncomputable def mt_g_X8_told : Nat → Option (Nat × Nat) := fun k => match k with
  | 72 => some (5, 29)
  | 223 => some (5, 27)
  | _ => none
noncomputable def mt_p_X8_told : Nat → Option (Nat × Nat) := fun _ => none
noncomputable def mt_k_X8_told : Nat → Option Value := fun _ => none
noncomputable def mt_f_X8_told : Nat → Option (Nat × Nat × Nat × pm_F) := fun k => match k with
  | 89 => some (1, 3, 5, mF_X8_in)
  | _ => none
noncomputable def mt_o_X8_told : Nat → Option Nat := fun _ => none
noncomputable def mt_n_X8_told : Nat → Option Nat := fun _ => none
noncomputable def mE_X8_told : pm_E := (cX8_told, mt_g_X8_told, mt_p_X8_told, mt_k_X8_told, mt_f_X8_told, mt_o_X8_told, mt_n_X8_told, none, (some .int))
theorem mk_g_X8_told : ∀ k q, mt_g_X8_told k = some q → pm_Fok RX8 k q := by
  intro k q h
  unfold mt_g_X8_told at h
  split at h
  · cases h
    exact ⟨by decide, by decide, pt_575⟩
  · cases h
    exact ⟨by decide, by decide, pt_573⟩
  · cases h
theorem mk_p_X8_told : ∀ k q, mt_p_X8_told k = some q → pm_Fok RX8 k q ∧ ((pm_ct q.1 q.2).2.2.2 = false ∨ (false = true ∧ (pm_ct q.1 q.2).1 = RX8)) := by
  intro k q h
  unfold mt_p_X8_told at h
  cases h
theorem mk_k_X8_told : ∀ k q, mt_k_X8_told k = some q → pm_Kok RX8 k q := by
  intro k q h
  unfold mt_k_X8_told at h
  cases h
theorem mk_o_X8_told : ∀ k q, mt_o_X8_told k = some q → pm_Oko RX8 k q := by
  intro k q h
  unfold mt_o_X8_told at h
  cases h
theorem mk_n_X8_told : ∀ k q, mt_n_X8_told k = some q → pm_Nok RX8 k q := by
  intro k q h
  unfold mt_n_X8_told at h
  cases h
theorem mk_f_X8_told (l : Launch) : ∀ k q, mt_f_X8_told k = some q → pm_Cal l 2 49 RX8 k q := by
  intro k q h
  unfold mt_f_X8_told at h
  split at h
  · cases h
    exact ⟨yX8_in, cX8_in, 3, (some .boolean), 1, 27, mM_X8_in l, by decide, by decide, pt_650, pt_6, by decide, by decide, fun h => absurd h (by decide), fun _ => ⟨pt_648, pt_649⟩, fun h => absurd h (by decide)⟩
  · cases h
noncomputable def mF_X8_told : pm_F := pm_fn mE_X8_told 2
theorem mM_X8_told (l : Launch) : pm_Met l yX8_told cX8_told 2 (some .int) 2 49 mF_X8_told := pm_met (own := RX8) (E := mE_X8_told) (ini := false) (by decide) rfl ⟨mk_g_X8_told, mk_p_X8_told, mk_k_X8_told, mk_f_X8_told l, mk_o_X8_told, mk_n_X8_told, by decide⟩ rfl (fun h => by cases h)
noncomputable def mt_g_X8_about : Nat → Option (Nat × Nat) := fun k => match k with
  | 27 => some (5, 6)
  | 39 => some (5, 10)
  | 48 => some (5, 13)
  | 51 => some (5, 14)
  | 54 => some (5, 15)
  | 57 => some (5, 16)
  | _ => none
noncomputable def mt_p_X8_about : Nat → Option (Nat × Nat) := fun _ => none
noncomputable def mt_k_X8_about : Nat → Option Value := fun _ => none
noncomputable def mt_f_X8_about : Nat → Option (Nat × Nat × Nat × pm_F) := fun k => match k with
  | 89 => some (1, 3, 5, mF_X8_in)
  | 127 => some (0, 1, 5, mF_X8_isFormula)
  | _ => none
noncomputable def mt_o_X8_about : Nat → Option Nat := fun _ => none
noncomputable def mt_n_X8_about : Nat → Option Nat := fun _ => none
noncomputable def mE_X8_about : pm_E := (cX8_about, mt_g_X8_about, mt_p_X8_about, mt_k_X8_about, mt_f_X8_about, mt_o_X8_about, mt_n_X8_about, none, (some .int))
theorem mk_g_X8_about : ∀ k q, mt_g_X8_about k = some q → pm_Fok RX8 k q := by
  intro k q h
  unfold mt_g_X8_about at h
  split at h
  · cases h
    exact ⟨by decide, by decide, pt_552⟩
  · cases h
    exact ⟨by decide, by decide, pt_556⟩
  · cases h
    exact ⟨by decide, by decide, pt_559⟩
  · cases h
    exact ⟨by decide, by decide, pt_560⟩
  · cases h
    exact ⟨by decide, by decide, pt_561⟩
  · cases h
    exact ⟨by decide, by decide, pt_562⟩
  · cases h
theorem mk_p_X8_about : ∀ k q, mt_p_X8_about k = some q → pm_Fok RX8 k q ∧ ((pm_ct q.1 q.2).2.2.2 = false ∨ (false = true ∧ (pm_ct q.1 q.2).1 = RX8)) := by
  intro k q h
  unfold mt_p_X8_about at h
  cases h
theorem mk_k_X8_about : ∀ k q, mt_k_X8_about k = some q → pm_Kok RX8 k q := by
  intro k q h
  unfold mt_k_X8_about at h
  cases h
theorem mk_o_X8_about : ∀ k q, mt_o_X8_about k = some q → pm_Oko RX8 k q := by
  intro k q h
  unfold mt_o_X8_about at h
  cases h
theorem mk_n_X8_about : ∀ k q, mt_n_X8_about k = some q → pm_Nok RX8 k q := by
  intro k q h
  unfold mt_n_X8_about at h
  cases h
theorem mk_f_X8_about (l : Launch) : ∀ k q, mt_f_X8_about k = some q → pm_Cal l 3 70 RX8 k q := by
  intro k q h
  unfold mt_f_X8_about at h
  split at h
  · cases h
    exact ⟨yX8_in, cX8_in, 3, (some .boolean), 1, 27, mM_X8_in l, by decide, by decide, pt_650, pt_6, by decide, by decide, fun h => absurd h (by decide), fun _ => ⟨pt_648, pt_649⟩, fun h => absurd h (by decide)⟩
  · cases h
    exact ⟨yX8_isFormula, cX8_isFormula, 2, (some .boolean), 2, 49, mM_X8_isFormula l, by decide, by decide, pt_711, pt_6, by decide, by decide, fun _ => ⟨by decide, rfl, pt_708, pt_710, pt_s22⟩, fun h => absurd h (by decide), fun h => absurd h (by decide)⟩
  · cases h
noncomputable def mF_X8_about : pm_F := pm_fn mE_X8_about 3
theorem mM_X8_about (l : Launch) : pm_Met l yX8_about cX8_about 3 (some .int) 3 70 mF_X8_about := pm_met (own := RX8) (E := mE_X8_about) (ini := false) (by decide) rfl ⟨mk_g_X8_about, mk_p_X8_about, mk_k_X8_about, mk_f_X8_about l, mk_o_X8_about, mk_n_X8_about, by decide⟩ rfl (fun h => by cases h)
noncomputable def mt_g_X8_partOf : Nat → Option (Nat × Nat) := fun k => match k with
  | 39 => some (5, 10)
  | 42 => some (5, 11)
  | _ => none
noncomputable def mt_p_X8_partOf : Nat → Option (Nat × Nat) := fun _ => none
noncomputable def mt_k_X8_partOf : Nat → Option Value := fun _ => none
noncomputable def mt_f_X8_partOf : Nat → Option (Nat × Nat × Nat × pm_F) := fun k => match k with
  | 89 => some (1, 3, 5, mF_X8_in)
  | 127 => some (0, 1, 5, mF_X8_isFormula)
  | _ => none
noncomputable def mt_o_X8_partOf : Nat → Option Nat := fun _ => none
noncomputable def mt_n_X8_partOf : Nat → Option Nat := fun _ => none
noncomputable def mE_X8_partOf : pm_E := (cX8_partOf, mt_g_X8_partOf, mt_p_X8_partOf, mt_k_X8_partOf, mt_f_X8_partOf, mt_o_X8_partOf, mt_n_X8_partOf, none, (some .int))
theorem mk_g_X8_partOf : ∀ k q, mt_g_X8_partOf k = some q → pm_Fok RX8 k q := by
  intro k q h
  unfold mt_g_X8_partOf at h
  split at h
  · cases h
    exact ⟨by decide, by decide, pt_556⟩
  · cases h
    exact ⟨by decide, by decide, pt_557⟩
  · cases h
theorem mk_p_X8_partOf : ∀ k q, mt_p_X8_partOf k = some q → pm_Fok RX8 k q ∧ ((pm_ct q.1 q.2).2.2.2 = false ∨ (false = true ∧ (pm_ct q.1 q.2).1 = RX8)) := by
  intro k q h
  unfold mt_p_X8_partOf at h
  cases h
theorem mk_k_X8_partOf : ∀ k q, mt_k_X8_partOf k = some q → pm_Kok RX8 k q := by
  intro k q h
  unfold mt_k_X8_partOf at h
  cases h
theorem mk_o_X8_partOf : ∀ k q, mt_o_X8_partOf k = some q → pm_Oko RX8 k q := by
  intro k q h
  unfold mt_o_X8_partOf at h
  cases h
theorem mk_n_X8_partOf : ∀ k q, mt_n_X8_partOf k = some q → pm_Nok RX8 k q := by
  intro k q h
  unfold mt_n_X8_partOf at h
  cases h
theorem mk_f_X8_partOf (l : Launch) : ∀ k q, mt_f_X8_partOf k = some q → pm_Cal l 3 70 RX8 k q := by
  intro k q h
  unfold mt_f_X8_partOf at h
  split at h
  · cases h
    exact ⟨yX8_in, cX8_in, 3, (some .boolean), 1, 27, mM_X8_in l, by decide, by decide, pt_650, pt_6, by decide, by decide, fun h => absurd h (by decide), fun _ => ⟨pt_648, pt_649⟩, fun h => absurd h (by decide)⟩
  · cases h
    exact ⟨yX8_isFormula, cX8_isFormula, 2, (some .boolean), 2, 49, mM_X8_isFormula l, by decide, by decide, pt_711, pt_6, by decide, by decide, fun _ => ⟨by decide, rfl, pt_708, pt_710, pt_s22⟩, fun h => absurd h (by decide), fun h => absurd h (by decide)⟩
  · cases h
noncomputable def mF_X8_partOf : pm_F := pm_fn mE_X8_partOf 3
theorem mM_X8_partOf (l : Launch) : pm_Met l yX8_partOf cX8_partOf 3 (some .int) 3 70 mF_X8_partOf := pm_met (own := RX8) (E := mE_X8_partOf) (ini := false) (by decide) rfl ⟨mk_g_X8_partOf, mk_p_X8_partOf, mk_k_X8_partOf, mk_f_X8_partOf l, mk_o_X8_partOf, mk_n_X8_partOf, by decide⟩ rfl (fun h => by cases h)
noncomputable def mt_g_X8_top : Nat → Option (Nat × Nat) := fun k => match k with
  | 75 => some (5, 30)
  | 78 => some (5, 31)
  | 192 => some (5, 28)
  | 199 => some (5, 22)
  | _ => none
noncomputable def mt_p_X8_top : Nat → Option (Nat × Nat) := fun _ => none
noncomputable def mt_k_X8_top : Nat → Option Value := fun _ => none
noncomputable def mt_f_X8_top : Nat → Option (Nat × Nat × Nat × pm_F) := fun k => match k with
  | 89 => some (1, 3, 5, mF_X8_in)
  | 127 => some (0, 1, 5, mF_X8_isFormula)
  | 219 => some (0, 2, 5, mF_X8_work)
  | _ => none
noncomputable def mt_o_X8_top : Nat → Option Nat := fun _ => none
noncomputable def mt_n_X8_top : Nat → Option Nat := fun _ => none
noncomputable def mE_X8_top : pm_E := (cX8_top, mt_g_X8_top, mt_p_X8_top, mt_k_X8_top, mt_f_X8_top, mt_o_X8_top, mt_n_X8_top, none, (some .int))
theorem mk_g_X8_top : ∀ k q, mt_g_X8_top k = some q → pm_Fok RX8 k q := by
  intro k q h
  unfold mt_g_X8_top at h
  split at h
  · cases h
    exact ⟨by decide, by decide, pt_576⟩
  · cases h
    exact ⟨by decide, by decide, pt_577⟩
  · cases h
    exact ⟨by decide, by decide, pt_574⟩
  · cases h
    exact ⟨by decide, by decide, pt_568⟩
  · cases h
theorem mk_p_X8_top : ∀ k q, mt_p_X8_top k = some q → pm_Fok RX8 k q ∧ ((pm_ct q.1 q.2).2.2.2 = false ∨ (false = true ∧ (pm_ct q.1 q.2).1 = RX8)) := by
  intro k q h
  unfold mt_p_X8_top at h
  cases h
theorem mk_k_X8_top : ∀ k q, mt_k_X8_top k = some q → pm_Kok RX8 k q := by
  intro k q h
  unfold mt_k_X8_top at h
  cases h
theorem mk_o_X8_top : ∀ k q, mt_o_X8_top k = some q → pm_Oko RX8 k q := by
  intro k q h
  unfold mt_o_X8_top at h
  cases h
theorem mk_n_X8_top : ∀ k q, mt_n_X8_top k = some q → pm_Nok RX8 k q := by
  intro k q h
  unfold mt_n_X8_top at h
  cases h
theorem mk_f_X8_top (l : Launch) : ∀ k q, mt_f_X8_top k = some q → pm_Cal l 6 167 RX8 k q := by
  intro k q h
  unfold mt_f_X8_top at h
  split at h
  · cases h
    exact ⟨yX8_in, cX8_in, 3, (some .boolean), 1, 27, mM_X8_in l, by decide, by decide, pt_650, pt_6, by decide, by decide, fun h => absurd h (by decide), fun _ => ⟨pt_648, pt_649⟩, fun h => absurd h (by decide)⟩
  · cases h
    exact ⟨yX8_isFormula, cX8_isFormula, 2, (some .boolean), 2, 49, mM_X8_isFormula l, by decide, by decide, pt_711, pt_6, by decide, by decide, fun _ => ⟨by decide, rfl, pt_708, pt_710, pt_s22⟩, fun h => absurd h (by decide), fun h => absurd h (by decide)⟩
  · cases h
    exact ⟨yX8_work, cX8_work, 7, none, 5, 141, mM_X8_work l, by decide, by decide, pt_727, pt_6, by decide, by decide, fun _ => ⟨by decide, rfl, pt_724, pt_726, pt_s24⟩, fun h => absurd h (by decide), fun h => absurd h (by decide)⟩
  · cases h
noncomputable def mF_X8_top : pm_F := pm_fn mE_X8_top 8
theorem mM_X8_top (l : Launch) : pm_Met l yX8_top cX8_top 8 (some .int) 6 167 mF_X8_top := pm_met (own := RX8) (E := mE_X8_top) (ini := false) (by decide) rfl ⟨mk_g_X8_top, mk_p_X8_top, mk_k_X8_top, mk_f_X8_top l, mk_o_X8_top, mk_n_X8_top, by decide⟩ rfl (fun h => by cases h)
noncomputable def mt_g_X8_forget : Nat → Option (Nat × Nat) := fun k => match k with
  | 119 => some (5, 5)
  | _ => none
noncomputable def mt_p_X8_forget : Nat → Option (Nat × Nat) := fun k => match k with
  | 119 => some (5, 5)
  | _ => none
noncomputable def mt_k_X8_forget : Nat → Option Value := fun _ => none
noncomputable def mt_f_X8_forget : Nat → Option (Nat × Nat × Nat × pm_F) := fun _ => none
noncomputable def mt_o_X8_forget : Nat → Option Nat := fun _ => none
noncomputable def mt_n_X8_forget : Nat → Option Nat := fun _ => none
noncomputable def mE_X8_forget : pm_E := (cX8_forget, mt_g_X8_forget, mt_p_X8_forget, mt_k_X8_forget, mt_f_X8_forget, mt_o_X8_forget, mt_n_X8_forget, none, (some .int))
theorem mk_g_X8_forget : ∀ k q, mt_g_X8_forget k = some q → pm_Fok RX8 k q := by
  intro k q h
  unfold mt_g_X8_forget at h
  split at h
  · cases h
    exact ⟨by decide, by decide, pt_551⟩
  · cases h
theorem mk_p_X8_forget : ∀ k q, mt_p_X8_forget k = some q → pm_Fok RX8 k q ∧ ((pm_ct q.1 q.2).2.2.2 = false ∨ (false = true ∧ (pm_ct q.1 q.2).1 = RX8)) := by
  intro k q h
  unfold mt_p_X8_forget at h
  split at h
  · cases h
    exact ⟨⟨by decide, by decide, pt_551⟩, Or.inl rfl⟩
  · cases h
theorem mk_k_X8_forget : ∀ k q, mt_k_X8_forget k = some q → pm_Kok RX8 k q := by
  intro k q h
  unfold mt_k_X8_forget at h
  cases h
theorem mk_o_X8_forget : ∀ k q, mt_o_X8_forget k = some q → pm_Oko RX8 k q := by
  intro k q h
  unfold mt_o_X8_forget at h
  cases h
theorem mk_n_X8_forget : ∀ k q, mt_n_X8_forget k = some q → pm_Nok RX8 k q := by
  intro k q h
  unfold mt_n_X8_forget at h
  cases h
theorem mk_f_X8_forget (l : Launch) : ∀ k q, mt_f_X8_forget k = some q → pm_Cal l 1 27 RX8 k q := by
  intro k q h
  unfold mt_f_X8_forget at h
  cases h
noncomputable def mF_X8_forget : pm_F := pm_fn mE_X8_forget 2
theorem mM_X8_forget (l : Launch) : pm_Met l yX8_forget cX8_forget 2 (some .int) 1 27 mF_X8_forget := pm_met (own := RX8) (E := mE_X8_forget) (ini := false) (by decide) rfl ⟨mk_g_X8_forget, mk_p_X8_forget, mk_k_X8_forget, mk_f_X8_forget l, mk_o_X8_forget, mk_n_X8_forget, by decide⟩ rfl (fun h => by cases h)
noncomputable def mt_g_X5_askElse : Nat → Option (Nat × Nat) := fun k => match k with
  | 30 => some (2, 0)
  | 39 => some (2, 3)
  | 65 => some (0, 6)
  | _ => none
noncomputable def mt_p_X5_askElse : Nat → Option (Nat × Nat) := fun k => match k with
  | 30 => some (2, 0)
  | 33 => some (2, 1)
  | 39 => some (2, 3)
  | _ => none
noncomputable def mt_k_X5_askElse : Nat → Option Value := fun _ => none
noncomputable def mt_f_X5_askElse (Fa : pm_F) : Nat → Option (Nat × Nat × Nat × pm_F) := fun k => match k with
  | 45 => some (0, 2, 2, Fa)
  | _ => none
noncomputable def mt_o_X5_askElse : Nat → Option Nat := fun _ => none
noncomputable def mt_n_X5_askElse : Nat → Option Nat := fun _ => none
noncomputable def mE_X5_askElse (Fa : pm_F) : pm_E := (cX5_askElse, mt_g_X5_askElse, mt_p_X5_askElse, mt_k_X5_askElse, (mt_f_X5_askElse Fa), mt_o_X5_askElse, mt_n_X5_askElse, none, (some .double))
theorem mk_g_X5_askElse : ∀ k q, mt_g_X5_askElse k = some q → pm_Fok RX5 k q := by
  intro k q h
  unfold mt_g_X5_askElse at h
  split at h
  · cases h
    exact ⟨by decide, by decide, pt_72⟩
  · cases h
    exact ⟨by decide, by decide, pt_78⟩
  · cases h
    exact ⟨by decide, by decide, pt_128⟩
  · cases h
theorem mk_p_X5_askElse : ∀ k q, mt_p_X5_askElse k = some q → pm_Fok RX5 k q ∧ ((pm_ct q.1 q.2).2.2.2 = false ∨ (false = true ∧ (pm_ct q.1 q.2).1 = RX5)) := by
  intro k q h
  unfold mt_p_X5_askElse at h
  split at h
  · cases h
    exact ⟨⟨by decide, by decide, pt_72⟩, Or.inl rfl⟩
  · cases h
    exact ⟨⟨by decide, by decide, pt_74⟩, Or.inl rfl⟩
  · cases h
    exact ⟨⟨by decide, by decide, pt_78⟩, Or.inl rfl⟩
  · cases h
theorem mk_k_X5_askElse : ∀ k q, mt_k_X5_askElse k = some q → pm_Kok RX5 k q := by
  intro k q h
  unfold mt_k_X5_askElse at h
  cases h
theorem mk_o_X5_askElse : ∀ k q, mt_o_X5_askElse k = some q → pm_Oko RX5 k q := by
  intro k q h
  unfold mt_o_X5_askElse at h
  cases h
theorem mk_n_X5_askElse : ∀ k q, mt_n_X5_askElse k = some q → pm_Nok RX5 k q := by
  intro k q h
  unfold mt_n_X5_askElse at h
  cases h
theorem mk_f_X5_askElse (l : Launch) (Fa : pm_F) (fr lo FR LO : Nat) (hFa : pm_Met l yX5_ask cX5_ask 5 (some .double) fr lo Fa) (h1 : fr + 1 ≤ FR) (h2 : lo + 24 ≤ LO) (h3 : 1 ≤ FR) (h4 : 27 ≤ LO) : ∀ k q, mt_f_X5_askElse Fa k = some q → pm_Cal l FR LO RX5 k q := by
  intro k q h
  unfold mt_f_X5_askElse at h
  split at h
  · cases h
    exact ⟨yX5_ask, cX5_ask, 5, (some .double), fr, lo, hFa, h1, by omega, pt_373, pt_3, (by first | decide | (dsimp only; decide)), (by first | decide | (dsimp only; decide)), fun _ => ⟨(by first | decide | (dsimp only; decide)), rfl, pt_370, pt_372, pt_s5⟩, fun h => absurd h ((by first | decide | (dsimp only; decide))), fun h => absurd h ((by first | decide | (dsimp only; decide)))⟩
  · cases h
noncomputable def mt_g_X5_ask : Nat → Option (Nat × Nat) := fun k => match k with
  | 18 => some (2, 7)
  | 22 => some (2, 8)
  | 30 => some (2, 0)
  | 36 => some (2, 2)
  | 42 => some (2, 4)
  | 52 => some (0, 1)
  | 62 => some (0, 7)
  | 65 => some (0, 6)
  | _ => none
noncomputable def mt_p_X5_ask : Nat → Option (Nat × Nat) := fun k => match k with
  | 36 => some (2, 2)
  | 42 => some (2, 4)
  | _ => none
noncomputable def mt_k_X5_ask : Nat → Option Value := fun _ => none
noncomputable def mt_f_X5_ask (Fa Fe : pm_F) : Nat → Option (Nat × Nat × Nat × pm_F) := fun k => match k with
  | 45 => some (0, 2, 2, Fa)
  | 49 => some (0, 2, 2, mF_X5_fail)
  | 59 => some (0, 2, 2, Fe)
  | 69 => some (0, 0, 1, mF_X4_begin)
  | 72 => some (0, 1, 2, mF_X5_workAlone)
  | 76 => some (0, 2, 2, mF_X5_workParts)
  | 79 => some (0, 2, 2, mF_X5_judge)
  | _ => none
noncomputable def mt_o_X5_ask : Nat → Option Nat := fun _ => none
noncomputable def mt_n_X5_ask : Nat → Option Nat := fun _ => none
noncomputable def mE_X5_ask (Fa Fe : pm_F) : pm_E := (cX5_ask, mt_g_X5_ask, mt_p_X5_ask, mt_k_X5_ask, (mt_f_X5_ask Fa Fe), mt_o_X5_ask, mt_n_X5_ask, none, (some .double))
theorem mk_g_X5_ask : ∀ k q, mt_g_X5_ask k = some q → pm_Fok RX5 k q := by
  intro k q h
  unfold mt_g_X5_ask at h
  split at h
  · cases h
    exact ⟨by decide, by decide, pt_84⟩
  · cases h
    exact ⟨by decide, by decide, pt_85⟩
  · cases h
    exact ⟨by decide, by decide, pt_72⟩
  · cases h
    exact ⟨by decide, by decide, pt_76⟩
  · cases h
    exact ⟨by decide, by decide, pt_80⟩
  · cases h
    exact ⟨by decide, by decide, pt_117⟩
  · cases h
    exact ⟨by decide, by decide, pt_131⟩
  · cases h
    exact ⟨by decide, by decide, pt_128⟩
  · cases h
theorem mk_p_X5_ask : ∀ k q, mt_p_X5_ask k = some q → pm_Fok RX5 k q ∧ ((pm_ct q.1 q.2).2.2.2 = false ∨ (false = true ∧ (pm_ct q.1 q.2).1 = RX5)) := by
  intro k q h
  unfold mt_p_X5_ask at h
  split at h
  · cases h
    exact ⟨⟨by decide, by decide, pt_76⟩, Or.inl rfl⟩
  · cases h
    exact ⟨⟨by decide, by decide, pt_80⟩, Or.inl rfl⟩
  · cases h
theorem mk_k_X5_ask : ∀ k q, mt_k_X5_ask k = some q → pm_Kok RX5 k q := by
  intro k q h
  unfold mt_k_X5_ask at h
  cases h
theorem mk_o_X5_ask : ∀ k q, mt_o_X5_ask k = some q → pm_Oko RX5 k q := by
  intro k q h
  unfold mt_o_X5_ask at h
  cases h
theorem mk_n_X5_ask : ∀ k q, mt_n_X5_ask k = some q → pm_Nok RX5 k q := by
  intro k q h
  unfold mt_n_X5_ask at h
  cases h
theorem mk_f_X5_ask (l : Launch) (Fa Fe : pm_F) (fr lo FR LO : Nat) (hFa : pm_Met l yX5_ask cX5_ask 5 (some .double) fr lo Fa) (hFe : pm_Met l yX5_askElse cX5_askElse 5 (some .double) fr lo Fe) (h1 : fr + 1 ≤ FR) (h2 : lo + 24 ≤ LO) (h3 : 5 ≤ FR) (h4 : 127 ≤ LO) : ∀ k q, mt_f_X5_ask Fa Fe k = some q → pm_Cal l FR LO RX5 k q := by
  intro k q h
  unfold mt_f_X5_ask at h
  split at h
  · cases h
    exact ⟨yX5_ask, cX5_ask, 5, (some .double), fr, lo, hFa, h1, by omega, pt_373, pt_3, (by first | decide | (dsimp only; decide)), (by first | decide | (dsimp only; decide)), fun _ => ⟨(by first | decide | (dsimp only; decide)), rfl, pt_370, pt_372, pt_s5⟩, fun h => absurd h ((by first | decide | (dsimp only; decide))), fun h => absurd h ((by first | decide | (dsimp only; decide)))⟩
  · cases h
    exact ⟨yX5_fail, cX5_fail, 3, (some .double), 1, 27, mM_X5_fail l, by omega, by omega, pt_377, pt_3, by decide, by decide, fun _ => ⟨by decide, rfl, pt_374, pt_376, pt_s6⟩, fun h => absurd h (by decide), fun h => absurd h (by decide)⟩
  · cases h
    exact ⟨yX5_askElse, cX5_askElse, 5, (some .double), fr, lo, hFe, h1, by omega, pt_381, pt_3, (by first | decide | (dsimp only; decide)), (by first | decide | (dsimp only; decide)), fun _ => ⟨(by first | decide | (dsimp only; decide)), rfl, pt_378, pt_380, pt_s7⟩, fun h => absurd h ((by first | decide | (dsimp only; decide))), fun h => absurd h ((by first | decide | (dsimp only; decide)))⟩
  · cases h
    exact ⟨yX4_begin, cX4_begin, 1, none, 1, 27, mM_X4_begin l, by omega, by omega, pt_385, pt_4, by decide, by decide, fun _ => ⟨by decide, rfl, pt_382, pt_383, pt_384⟩, fun h => absurd h (by decide), fun h => absurd h (by decide)⟩
  · cases h
    exact ⟨yX5_workAlone, cX5_workAlone, 2, (some .double), 4, 106, mM_X5_workAlone l, by omega, by omega, pt_389, pt_3, by decide, by decide, fun _ => ⟨by decide, rfl, pt_386, pt_388, pt_s8⟩, fun h => absurd h (by decide), fun h => absurd h (by decide)⟩
  · cases h
    exact ⟨yX5_workParts, cX5_workParts, 5, (some .double), 4, 102, mM_X5_workParts l, by omega, by omega, pt_449, pt_3, by decide, by decide, fun _ => ⟨by decide, rfl, pt_446, pt_448, pt_s12⟩, fun h => absurd h (by decide), fun h => absurd h (by decide)⟩
  · cases h
    exact ⟨yX5_judge, cX5_judge, 4, (some .double), 2, 49, mM_X5_judge l, by omega, by omega, pt_481, pt_3, by decide, by decide, fun _ => ⟨by decide, rfl, pt_478, pt_480, pt_s18⟩, fun h => absurd h (by decide), fun h => absurd h (by decide)⟩
  · cases h
/-- ask and askElse, d deep -/
noncomputable def mA : Nat → pm_F × pm_F
  | 0 => (fun _ _ => none, fun _ _ => none)
  | d + 1 => (pm_fn (mE_X5_ask (mA d).1 (mA d).2) 5, pm_fn (mE_X5_askElse (mA d).1) 5)
theorem mA_met (l : Launch) : ∀ d, pm_Met l yX5_ask cX5_ask 5 (some .double) (5 + d) (127 + 24 * d) (mA d).1 ∧ pm_Met l yX5_askElse cX5_askElse 5 (some .double) (5 + d) (127 + 24 * d) (mA d).2
  | 0 => ⟨(fun D cA b0 b a μ μ' r h => nomatch h), (fun D cA b0 b a μ μ' r h => nomatch h)⟩
  | d + 1 => by
    obtain ⟨h1, h2⟩ := mA_met l d
    refine ⟨pm_met (own := RX5) (E := mE_X5_ask (mA d).1 (mA d).2) (ini := false) (by decide) rfl ⟨mk_g_X5_ask, mk_p_X5_ask, mk_k_X5_ask, mk_f_X5_ask l _ _ (5 + d) (127 + 24 * d) _ _ h1 h2 (by omega) (by omega) (by omega) (by omega), mk_o_X5_ask, mk_n_X5_ask, by omega⟩ rfl (fun h => by cases h), pm_met (own := RX5) (E := mE_X5_askElse (mA d).1) (ini := false) (by decide) rfl ⟨mk_g_X5_askElse, mk_p_X5_askElse, mk_k_X5_askElse, mk_f_X5_askElse l _ (5 + d) (127 + 24 * d) _ _ h1 (by omega) (by omega) (by omega) (by omega), mk_o_X5_askElse, mk_n_X5_askElse, by omega⟩ rfl (fun h => by cases h)⟩
noncomputable def mF_X5_ask : pm_F := (mA 130).1
theorem mM_X5_ask (l : Launch) : pm_Met l yX5_ask cX5_ask 5 (some .double) 135 3247 mF_X5_ask := (mA_met l 130).1
noncomputable def mt_g_X5_valueOf : Nat → Option (Nat × Nat) := fun _ => none
noncomputable def mt_p_X5_valueOf : Nat → Option (Nat × Nat) := fun k => match k with
  | 26 => some (2, 5)
  | 30 => some (2, 0)
  | 33 => some (2, 1)
  | 36 => some (2, 2)
  | 39 => some (2, 3)
  | 42 => some (2, 4)
  | _ => none
noncomputable def mt_k_X5_valueOf : Nat → Option Value := fun _ => none
noncomputable def mt_f_X5_valueOf : Nat → Option (Nat × Nat × Nat × pm_F) := fun k => match k with
  | 45 => some (0, 2, 2, mF_X5_ask)
  | _ => none
noncomputable def mt_o_X5_valueOf : Nat → Option Nat := fun _ => none
noncomputable def mt_n_X5_valueOf : Nat → Option Nat := fun _ => none
noncomputable def mE_X5_valueOf : pm_E := (cX5_valueOf, mt_g_X5_valueOf, mt_p_X5_valueOf, mt_k_X5_valueOf, mt_f_X5_valueOf, mt_o_X5_valueOf, mt_n_X5_valueOf, none, (some .double))
theorem mk_g_X5_valueOf : ∀ k q, mt_g_X5_valueOf k = some q → pm_Fok RX5 k q := by
  intro k q h
  unfold mt_g_X5_valueOf at h
  cases h
theorem mk_p_X5_valueOf : ∀ k q, mt_p_X5_valueOf k = some q → pm_Fok RX5 k q ∧ ((pm_ct q.1 q.2).2.2.2 = false ∨ (false = true ∧ (pm_ct q.1 q.2).1 = RX5)) := by
  intro k q h
  unfold mt_p_X5_valueOf at h
  split at h
  · cases h
    exact ⟨⟨by decide, by decide, pt_82⟩, Or.inl rfl⟩
  · cases h
    exact ⟨⟨by decide, by decide, pt_72⟩, Or.inl rfl⟩
  · cases h
    exact ⟨⟨by decide, by decide, pt_74⟩, Or.inl rfl⟩
  · cases h
    exact ⟨⟨by decide, by decide, pt_76⟩, Or.inl rfl⟩
  · cases h
    exact ⟨⟨by decide, by decide, pt_78⟩, Or.inl rfl⟩
  · cases h
    exact ⟨⟨by decide, by decide, pt_80⟩, Or.inl rfl⟩
  · cases h
theorem mk_k_X5_valueOf : ∀ k q, mt_k_X5_valueOf k = some q → pm_Kok RX5 k q := by
  intro k q h
  unfold mt_k_X5_valueOf at h
  cases h
theorem mk_o_X5_valueOf : ∀ k q, mt_o_X5_valueOf k = some q → pm_Oko RX5 k q := by
  intro k q h
  unfold mt_o_X5_valueOf at h
  cases h
theorem mk_n_X5_valueOf : ∀ k q, mt_n_X5_valueOf k = some q → pm_Nok RX5 k q := by
  intro k q h
  unfold mt_n_X5_valueOf at h
  cases h
theorem mk_f_X5_valueOf (l : Launch) : ∀ k q, mt_f_X5_valueOf k = some q → pm_Cal l 136 3271 RX5 k q := by
  intro k q h
  unfold mt_f_X5_valueOf at h
  split at h
  · cases h
    exact ⟨yX5_ask, cX5_ask, 5, (some .double), 135, 3247, mM_X5_ask l, by decide, by decide, pt_373, pt_3, by decide, by decide, fun _ => ⟨by decide, rfl, pt_370, pt_372, pt_s5⟩, fun h => absurd h (by decide), fun h => absurd h (by decide)⟩
  · cases h
noncomputable def mF_X5_valueOf : pm_F := pm_fn mE_X5_valueOf 3
theorem mM_X5_valueOf (l : Launch) : pm_Met l yX5_valueOf cX5_valueOf 3 (some .double) 136 3271 mF_X5_valueOf := pm_met (own := RX5) (E := mE_X5_valueOf) (ini := false) (by decide) rfl ⟨mk_g_X5_valueOf, mk_p_X5_valueOf, mk_k_X5_valueOf, mk_f_X5_valueOf l, mk_o_X5_valueOf, mk_n_X5_valueOf, by decide⟩ rfl (fun h => by cases h)
noncomputable def mt_g_X7_score : Nat → Option (Nat × Nat) := fun k => match k with
  | 21 => some (4, 1)
  | 27 => some (4, 2)
  | 34 => some (4, 4)
  | 153 => some (2, 0)
  | 156 => some (2, 1)
  | 159 => some (2, 2)
  | 162 => some (2, 3)
  | 165 => some (2, 4)
  | _ => none
noncomputable def mt_p_X7_score : Nat → Option (Nat × Nat) := fun _ => none
noncomputable def mt_k_X7_score : Nat → Option Value := fun _ => none
noncomputable def mt_f_X7_score : Nat → Option (Nat × Nat × Nat × pm_F) := fun k => match k with
  | 46 => some (1, 2, 4, mF_X7_isIn)
  | 84 => some (1, 1, 9, mF_X0_toBits)
  | 131 => some (0, 1, 4, mF_X7_isFormula)
  | 150 => some (0, 2, 2, mF_X5_valueOf)
  | _ => none
noncomputable def mt_o_X7_score : Nat → Option Nat := fun _ => none
noncomputable def mt_n_X7_score : Nat → Option Nat := fun _ => none
noncomputable def mE_X7_score : pm_E := (cX7_score, mt_g_X7_score, mt_p_X7_score, mt_k_X7_score, mt_f_X7_score, mt_o_X7_score, mt_n_X7_score, none, (some .long))
theorem mk_g_X7_score : ∀ k q, mt_g_X7_score k = some q → pm_Fok RX7 k q := by
  intro k q h
  unfold mt_g_X7_score at h
  split at h
  · cases h
    exact ⟨by decide, by decide, pt_177⟩
  · cases h
    exact ⟨by decide, by decide, pt_178⟩
  · cases h
    exact ⟨by decide, by decide, pt_180⟩
  · cases h
    exact ⟨by decide, by decide, pt_73⟩
  · cases h
    exact ⟨by decide, by decide, pt_75⟩
  · cases h
    exact ⟨by decide, by decide, pt_77⟩
  · cases h
    exact ⟨by decide, by decide, pt_79⟩
  · cases h
    exact ⟨by decide, by decide, pt_81⟩
  · cases h
theorem mk_p_X7_score : ∀ k q, mt_p_X7_score k = some q → pm_Fok RX7 k q ∧ ((pm_ct q.1 q.2).2.2.2 = false ∨ (false = true ∧ (pm_ct q.1 q.2).1 = RX7)) := by
  intro k q h
  unfold mt_p_X7_score at h
  cases h
theorem mk_k_X7_score : ∀ k q, mt_k_X7_score k = some q → pm_Kok RX7 k q := by
  intro k q h
  unfold mt_k_X7_score at h
  cases h
theorem mk_o_X7_score : ∀ k q, mt_o_X7_score k = some q → pm_Oko RX7 k q := by
  intro k q h
  unfold mt_o_X7_score at h
  cases h
theorem mk_n_X7_score : ∀ k q, mt_n_X7_score k = some q → pm_Nok RX7 k q := by
  intro k q h
  unfold mt_n_X7_score at h
  cases h
theorem mk_f_X7_score (l : Launch) : ∀ k q, mt_f_X7_score k = some q → pm_Cal l 137 3293 RX7 k q := by
  intro k q h
  unfold mt_f_X7_score at h
  split at h
  · cases h
    exact ⟨yX7_isIn, cX7_isIn, 2, (some .boolean), 1, 27, mM_X7_isIn l, by decide, by decide, pt_204, pt_1, by decide, by decide, fun h => absurd h (by decide), fun _ => ⟨pt_202, pt_203⟩, fun h => absurd h (by decide)⟩
  · cases h
    exact ⟨yX0_toBits, cX0_toBits, 4, (some .long), 3, 78, mM_X0_toBits l, by decide, by decide, pt_274, pt_9, by decide, by decide, fun h => absurd h (by decide), fun _ => ⟨pt_272, pt_273⟩, fun h => absurd h (by decide)⟩
  · cases h
    exact ⟨yX7_isFormula, cX7_isFormula, 2, (some .boolean), 2, 48, mM_X7_isFormula l, by decide, by decide, pt_311, pt_1, by decide, by decide, fun _ => ⟨by decide, rfl, pt_308, pt_310, pt_s1⟩, fun h => absurd h (by decide), fun h => absurd h (by decide)⟩
  · cases h
    exact ⟨yX5_valueOf, cX5_valueOf, 3, (some .double), 136, 3271, mM_X5_valueOf l, by decide, by decide, pt_369, pt_3, by decide, by decide, fun _ => ⟨by decide, rfl, pt_366, pt_367, pt_368⟩, fun h => absurd h (by decide), fun h => absurd h (by decide)⟩
  · cases h
noncomputable def mF_X7_score : pm_F := pm_fn mE_X7_score 5
theorem mM_X7_score (l : Launch) : pm_Met l yX7_score cX7_score 5 (some .long) 137 3293 mF_X7_score := pm_met (own := RX7) (E := mE_X7_score) (ini := false) (by decide) rfl ⟨mk_g_X7_score, mk_p_X7_score, mk_k_X7_score, mk_f_X7_score l, mk_o_X7_score, mk_n_X7_score, by decide⟩ rfl (fun h => by cases h)
noncomputable def mt_g_X7_top : Nat → Option (Nat × Nat) := fun k => match k with
  | 21 => some (4, 1)
  | 27 => some (4, 2)
  | 38 => some (4, 5)
  | 42 => some (4, 6)
  | 153 => some (2, 0)
  | _ => none
noncomputable def mt_p_X7_top : Nat → Option (Nat × Nat) := fun _ => none
noncomputable def mt_k_X7_top : Nat → Option Value := fun _ => none
noncomputable def mt_f_X7_top : Nat → Option (Nat × Nat × Nat × pm_F) := fun k => match k with
  | 46 => some (1, 2, 4, mF_X7_isIn)
  | 131 => some (0, 1, 4, mF_X7_isFormula)
  | 150 => some (0, 2, 2, mF_X5_valueOf)
  | 180 => some (0, 1, 4, mF_X7_howManyAheadOf)
  | _ => none
noncomputable def mt_o_X7_top : Nat → Option Nat := fun _ => none
noncomputable def mt_n_X7_top : Nat → Option Nat := fun _ => none
noncomputable def mE_X7_top : pm_E := (cX7_top, mt_g_X7_top, mt_p_X7_top, mt_k_X7_top, mt_f_X7_top, mt_o_X7_top, mt_n_X7_top, none, (some .int))
theorem mk_g_X7_top : ∀ k q, mt_g_X7_top k = some q → pm_Fok RX7 k q := by
  intro k q h
  unfold mt_g_X7_top at h
  split at h
  · cases h
    exact ⟨by decide, by decide, pt_177⟩
  · cases h
    exact ⟨by decide, by decide, pt_178⟩
  · cases h
    exact ⟨by decide, by decide, pt_181⟩
  · cases h
    exact ⟨by decide, by decide, pt_182⟩
  · cases h
    exact ⟨by decide, by decide, pt_73⟩
  · cases h
theorem mk_p_X7_top : ∀ k q, mt_p_X7_top k = some q → pm_Fok RX7 k q ∧ ((pm_ct q.1 q.2).2.2.2 = false ∨ (false = true ∧ (pm_ct q.1 q.2).1 = RX7)) := by
  intro k q h
  unfold mt_p_X7_top at h
  cases h
theorem mk_k_X7_top : ∀ k q, mt_k_X7_top k = some q → pm_Kok RX7 k q := by
  intro k q h
  unfold mt_k_X7_top at h
  cases h
theorem mk_o_X7_top : ∀ k q, mt_o_X7_top k = some q → pm_Oko RX7 k q := by
  intro k q h
  unfold mt_o_X7_top at h
  cases h
theorem mk_n_X7_top : ∀ k q, mt_n_X7_top k = some q → pm_Nok RX7 k q := by
  intro k q h
  unfold mt_n_X7_top at h
  cases h
theorem mk_f_X7_top (l : Launch) : ∀ k q, mt_f_X7_top k = some q → pm_Cal l 137 3293 RX7 k q := by
  intro k q h
  unfold mt_f_X7_top at h
  split at h
  · cases h
    exact ⟨yX7_isIn, cX7_isIn, 2, (some .boolean), 1, 27, mM_X7_isIn l, by decide, by decide, pt_204, pt_1, by decide, by decide, fun h => absurd h (by decide), fun _ => ⟨pt_202, pt_203⟩, fun h => absurd h (by decide)⟩
  · cases h
    exact ⟨yX7_isFormula, cX7_isFormula, 2, (some .boolean), 2, 48, mM_X7_isFormula l, by decide, by decide, pt_311, pt_1, by decide, by decide, fun _ => ⟨by decide, rfl, pt_308, pt_310, pt_s1⟩, fun h => absurd h (by decide), fun h => absurd h (by decide)⟩
  · cases h
    exact ⟨yX5_valueOf, cX5_valueOf, 3, (some .double), 136, 3271, mM_X5_valueOf l, by decide, by decide, pt_369, pt_3, by decide, by decide, fun _ => ⟨by decide, rfl, pt_366, pt_367, pt_368⟩, fun h => absurd h (by decide), fun h => absurd h (by decide)⟩
  · cases h
    exact ⟨yX7_howManyAheadOf, cX7_howManyAheadOf, 4, (some .int), 2, 49, mM_X7_howManyAheadOf l, by decide, by decide, pt_508, pt_1, by decide, by decide, fun _ => ⟨by decide, rfl, pt_505, pt_507, pt_s19⟩, fun h => absurd h (by decide), fun h => absurd h (by decide)⟩
  · cases h
noncomputable def mF_X7_top : pm_F := pm_fn mE_X7_top 4
theorem mM_X7_top (l : Launch) : pm_Met l yX7_top cX7_top 4 (some .int) 137 3293 mF_X7_top := pm_met (own := RX7) (E := mE_X7_top) (ini := false) (by decide) rfl ⟨mk_g_X7_top, mk_p_X7_top, mk_k_X7_top, mk_f_X7_top l, mk_o_X7_top, mk_n_X7_top, by decide⟩ rfl (fun h => by cases h)
