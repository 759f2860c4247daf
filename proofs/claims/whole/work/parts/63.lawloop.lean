/-! THE LAW: its loop -/
noncomputable def lwE (L0 : Nat) (xs : Nat → Int32) (pc i : Nat) (I : Nat → Nat → Int32) (D : Nat → Nat → UInt64) (P : Nat → Nat → Option Nat) : Option (Option Value × pm_M) := pm_run (mE_L_law L0 xs) pc [.ref 9999, .ref 0, .ref 138, .int (nI i)] [] (162, I, D, pm_R P)
section LAWL
variable {L0 i : Nat} {xs : Nat → Int32} {I : Nat → Nat → Int32} {D : Nat → Nat → UInt64} {P : Nat → Nat → Option Nat}
theorem lw_c0 (hL : L0 < 2 ^ 31) (h : i + 8 ≤ L0) (hI : INV I D P) : ∃ I' D' P', lwE L0 xs 104 i I D P = lwE L0 xs 692 i I' D' P' ∧ INV I' D' P' := by
  have h1 : i + 1 < L0 := by omega
  have h2 : i + 2 < L0 := by omega
  have h3 : i + 3 < L0 := by omega
  have h4 : i + 4 < L0 := by omega
  have h5 : i + 5 < L0 := by omega
  have h6 : i + 6 < L0 := by omega
  have h7 : i + 7 < L0 := by omega
  obtain ⟨v, I1, D1, P1, I2, D2, e1, e2, hV⟩ := k_tell (xs (i + 1)) (xs (i + 2)) (xs (i + 3)) (xs (i + 4)) I D P hI
  refine ⟨I2, D2, P1, ?_, hV⟩
  unfold lwE
  simp (disch := first | assumption | decide) only [x_L_law_104, x_L_law_105, x_L_law_106, x_L_law_107, x_L_law_108, x_L_law_109, x_L_law_110, x_L_law_111, x_L_law_112, x_L_law_113, x_L_law_114, x_L_law_115, x_L_law_116, x_L_law_117, x_L_law_118, x_L_law_119, x_L_law_120, x_L_law_121, x_L_law_122, x_L_law_123, x_L_law_124, x_L_law_125, x_L_law_128, x_L_law_129, x_L_law_130, x_L_law_131, x_L_law_132, x_L_law_133, x_L_law_134, x_L_law_135, x_L_law_136, x_L_law_137, x_L_law_138, x_L_law_139, x_L_law_140, x_L_law_141, x_L_law_142, x_L_law_143, x_L_law_144, x_L_law_145, x_L_law_146, x_L_law_147, x_L_law_148, x_L_law_149, x_L_law_152, nI_add, e1, e2, if_true, Option.bind_some, Option.toList, List.cons_append, List.nil_append]
theorem lw_c1 (hL : L0 < 2 ^ 31) (h : i + 8 ≤ L0) (hI : INV I D P) : ∃ I' D' P', lwE L0 xs 157 i I D P = lwE L0 xs 692 i I' D' P' ∧ INV I' D' P' := by
  have h1 : i + 1 < L0 := by omega
  have h2 : i + 2 < L0 := by omega
  have h3 : i + 3 < L0 := by omega
  have h4 : i + 4 < L0 := by omega
  have h5 : i + 5 < L0 := by omega
  have h6 : i + 6 < L0 := by omega
  have h7 : i + 7 < L0 := by omega
  obtain ⟨v, I1, D1, P1, I2, D2, e1, e2, hV⟩ := k_column (xs (i + 1)) (xs (i + 2)) (((xs (i + 3)).toInt64 <<< ((nI 32).toInt64 &&& 63) ||| (xs (i + 4)).toInt64 &&& 4294967295)) I D P hI
  refine ⟨I2, D2, P1, ?_, hV⟩
  unfold lwE
  simp (disch := first | assumption | decide) only [x_L_law_157, x_L_law_158, x_L_law_159, x_L_law_160, x_L_law_161, x_L_law_162, x_L_law_163, x_L_law_164, x_L_law_165, x_L_law_166, x_L_law_167, x_L_law_168, x_L_law_169, x_L_law_170, x_L_law_171, x_L_law_172, x_L_law_173, x_L_law_174, x_L_law_176, x_L_law_177, x_L_law_178, x_L_law_179, x_L_law_180, x_L_law_181, x_L_law_182, x_L_law_183, x_L_law_186, x_L_law_187, x_L_law_188, x_L_law_191, x_L_law_192, x_L_law_193, x_L_law_194, x_L_law_195, x_L_law_196, x_L_law_197, x_L_law_198, x_L_law_199, x_L_law_200, x_L_law_201, x_L_law_202, x_L_law_203, x_L_law_204, x_L_law_205, x_L_law_206, x_L_law_207, x_L_law_208, x_L_law_210, x_L_law_211, x_L_law_212, x_L_law_213, x_L_law_214, x_L_law_215, x_L_law_216, x_L_law_217, x_L_law_220, x_L_law_221, x_L_law_222, x_L_law_225, nI_add, e1, e2, if_true, Option.bind_some, Option.toList, List.cons_append, List.nil_append]
theorem lw_c2 (hL : L0 < 2 ^ 31) (h : i + 8 ≤ L0) (hI : INV I D P) : ∃ I' D' P', lwE L0 xs 230 i I D P = lwE L0 xs 692 i I' D' P' ∧ INV I' D' P' := by
  have h1 : i + 1 < L0 := by omega
  have h2 : i + 2 < L0 := by omega
  have h3 : i + 3 < L0 := by omega
  have h4 : i + 4 < L0 := by omega
  have h5 : i + 5 < L0 := by omega
  have h6 : i + 6 < L0 := by omega
  have h7 : i + 7 < L0 := by omega
  obtain ⟨v, I1, D1, P1, I2, D2, e1, e2, hV⟩ := k_given (xs (i + 1)) (((xs (i + 2)).toInt64 <<< ((nI 32).toInt64 &&& 63) ||| (xs (i + 3)).toInt64 &&& 4294967295)) I D P hI
  refine ⟨I2, D2, P1, ?_, hV⟩
  unfold lwE
  simp (disch := first | assumption | decide) only [x_L_law_230, x_L_law_231, x_L_law_232, x_L_law_233, x_L_law_234, x_L_law_235, x_L_law_236, x_L_law_237, x_L_law_238, x_L_law_239, x_L_law_240, x_L_law_241, x_L_law_242, x_L_law_244, x_L_law_245, x_L_law_246, x_L_law_247, x_L_law_248, x_L_law_249, x_L_law_250, x_L_law_251, x_L_law_254, x_L_law_255, x_L_law_256, x_L_law_259, x_L_law_260, x_L_law_261, x_L_law_262, x_L_law_263, x_L_law_264, x_L_law_265, x_L_law_266, x_L_law_267, x_L_law_268, x_L_law_269, x_L_law_270, x_L_law_271, x_L_law_273, x_L_law_274, x_L_law_275, x_L_law_276, x_L_law_277, x_L_law_278, x_L_law_279, x_L_law_280, x_L_law_283, x_L_law_284, x_L_law_285, x_L_law_288, nI_add, e1, e2, if_true, Option.bind_some, Option.toList, List.cons_append, List.nil_append]
theorem lw_c3 (hL : L0 < 2 ^ 31) (h : i + 8 ≤ L0) (hI : INV I D P) : ∃ I' D' P', lwE L0 xs 293 i I D P = lwE L0 xs 692 i I' D' P' ∧ INV I' D' P' := by
  have h1 : i + 1 < L0 := by omega
  have h2 : i + 2 < L0 := by omega
  have h3 : i + 3 < L0 := by omega
  have h4 : i + 4 < L0 := by omega
  have h5 : i + 5 < L0 := by omega
  have h6 : i + 6 < L0 := by omega
  have h7 : i + 7 < L0 := by omega
  obtain ⟨v, I1, D1, P1, I2, D2, e1, e2, hV⟩ := k_average (xs (i + 1)) I D P hI
  refine ⟨I2, D2, P1, ?_, hV⟩
  unfold lwE
  simp (disch := first | assumption | decide) only [x_L_law_293, x_L_law_294, x_L_law_295, x_L_law_296, x_L_law_297, x_L_law_298, x_L_law_299, x_L_law_302, x_L_law_303, x_L_law_304, x_L_law_305, x_L_law_306, x_L_law_307, x_L_law_308, x_L_law_311, x_L_law_312, nI_add, e1, e2, lc_eq, if_true, Option.bind_some, Option.toList, List.cons_append, List.nil_append]
theorem lw_c4 (hL : L0 < 2 ^ 31) (h : i + 8 ≤ L0) (hI : INV I D P) : ∃ I' D' P', lwE L0 xs 317 i I D P = lwE L0 xs 692 i I' D' P' ∧ INV I' D' P' := by
  have h1 : i + 1 < L0 := by omega
  have h2 : i + 2 < L0 := by omega
  have h3 : i + 3 < L0 := by omega
  have h4 : i + 4 < L0 := by omega
  have h5 : i + 5 < L0 := by omega
  have h6 : i + 6 < L0 := by omega
  have h7 : i + 7 < L0 := by omega
  obtain ⟨v, I1, D1, P1, I2, D2, e1, e2, hV⟩ := k_packed (xs (i + 1)) (xs (i + 2)) I D P hI
  refine ⟨I2, D2, P1, ?_, hV⟩
  unfold lwE
  simp (disch := first | assumption | decide) only [x_L_law_317, x_L_law_318, x_L_law_319, x_L_law_320, x_L_law_321, x_L_law_322, x_L_law_323, x_L_law_324, x_L_law_325, x_L_law_326, x_L_law_327, x_L_law_328, x_L_law_331, x_L_law_332, x_L_law_333, x_L_law_334, x_L_law_335, x_L_law_336, x_L_law_337, x_L_law_338, x_L_law_339, x_L_law_340, x_L_law_341, x_L_law_342, x_L_law_345, nI_add, e1, e2, if_true, Option.bind_some, Option.toList, List.cons_append, List.nil_append]
theorem lw_c5 (hL : L0 < 2 ^ 31) (h : i + 8 ≤ L0) (hI : INV I D P) : ∃ I' D' P', lwE L0 xs 350 i I D P = lwE L0 xs 692 i I' D' P' ∧ INV I' D' P' := by
  have h1 : i + 1 < L0 := by omega
  have h2 : i + 2 < L0 := by omega
  have h3 : i + 3 < L0 := by omega
  have h4 : i + 4 < L0 := by omega
  have h5 : i + 5 < L0 := by omega
  have h6 : i + 6 < L0 := by omega
  have h7 : i + 7 < L0 := by omega
  obtain ⟨v, I1, D1, P1, I2, D2, e1, e2, hV⟩ := k_formula (xs (i + 1)) (xs (i + 2)) (xs (i + 3)) (((xs (i + 4)).toInt64 <<< ((nI 32).toInt64 &&& 63) ||| (xs (i + 5)).toInt64 &&& 4294967295)) (((xs (i + 6)).toInt64 <<< ((nI 32).toInt64 &&& 63) ||| (xs (i + 7)).toInt64 &&& 4294967295)) I D P hI
  refine ⟨I2, D2, P1, ?_, hV⟩
  unfold lwE
  simp (disch := first | assumption | decide) only [x_L_law_350, x_L_law_351, x_L_law_352, x_L_law_353, x_L_law_354, x_L_law_355, x_L_law_356, x_L_law_357, x_L_law_358, x_L_law_359, x_L_law_360, x_L_law_361, x_L_law_362, x_L_law_363, x_L_law_364, x_L_law_365, x_L_law_366, x_L_law_367, x_L_law_368, x_L_law_369, x_L_law_370, x_L_law_371, x_L_law_372, x_L_law_374, x_L_law_375, x_L_law_376, x_L_law_377, x_L_law_378, x_L_law_379, x_L_law_380, x_L_law_381, x_L_law_384, x_L_law_385, x_L_law_386, x_L_law_387, x_L_law_388, x_L_law_390, x_L_law_391, x_L_law_392, x_L_law_393, x_L_law_395, x_L_law_396, x_L_law_397, x_L_law_398, x_L_law_400, x_L_law_401, x_L_law_402, x_L_law_403, x_L_law_406, x_L_law_407, x_L_law_408, x_L_law_411, x_L_law_412, x_L_law_413, x_L_law_414, x_L_law_415, x_L_law_416, x_L_law_417, x_L_law_418, x_L_law_419, x_L_law_420, x_L_law_421, x_L_law_422, x_L_law_423, x_L_law_424, x_L_law_425, x_L_law_426, x_L_law_427, x_L_law_428, x_L_law_429, x_L_law_430, x_L_law_431, x_L_law_432, x_L_law_433, x_L_law_435, x_L_law_436, x_L_law_437, x_L_law_438, x_L_law_439, x_L_law_440, x_L_law_441, x_L_law_442, x_L_law_445, x_L_law_446, x_L_law_447, x_L_law_448, x_L_law_449, x_L_law_451, x_L_law_452, x_L_law_453, x_L_law_454, x_L_law_456, x_L_law_457, x_L_law_458, x_L_law_459, x_L_law_461, x_L_law_462, x_L_law_463, x_L_law_464, x_L_law_467, x_L_law_468, x_L_law_469, x_L_law_472, nI_add, e1, e2, if_true, Option.bind_some, Option.toList, List.cons_append, List.nil_append]
theorem lw_c6 (hL : L0 < 2 ^ 31) (h : i + 8 ≤ L0) (hI : INV I D P) : ∃ I' D' P', lwE L0 xs 477 i I D P = lwE L0 xs 692 i I' D' P' ∧ INV I' D' P' := by
  have h1 : i + 1 < L0 := by omega
  have h2 : i + 2 < L0 := by omega
  have h3 : i + 3 < L0 := by omega
  have h4 : i + 4 < L0 := by omega
  have h5 : i + 5 < L0 := by omega
  have h6 : i + 6 < L0 := by omega
  have h7 : i + 7 < L0 := by omega
  obtain ⟨v, I1, D1, P1, I2, D2, e1, e2, hV⟩ := k_part (xs (i + 1)) (xs (i + 2)) I D P hI
  refine ⟨I2, D2, P1, ?_, hV⟩
  unfold lwE
  simp (disch := first | assumption | decide) only [x_L_law_477, x_L_law_478, x_L_law_479, x_L_law_480, x_L_law_481, x_L_law_482, x_L_law_483, x_L_law_484, x_L_law_485, x_L_law_486, x_L_law_487, x_L_law_488, x_L_law_491, x_L_law_492, x_L_law_493, x_L_law_494, x_L_law_495, x_L_law_496, x_L_law_497, x_L_law_498, x_L_law_499, x_L_law_500, x_L_law_501, x_L_law_502, x_L_law_505, nI_add, e1, e2, if_true, Option.bind_some, Option.toList, List.cons_append, List.nil_append]
theorem lw_c7 (hL : L0 < 2 ^ 31) (h : i + 8 ≤ L0) (hI : INV I D P) : ∃ I' D' P', lwE L0 xs 510 i I D P = lwE L0 xs 692 i I' D' P' ∧ INV I' D' P' := by
  have h1 : i + 1 < L0 := by omega
  have h2 : i + 2 < L0 := by omega
  have h3 : i + 3 < L0 := by omega
  have h4 : i + 4 < L0 := by omega
  have h5 : i + 5 < L0 := by omega
  have h6 : i + 6 < L0 := by omega
  have h7 : i + 7 < L0 := by omega
  obtain ⟨v, I1, D1, P1, I2, D2, e1, e2, hV⟩ := k_score (xs (i + 1)) (xs (i + 2)) I D P hI
  refine ⟨I2, D2, P1, ?_, hV⟩
  unfold lwE
  simp (disch := first | assumption | decide) only [x_L_law_510, x_L_law_511, x_L_law_512, x_L_law_513, x_L_law_514, x_L_law_515, x_L_law_516, x_L_law_517, x_L_law_518, x_L_law_519, x_L_law_520, x_L_law_521, x_L_law_524, x_L_law_525, x_L_law_526, x_L_law_527, x_L_law_528, x_L_law_529, x_L_law_530, x_L_law_531, x_L_law_532, x_L_law_533, x_L_law_534, x_L_law_535, x_L_law_538, x_L_law_539, nI_add, e1, e2, lc_eq, if_true, Option.bind_some, Option.toList, List.cons_append, List.nil_append]
theorem lw_c8 (hL : L0 < 2 ^ 31) (h : i + 8 ≤ L0) (hI : INV I D P) : ∃ I' D' P', lwE L0 xs 544 i I D P = lwE L0 xs 692 i I' D' P' ∧ INV I' D' P' := by
  have h1 : i + 1 < L0 := by omega
  have h2 : i + 2 < L0 := by omega
  have h3 : i + 3 < L0 := by omega
  have h4 : i + 4 < L0 := by omega
  have h5 : i + 5 < L0 := by omega
  have h6 : i + 6 < L0 := by omega
  have h7 : i + 7 < L0 := by omega
  obtain ⟨v, I1, D1, P1, I2, D2, e1, e2, hV⟩ := k_told (xs (i + 1)) I D P hI
  refine ⟨I2, D2, P1, ?_, hV⟩
  unfold lwE
  simp (disch := first | assumption | decide) only [x_L_law_544, x_L_law_545, x_L_law_546, x_L_law_547, x_L_law_548, x_L_law_549, x_L_law_550, x_L_law_553, x_L_law_554, x_L_law_555, x_L_law_556, x_L_law_557, x_L_law_558, x_L_law_559, x_L_law_562, nI_add, e1, e2, if_true, Option.bind_some, Option.toList, List.cons_append, List.nil_append]
theorem lw_c9 (hL : L0 < 2 ^ 31) (h : i + 8 ≤ L0) (hI : INV I D P) : ∃ I' D' P', lwE L0 xs 567 i I D P = lwE L0 xs 692 i I' D' P' ∧ INV I' D' P' := by
  have h1 : i + 1 < L0 := by omega
  have h2 : i + 2 < L0 := by omega
  have h3 : i + 3 < L0 := by omega
  have h4 : i + 4 < L0 := by omega
  have h5 : i + 5 < L0 := by omega
  have h6 : i + 6 < L0 := by omega
  have h7 : i + 7 < L0 := by omega
  obtain ⟨v, I1, D1, P1, I2, D2, e1, e2, hV⟩ := k_about (xs (i + 1)) (xs (i + 2)) I D P hI
  refine ⟨I2, D2, P1, ?_, hV⟩
  unfold lwE
  simp (disch := first | assumption | decide) only [x_L_law_567, x_L_law_568, x_L_law_569, x_L_law_570, x_L_law_571, x_L_law_572, x_L_law_573, x_L_law_574, x_L_law_575, x_L_law_576, x_L_law_577, x_L_law_578, x_L_law_581, x_L_law_582, x_L_law_583, x_L_law_584, x_L_law_585, x_L_law_586, x_L_law_587, x_L_law_588, x_L_law_589, x_L_law_590, x_L_law_591, x_L_law_592, x_L_law_595, nI_add, e1, e2, if_true, Option.bind_some, Option.toList, List.cons_append, List.nil_append]
theorem lw_c10 (hL : L0 < 2 ^ 31) (h : i + 8 ≤ L0) (hI : INV I D P) : ∃ I' D' P', lwE L0 xs 600 i I D P = lwE L0 xs 692 i I' D' P' ∧ INV I' D' P' := by
  have h1 : i + 1 < L0 := by omega
  have h2 : i + 2 < L0 := by omega
  have h3 : i + 3 < L0 := by omega
  have h4 : i + 4 < L0 := by omega
  have h5 : i + 5 < L0 := by omega
  have h6 : i + 6 < L0 := by omega
  have h7 : i + 7 < L0 := by omega
  obtain ⟨v, I1, D1, P1, I2, D2, e1, e2, hV⟩ := k_partOf (xs (i + 1)) (xs (i + 2)) I D P hI
  refine ⟨I2, D2, P1, ?_, hV⟩
  unfold lwE
  simp (disch := first | assumption | decide) only [x_L_law_600, x_L_law_601, x_L_law_602, x_L_law_603, x_L_law_604, x_L_law_605, x_L_law_606, x_L_law_607, x_L_law_608, x_L_law_609, x_L_law_610, x_L_law_611, x_L_law_614, x_L_law_615, x_L_law_616, x_L_law_617, x_L_law_618, x_L_law_619, x_L_law_620, x_L_law_621, x_L_law_622, x_L_law_623, x_L_law_624, x_L_law_625, x_L_law_628, nI_add, e1, e2, if_true, Option.bind_some, Option.toList, List.cons_append, List.nil_append]
theorem lw_c11 (hL : L0 < 2 ^ 31) (h : i + 8 ≤ L0) (hI : INV I D P) : ∃ I' D' P', lwE L0 xs 633 i I D P = lwE L0 xs 692 i I' D' P' ∧ INV I' D' P' := by
  have h1 : i + 1 < L0 := by omega
  have h2 : i + 2 < L0 := by omega
  have h3 : i + 3 < L0 := by omega
  have h4 : i + 4 < L0 := by omega
  have h5 : i + 5 < L0 := by omega
  have h6 : i + 6 < L0 := by omega
  have h7 : i + 7 < L0 := by omega
  obtain ⟨v, I1, D1, P1, I2, D2, e1, e2, hV⟩ := k_top (xs (i + 1)) (xs (i + 2)) I D P hI
  refine ⟨I2, D2, P1, ?_, hV⟩
  unfold lwE
  simp (disch := first | assumption | decide) only [x_L_law_633, x_L_law_634, x_L_law_635, x_L_law_636, x_L_law_637, x_L_law_638, x_L_law_639, x_L_law_640, x_L_law_641, x_L_law_642, x_L_law_643, x_L_law_644, x_L_law_647, x_L_law_648, x_L_law_649, x_L_law_650, x_L_law_651, x_L_law_652, x_L_law_653, x_L_law_654, x_L_law_655, x_L_law_656, x_L_law_657, x_L_law_658, x_L_law_661, nI_add, e1, e2, if_true, Option.bind_some, Option.toList, List.cons_append, List.nil_append]
theorem lw_c12 (hL : L0 < 2 ^ 31) (h : i + 8 ≤ L0) (hI : INV I D P) : ∃ I' D' P', lwE L0 xs 666 i I D P = lwE L0 xs 692 i I' D' P' ∧ INV I' D' P' := by
  have h1 : i + 1 < L0 := by omega
  have h2 : i + 2 < L0 := by omega
  have h3 : i + 3 < L0 := by omega
  have h4 : i + 4 < L0 := by omega
  have h5 : i + 5 < L0 := by omega
  have h6 : i + 6 < L0 := by omega
  have h7 : i + 7 < L0 := by omega
  obtain ⟨v, I1, D1, P1, I2, D2, e1, e2, hV⟩ := k_clear I D P hI
  refine ⟨I2, D2, P1, ?_, hV⟩
  unfold lwE
  simp (disch := first | assumption | decide) only [x_L_law_666, x_L_law_667, x_L_law_670, x_L_law_671, x_L_law_674, nI_add, e1, e2, if_true, Option.bind_some, Option.toList, List.cons_append, List.nil_append]
theorem lw_c13 (hL : L0 < 2 ^ 31) (h : i + 8 ≤ L0) (hI : INV I D P) : ∃ I' D' P', lwE L0 xs 679 i I D P = lwE L0 xs 692 i I' D' P' ∧ INV I' D' P' := by
  have h1 : i + 1 < L0 := by omega
  have h2 : i + 2 < L0 := by omega
  have h3 : i + 3 < L0 := by omega
  have h4 : i + 4 < L0 := by omega
  have h5 : i + 5 < L0 := by omega
  have h6 : i + 6 < L0 := by omega
  have h7 : i + 7 < L0 := by omega
  obtain ⟨v, I1, D1, P1, I2, D2, e1, e2, hV⟩ := k_forget I D P hI
  refine ⟨I2, D2, P1, ?_, hV⟩
  unfold lwE
  simp (disch := first | assumption | decide) only [x_L_law_679, x_L_law_680, x_L_law_683, x_L_law_684, x_L_law_687, nI_add, e1, e2, if_true, Option.bind_some, Option.toList, List.cons_append, List.nil_append]
theorem lw_one (hL : L0 < 2 ^ 31) (h : i + 8 ≤ L0) (hI : INV I D P) : ∃ I' D' P', lwE L0 xs 18 i I D P = lwE L0 xs 18 (i + 8) I' D' P' ∧ INV I' D' P' := by
  obtain ⟨n, hn, en⟩ := pk_andE (xs i) 4 (m := nI 15) (by decide)
  have hi : i < L0 := by omega
  have e1 : nI L0 - nI 8 = nI (L0 - 8) := pk_sub (by omega)
  have e2 : ¬ nI (L0 - 8) < nI i := nI_nlt (by omega) (by omega)
  have tail : ∀ I D P, lwE L0 xs 692 i I D P = lwE L0 xs 18 (i + 8) I D P := by
    intro I D P
    unfold lwE
    simp only [x_L_law_692, x_L_law_695, nI_add]
  have head : lwE L0 xs 18 i I D P = pm_run (mE_L_law L0 xs) 33 [.ref 9999, .ref 0, .ref 138, .int (nI i)] [.int (nI n)] (162, I, D, pm_R P) := by
    unfold lwE
    simp (disch := assumption) only [x_L_law_18, x_L_law_19, x_L_law_20, x_L_law_21, x_L_law_23, x_L_law_24, x_L_law_27, x_L_law_28, x_L_law_29, x_L_law_30, x_L_law_32, e1, e2, if_false, en]
  rw [head, x_L_law_33 (by omega)]
  by_cases c0 : n = 0
  · rw [if_pos c0]
    obtain ⟨I', D', P', e, hV⟩ := lw_c0 (xs := xs) hL h hI
    exact ⟨I', D', P', e.trans (tail _ _ _), hV⟩
  rw [if_neg c0]
  by_cases c1 : n = 1
  · rw [if_pos c1]
    obtain ⟨I', D', P', e, hV⟩ := lw_c1 (xs := xs) hL h hI
    exact ⟨I', D', P', e.trans (tail _ _ _), hV⟩
  rw [if_neg c1]
  by_cases c2 : n = 2
  · rw [if_pos c2]
    obtain ⟨I', D', P', e, hV⟩ := lw_c2 (xs := xs) hL h hI
    exact ⟨I', D', P', e.trans (tail _ _ _), hV⟩
  rw [if_neg c2]
  by_cases c3 : n = 3
  · rw [if_pos c3]
    obtain ⟨I', D', P', e, hV⟩ := lw_c3 (xs := xs) hL h hI
    exact ⟨I', D', P', e.trans (tail _ _ _), hV⟩
  rw [if_neg c3]
  by_cases c4 : n = 4
  · rw [if_pos c4]
    obtain ⟨I', D', P', e, hV⟩ := lw_c4 (xs := xs) hL h hI
    exact ⟨I', D', P', e.trans (tail _ _ _), hV⟩
  rw [if_neg c4]
  by_cases c5 : n = 5
  · rw [if_pos c5]
    obtain ⟨I', D', P', e, hV⟩ := lw_c5 (xs := xs) hL h hI
    exact ⟨I', D', P', e.trans (tail _ _ _), hV⟩
  rw [if_neg c5]
  by_cases c6 : n = 6
  · rw [if_pos c6]
    obtain ⟨I', D', P', e, hV⟩ := lw_c6 (xs := xs) hL h hI
    exact ⟨I', D', P', e.trans (tail _ _ _), hV⟩
  rw [if_neg c6]
  by_cases c7 : n = 7
  · rw [if_pos c7]
    obtain ⟨I', D', P', e, hV⟩ := lw_c7 (xs := xs) hL h hI
    exact ⟨I', D', P', e.trans (tail _ _ _), hV⟩
  rw [if_neg c7]
  by_cases c8 : n = 8
  · rw [if_pos c8]
    obtain ⟨I', D', P', e, hV⟩ := lw_c8 (xs := xs) hL h hI
    exact ⟨I', D', P', e.trans (tail _ _ _), hV⟩
  rw [if_neg c8]
  by_cases c9 : n = 9
  · rw [if_pos c9]
    obtain ⟨I', D', P', e, hV⟩ := lw_c9 (xs := xs) hL h hI
    exact ⟨I', D', P', e.trans (tail _ _ _), hV⟩
  rw [if_neg c9]
  by_cases c10 : n = 10
  · rw [if_pos c10]
    obtain ⟨I', D', P', e, hV⟩ := lw_c10 (xs := xs) hL h hI
    exact ⟨I', D', P', e.trans (tail _ _ _), hV⟩
  rw [if_neg c10]
  by_cases c11 : n = 11
  · rw [if_pos c11]
    obtain ⟨I', D', P', e, hV⟩ := lw_c11 (xs := xs) hL h hI
    exact ⟨I', D', P', e.trans (tail _ _ _), hV⟩
  rw [if_neg c11]
  by_cases c12 : n = 12
  · rw [if_pos c12]
    obtain ⟨I', D', P', e, hV⟩ := lw_c12 (xs := xs) hL h hI
    exact ⟨I', D', P', e.trans (tail _ _ _), hV⟩
  rw [if_neg c12]
  by_cases c13 : n = 13
  · rw [if_pos c13]
    obtain ⟨I', D', P', e, hV⟩ := lw_c13 (xs := xs) hL h hI
    exact ⟨I', D', P', e.trans (tail _ _ _), hV⟩
  rw [if_neg c13]
  exact ⟨I, D, P, tail _ _ _, hI⟩
theorem lw_loop (hL : L0 < 2 ^ 31) : ∀ c i I D P, L0 < i + c → i ≤ L0 → INV I D P → ∃ I' D' P', lwE L0 xs 18 i I D P = some (some (.int (nI 1)), (162, I', D', pm_R P')) := by
  intro c
  induction c with
  | zero => intro i I D P h1 h2; omega
  | succ c ih =>
    intro i I D P h1 h2 hI
    by_cases c8 : i + 8 ≤ L0
    · obtain ⟨I1, D1, P1, e, hV⟩ := lw_one (xs := xs) hL c8 hI
      obtain ⟨I2, D2, P2, e2⟩ := ih (i + 8) I1 D1 P1 (by omega) c8 hV
      exact ⟨I2, D2, P2, e.trans e2⟩
    · have e2 : nI L0 - nI 8 < nI i := by
        by_cases c : 8 ≤ L0
        · rw [pk_sub c]
          exact nI_lt (by omega) (by omega)
        · exact Int32.lt_of_lt_of_le (pk_sneg (by decide) (by omega)) (nI_pos' (by omega))
      refine ⟨I, D, P, ?_⟩
      unfold lwE
      simp (disch := assumption) only [x_L_law_18, x_L_law_19, x_L_law_20, x_L_law_21, x_L_law_23, x_L_law_24, x_L_law_698, x_L_law_699b, e2, if_true]
end LAWL
theorem lv0 : lv 0 = 0 := by decide +kernel
theorem sm0 : ∀ n, sm (fun _ => 0) n = 0
  | 0 => rfl
  | n + 1 => by
    have h := sm0 n
    show sm (fun _ => 0) n + 0 = 0
    omega
theorem sumZ (f : Nat) : sumL (fun _ => 0) f = 0 := by
  show sm (fun _ => lv 0) 40 = 0
  rw [lv0]
  exact sm0 40
theorem cntZ (f : Nat) : cntL (fun _ => 0) f = 0 := by
  show sm (fun _ => if lv 0 = 0 then 0 else 1) 40 = 0
  rw [lv0]
  exact sm0 40
theorem lw_run {L0 : Nat} {xs : Nat → Int32} (hL : L0 < 2 ^ 31) : ∃ I' D' P', pm_run (mE_L_law L0 xs) 0 [.ref 9999, .retAddr 0, .retAddr 0, .retAddr 0] [] (0, fun _ _ => 0, fun _ _ => 0, fun _ _ => none) = some (some (.int (nI 1)), (162, I', D', pm_R P')) := by
  have hR : moR (clR (fun _ _ => none)) = pm_R (fun _ _ => none) := allR_eq
  obtain ⟨I1, D1, e, f1, f2⟩ := sX8_init (I := pm_u (iIf (fun _ _ => 0) 60) 135 1 (-9)) (D := fun _ _ => 0) hR
  have eI : ∀ a b, a ≠ 135 → a ≠ 200 → pm_u (iIf (fun _ _ => 0) 60) 135 1 (-9) a b = nI 0 := by
    intro a b h1 h2
    rw [pm_ua h1, iIf_out h2]
    exact nI_0.symm
  have hI1 : ∀ a b, (a < 139 ∨ 143 < a) → a ≠ 135 → a ≠ 200 → I1 a b = nI 0 := fun a b h1 h2 h3 => ((f2 a b h1).1).trans (eI a b h2 h3)
  have hD1 : ∀ a b, (a < 139 ∨ 143 < a) → D1 a b = 0 := fun a b h1 => (f2 a b h1).2
  have hC : CO I1 D1 gZ := by
    refine ⟨gZ_ok, fun i hi => ⟨hI1 2 i (by decide) (by decide) (by decide), ?_, ?_, hI1 7 i (by decide) (by decide) (by decide), fun a h => by cases h⟩, fun f hf => ⟨?_, ?_, hI1 9 f (by decide) (by decide) (by decide), fun a h => by cases h⟩⟩
    · rw [hD1 3 i (by decide)]
      rfl
    · rw [hI1 4 i (by decide) (by decide) (by decide)]
      show nI 0 = nI (lv 0)
      rw [lv0]
    · rw [hI1 5 f (by decide) (by decide) (by decide)]
      show nI 0 = nI (sumL (fun _ => 0) f)
      rw [sumZ]
    · rw [hI1 6 f (by decide) (by decide) (by decide)]
      show nI 0 = nI (cntL (fun _ => 0) f)
      rw [cntZ]
  have hV : INV I1 D1 (fun _ _ => none) := by
    refine ⟨gZ, 0, fun _ => zB 0 0 none none, fun j => if j = 1 then -9 else nI 0, false, ⟨hC, f1⟩, ⟨fun k hk => absurd hk (Nat.not_lt_zero k), fun k hk => absurd hk (Nat.not_lt_zero k), fun k hk => absurd hk (Nat.not_lt_zero k), by decide, hI1 0 3 (by decide) (by decide) (by decide), hI1 138 5 (by decide) (by decide) (by decide), fun k hk => ?_⟩, ⟨fun j hj => ?_, hI1 138 27 (by decide) (by decide) (by decide), fun z => (by cases z), fun _ j _ => rfl⟩⟩
    · rw [(f2 200 k (by omega)).1, pm_ua (by decide)]
      exact iIf_in 60 hk
    · rw [(f2 135 j (by omega)).1]
      by_cases c : j = 1
      · subst c
        rw [pm_us]
        rfl
      · rw [pm_ub c, iIf_out (by decide)]
        show (0 : Int32) = if j = 1 then -9 else nI 0
        rw [if_neg c]
        exact nI_0.symm
  obtain ⟨I2, D2, P2, e2⟩ := lw_loop (xs := xs) hL (L0 + 1) 0 I1 D1 _ (by omega) (by omega) hV
  refine ⟨I2, D2, P2, ?_⟩
  rw [← e2]
  unfold lwE
  simp (disch := decide) only [x_L_law_0, x_L_law_3, x_L_law_4, x_L_law_7, Nat.reduceAdd, sX7_init, Option.bind_some, Option.toList, List.cons_append, List.nil_append]
  simp (disch := decide) only [x_L_law_8, x_L_law_11, x_L_law_12, x_L_law_15, x_L_law_16, x_L_law_17, Nat.reduceAdd, e, Option.bind_some, Option.toList, List.cons_append, List.nil_append]
