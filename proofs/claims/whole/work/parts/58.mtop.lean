/-! SCORES, 13: the model's top -/
section MTO
variable {I : Nat → Nat → Int32} {D : Nat → Nat → UInt64} {P : Nat → Nat → Option Nat} {fl : Nat → Bool} {vl : Nat → UInt64} {a1 : Value}
theorem mt_one (h : rkd 160 161 fl vl I D 40) {k o c : Nat} {i : Nat} (hi : i < 40) (ho : o < 40) {a6 a7 : Value} : ∃ b6 b7, pm_run mE_X8_top 82 [.ref 138, a1, .int (nI k), .int (nI o), .int (nI c), .int (nI i), a6, a7] [] (162, I, D, pm_R P) = pm_run mE_X8_top 250 [.ref 138, a1, .int (nI k), .int (nI o), .int (nI (c + (if ahB fl vl i o = true then 1 else 0))), .int (nI (i + 1)), b6, b7] [] (162, I, D, pm_R P) := by
  obtain ⟨x1, x2⟩ := h i hi
  obtain ⟨y1, y2⟩ := h o ho
  have hlt : ¬ nI 40 ≤ nI i := nI_ge hi (by decide)
  have elt : (nI o ≤ nI i) = (o ≤ i) := propext (nI_leI (by omega) (by omega))
  have z1 : (nI 1 = 0) = False := eq_false (by decide)
  have z0 : (nI 0 = 0) = True := eq_true nI_0
  cases ci : fl i with
  | true =>
    rw [ci] at x1
    cases co : fl o with
    | true =>
      rw [co] at y1
      by_cases q : i < o
      · have e : ahB fl vl i o = true := by simp [ahB, ci, co, q]
        have q' : ¬ o ≤ i := by omega
        rw [if_pos e]
        refine ⟨.int (nI 1), .int (nI 1), ?_⟩
        simp (disch := first | assumption | decide) only [x_X8_top_82, x_X8_top_84, x_X8_top_86, x_X8_top_89, x_X8_top_90, x_X8_top_93, x_X8_top_94, x_X8_top_95, x_X8_top_98, x_X8_top_99, x_X8_top_102, x_X8_top_104, x_X8_top_105, x_X8_top_108, x_X8_top_109, x_X8_top_112, x_X8_top_113, x_X8_top_114, x_X8_top_117, x_X8_top_118, x_X8_top_121, x_X8_top_123, x_X8_top_124, x_X8_top_127, x_X8_top_128, x_X8_top_131, x_X8_top_133, x_X8_top_134, x_X8_top_135, x_X8_top_138, x_X8_top_139, x_X8_top_140, x_X8_top_141, x_X8_top_144, x_X8_top_145, x_X8_top_148, x_X8_top_149, x_X8_top_151, x_X8_top_153, x_X8_top_156, x_X8_top_158, x_X8_top_159, x_X8_top_162, x_X8_top_163, x_X8_top_166, x_X8_top_167, x_X8_top_170, x_X8_top_171, x_X8_top_174, x_X8_top_175, x_X8_top_176, x_X8_top_179, x_X8_top_180, x_X8_top_183, x_X8_top_185, x_X8_top_186, x_X8_top_189, x_X8_top_190, x_X8_top_193, x_X8_top_194, x_X8_top_195, x_X8_top_198, x_X8_top_199, x_X8_top_202, x_X8_top_204, x_X8_top_205, x_X8_top_208, x_X8_top_209, x_X8_top_212, x_X8_top_214, x_X8_top_215, x_X8_top_216, x_X8_top_219, x_X8_top_220, x_X8_top_221, x_X8_top_222, x_X8_top_225, x_X8_top_226, x_X8_top_229, x_X8_top_230, x_X8_top_232, x_X8_top_234, x_X8_top_236, x_X8_top_239, x_X8_top_240, x_X8_top_243, x_X8_top_244, x_X8_top_245, x_X8_top_247, hlt, if_false, x1, y1, fb_eq0, reduceCtorEq, z1, elt, q', nI_add]
      · have e : ¬ ahB fl vl i o = true := by simp [ahB, ci, co, q]
        have q' : o ≤ i := by omega
        rw [if_neg e]
        refine ⟨.int (nI 1), .int (nI 0), ?_⟩
        simp (disch := first | assumption | decide) only [x_X8_top_82, x_X8_top_84, x_X8_top_86, x_X8_top_89, x_X8_top_90, x_X8_top_93, x_X8_top_94, x_X8_top_95, x_X8_top_98, x_X8_top_99, x_X8_top_102, x_X8_top_104, x_X8_top_105, x_X8_top_108, x_X8_top_109, x_X8_top_112, x_X8_top_113, x_X8_top_114, x_X8_top_117, x_X8_top_118, x_X8_top_121, x_X8_top_123, x_X8_top_124, x_X8_top_127, x_X8_top_128, x_X8_top_131, x_X8_top_133, x_X8_top_134, x_X8_top_135, x_X8_top_138, x_X8_top_139, x_X8_top_140, x_X8_top_141, x_X8_top_144, x_X8_top_145, x_X8_top_148, x_X8_top_149, x_X8_top_151, x_X8_top_153, x_X8_top_156, x_X8_top_158, x_X8_top_159, x_X8_top_162, x_X8_top_163, x_X8_top_166, x_X8_top_167, x_X8_top_170, x_X8_top_171, x_X8_top_174, x_X8_top_175, x_X8_top_176, x_X8_top_179, x_X8_top_180, x_X8_top_183, x_X8_top_185, x_X8_top_186, x_X8_top_189, x_X8_top_190, x_X8_top_193, x_X8_top_194, x_X8_top_195, x_X8_top_198, x_X8_top_199, x_X8_top_202, x_X8_top_204, x_X8_top_205, x_X8_top_208, x_X8_top_209, x_X8_top_212, x_X8_top_214, x_X8_top_215, x_X8_top_216, x_X8_top_219, x_X8_top_220, x_X8_top_221, x_X8_top_222, x_X8_top_225, x_X8_top_226, x_X8_top_229, x_X8_top_230, x_X8_top_232, x_X8_top_234, x_X8_top_236, x_X8_top_239, x_X8_top_240, x_X8_top_243, x_X8_top_244, x_X8_top_245, x_X8_top_247, hlt, if_false, x1, y1, fb_eq0, reduceCtorEq, z1, z0, if_true, elt, q', nI_add]
    | false =>
      rw [co] at y1
      have e : ¬ ahB fl vl i o = true := by simp [ahB, ci, co]
      rw [if_neg e]
      refine ⟨.int (nI 0), .int (nI 0), ?_⟩
      simp (disch := first | assumption | decide) only [x_X8_top_82, x_X8_top_84, x_X8_top_86, x_X8_top_89, x_X8_top_90, x_X8_top_93, x_X8_top_94, x_X8_top_95, x_X8_top_98, x_X8_top_99, x_X8_top_102, x_X8_top_104, x_X8_top_105, x_X8_top_108, x_X8_top_109, x_X8_top_112, x_X8_top_113, x_X8_top_114, x_X8_top_117, x_X8_top_118, x_X8_top_121, x_X8_top_123, x_X8_top_124, x_X8_top_127, x_X8_top_128, x_X8_top_131, x_X8_top_133, x_X8_top_134, x_X8_top_135, x_X8_top_138, x_X8_top_139, x_X8_top_140, x_X8_top_141, x_X8_top_144, x_X8_top_145, x_X8_top_148, x_X8_top_149, x_X8_top_151, x_X8_top_153, x_X8_top_156, x_X8_top_158, x_X8_top_159, x_X8_top_162, x_X8_top_163, x_X8_top_166, x_X8_top_167, x_X8_top_170, x_X8_top_171, x_X8_top_174, x_X8_top_175, x_X8_top_176, x_X8_top_179, x_X8_top_180, x_X8_top_183, x_X8_top_185, x_X8_top_186, x_X8_top_189, x_X8_top_190, x_X8_top_193, x_X8_top_194, x_X8_top_195, x_X8_top_198, x_X8_top_199, x_X8_top_202, x_X8_top_204, x_X8_top_205, x_X8_top_208, x_X8_top_209, x_X8_top_212, x_X8_top_214, x_X8_top_215, x_X8_top_216, x_X8_top_219, x_X8_top_220, x_X8_top_221, x_X8_top_222, x_X8_top_225, x_X8_top_226, x_X8_top_229, x_X8_top_230, x_X8_top_232, x_X8_top_234, x_X8_top_236, x_X8_top_239, x_X8_top_240, x_X8_top_243, x_X8_top_244, x_X8_top_245, x_X8_top_247, hlt, if_false, x1, y1, fb_eq0, reduceCtorEq, z1, z0, if_true, nI_add]
  | false =>
    rw [ci] at x1
    cases co : fl o with
    | true =>
      rw [co] at y1
      have e : ahB fl vl i o = true := by simp [ahB, ci, co]
      rw [if_pos e]
      refine ⟨.int (nI 0), .int (nI 1), ?_⟩
      simp (disch := first | assumption | decide) only [x_X8_top_82, x_X8_top_84, x_X8_top_86, x_X8_top_89, x_X8_top_90, x_X8_top_93, x_X8_top_94, x_X8_top_95, x_X8_top_98, x_X8_top_99, x_X8_top_102, x_X8_top_104, x_X8_top_105, x_X8_top_108, x_X8_top_109, x_X8_top_112, x_X8_top_113, x_X8_top_114, x_X8_top_117, x_X8_top_118, x_X8_top_121, x_X8_top_123, x_X8_top_124, x_X8_top_127, x_X8_top_128, x_X8_top_131, x_X8_top_133, x_X8_top_134, x_X8_top_135, x_X8_top_138, x_X8_top_139, x_X8_top_140, x_X8_top_141, x_X8_top_144, x_X8_top_145, x_X8_top_148, x_X8_top_149, x_X8_top_151, x_X8_top_153, x_X8_top_156, x_X8_top_158, x_X8_top_159, x_X8_top_162, x_X8_top_163, x_X8_top_166, x_X8_top_167, x_X8_top_170, x_X8_top_171, x_X8_top_174, x_X8_top_175, x_X8_top_176, x_X8_top_179, x_X8_top_180, x_X8_top_183, x_X8_top_185, x_X8_top_186, x_X8_top_189, x_X8_top_190, x_X8_top_193, x_X8_top_194, x_X8_top_195, x_X8_top_198, x_X8_top_199, x_X8_top_202, x_X8_top_204, x_X8_top_205, x_X8_top_208, x_X8_top_209, x_X8_top_212, x_X8_top_214, x_X8_top_215, x_X8_top_216, x_X8_top_219, x_X8_top_220, x_X8_top_221, x_X8_top_222, x_X8_top_225, x_X8_top_226, x_X8_top_229, x_X8_top_230, x_X8_top_232, x_X8_top_234, x_X8_top_236, x_X8_top_239, x_X8_top_240, x_X8_top_243, x_X8_top_244, x_X8_top_245, x_X8_top_247, hlt, if_false, x1, y1, fb_eq0, reduceCtorEq, z1, z0, if_true, nI_add]
    | false =>
      rw [co] at y1
      have v1 := x2 ci
      have v2 := y2 co
      by_cases q : FP.dcmp (vl i) (vl o) = some .eq
      · by_cases r : i < o
        · have e : ahB fl vl i o = true := by simp [ahB, ci, co, r, q]
          have r' : ¬ o ≤ i := by omega
          rw [if_pos e]
          refine ⟨.int (nI 1), .int (nI 1), ?_⟩
          simp (disch := first | assumption | decide) only [x_X8_top_82, x_X8_top_84, x_X8_top_86, x_X8_top_89, x_X8_top_90, x_X8_top_93, x_X8_top_94, x_X8_top_95, x_X8_top_98, x_X8_top_99, x_X8_top_102, x_X8_top_104, x_X8_top_105, x_X8_top_108, x_X8_top_109, x_X8_top_112, x_X8_top_113, x_X8_top_114, x_X8_top_117, x_X8_top_118, x_X8_top_121, x_X8_top_123, x_X8_top_124, x_X8_top_127, x_X8_top_128, x_X8_top_131, x_X8_top_133, x_X8_top_134, x_X8_top_135, x_X8_top_138, x_X8_top_139, x_X8_top_140, x_X8_top_141, x_X8_top_144, x_X8_top_145, x_X8_top_148, x_X8_top_149, x_X8_top_151, x_X8_top_153, x_X8_top_156, x_X8_top_158, x_X8_top_159, x_X8_top_162, x_X8_top_163, x_X8_top_166, x_X8_top_167, x_X8_top_170, x_X8_top_171, x_X8_top_174, x_X8_top_175, x_X8_top_176, x_X8_top_179, x_X8_top_180, x_X8_top_183, x_X8_top_185, x_X8_top_186, x_X8_top_189, x_X8_top_190, x_X8_top_193, x_X8_top_194, x_X8_top_195, x_X8_top_198, x_X8_top_199, x_X8_top_202, x_X8_top_204, x_X8_top_205, x_X8_top_208, x_X8_top_209, x_X8_top_212, x_X8_top_214, x_X8_top_215, x_X8_top_216, x_X8_top_219, x_X8_top_220, x_X8_top_221, x_X8_top_222, x_X8_top_225, x_X8_top_226, x_X8_top_229, x_X8_top_230, x_X8_top_232, x_X8_top_234, x_X8_top_236, x_X8_top_239, x_X8_top_240, x_X8_top_243, x_X8_top_244, x_X8_top_245, x_X8_top_247, hlt, if_false, x1, y1, v1, v2, cl_eq, q, fb_eq0, reduceCtorEq, z1, z0, if_true, elt, r', nI_add]
        · have e : ¬ ahB fl vl i o = true := by simp [ahB, ci, co, r, q]
          have r' : o ≤ i := by omega
          rw [if_neg e]
          refine ⟨.int (nI 1), .int (nI 0), ?_⟩
          simp (disch := first | assumption | decide) only [x_X8_top_82, x_X8_top_84, x_X8_top_86, x_X8_top_89, x_X8_top_90, x_X8_top_93, x_X8_top_94, x_X8_top_95, x_X8_top_98, x_X8_top_99, x_X8_top_102, x_X8_top_104, x_X8_top_105, x_X8_top_108, x_X8_top_109, x_X8_top_112, x_X8_top_113, x_X8_top_114, x_X8_top_117, x_X8_top_118, x_X8_top_121, x_X8_top_123, x_X8_top_124, x_X8_top_127, x_X8_top_128, x_X8_top_131, x_X8_top_133, x_X8_top_134, x_X8_top_135, x_X8_top_138, x_X8_top_139, x_X8_top_140, x_X8_top_141, x_X8_top_144, x_X8_top_145, x_X8_top_148, x_X8_top_149, x_X8_top_151, x_X8_top_153, x_X8_top_156, x_X8_top_158, x_X8_top_159, x_X8_top_162, x_X8_top_163, x_X8_top_166, x_X8_top_167, x_X8_top_170, x_X8_top_171, x_X8_top_174, x_X8_top_175, x_X8_top_176, x_X8_top_179, x_X8_top_180, x_X8_top_183, x_X8_top_185, x_X8_top_186, x_X8_top_189, x_X8_top_190, x_X8_top_193, x_X8_top_194, x_X8_top_195, x_X8_top_198, x_X8_top_199, x_X8_top_202, x_X8_top_204, x_X8_top_205, x_X8_top_208, x_X8_top_209, x_X8_top_212, x_X8_top_214, x_X8_top_215, x_X8_top_216, x_X8_top_219, x_X8_top_220, x_X8_top_221, x_X8_top_222, x_X8_top_225, x_X8_top_226, x_X8_top_229, x_X8_top_230, x_X8_top_232, x_X8_top_234, x_X8_top_236, x_X8_top_239, x_X8_top_240, x_X8_top_243, x_X8_top_244, x_X8_top_245, x_X8_top_247, hlt, if_false, x1, y1, v1, v2, cl_eq, q, fb_eq0, reduceCtorEq, z1, z0, if_true, elt, r', nI_add]
      · by_cases r : FP.dcmp (vl i) (vl o) = some .gt
        · have e : ahB fl vl i o = true := by simp [ahB, ci, co, r]
          rw [if_pos e]
          refine ⟨.int (nI 0), .int (nI 1), ?_⟩
          simp (disch := first | assumption | decide) only [x_X8_top_82, x_X8_top_84, x_X8_top_86, x_X8_top_89, x_X8_top_90, x_X8_top_93, x_X8_top_94, x_X8_top_95, x_X8_top_98, x_X8_top_99, x_X8_top_102, x_X8_top_104, x_X8_top_105, x_X8_top_108, x_X8_top_109, x_X8_top_112, x_X8_top_113, x_X8_top_114, x_X8_top_117, x_X8_top_118, x_X8_top_121, x_X8_top_123, x_X8_top_124, x_X8_top_127, x_X8_top_128, x_X8_top_131, x_X8_top_133, x_X8_top_134, x_X8_top_135, x_X8_top_138, x_X8_top_139, x_X8_top_140, x_X8_top_141, x_X8_top_144, x_X8_top_145, x_X8_top_148, x_X8_top_149, x_X8_top_151, x_X8_top_153, x_X8_top_156, x_X8_top_158, x_X8_top_159, x_X8_top_162, x_X8_top_163, x_X8_top_166, x_X8_top_167, x_X8_top_170, x_X8_top_171, x_X8_top_174, x_X8_top_175, x_X8_top_176, x_X8_top_179, x_X8_top_180, x_X8_top_183, x_X8_top_185, x_X8_top_186, x_X8_top_189, x_X8_top_190, x_X8_top_193, x_X8_top_194, x_X8_top_195, x_X8_top_198, x_X8_top_199, x_X8_top_202, x_X8_top_204, x_X8_top_205, x_X8_top_208, x_X8_top_209, x_X8_top_212, x_X8_top_214, x_X8_top_215, x_X8_top_216, x_X8_top_219, x_X8_top_220, x_X8_top_221, x_X8_top_222, x_X8_top_225, x_X8_top_226, x_X8_top_229, x_X8_top_230, x_X8_top_232, x_X8_top_234, x_X8_top_236, x_X8_top_239, x_X8_top_240, x_X8_top_243, x_X8_top_244, x_X8_top_245, x_X8_top_247, hlt, if_false, x1, y1, v1, v2, cl_eq, cl_le, r, Option.some.injEq, not_true, fb_eq0, reduceCtorEq, z1, z0, if_true, nI_add]
        · have e : ¬ ahB fl vl i o = true := by simp [ahB, ci, co, r, q]
          rw [if_neg e]
          refine ⟨.int (nI 0), .int (nI 0), ?_⟩
          simp (disch := first | assumption | decide) only [x_X8_top_82, x_X8_top_84, x_X8_top_86, x_X8_top_89, x_X8_top_90, x_X8_top_93, x_X8_top_94, x_X8_top_95, x_X8_top_98, x_X8_top_99, x_X8_top_102, x_X8_top_104, x_X8_top_105, x_X8_top_108, x_X8_top_109, x_X8_top_112, x_X8_top_113, x_X8_top_114, x_X8_top_117, x_X8_top_118, x_X8_top_121, x_X8_top_123, x_X8_top_124, x_X8_top_127, x_X8_top_128, x_X8_top_131, x_X8_top_133, x_X8_top_134, x_X8_top_135, x_X8_top_138, x_X8_top_139, x_X8_top_140, x_X8_top_141, x_X8_top_144, x_X8_top_145, x_X8_top_148, x_X8_top_149, x_X8_top_151, x_X8_top_153, x_X8_top_156, x_X8_top_158, x_X8_top_159, x_X8_top_162, x_X8_top_163, x_X8_top_166, x_X8_top_167, x_X8_top_170, x_X8_top_171, x_X8_top_174, x_X8_top_175, x_X8_top_176, x_X8_top_179, x_X8_top_180, x_X8_top_183, x_X8_top_185, x_X8_top_186, x_X8_top_189, x_X8_top_190, x_X8_top_193, x_X8_top_194, x_X8_top_195, x_X8_top_198, x_X8_top_199, x_X8_top_202, x_X8_top_204, x_X8_top_205, x_X8_top_208, x_X8_top_209, x_X8_top_212, x_X8_top_214, x_X8_top_215, x_X8_top_216, x_X8_top_219, x_X8_top_220, x_X8_top_221, x_X8_top_222, x_X8_top_225, x_X8_top_226, x_X8_top_229, x_X8_top_230, x_X8_top_232, x_X8_top_234, x_X8_top_236, x_X8_top_239, x_X8_top_240, x_X8_top_243, x_X8_top_244, x_X8_top_245, x_X8_top_247, hlt, if_false, x1, y1, v1, v2, cl_eq, cl_le, q, r, not_false_eq_true, fb_eq0, reduceCtorEq, z1, z0, if_true, nI_add]
theorem mt_in (h : rkd 160 161 fl vl I D 40) {k o : Nat} (ho : o < 40) : ∀ c i (a6 a7 : Value), i + c = 40 → ∃ b6 b7, pm_run mE_X8_top 82 [.ref 138, a1, .int (nI k), .int (nI o), .int (nI (cnt fl vl o i)), .int (nI i), a6, a7] [] (162, I, D, pm_R P) = pm_run mE_X8_top 253 [.ref 138, a1, .int (nI k), .int (nI o), .int (nI (cnt fl vl o 40)), .int (nI 40), b6, b7] [] (162, I, D, pm_R P) := by
  intro c
  induction c with
  | zero =>
    intro i a6 a7 hi
    have e : i = 40 := by omega
    subst e
    have hle : nI 40 ≤ nI 40 := by decide
    exact ⟨a6, a7, by simp only [x_X8_top_82, x_X8_top_84, x_X8_top_86, hle, if_true]⟩
  | succ c ih =>
    intro i a6 a7 hi
    obtain ⟨b6, b7, e⟩ := mt_one (P := P) (a1 := a1) (k := k) (c := cnt fl vl o i) (a6 := a6) (a7 := a7) h (show i < 40 by omega) ho
    obtain ⟨c6, c7, e2⟩ := ih (i + 1) b6 b7 (by omega)
    exact ⟨c6, c7, (e.trans x_X8_top_250).trans e2⟩
theorem mt_loop (h : rkd 160 161 fl vl I D 40) {k : Nat} (hk : k < 40) : ∀ c o (a4 a5 a6 a7 : Value), o + c = 40 → pm_run mE_X8_top 70 [.ref 138, a1, .int (nI k), .int (nI o), a4, a5, a6, a7] [] (162, I, D, pm_R P) = some (some (.int (tpF fl vl k c o)), (162, I, D, pm_R P)) := by
  intro c
  induction c with
  | zero =>
    intro o a4 a5 a6 a7 hi
    have e : o = 40 := by omega
    subst e
    have hle : nI 40 ≤ nI 40 := by decide
    simp only [x_X8_top_70, x_X8_top_71, x_X8_top_73, x_X8_top_267, x_X8_top_268, hle, if_true]
    rfl
  | succ c ih =>
    intro o a4 a5 a6 a7 hi
    have hlt : ¬ nI 40 ≤ nI o := nI_ge (by omega) (by decide)
    obtain ⟨b6, b7, eg⟩ := mt_in (P := P) (a1 := a1) (k := k) h (show o < 40 by omega) 40 0 a6 a7 rfl
    have hc := cnt_le fl vl o 40
    have es : tpF fl vl k (c + 1) o = if cnt fl vl o 40 = k then nI o else tpF fl vl k c (o + 1) := rfl
    have e0 : cnt fl vl o 0 = 0 := rfl
    rw [e0] at eg
    rw [es]
    simp only [x_X8_top_70, x_X8_top_71, x_X8_top_73, x_X8_top_76, x_X8_top_77, x_X8_top_79, x_X8_top_80, hlt, if_false]
    rw [eg]
    by_cases c1 : cnt fl vl o 40 = k
    · rw [if_pos c1, c1]
      simp only [x_X8_top_253, x_X8_top_255, x_X8_top_256, x_X8_top_259, x_X8_top_260, if_true]
    · rw [if_neg c1]
      have c2 : ¬ nI (cnt fl vl o 40) = nI k := fun z => c1 ((nI_eq (by omega) (by omega)).mp z)
      have e3 := ih (o + 1) (.int (nI (cnt fl vl o 40))) (.int (nI 40)) b6 b7 (by omega)
      simp only [x_X8_top_253, x_X8_top_255, x_X8_top_256, x_X8_top_261, x_X8_top_264, c2, if_false, nI_add]
      exact e3
theorem mt_fill {g : gO} {nF : Nat} {rec : Nat → zR} {k : Nat} {a2 a4 a5 a6 a7 : Value} (hO : zOk nF rec) (hn : nF ≤ 60) (hk : k < nF) : ∀ c o (I : Nat → Nat → Int32) (D : Nat → Nat → UInt64), o + c = 40 → mX g nF rec I D → rkd 160 161 (flO g nF rec k) (vlO g nF rec k) I D o → ∃ I' D', pm_run mE_X8_top 22 [.ref 138, .int (nI k), a2, .int (nI o), a4, a5, a6, a7] [] (162, I, D, pm_R P) = pm_run mE_X8_top 68 [.ref 138, .int (nI k), a2, .int (nI 40), a4, a5, a6, a7] [] (162, I', D', pm_R P) ∧ rkd 160 161 (flO g nF rec k) (vlO g nF rec k) I' D' 40 ∧ (∀ a j, a ≠ 138 → a ≠ 155 → a ≠ 156 → a ≠ 160 → I' a j = I a j) ∧ (∀ j, j < 21 ∨ 26 < j → I' 138 j = I 138 j) ∧ ∀ a j, a ≠ 138 → a ≠ 157 → a ≠ 158 → a ≠ 161 → D' a j = D a j := by
  intro c
  induction c with
  | zero =>
    intro o I D hi hY hR
    have e : o = 40 := by omega
    subst e
    have hle : nI 40 ≤ nI 40 := by decide
    refine ⟨I, D, ?_, hR, fun _ _ _ _ _ _ => rfl, fun _ _ => rfl, fun _ _ _ _ _ _ => rfl⟩
    simp only [x_X8_top_22, x_X8_top_23, x_X8_top_25, hle, if_true]
  | succ c ih =>
    intro o I D hi hX hR
    have ho : o < 40 := by omega
    have hlt : ¬ nI 40 ≤ nI o := nI_ge ho (by decide)
    have hlt4 := scv_lt g nF rec k o
    obtain ⟨I1, D1, e, f1, f2, f3, f6, f7, f8, f9, f10⟩ := sX8_work (P := P) (a1 := .null) hO hn hX hk ho
    have hX' : mX g nF rec (pm_u I1 160 o (fb (flO g nF rec k o))) (pm_u D1 161 o (D1 138 28)) := ⟨MO_fr hX.1 (fun a j h1 h2 => ⟨by rw [pm_ua (by omega)]; exact f8 a j (by omega) (by omega) (by omega), by rw [pm_ua (by omega)]; exact f10 a j (by omega) (by omega) (by omega)⟩), mFo_fr hX.2 (fun a j h1 h2 => ⟨by rw [pm_ua (by omega)]; exact f8 a j (by omega) (by omega) (by omega), by rw [pm_ua (by omega)]; exact f10 a j (by omega) (by omega) (by omega)⟩)⟩
    have hR' : rkd 160 161 (flO g nF rec k) (vlO g nF rec k) (pm_u I1 160 o (fb (flO g nF rec k o))) (pm_u D1 161 o (D1 138 28)) (o + 1) := by
      intro i hi2
      by_cases ci : i = o
      · subst ci
        rw [pm_us, pm_us]
        exact ⟨rfl, fun z => (f6 (flO_f.mp z)).1⟩
      · rw [pm_ub ci, pm_ub ci, f8 160 i (by decide) (by decide) (by decide), f10 161 i (by decide) (by decide) (by decide)]
        exact hR i (by omega)
    obtain ⟨I', D', e2, g1, g2, g3, g4⟩ := ih (o + 1) _ _ (by omega) hX' hR'
    refine ⟨I', D', ?_, g1, fun a j h1 h2 h3 h4 => ?_, fun j h => ?_, fun a j h1 h2 h3 h4 => ?_⟩
    · rw [← e2]
      by_cases c0 : (scv g nF rec k o).2.1 = 0
      · have c' : I1 138 22 = 0 := by rw [f1, c0]; exact nI_0
        rw [flO_f.mpr c0]
        simp (disch := first | assumption | decide) only [x_X8_top_22, x_X8_top_23, x_X8_top_25, x_X8_top_28, x_X8_top_29, x_X8_top_30, x_X8_top_31, x_X8_top_34, x_X8_top_35, x_X8_top_38, x_X8_top_39, x_X8_top_40, x_X8_top_43, x_X8_top_50, x_X8_top_51, x_X8_top_52, x_X8_top_53, x_X8_top_56, x_X8_top_57, x_X8_top_58, x_X8_top_61, x_X8_top_62, x_X8_top_65, hlt, if_false, e, c', if_true, andF, nI_add, Option.bind_some, Option.toList, List.cons_append, List.nil_append]
      · have c' : ¬ I1 138 22 = 0 := fun z => c0 ((nIz (by omega)).mp (by rw [← f1]; exact z))
        have ct : flO g nF rec k o = true := by
          cases h : flO g nF rec k o with
          | true => rfl
          | false => exact absurd (flO_f.mp h) c0
        rw [ct]
        simp (disch := first | assumption | decide) only [x_X8_top_22, x_X8_top_23, x_X8_top_25, x_X8_top_28, x_X8_top_29, x_X8_top_30, x_X8_top_31, x_X8_top_34, x_X8_top_35, x_X8_top_38, x_X8_top_39, x_X8_top_40, x_X8_top_43, x_X8_top_46, x_X8_top_47, x_X8_top_50, x_X8_top_51, x_X8_top_52, x_X8_top_53, x_X8_top_56, x_X8_top_57, x_X8_top_58, x_X8_top_61, x_X8_top_62, x_X8_top_65, hlt, if_false, e, c', andT, nI_add, Option.bind_some, Option.toList, List.cons_append, List.nil_append]
    · rw [g2 a j h1 h2 h3 h4, pm_ua h4]
      exact f8 a j h1 h2 h3
    · rw [g3 j h, pm_ua (by decide)]
      exact f9 j h
    · rw [g4 a j h1 h2 h3 h4, pm_ua h4]
      exact f10 a j h1 h2 h3
theorem sX8_top_bad {nF : Nat} {x y : Int32} (h : I 138 5 = nI nF) (hn : nF ≤ 60) (hz : ¬ (inr x nF ∧ inr y 40)) : mF_X8_top [.ref 138, .int x, .int y] (162, I, D, pm_R P) = some (some (.int (-1)), (162, I, D, pm_R P)) := by
  rw [en_X8_top]
  have hin : ∀ μ : pm_M, mF_X8_in [.int y, .int (nI 0), .int (nI 39)] μ = some (some (.int (pb (inr y 40))), μ) := fun μ => sIn (by decide)
  by_cases c1 : inr x nF
  · have c2 : ¬ inr y 40 := fun z => hz ⟨c1, z⟩
    simp only [x_X8_top_0, x_X8_top_1, x_X8_top_2, x_X8_top_5, x_X8_top_8, x_X8_top_9, x_X8_top_10, x_X8_top_12, x_X8_top_15, x_X8_top_18, x_X8_top_19, sX8_isFormula h hn, hin, pb_t c1, pb_f c2, show ¬ (1 : Int32) = 0 by decide, if_true, if_false, Option.bind_some, Option.toList, List.cons_append, List.nil_append]
  · simp only [x_X8_top_0, x_X8_top_1, x_X8_top_2, x_X8_top_5, x_X8_top_18, x_X8_top_19, sX8_isFormula h hn, pb_f c1, if_true, Option.bind_some, Option.toList, List.cons_append, List.nil_append]
theorem sX8_top {g : gO} {nF : Nat} {rec : Nat → zR} {k j : Nat} (hO : zOk nF rec) (hn : nF ≤ 60) (hX : mX g nF rec I D) (h : I 138 5 = nI nF) (hk : k < nF) (hj : j < 40) : ∃ I' D', mF_X8_top [.ref 138, .int (nI k), .int (nI j)] (162, I, D, pm_R P) = some (some (.int (tpA g nF rec k j)), (162, I', D', pm_R P)) ∧ (∀ a i, a ≠ 138 → a ≠ 155 → a ≠ 156 → a ≠ 160 → I' a i = I a i) ∧ (∀ i, i < 21 ∨ 26 < i → I' 138 i = I 138 i) ∧ ∀ a i, a ≠ 138 → a ≠ 157 → a ≠ 158 → a ≠ 161 → D' a i = D a i := by
  obtain ⟨I', D', e, f1, f2, f3, f4⟩ := mt_fill (P := P) (a2 := .int (nI j)) (a4 := .retAddr 0) (a5 := .retAddr 0) (a6 := .retAddr 0) (a7 := .retAddr 0) hO hn hk 40 0 I D rfl hX (fun i hi => absurd hi (Nat.not_lt_zero i))
  have e2 := mt_loop (P := P) (a1 := .int (nI k)) f1 hj 40 0 (.retAddr 0) (.retAddr 0) (.retAddr 0) (.retAddr 0) rfl
  have hin : ∀ μ : pm_M, mF_X8_in [.int (nI j), .int (nI 0), .int (nI 39)] μ = some (some (.int (pb (inr (nI j) 40))), μ) := fun μ => sIn (by decide)
  refine ⟨I', D', ?_, f2, f3, f4⟩
  rw [en_X8_top]
  simp only [x_X8_top_0, x_X8_top_1, x_X8_top_2, x_X8_top_5, x_X8_top_8, x_X8_top_9, x_X8_top_10, x_X8_top_12, x_X8_top_15, x_X8_top_20, x_X8_top_21, sX8_isFormula h hn, hin, pb_t (inr_of (show nF < 2 ^ 31 by omega) hk), pb_t (inr_of (show 40 < 2 ^ 31 by decide) hj), show ¬ (1 : Int32) = 0 by decide, if_false, Option.bind_some, Option.toList, List.cons_append, List.nil_append]
  rw [e]
  simp only [x_X8_top_68, x_X8_top_69]
  exact e2
end MTO
