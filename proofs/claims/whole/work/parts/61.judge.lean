/-! ===== what spans answer; the judge looks at a note ===== -/
def stepS (x : Spn) : Int := if x.2.1 = 1 then 1 else 0
def leapS (x : Spn) : Int := if x.2.1 ≤ 1 then 0 else 1
def withS (x y : Spn) : Int := if x.2.2.2.1 = 0 then 0 else if x.2.2.2.1 = y.2.2.2.1 then 1 else 0
def agaS (x y : Spn) : Int := if x.2.2.2.1 = 0 then 0 else if x.2.2.2.1 = -y.2.2.2.1 then 1 else 0
def conS (x : Spn) : Int := if x.2.2.2.2 = 0 then (if lvs x 2 3 = 0 then if lvs x 2 4 = 0 then if lvs x 5 8 = 0 then if lvs x 5 9 = 0 then 0 else 1 else 1 else 1 else 1) else 1
def souS (x : Spn) : Int := if x.2.2.2.2 = 0 then (if conS x = 0 then 0 else 1) else 2
def melS (x : Spn) : Int := if x.2.1 = 0 then (if x.2.2.1 = 0 then 1 else 0) else if x.2.1 = 1 then (if x.2.2.1 = 1 then 1 else if x.2.2.1 = 2 then 1 else 0) else if x.2.1 = 2 then (if x.2.2.1 = 3 then 1 else if x.2.2.1 = 4 then 1 else 0) else if x.2.1 = 3 then (if x.2.2.1 = 5 then 1 else 0) else if x.2.1 = 4 then (if x.2.2.1 = 7 then 1 else 0) else if x.2.1 = 5 then (if x.2.2.1 = 8 then (if x.2.2.2.1 ≤ 0 then 0 else 1) else 0) else if x.2.1 = 6 then 0 else if x.2.1 = 7 then (if x.2.2.1 = 12 then 1 else 0) else 0
theorem if_b {c : Prop} {_ : Decidable c} {x y p q : Int} (hx : p ≤ x ∧ x ≤ q) (hy : p ≤ y ∧ y ≤ q) : p ≤ (if c then x else y) ∧ (if c then x else y) ≤ q := by
  by_cases h : c
  · rw [if_pos h]; exact hx
  · rw [if_neg h]; exact hy
theorem b00 : (0 : Int) ≤ 0 ∧ (0 : Int) ≤ 1 := by decide
theorem b11 : (0 : Int) ≤ 1 ∧ (1 : Int) ≤ 1 := by decide
theorem stepS_b (x : Spn) : 0 ≤ stepS x ∧ stepS x ≤ 1 := if_b b11 b00
theorem leapS_b (x : Spn) : 0 ≤ leapS x ∧ leapS x ≤ 1 := if_b b00 b11
theorem withS_b (x y : Spn) : 0 ≤ withS x y ∧ withS x y ≤ 1 := if_b b00 (if_b b11 b00)
theorem agaS_b (x y : Spn) : 0 ≤ agaS x y ∧ agaS x y ≤ 1 := if_b b00 (if_b b11 b00)
theorem conS_b (x : Spn) : 0 ≤ conS x ∧ conS x ≤ 1 := if_b (if_b (if_b (if_b (if_b b00 b11) b11) b11) b11) b11
theorem lvs_b (x : Spn) (p q : Int) : 0 ≤ lvs x p q ∧ lvs x p q ≤ 1 := if_b b11 b00
theorem melS_b (x : Spn) : 0 ≤ melS x ∧ melS x ≤ 1 := if_b (if_b b11 b00) (if_b (if_b b11 (if_b b11 b00)) (if_b (if_b b11 (if_b b11 b00)) (if_b (if_b b11 b00) (if_b (if_b b11 b00) (if_b (if_b (if_b b00 b11) b00) (if_b b00 (if_b (if_b b11 b00) b00)))))))
theorem if_ii {c : Prop} {_ : Decidable c} {x y : Int} : (if c then some (ii x) else some (ii y)) = some (ii (if c then x else y)) := by
  by_cases h : c
  · rw [if_pos h, if_pos h]
  · rw [if_neg h, if_neg h]
section SPAN2
variable {hs : AH} {a b : Nat} {x y : Spn}
theorem X7_isThere (h : SpA hs a x) (k : SpB x) : f_X7_isThere a hs = some (ii x.1) := by
  unfold f_X7_isThere
  rw [h.g0, ob_some]
  rcases k.1 with e | e <;> rw [e] <;> rfl
theorem X7_steps (h : SpA hs a x) : f_X7_steps a hs = some (ii x.2.1) := by unfold f_X7_steps; rw [h.g1]; rfl
theorem X7_width (h : SpA hs a x) : f_X7_width a hs = some (ii x.2.2.1) := by unfold f_X7_width; rw [h.g2]; rfl
theorem X7_way (h : SpA hs a x) : f_X7_way a hs = some (ii x.2.2.2.1) := by unfold f_X7_way; rw [h.g3]; rfl
theorem X7_perfectClass (h : SpA hs a x) : f_X7_perfectClass a hs = some (ii x.2.2.2.2) := by unfold f_X7_perfectClass; rw [h.g4]; rfl
theorem X7_isStep (h : SpA hs a x) (k : SpB x) : f_X7_isStep a hs = some (ii (stepS x)) := by
  obtain ⟨k0, k1, k2, k3, k4⟩ := k
  unfold f_X7_isStep stepS
  simp (disch := omega) only [h.g1, if_ii, ii_add, ii_sub, ii_mul, ii_neg, ii_div, ii_lt, ii_le, ii_eq, ob_some, il_0, il_1, il_2, il_3, il_4, il_5, il_6, il_7, il_8, il_9, il_10, il_11, il_12, il_13, il_14, il_15, il_16, il_17, il_18, il_19, il_20, il_21, il_22, il_23, il_24, il_25, il_26, il_27, il_28, il_29, il_30, il_31, il_32, il_33, il_34, il_35, il_36, il_37, il_38, il_39, il_40, il_41, il_42, il_43, il_44, il_45, il_46, il_47, il_48, il_49, il_50, il_51, il_52, il_53, il_54, il_55, il_56, il_57, il_58, il_59, il_60, il_61, il_62, il_63, il_64, il_65, il_66, il_67, il_68, il_69, il_70, il_71, il_72, il_73, il_74, il_75, il_76, il_77, il_78, il_79, il_80, il_81, il_82, il_83, il_84, il_85, il_86, il_87, il_88, il_89, il_90, il_91, il_92, il_93, il_94, il_95, il_96, il_97, il_98, il_99, il_100, il_101, il_102, il_103, il_104, il_105, il_106, il_107, il_108, il_109, il_110, il_111, il_112, il_113, il_114, il_115, il_116, il_117, il_118, il_119, il_120, il_121, il_122, il_123, il_124, il_125, il_126, il_127, il_128, il_129, il_130, il_131, il_132, il_133, il_134, il_135, il_136, il_137, il_138, il_139, il_140, il_141, il_142, il_143, il_144, il_145, il_146, il_147, il_148, il_149, il_150, il_151, il_152, il_153, il_154, il_155, il_156, il_157, il_158, il_159, il_160, il_161, il_162, il_163, il_164, il_165, il_166, il_167, il_168, il_169, il_170, il_171, il_172, il_173, il_174, il_175, il_176, il_177, il_178, il_179, il_180, il_181, il_182, il_183, il_184, il_185, il_186, il_187, il_188, il_189, il_190, il_191, il_192, il_193, il_194, il_195, il_196, il_197, il_198, il_199, il_200, il_201, il_202, il_203, il_204, il_205, il_206, il_207, il_208, il_209, il_210, il_211, il_212, il_213, il_214, il_215, il_216, il_217, il_218, il_219, il_220, il_221, il_222, il_223, il_224, il_225, il_226, il_227, il_228, il_229, il_230, il_231, il_232, il_233, il_234, il_235, il_236, il_237, il_238, il_239, il_240, il_241, il_242, il_243, il_244, il_245, il_246, il_247, il_248, il_249, il_250, il_251, il_252, il_253, il_254, il_255, il_400, il_480, il_1023, il_2880, il_3000, il_6000, il_m1, il_m8]
theorem X7_isLeap (h : SpA hs a x) (k : SpB x) : f_X7_isLeap a hs = some (ii (leapS x)) := by
  obtain ⟨k0, k1, k2, k3, k4⟩ := k
  unfold f_X7_isLeap leapS
  simp (disch := omega) only [h.g1, if_ii, ii_add, ii_sub, ii_mul, ii_neg, ii_div, ii_lt, ii_le, ii_eq, ob_some, il_0, il_1, il_2, il_3, il_4, il_5, il_6, il_7, il_8, il_9, il_10, il_11, il_12, il_13, il_14, il_15, il_16, il_17, il_18, il_19, il_20, il_21, il_22, il_23, il_24, il_25, il_26, il_27, il_28, il_29, il_30, il_31, il_32, il_33, il_34, il_35, il_36, il_37, il_38, il_39, il_40, il_41, il_42, il_43, il_44, il_45, il_46, il_47, il_48, il_49, il_50, il_51, il_52, il_53, il_54, il_55, il_56, il_57, il_58, il_59, il_60, il_61, il_62, il_63, il_64, il_65, il_66, il_67, il_68, il_69, il_70, il_71, il_72, il_73, il_74, il_75, il_76, il_77, il_78, il_79, il_80, il_81, il_82, il_83, il_84, il_85, il_86, il_87, il_88, il_89, il_90, il_91, il_92, il_93, il_94, il_95, il_96, il_97, il_98, il_99, il_100, il_101, il_102, il_103, il_104, il_105, il_106, il_107, il_108, il_109, il_110, il_111, il_112, il_113, il_114, il_115, il_116, il_117, il_118, il_119, il_120, il_121, il_122, il_123, il_124, il_125, il_126, il_127, il_128, il_129, il_130, il_131, il_132, il_133, il_134, il_135, il_136, il_137, il_138, il_139, il_140, il_141, il_142, il_143, il_144, il_145, il_146, il_147, il_148, il_149, il_150, il_151, il_152, il_153, il_154, il_155, il_156, il_157, il_158, il_159, il_160, il_161, il_162, il_163, il_164, il_165, il_166, il_167, il_168, il_169, il_170, il_171, il_172, il_173, il_174, il_175, il_176, il_177, il_178, il_179, il_180, il_181, il_182, il_183, il_184, il_185, il_186, il_187, il_188, il_189, il_190, il_191, il_192, il_193, il_194, il_195, il_196, il_197, il_198, il_199, il_200, il_201, il_202, il_203, il_204, il_205, il_206, il_207, il_208, il_209, il_210, il_211, il_212, il_213, il_214, il_215, il_216, il_217, il_218, il_219, il_220, il_221, il_222, il_223, il_224, il_225, il_226, il_227, il_228, il_229, il_230, il_231, il_232, il_233, il_234, il_235, il_236, il_237, il_238, il_239, il_240, il_241, il_242, il_243, il_244, il_245, il_246, il_247, il_248, il_249, il_250, il_251, il_252, il_253, il_254, il_255, il_400, il_480, il_1023, il_2880, il_3000, il_6000, il_m1, il_m8]
theorem X7_goesWith (h : SpA hs a x) (k : SpB x) (h' : SpA hs b y) (k' : SpB y) : f_X7_goesWith a b hs = some (ii (withS x y)) := by
  obtain ⟨k0, k1, k2, k3, k4⟩ := k
  obtain ⟨j0, j1, j2, j3, j4⟩ := k'
  unfold f_X7_goesWith withS
  simp (disch := omega) only [h.g3, h'.g3, if_ii, ii_add, ii_sub, ii_mul, ii_neg, ii_div, ii_lt, ii_le, ii_eq, ob_some, il_0, il_1, il_2, il_3, il_4, il_5, il_6, il_7, il_8, il_9, il_10, il_11, il_12, il_13, il_14, il_15, il_16, il_17, il_18, il_19, il_20, il_21, il_22, il_23, il_24, il_25, il_26, il_27, il_28, il_29, il_30, il_31, il_32, il_33, il_34, il_35, il_36, il_37, il_38, il_39, il_40, il_41, il_42, il_43, il_44, il_45, il_46, il_47, il_48, il_49, il_50, il_51, il_52, il_53, il_54, il_55, il_56, il_57, il_58, il_59, il_60, il_61, il_62, il_63, il_64, il_65, il_66, il_67, il_68, il_69, il_70, il_71, il_72, il_73, il_74, il_75, il_76, il_77, il_78, il_79, il_80, il_81, il_82, il_83, il_84, il_85, il_86, il_87, il_88, il_89, il_90, il_91, il_92, il_93, il_94, il_95, il_96, il_97, il_98, il_99, il_100, il_101, il_102, il_103, il_104, il_105, il_106, il_107, il_108, il_109, il_110, il_111, il_112, il_113, il_114, il_115, il_116, il_117, il_118, il_119, il_120, il_121, il_122, il_123, il_124, il_125, il_126, il_127, il_128, il_129, il_130, il_131, il_132, il_133, il_134, il_135, il_136, il_137, il_138, il_139, il_140, il_141, il_142, il_143, il_144, il_145, il_146, il_147, il_148, il_149, il_150, il_151, il_152, il_153, il_154, il_155, il_156, il_157, il_158, il_159, il_160, il_161, il_162, il_163, il_164, il_165, il_166, il_167, il_168, il_169, il_170, il_171, il_172, il_173, il_174, il_175, il_176, il_177, il_178, il_179, il_180, il_181, il_182, il_183, il_184, il_185, il_186, il_187, il_188, il_189, il_190, il_191, il_192, il_193, il_194, il_195, il_196, il_197, il_198, il_199, il_200, il_201, il_202, il_203, il_204, il_205, il_206, il_207, il_208, il_209, il_210, il_211, il_212, il_213, il_214, il_215, il_216, il_217, il_218, il_219, il_220, il_221, il_222, il_223, il_224, il_225, il_226, il_227, il_228, il_229, il_230, il_231, il_232, il_233, il_234, il_235, il_236, il_237, il_238, il_239, il_240, il_241, il_242, il_243, il_244, il_245, il_246, il_247, il_248, il_249, il_250, il_251, il_252, il_253, il_254, il_255, il_400, il_480, il_1023, il_2880, il_3000, il_6000, il_m1, il_m8]
theorem X7_goesAgainst (h : SpA hs a x) (k : SpB x) (h' : SpA hs b y) (k' : SpB y) : f_X7_goesAgainst a b hs = some (ii (agaS x y)) := by
  obtain ⟨k0, k1, k2, k3, k4⟩ := k
  obtain ⟨j0, j1, j2, j3, j4⟩ := k'
  unfold f_X7_goesAgainst agaS
  simp (disch := omega) only [h.g3, h'.g3, if_ii, ii_add, ii_sub, ii_mul, ii_neg, ii_div, ii_lt, ii_le, ii_eq, ob_some, il_0, il_1, il_2, il_3, il_4, il_5, il_6, il_7, il_8, il_9, il_10, il_11, il_12, il_13, il_14, il_15, il_16, il_17, il_18, il_19, il_20, il_21, il_22, il_23, il_24, il_25, il_26, il_27, il_28, il_29, il_30, il_31, il_32, il_33, il_34, il_35, il_36, il_37, il_38, il_39, il_40, il_41, il_42, il_43, il_44, il_45, il_46, il_47, il_48, il_49, il_50, il_51, il_52, il_53, il_54, il_55, il_56, il_57, il_58, il_59, il_60, il_61, il_62, il_63, il_64, il_65, il_66, il_67, il_68, il_69, il_70, il_71, il_72, il_73, il_74, il_75, il_76, il_77, il_78, il_79, il_80, il_81, il_82, il_83, il_84, il_85, il_86, il_87, il_88, il_89, il_90, il_91, il_92, il_93, il_94, il_95, il_96, il_97, il_98, il_99, il_100, il_101, il_102, il_103, il_104, il_105, il_106, il_107, il_108, il_109, il_110, il_111, il_112, il_113, il_114, il_115, il_116, il_117, il_118, il_119, il_120, il_121, il_122, il_123, il_124, il_125, il_126, il_127, il_128, il_129, il_130, il_131, il_132, il_133, il_134, il_135, il_136, il_137, il_138, il_139, il_140, il_141, il_142, il_143, il_144, il_145, il_146, il_147, il_148, il_149, il_150, il_151, il_152, il_153, il_154, il_155, il_156, il_157, il_158, il_159, il_160, il_161, il_162, il_163, il_164, il_165, il_166, il_167, il_168, il_169, il_170, il_171, il_172, il_173, il_174, il_175, il_176, il_177, il_178, il_179, il_180, il_181, il_182, il_183, il_184, il_185, il_186, il_187, il_188, il_189, il_190, il_191, il_192, il_193, il_194, il_195, il_196, il_197, il_198, il_199, il_200, il_201, il_202, il_203, il_204, il_205, il_206, il_207, il_208, il_209, il_210, il_211, il_212, il_213, il_214, il_215, il_216, il_217, il_218, il_219, il_220, il_221, il_222, il_223, il_224, il_225, il_226, il_227, il_228, il_229, il_230, il_231, il_232, il_233, il_234, il_235, il_236, il_237, il_238, il_239, il_240, il_241, il_242, il_243, il_244, il_245, il_246, il_247, il_248, il_249, il_250, il_251, il_252, il_253, il_254, il_255, il_400, il_480, il_1023, il_2880, il_3000, il_6000, il_m1, il_m8]
theorem X7_isConsonant (h : SpA hs a x) (k : SpB x) : f_X7_isConsonant a hs = some (ii (conS x)) := by
  obtain ⟨k0, k1, k2, k3, k4⟩ := k
  have l1 := lvs_b x 2 3
  have l2 := lvs_b x 2 4
  have l3 := lvs_b x 5 8
  have l4 := lvs_b x 5 9
  unfold f_X7_isConsonant conS
  simp (disch := omega) only [h.g4, h.chk, X7_leaves h k1 k2, if_ii, ii_add, ii_sub, ii_mul, ii_neg, ii_div, ii_lt, ii_le, ii_eq, ob_some, il_0, il_1, il_2, il_3, il_4, il_5, il_6, il_7, il_8, il_9, il_10, il_11, il_12, il_13, il_14, il_15, il_16, il_17, il_18, il_19, il_20, il_21, il_22, il_23, il_24, il_25, il_26, il_27, il_28, il_29, il_30, il_31, il_32, il_33, il_34, il_35, il_36, il_37, il_38, il_39, il_40, il_41, il_42, il_43, il_44, il_45, il_46, il_47, il_48, il_49, il_50, il_51, il_52, il_53, il_54, il_55, il_56, il_57, il_58, il_59, il_60, il_61, il_62, il_63, il_64, il_65, il_66, il_67, il_68, il_69, il_70, il_71, il_72, il_73, il_74, il_75, il_76, il_77, il_78, il_79, il_80, il_81, il_82, il_83, il_84, il_85, il_86, il_87, il_88, il_89, il_90, il_91, il_92, il_93, il_94, il_95, il_96, il_97, il_98, il_99, il_100, il_101, il_102, il_103, il_104, il_105, il_106, il_107, il_108, il_109, il_110, il_111, il_112, il_113, il_114, il_115, il_116, il_117, il_118, il_119, il_120, il_121, il_122, il_123, il_124, il_125, il_126, il_127, il_128, il_129, il_130, il_131, il_132, il_133, il_134, il_135, il_136, il_137, il_138, il_139, il_140, il_141, il_142, il_143, il_144, il_145, il_146, il_147, il_148, il_149, il_150, il_151, il_152, il_153, il_154, il_155, il_156, il_157, il_158, il_159, il_160, il_161, il_162, il_163, il_164, il_165, il_166, il_167, il_168, il_169, il_170, il_171, il_172, il_173, il_174, il_175, il_176, il_177, il_178, il_179, il_180, il_181, il_182, il_183, il_184, il_185, il_186, il_187, il_188, il_189, il_190, il_191, il_192, il_193, il_194, il_195, il_196, il_197, il_198, il_199, il_200, il_201, il_202, il_203, il_204, il_205, il_206, il_207, il_208, il_209, il_210, il_211, il_212, il_213, il_214, il_215, il_216, il_217, il_218, il_219, il_220, il_221, il_222, il_223, il_224, il_225, il_226, il_227, il_228, il_229, il_230, il_231, il_232, il_233, il_234, il_235, il_236, il_237, il_238, il_239, il_240, il_241, il_242, il_243, il_244, il_245, il_246, il_247, il_248, il_249, il_250, il_251, il_252, il_253, il_254, il_255, il_400, il_480, il_1023, il_2880, il_3000, il_6000, il_m1, il_m8]
theorem X7_sound (h : SpA hs a x) (k : SpB x) : f_X7_sound a hs = some (ii (souS x)) := by
  have hc := X7_isConsonant h k
  have hb := conS_b x
  obtain ⟨k0, k1, k2, k3, k4⟩ := k
  unfold f_X7_sound souS
  simp (disch := omega) only [h.g4, h.chk, hc, if_ii, ii_add, ii_sub, ii_mul, ii_neg, ii_div, ii_lt, ii_le, ii_eq, ob_some, il_0, il_1, il_2, il_3, il_4, il_5, il_6, il_7, il_8, il_9, il_10, il_11, il_12, il_13, il_14, il_15, il_16, il_17, il_18, il_19, il_20, il_21, il_22, il_23, il_24, il_25, il_26, il_27, il_28, il_29, il_30, il_31, il_32, il_33, il_34, il_35, il_36, il_37, il_38, il_39, il_40, il_41, il_42, il_43, il_44, il_45, il_46, il_47, il_48, il_49, il_50, il_51, il_52, il_53, il_54, il_55, il_56, il_57, il_58, il_59, il_60, il_61, il_62, il_63, il_64, il_65, il_66, il_67, il_68, il_69, il_70, il_71, il_72, il_73, il_74, il_75, il_76, il_77, il_78, il_79, il_80, il_81, il_82, il_83, il_84, il_85, il_86, il_87, il_88, il_89, il_90, il_91, il_92, il_93, il_94, il_95, il_96, il_97, il_98, il_99, il_100, il_101, il_102, il_103, il_104, il_105, il_106, il_107, il_108, il_109, il_110, il_111, il_112, il_113, il_114, il_115, il_116, il_117, il_118, il_119, il_120, il_121, il_122, il_123, il_124, il_125, il_126, il_127, il_128, il_129, il_130, il_131, il_132, il_133, il_134, il_135, il_136, il_137, il_138, il_139, il_140, il_141, il_142, il_143, il_144, il_145, il_146, il_147, il_148, il_149, il_150, il_151, il_152, il_153, il_154, il_155, il_156, il_157, il_158, il_159, il_160, il_161, il_162, il_163, il_164, il_165, il_166, il_167, il_168, il_169, il_170, il_171, il_172, il_173, il_174, il_175, il_176, il_177, il_178, il_179, il_180, il_181, il_182, il_183, il_184, il_185, il_186, il_187, il_188, il_189, il_190, il_191, il_192, il_193, il_194, il_195, il_196, il_197, il_198, il_199, il_200, il_201, il_202, il_203, il_204, il_205, il_206, il_207, il_208, il_209, il_210, il_211, il_212, il_213, il_214, il_215, il_216, il_217, il_218, il_219, il_220, il_221, il_222, il_223, il_224, il_225, il_226, il_227, il_228, il_229, il_230, il_231, il_232, il_233, il_234, il_235, il_236, il_237, il_238, il_239, il_240, il_241, il_242, il_243, il_244, il_245, il_246, il_247, il_248, il_249, il_250, il_251, il_252, il_253, il_254, il_255, il_400, il_480, il_1023, il_2880, il_3000, il_6000, il_m1, il_m8]
theorem X7_isMelodious (h : SpA hs a x) (k : SpB x) : f_X7_isMelodious a hs = some (ii (melS x)) := by
  obtain ⟨k0, k1, k2, k3, k4⟩ := k
  unfold f_X7_isMelodious melS
  simp (disch := omega) only [h.g1, h.g2, h.g3, if_ii, ii_add, ii_sub, ii_mul, ii_neg, ii_div, ii_lt, ii_le, ii_eq, ob_some, il_0, il_1, il_2, il_3, il_4, il_5, il_6, il_7, il_8, il_9, il_10, il_11, il_12, il_13, il_14, il_15, il_16, il_17, il_18, il_19, il_20, il_21, il_22, il_23, il_24, il_25, il_26, il_27, il_28, il_29, il_30, il_31, il_32, il_33, il_34, il_35, il_36, il_37, il_38, il_39, il_40, il_41, il_42, il_43, il_44, il_45, il_46, il_47, il_48, il_49, il_50, il_51, il_52, il_53, il_54, il_55, il_56, il_57, il_58, il_59, il_60, il_61, il_62, il_63, il_64, il_65, il_66, il_67, il_68, il_69, il_70, il_71, il_72, il_73, il_74, il_75, il_76, il_77, il_78, il_79, il_80, il_81, il_82, il_83, il_84, il_85, il_86, il_87, il_88, il_89, il_90, il_91, il_92, il_93, il_94, il_95, il_96, il_97, il_98, il_99, il_100, il_101, il_102, il_103, il_104, il_105, il_106, il_107, il_108, il_109, il_110, il_111, il_112, il_113, il_114, il_115, il_116, il_117, il_118, il_119, il_120, il_121, il_122, il_123, il_124, il_125, il_126, il_127, il_128, il_129, il_130, il_131, il_132, il_133, il_134, il_135, il_136, il_137, il_138, il_139, il_140, il_141, il_142, il_143, il_144, il_145, il_146, il_147, il_148, il_149, il_150, il_151, il_152, il_153, il_154, il_155, il_156, il_157, il_158, il_159, il_160, il_161, il_162, il_163, il_164, il_165, il_166, il_167, il_168, il_169, il_170, il_171, il_172, il_173, il_174, il_175, il_176, il_177, il_178, il_179, il_180, il_181, il_182, il_183, il_184, il_185, il_186, il_187, il_188, il_189, il_190, il_191, il_192, il_193, il_194, il_195, il_196, il_197, il_198, il_199, il_200, il_201, il_202, il_203, il_204, il_205, il_206, il_207, il_208, il_209, il_210, il_211, il_212, il_213, il_214, il_215, il_216, il_217, il_218, il_219, il_220, il_221, il_222, il_223, il_224, il_225, il_226, il_227, il_228, il_229, il_230, il_231, il_232, il_233, il_234, il_235, il_236, il_237, il_238, il_239, il_240, il_241, il_242, il_243, il_244, il_245, il_246, il_247, il_248, il_249, il_250, il_251, il_252, il_253, il_254, il_255, il_400, il_480, il_1023, il_2880, il_3000, il_6000, il_m1, il_m8]
end SPAN2
def tie (s : Sh) (p : Int) : Int := if s.sp = 4 ∧ 0 < p ∧ p % 2 = 0 ∧ lat s.md p ≠ -1 ∧ lat s.md p = lat s.md (p - 1) then 1 else 0
theorem tie_b (s : Sh) (p : Int) : 0 ≤ tie s p ∧ tie s p ≤ 1 := if_b b11 b00
theorem X6_tie {hs : AH} {a : Nat} {s : Sh} (h : ShA hs a s) (k : SOK s) {z : Int} (h0 : -64 ≤ z) (h1 : z < 192) : f_X6_isTied a (ii z) hs = some (ii (tie s z)) := by
  unfold tie
  rcases X6_isTied h k h0 h1 with ⟨e, t⟩ | ⟨e, t⟩
  · rw [e]; unfold tied at t; rw [if_pos t]
  · rw [e]; unfold tied at t; rw [if_neg t]
def allow (s : Sh) (p : Int) : Int := if lg s.st 0 ≤ p ∧ p ≤ lg s.st 1 then 1 else 0
theorem allow_b (s : Sh) (p : Int) : 0 ≤ allow s p ∧ allow s p ≤ 1 := if_b b11 b00
theorem X6_allow {hs : AH} {a : Nat} {s : Sh} (h : ShA hs a s) (k : SOK s) {z : Int} (h0 : -1000 ≤ z) (h1 : z ≤ 1000) : f_X6_allowsPitch a (ii z) hs = some (ii (allow s z)) := by
  unfold allow
  rcases X6_allowsPitch h k h0 h1 with ⟨e, t⟩ | ⟨e, t⟩
  · rw [e]; unfold allowsP at t; rw [if_pos t]
  · rw [e]; unfold allowsP at t; rw [if_neg t]
/-- the judge: its own fields from the tenth on, its sheet, its eight spans -/
def JoA (hs : AH) (a : Nat) (x : Nat → Int) : Prop := hs[a]? = some (.inr (1, [.ref (a + 1), .ref (a + 8), .ref (a + 9), .ref (a + 10), .ref (a + 11), .ref (a + 12), .ref (a + 13), .ref (a + 14), .ref (a + 15), .int (ii (x 9)), .int (ii (x 10)), .int (ii (x 11)), .int (ii (x 12)), .int (ii (x 13)), .int (ii (x 14)), .int (ii (x 15)), .int (ii (x 16)), .int (ii (x 17)), .int (ii (x 18))]))
def uz (c : Nat → Int) (i : Nat) (v : Int) : Nat → Int := fun j => if j = i then v else c j
def us (c : Nat → Spn) (i : Nat) (v : Spn) : Nat → Spn := fun j => if j = i then v else c j
theorem uz_eq (c : Nat → Int) (i : Nat) (v : Int) : uz c i v i = v := if_pos rfl
theorem uz_ne {c : Nat → Int} {i j : Nat} {v : Int} (h : j ≠ i) : uz c i v j = c j := if_neg h
theorem us_eq (c : Nat → Spn) (i : Nat) (v : Spn) : us c i v i = v := if_pos rfl
theorem us_ne {c : Nat → Spn} {i j : Nat} {v : Spn} (h : j ≠ i) : us c i v j = c j := if_neg h
def JuA (hs : AH) (a : Nat) (s : Sh) (x : Nat → Int) (sp : Nat → Spn) : Prop := JoA hs a x ∧ ShA hs (a + 1) s ∧ ∀ i, i < 8 → SpA hs (a + 8 + i) (sp i)
theorem JuA.out {hs hs' : AH} {a b m : Nat} {s : Sh} {x : Nat → Int} {sp : Nat → Spn} (h : JuA hs a s x sp) (o : Out hs hs' b m) (hd : a + 16 ≤ b ∨ b + m ≤ a) : JuA hs' a s x sp := ⟨o.at h.1 (by omega), h.2.1.out o (by omega), fun i hi => (h.2.2 i hi).out o (by omega)⟩
section JUDGE
variable {hs : AH} {a : Nat} {s : Sh} {x : Nat → Int} {sp : Nat → Spn}
theorem JuA.chk (h : JuA hs a s x sp) : chk hs a 1 = some () := chk_of h.1
theorem JuA.sh (h : JuA hs a s x sp) : gR hs a 1 0 = some (a + 1) := gR_of h.1 rfl
theorem JuA.r1 (h : JuA hs a s x sp) : gR hs a 1 1 = some (a + 8) := gR_of h.1 rfl
theorem JuA.r2 (h : JuA hs a s x sp) : gR hs a 1 2 = some (a + 9) := gR_of h.1 rfl
theorem JuA.r3 (h : JuA hs a s x sp) : gR hs a 1 3 = some (a + 10) := gR_of h.1 rfl
theorem JuA.r4 (h : JuA hs a s x sp) : gR hs a 1 4 = some (a + 11) := gR_of h.1 rfl
theorem JuA.r5 (h : JuA hs a s x sp) : gR hs a 1 5 = some (a + 12) := gR_of h.1 rfl
theorem JuA.r6 (h : JuA hs a s x sp) : gR hs a 1 6 = some (a + 13) := gR_of h.1 rfl
theorem JuA.r7 (h : JuA hs a s x sp) : gR hs a 1 7 = some (a + 14) := gR_of h.1 rfl
theorem JuA.r8 (h : JuA hs a s x sp) : gR hs a 1 8 = some (a + 15) := gR_of h.1 rfl
theorem JuA.i9 (h : JuA hs a s x sp) : gI hs a 1 9 = some (ii (x 9)) := gI_of h.1 rfl
theorem JuA.i10 (h : JuA hs a s x sp) : gI hs a 1 10 = some (ii (x 10)) := gI_of h.1 rfl
theorem JuA.i11 (h : JuA hs a s x sp) : gI hs a 1 11 = some (ii (x 11)) := gI_of h.1 rfl
theorem JuA.i12 (h : JuA hs a s x sp) : gI hs a 1 12 = some (ii (x 12)) := gI_of h.1 rfl
theorem JuA.i13 (h : JuA hs a s x sp) : gI hs a 1 13 = some (ii (x 13)) := gI_of h.1 rfl
theorem JuA.i14 (h : JuA hs a s x sp) : gI hs a 1 14 = some (ii (x 14)) := gI_of h.1 rfl
theorem JuA.i15 (h : JuA hs a s x sp) : gI hs a 1 15 = some (ii (x 15)) := gI_of h.1 rfl
theorem JuA.i16 (h : JuA hs a s x sp) : gI hs a 1 16 = some (ii (x 16)) := gI_of h.1 rfl
theorem JuA.i17 (h : JuA hs a s x sp) : gI hs a 1 17 = some (ii (x 17)) := gI_of h.1 rfl
theorem JuA.i18 (h : JuA hs a s x sp) : gI hs a 1 18 = some (ii (x 18)) := gI_of h.1 rfl
theorem JuA.put (h : JuA hs a s x sp) {k : Nat} (hk : k = 9 ∨ k = 10 ∨ k = 11 ∨ k = 12 ∨ k = 13 ∨ k = 15 ∨ k = 16 ∨ k = 17 ∨ k = 18) (v : Int) : ∃ hs', pI hs a 1 k (ii v) = some hs' ∧ JuA hs' a s (uz x k v) sp ∧ Out hs hs' a 16 := by
  have hk' : k < 19 := by omega
  obtain ⟨hs1, e1, a1, o1⟩ := pI_x (k := k) (ii v) h.1 hk'
  refine ⟨hs1, e1, ⟨?_, h.2.1.out o1 (by omega), fun i hi => (h.2.2 i hi).out o1 (by omega)⟩, o1.mono (by omega) (by omega)⟩
  rcases hk with rfl | rfl | rfl | rfl | rfl | rfl | rfl | rfl | rfl <;> exact a1
theorem JuA.putZ (h : JuA hs a s x sp) {v : Int} (hv : v = 0 ∨ v = 1) : ∃ hs', pZ hs a 1 14 (ii v) = some hs' ∧ JuA hs' a s (uz x 14 v) sp ∧ Out hs hs' a 16 := by
  obtain ⟨hs1, e1, a1, o1⟩ := pZ_x (k := 14) h.1 (Nat.le_of_ble_eq_true rfl) hv
  exact ⟨hs1, e1, ⟨a1, h.2.1.out o1 (by omega), fun i hi => (h.2.2 i hi).out o1 (by omega)⟩, o1.mono (by omega) (by omega)⟩
theorem JuA.meas (h : JuA hs a s x sp) {i : Nat} (hi : i < 8) {p q : Int} (hp : p = -1 ∨ (42 ≤ p ∧ p ≤ 146)) (hq : q = -1 ∨ (42 ≤ q ∧ q ≤ 146)) : ∃ hs', f_X7_measure (a + 8 + i) (ii p) (ii q) hs = some hs' ∧ JuA hs' a s x (us sp i (spn p q)) ∧ Out hs hs' a 16 := by
  obtain ⟨hs1, e1, a1, o1⟩ := X7_measure (h.2.2 i hi) hp hq
  refine ⟨hs1, e1, ⟨o1.at h.1 (by omega), h.2.1.out o1 (by omega), fun j hj => ?_⟩, o1.mono (by omega) (by omega)⟩
  by_cases e : j = i
  · subst e; rw [us_eq]; exact a1
  · rw [us_ne e]; exact (h.2.2 j hj).out o1 (by omega)
/-- the harmony at a place -/
def har (s : Sh) (z : Int) : Spn := spn (lat s.gv (z / per s.sp)) (lat s.md z)
theorem X1_measureHarmony (h : JuA hs a s x sp) (k : SOK s) {i : Nat} (hi : i < 8) {z : Int} (h0 : -64 ≤ z) (h1 : z < 192) : ∃ hs', f_X1_measureHarmony a (a + 8 + i) (ii z) hs = some hs' ∧ JuA hs' a s x (us sp i (har s z)) ∧ Out hs hs' a 16 := by
  have b3 := per_3 s.sp
  have bz : -64 ≤ z / per s.sp ∧ z / per s.sp < 192 := by rcases b3 with e | e | e <;> rw [e] <;> omega
  obtain ⟨hs1, e1, a1, o1⟩ := h.meas hi (k.gvb (z / per s.sp)) (k.mdb z)
  unfold f_X1_measureHarmony
  rw [h.sh, ob_some, h.2.1.g, ob_some, ob_some, h.2.1.chk, ob_some, X6_barOf h.2.1 k h0 h1, ob_some, h.2.1.2.1.chk, ob_some, X2_at h.2.1.2.1 (by omega) (by omega), ob_some, ob_some, h.2.1.m, ob_some, h.2.1.2.2.1.chk, ob_some, X2_at h.2.1.2.2.1 (by omega) (by omega), ob_some, (h.2.2 i hi).chk, ob_some, e1]
  exact ⟨hs1, rfl, a1, o1⟩
end JUDGE
