/-! ===== the reference: its pure methods ===== -/
def inI (x a b : Int) : Int := if a ≤ x ∧ x ≤ b then 1 else 0
theorem X9_in {x a b : Int} (x1 : -2147483648 ≤ x) (x2 : x ≤ 2147483647) (a1 : -2147483648 ≤ a) (a2 : a ≤ 2147483647) (b1 : -2147483648 ≤ b) (b2 : b ≤ 2147483647) : f_X9_in (ii x) (ii a) (ii b) = some (ii (inI x a b)) := by
  unfold f_X9_in inI
  by_cases c : x < a
  · rw [if_pos (by rw [ii_lt (by omega) (by omega) (by omega) (by omega)]; exact c), if_neg (by omega)]; rfl
  · rw [if_neg (by rw [ii_lt (by omega) (by omega) (by omega) (by omega)]; exact c)]
    by_cases d : b < x
    · rw [if_pos (by rw [ii_lt (by omega) (by omega) (by omega) (by omega)]; exact d), if_neg (by omega)]; rfl
    · rw [if_neg (by rw [ii_lt (by omega) (by omega) (by omega) (by omega)]; exact d), if_pos (by omega)]; rfl
theorem inI_1 {x a b : Int} (h : a ≤ x ∧ x ≤ b) : inI x a b = 1 := if_pos h
theorem inI_0 {x a b : Int} (h : ¬ (a ≤ x ∧ x ≤ b)) : inI x a b = 0 := if_neg h
theorem absz_neg (z : Int) : absz (-z) = absz z := by
  unfold absz
  by_cases c : 0 ≤ z
  · by_cases d : 0 ≤ -z
    · rw [if_pos d, if_pos c]; omega
    · rw [if_neg d, if_pos c]; omega
  · rw [if_pos (by omega), if_neg c]
theorem sts_comm (a b : Int) : sts a b = sts b a := by
  unfold sts
  rw [← absz_neg (stp b - stp a)]
  congr 1; omega
theorem wid_comm (a b : Int) : wid a b = wid b a := by
  unfold wid
  rw [← absz_neg (pit b - pit a)]
  congr 1; omega
theorem prf_comm (a b : Int) : prf a b = prf b a := by
  unfold prf
  rw [sts_comm, wid_comm]
theorem X9_stepOf {c : Int} (h0 : 0 ≤ c) (h1 : c ≤ 1000) : f_X9_stepOf (ii c) = some (ii (stp c)) := by
  unfold f_X9_stepOf stp
  simp (disch := omega) only [ii_add, ii_sub, ii_mul, ii_neg, ii_div, ii_lt, ii_le, ii_eq, ob_some, il_0, il_1, il_2, il_3, il_4, il_5, il_6, il_7, il_8, il_9, il_10, il_11, il_12, il_13, il_14, il_15, il_16, il_17, il_18, il_19, il_20, il_21, il_22, il_23, il_24, il_25, il_26, il_27, il_28, il_29, il_30, il_31, il_32, il_33, il_34, il_35, il_36, il_37, il_38, il_39, il_40, il_41, il_42, il_43, il_44, il_45, il_46, il_47, il_48, il_49, il_50, il_51, il_52, il_53, il_54, il_55, il_56, il_57, il_58, il_59, il_60, il_61, il_62, il_63, il_64, il_65, il_66, il_67, il_68, il_69, il_70, il_71, il_72, il_73, il_74, il_75, il_76, il_77, il_78, il_79, il_80, il_81, il_82, il_83, il_84, il_85, il_86, il_87, il_88, il_89, il_90, il_91, il_92, il_93, il_94, il_95, il_96, il_97, il_98, il_99, il_100, il_101, il_102, il_103, il_104, il_105, il_106, il_107, il_108, il_109, il_110, il_111, il_112, il_113, il_114, il_115, il_116, il_117, il_118, il_119, il_120, il_121, il_122, il_123, il_124, il_125, il_126, il_127, il_128, il_129, il_130, il_131, il_132, il_133, il_134, il_135, il_136, il_137, il_138, il_139, il_140, il_141, il_142, il_143, il_144, il_145, il_146, il_147, il_148, il_149, il_150, il_151, il_152, il_153, il_154, il_155, il_156, il_157, il_158, il_159, il_160, il_161, il_162, il_163, il_164, il_165, il_166, il_167, il_168, il_169, il_170, il_171, il_172, il_173, il_174, il_175, il_176, il_177, il_178, il_179, il_180, il_181, il_182, il_183, il_184, il_185, il_186, il_187, il_188, il_189, il_190, il_191, il_192, il_193, il_194, il_195, il_196, il_197, il_198, il_199, il_200, il_201, il_202, il_203, il_204, il_205, il_206, il_207, il_208, il_209, il_210, il_211, il_212, il_213, il_214, il_215, il_216, il_217, il_218, il_219, il_220, il_221, il_222, il_223, il_224, il_225, il_226, il_227, il_228, il_229, il_230, il_231, il_232, il_233, il_234, il_235, il_236, il_237, il_238, il_239, il_240, il_241, il_242, il_243, il_244, il_245, il_246, il_247, il_248, il_249, il_250, il_251, il_252, il_253, il_254, il_255, il_400, il_480, il_1023, il_2880, il_3000, il_6000, il_m1, il_m8]
theorem X9_alt {c : Int} (h0 : 0 ≤ c) (h1 : c ≤ 1000) : f_X9_alterationOf (ii c) = some (ii (c % 3 - 1)) := by
  unfold f_X9_alterationOf
  rw [il_3, ii_mod h0 (by omega) (by omega) (by omega), il_1, ii_sub]
theorem X9_pitchOf {c : Int} (h0 : 0 ≤ c) (h1 : c ≤ 1000) : f_X9_pitchOf (ii c) = some (ii (pit c)) := by
  have s0 : 0 ≤ stp c ∧ stp c ≤ 400 := by unfold stp; omega
  unfold f_X9_pitchOf
  rw [X9_stepOf h0 h1, ob_some, ob_some, il_7, ii_mod (by omega) (by omega) (by omega) (by omega), ii_div (by omega) (by omega) (by omega) (by omega), X9_alt h0 h1]
  simp (disch := omega) only [ii_add, ii_sub, ii_mul, ii_neg, ii_div, ii_lt, ii_le, ii_eq, ob_some, il_0, il_1, il_2, il_3, il_4, il_5, il_6, il_7, il_8, il_9, il_10, il_11, il_12, il_13, il_14, il_15, il_16, il_17, il_18, il_19, il_20, il_21, il_22, il_23, il_24, il_25, il_26, il_27, il_28, il_29, il_30, il_31, il_32, il_33, il_34, il_35, il_36, il_37, il_38, il_39, il_40, il_41, il_42, il_43, il_44, il_45, il_46, il_47, il_48, il_49, il_50, il_51, il_52, il_53, il_54, il_55, il_56, il_57, il_58, il_59, il_60, il_61, il_62, il_63, il_64, il_65, il_66, il_67, il_68, il_69, il_70, il_71, il_72, il_73, il_74, il_75, il_76, il_77, il_78, il_79, il_80, il_81, il_82, il_83, il_84, il_85, il_86, il_87, il_88, il_89, il_90, il_91, il_92, il_93, il_94, il_95, il_96, il_97, il_98, il_99, il_100, il_101, il_102, il_103, il_104, il_105, il_106, il_107, il_108, il_109, il_110, il_111, il_112, il_113, il_114, il_115, il_116, il_117, il_118, il_119, il_120, il_121, il_122, il_123, il_124, il_125, il_126, il_127, il_128, il_129, il_130, il_131, il_132, il_133, il_134, il_135, il_136, il_137, il_138, il_139, il_140, il_141, il_142, il_143, il_144, il_145, il_146, il_147, il_148, il_149, il_150, il_151, il_152, il_153, il_154, il_155, il_156, il_157, il_158, il_159, il_160, il_161, il_162, il_163, il_164, il_165, il_166, il_167, il_168, il_169, il_170, il_171, il_172, il_173, il_174, il_175, il_176, il_177, il_178, il_179, il_180, il_181, il_182, il_183, il_184, il_185, il_186, il_187, il_188, il_189, il_190, il_191, il_192, il_193, il_194, il_195, il_196, il_197, il_198, il_199, il_200, il_201, il_202, il_203, il_204, il_205, il_206, il_207, il_208, il_209, il_210, il_211, il_212, il_213, il_214, il_215, il_216, il_217, il_218, il_219, il_220, il_221, il_222, il_223, il_224, il_225, il_226, il_227, il_228, il_229, il_230, il_231, il_232, il_233, il_234, il_235, il_236, il_237, il_238, il_239, il_240, il_241, il_242, il_243, il_244, il_245, il_246, il_247, il_248, il_249, il_250, il_251, il_252, il_253, il_254, il_255, il_400, il_480, il_1023, il_2880, il_3000, il_6000, il_m1, il_m8]
  unfold pit
  unfold stp at s0 ⊢
  by_cases d : 3 ≤ c / 3 % 7
  · rw [if_pos d, if_neg (by omega)]
    exact congrArg (fun z => some (ii z)) (by omega)
  · rw [if_neg d, if_pos (by omega)]
    exact congrArg (fun z => some (ii z)) (by omega)
section MP
variable {a b : Int}
theorem X9_steps (ha : 42 ≤ a ∧ a ≤ 146) (hb : 42 ≤ b ∧ b ≤ 146) : f_X9_steps (ii a) (ii b) = some (ii (sts a b)) := by
  have h1 := stp_bd ha
  have h2 := stp_bd hb
  unfold f_X9_steps
  rw [X9_stepOf (by omega) (by omega), ob_some, X9_stepOf (by omega) (by omega), ob_some, ii_sub, ii_abs (by omega) (by omega), sts_comm]
  rfl
theorem X9_width (ha : 42 ≤ a ∧ a ≤ 146) (hb : 42 ≤ b ∧ b ≤ 146) : f_X9_width (ii a) (ii b) = some (ii (wid a b)) := by
  have h1 := pit_bd ha
  have h2 := pit_bd hb
  unfold f_X9_width
  rw [X9_pitchOf (by omega) (by omega), ob_some, X9_pitchOf (by omega) (by omega), ob_some, ii_sub, ii_abs (by omega) (by omega), wid_comm]
  rfl
theorem X9_perfect (ha : 42 ≤ a ∧ a ≤ 146) (hb : 42 ≤ b ∧ b ≤ 146) : f_X9_perfect (ii a) (ii b) = some (ii (prf a b)) := by
  have h1 := sts_bd ha hb
  have h2 := wid_bd ha hb
  unfold f_X9_perfect f_X9_perfect_b31 prf
  rw [X9_steps ha hb, ob_some, X9_width ha hb, ob_some, il_7, ii_mod (by omega) (by omega) (by omega) (by omega), il_12, ii_mod (by omega) (by omega) (by omega) (by omega)]
  simp (disch := omega) only [ii_add, ii_sub, ii_mul, ii_neg, ii_div, ii_lt, ii_le, ii_eq, ob_some, il_0, il_1, il_2, il_3, il_4, il_5, il_6, il_7, il_8, il_9, il_10, il_11, il_12, il_13, il_14, il_15, il_16, il_17, il_18, il_19, il_20, il_21, il_22, il_23, il_24, il_25, il_26, il_27, il_28, il_29, il_30, il_31, il_32, il_33, il_34, il_35, il_36, il_37, il_38, il_39, il_40, il_41, il_42, il_43, il_44, il_45, il_46, il_47, il_48, il_49, il_50, il_51, il_52, il_53, il_54, il_55, il_56, il_57, il_58, il_59, il_60, il_61, il_62, il_63, il_64, il_65, il_66, il_67, il_68, il_69, il_70, il_71, il_72, il_73, il_74, il_75, il_76, il_77, il_78, il_79, il_80, il_81, il_82, il_83, il_84, il_85, il_86, il_87, il_88, il_89, il_90, il_91, il_92, il_93, il_94, il_95, il_96, il_97, il_98, il_99, il_100, il_101, il_102, il_103, il_104, il_105, il_106, il_107, il_108, il_109, il_110, il_111, il_112, il_113, il_114, il_115, il_116, il_117, il_118, il_119, il_120, il_121, il_122, il_123, il_124, il_125, il_126, il_127, il_128, il_129, il_130, il_131, il_132, il_133, il_134, il_135, il_136, il_137, il_138, il_139, il_140, il_141, il_142, il_143, il_144, il_145, il_146, il_147, il_148, il_149, il_150, il_151, il_152, il_153, il_154, il_155, il_156, il_157, il_158, il_159, il_160, il_161, il_162, il_163, il_164, il_165, il_166, il_167, il_168, il_169, il_170, il_171, il_172, il_173, il_174, il_175, il_176, il_177, il_178, il_179, il_180, il_181, il_182, il_183, il_184, il_185, il_186, il_187, il_188, il_189, il_190, il_191, il_192, il_193, il_194, il_195, il_196, il_197, il_198, il_199, il_200, il_201, il_202, il_203, il_204, il_205, il_206, il_207, il_208, il_209, il_210, il_211, il_212, il_213, il_214, il_215, il_216, il_217, il_218, il_219, il_220, il_221, il_222, il_223, il_224, il_225, il_226, il_227, il_228, il_229, il_230, il_231, il_232, il_233, il_234, il_235, il_236, il_237, il_238, il_239, il_240, il_241, il_242, il_243, il_244, il_245, il_246, il_247, il_248, il_249, il_250, il_251, il_252, il_253, il_254, il_255, il_400, il_480, il_1023, il_2880, il_3000, il_6000, il_m1, il_m8]
  by_cases c : sts a b % 7 = 0
  · rw [if_pos c]
    by_cases d : wid a b % 12 = 0
    · rw [if_pos d, if_pos ⟨c, d⟩]
    · rw [if_neg d, if_neg (show ¬ sts a b % 7 = 4 by omega), if_neg (by omega), if_neg (by omega)]
  · rw [if_neg c, if_neg (show ¬ (sts a b % 7 = 0 ∧ wid a b % 12 = 0) by omega)]
    by_cases d : sts a b % 7 = 4
    · rw [if_pos d]
      by_cases e : wid a b % 12 = 7
      · rw [if_pos e, if_pos ⟨d, e⟩]
      · rw [if_neg e, if_neg (by omega)]
    · rw [if_neg d, if_neg (by omega)]
theorem spn_on (ha : 42 ≤ a ∧ a ≤ 146) (hb : 42 ≤ b ∧ b ≤ 146) : spn a b = (1, sts a b, wid a b, dir a b, prf a b) := if_neg (by omega)
theorem conS_on (ha : 42 ≤ a ∧ a ≤ 146) (hb : 42 ≤ b ∧ b ≤ 146) : conS (spn a b) = if prf a b ≠ 0 ∨ (sts a b % 7 = 2 ∧ 3 ≤ wid a b % 12 ∧ wid a b % 12 ≤ 4) ∨ (sts a b % 7 = 5 ∧ 8 ≤ wid a b % 12 ∧ wid a b % 12 ≤ 9) then 1 else 0 := by
  rw [spn_on ha hb]
  unfold conS lvs
  dsimp only
  by_cases c : prf a b = 0
  · rw [if_pos c]
    by_cases p1 : sts a b % 7 = 2 ∧ wid a b % 12 = 3
    · rw [if_pos p1, if_neg (by omega), if_pos (by omega)]
    rw [if_neg p1, if_pos rfl]
    by_cases p2 : sts a b % 7 = 2 ∧ wid a b % 12 = 4
    · rw [if_pos p2, if_neg (by omega), if_pos (by omega)]
    rw [if_neg p2, if_pos rfl]
    by_cases p3 : sts a b % 7 = 5 ∧ wid a b % 12 = 8
    · rw [if_pos p3, if_neg (by omega), if_pos (by omega)]
    rw [if_neg p3, if_pos rfl]
    by_cases p4 : sts a b % 7 = 5 ∧ wid a b % 12 = 9
    · rw [if_pos p4, if_neg (by omega), if_pos (by omega)]
    rw [if_neg p4, if_pos rfl, if_neg (by omega)]
  · rw [if_neg c, if_pos (Or.inl c)]
theorem conS_comm (ha : 42 ≤ a ∧ a ≤ 146) (hb : 42 ≤ b ∧ b ≤ 146) : conS (spn a b) = conS (spn b a) := by
  rw [conS_on ha hb, conS_on hb ha, prf_comm a b, sts_comm a b, wid_comm a b]
theorem X9_isConsonant (ha : 42 ≤ a ∧ a ≤ 146) (hb : 42 ≤ b ∧ b ≤ 146) : f_X9_isConsonant (ii a) (ii b) = some (ii (conS (spn a b))) := by
  have h1 := sts_bd ha hb
  have h2 := wid_bd ha hb
  have h3 := prf_3 a b
  rw [conS_on ha hb]
  unfold f_X9_isConsonant f_X9_isConsonant_b40
  rw [X9_steps ha hb, ob_some, X9_width ha hb, ob_some, X9_perfect ha hb, ob_some, il_7, ii_mod (by omega) (by omega) (by omega) (by omega), il_12, ii_mod (by omega) (by omega) (by omega) (by omega)]
  generalize prf a b = P at h3 ⊢
  generalize hS : sts a b % 7 = S
  generalize hW : wid a b % 12 = W
  by_cases c : P = 0
  · rw [if_neg (by rw [c]; decide +kernel)]
    by_cases p1 : S = 2
    · rw [if_pos (by rw [p1]; rfl), il_3, il_4, X9_in (by omega) (by omega) (by omega) (by omega) (by omega) (by omega), ob_some]
      by_cases p2 : 3 ≤ W ∧ W ≤ 4
      · rw [inI_1 p2, if_neg (by decide +kernel), if_pos (by omega)]; rfl
      · rw [inI_0 p2, if_pos (show ii 0 = 0 from rfl), if_neg (by rw [il_5, ii_eq (by omega) (by omega) (by omega) (by omega)]; omega), if_neg (by omega)]; rfl
    · rw [if_neg (by rw [il_2, ii_eq (by omega) (by omega) (by omega) (by omega)]; exact p1)]
      by_cases p3 : S = 5
      · rw [if_pos (by rw [p3]; rfl), il_8, il_9, X9_in (by omega) (by omega) (by omega) (by omega) (by omega) (by omega), ob_some]
        by_cases p2 : 8 ≤ W ∧ W ≤ 9
        · rw [inI_1 p2, if_neg (by decide +kernel), if_pos (by omega)]; rfl
        · rw [inI_0 p2, if_pos (show ii 0 = 0 from rfl), if_neg (by omega)]; rfl
      · rw [if_neg (by rw [il_5, ii_eq (by omega) (by omega) (by omega) (by omega)]; exact p3), if_neg (by omega)]; rfl
  · rw [if_pos (by rw [il_0, ii_lt (by omega) (by omega) (by omega) (by omega)]; omega), if_pos (Or.inl c)]; rfl
theorem X9_direction (ha : 42 ≤ a ∧ a ≤ 146) (hb : 42 ≤ b ∧ b ≤ 146) : f_X9_direction (ii a) (ii b) = some (ii (dir a b)) := by
  have h1 := pit_bd ha
  have h2 := pit_bd hb
  unfold f_X9_direction
  rw [X9_pitchOf (by omega) (by omega), ob_some, X9_pitchOf (by omega) (by omega), ob_some, cmp_ii (by omega) (by omega) (by omega) (by omega), ob_some]
  unfold sgn dir
  by_cases c : pit b < pit a
  · rw [if_pos c, if_neg (by omega), if_pos (by omega)]
  · rw [if_neg c]
    by_cases d : pit b = pit a
    · rw [if_pos d, if_neg (by omega), if_neg (by omega)]
    · rw [if_neg d, if_pos (by omega)]
theorem bool_nar (z : Int) (h : 0 ≤ z ∧ z ≤ 1) : vp_nar .boolean (ii z) = ii z := by
  rcases (show z = 0 ∨ z = 1 by omega) with e | e <;> rw [e] <;> decide +kernel
theorem inI_b (x a b : Int) : 0 ≤ inI x a b ∧ inI x a b ≤ 1 := by
  unfold inI
  by_cases c : a ≤ x ∧ x ≤ b
  · rw [if_pos c]; omega
  · rw [if_neg c]; omega
theorem X9_isGoodMove (ha : 42 ≤ a ∧ a ≤ 146) (hb : 42 ≤ b ∧ b ≤ 146) : f_X9_isGoodMove 95 (ii a) (ii b) = some (ii (melS (spn a b))) := by
  have h1 := sts_bd ha hb
  have h2 := wid_bd ha hb
  have h3 := dir_3 a b
  rw [spn_on ha hb]
  unfold f_X9_isGoodMove melS
  rw [X9_steps ha hb, ob_some, X9_width ha hb, ob_some]
  dsimp only
  have hd := X9_direction ha hb
  generalize sts a b = S at h1 ⊢
  generalize wid a b = W at h2 ⊢
  generalize dir a b = D at h3 hd ⊢
  by_cases s0 : S = 0
  · rw [if_pos (by rw [s0]; rfl), if_pos s0]
    by_cases w : W = 0
    · rw [if_pos (by rw [w]; rfl), if_pos w]; rfl
    · rw [if_neg (by rw [il_0, ii_eq (by omega) (by omega) (by omega) (by omega)]; exact w), if_neg w]; rfl
  rw [if_neg (by rw [il_0, ii_eq (by omega) (by omega) (by omega) (by omega)]; exact s0), if_neg s0]
  by_cases s0 : S = 1
  · rw [if_pos (by rw [s0]; rfl), if_pos s0, il_1, il_2, X9_in (by omega) (by omega) (by omega) (by omega) (by omega) (by omega), ob_some, bool_nar _ (inI_b _ _ _)]
    unfold inI
    by_cases w : W = 1
    · rw [if_pos w, if_pos (by omega)]
    · rw [if_neg w]
      by_cases w' : W = 2
      · rw [if_pos w', if_pos (by omega)]
      · rw [if_neg w', if_neg (by omega)]
  rw [if_neg (by rw [il_1, ii_eq (by omega) (by omega) (by omega) (by omega)]; exact s0), if_neg s0]
  by_cases s0 : S = 2
  · rw [if_pos (by rw [s0]; rfl), if_pos s0, il_3, il_4, X9_in (by omega) (by omega) (by omega) (by omega) (by omega) (by omega), ob_some, bool_nar _ (inI_b _ _ _)]
    unfold inI
    by_cases w : W = 3
    · rw [if_pos w, if_pos (by omega)]
    · rw [if_neg w]
      by_cases w' : W = 4
      · rw [if_pos w', if_pos (by omega)]
      · rw [if_neg w', if_neg (by omega)]
  rw [if_neg (by rw [il_2, ii_eq (by omega) (by omega) (by omega) (by omega)]; exact s0), if_neg s0]
  by_cases s0 : S = 3
  · rw [if_pos (by rw [s0]; rfl), if_pos s0]
    by_cases w : W = 5
    · rw [if_pos (by rw [w]; rfl), if_pos w]; rfl
    · rw [if_neg (by rw [il_5, ii_eq (by omega) (by omega) (by omega) (by omega)]; exact w), if_neg w]; rfl
  rw [if_neg (by rw [il_3, ii_eq (by omega) (by omega) (by omega) (by omega)]; exact s0), if_neg s0]
  by_cases s0 : S = 4
  · rw [if_pos (by rw [s0]; rfl), if_pos s0]
    by_cases w : W = 7
    · rw [if_pos (by rw [w]; rfl), if_pos w]; rfl
    · rw [if_neg (by rw [il_7, ii_eq (by omega) (by omega) (by omega) (by omega)]; exact w), if_neg w]; rfl
  rw [if_neg (by rw [il_4, ii_eq (by omega) (by omega) (by omega) (by omega)]; exact s0), if_neg s0]
  by_cases s0 : S = 5
  · rw [if_pos (by rw [s0]; rfl), if_pos s0]
    by_cases w : W = 8
    · rw [if_pos (by rw [w]; rfl), if_pos w, hd, ob_some]
      by_cases x : D ≤ 0
      · rw [if_pos (by rw [il_0, ii_le (by omega) (by omega) (by omega) (by omega)]; exact x), if_pos x]; rfl
      · rw [if_neg (by rw [il_0, ii_le (by omega) (by omega) (by omega) (by omega)]; exact x), if_neg x]; rfl
    · rw [if_neg (by rw [il_8, ii_eq (by omega) (by omega) (by omega) (by omega)]; exact w), if_neg w]; rfl
  rw [if_neg (by rw [il_5, ii_eq (by omega) (by omega) (by omega) (by omega)]; exact s0), if_neg s0]
  by_cases s0 : S = 6
  · rw [if_pos (by rw [s0]; rfl), if_pos s0]; rfl
  rw [if_neg (by rw [il_6, ii_eq (by omega) (by omega) (by omega) (by omega)]; exact s0), if_neg s0]
  by_cases s0 : S = 7
  · rw [if_pos (by rw [s0]; rfl), if_pos s0]
    by_cases w : W = 12
    · rw [if_pos (by rw [w]; rfl), if_pos w]; rfl
    · rw [if_neg (by rw [il_12, ii_eq (by omega) (by omega) (by omega) (by omega)]; exact w), if_neg w]; rfl
  rw [if_neg (by rw [il_7, ii_eq (by omega) (by omega) (by omega) (by omega)]; exact s0), if_neg s0]; rfl
end MP
