/-! ===== the reference: rules of lines ===== -/
theorem dir_mul (a b c d : Int) : -1 ≤ dir a b * dir c d ∧ dir a b * dir c d ≤ 1 := by
  rcases dir_3 a b with h | h | h <;> rcases dir_3 c d with g | g | g <;> rw [h, g] <;> decide
theorem dir_b (a b : Int) : -1 ≤ dir a b ∧ dir a b ≤ 1 := by
  have := dir_3 a b
  omega
theorem dir_iff (x y : Int) : (dir x y = 1 ↔ pit x < pit y) ∧ (dir x y = -1 ↔ pit y < pit x) ∧ (dir x y = 0 ↔ pit x = pit y) := by
  unfold dir
  by_cases a : 0 < pit y - pit x
  · rw [if_pos a]; omega
  · rw [if_neg a]
    by_cases b : pit y - pit x < 0
    · rw [if_pos b]; omega
    · rw [if_neg b]; omega
def Wl (s : Sh) : Prop := (∀ j, j < s.md.length → lg s.md j = -1 → j = 0 ∧ s.sp ≠ 1) ∧ (∀ p : Int, 0 ≤ p → p < s.md.length → p / per s.sp < s.gv.length) ∧ 2 ≤ s.gv.length
section MRU
variable {hs : AH} {f : Nat → Int} {s : Sh}
theorem NW.ln (w : NW hs f) (n : NoA f s) (k : SOK s) {p : Int} (h : lat s.md p ≠ -1) : f_X9_line 95 (ii p) hs = some (ii (lat s.md p)) ∧ 42 ≤ lat s.md p ∧ lat s.md p ≤ 146 := by
  obtain ⟨h0, h1⟩ := lat_lt h
  have := k.mdb p
  exact ⟨X9_line w n h0 h1 k.ml, by omega, by omega⟩
theorem X9_recover (w : NW hs f) (n : NoA f s) (k : SOK s) {p : Int} (h0 : lat s.md p ≠ -1) (h1 : lat s.md (p - 1) ≠ -1) (h2 : lat s.md (p - 2) ≠ -1) : f_X9_recover 95 (ii p) hs = some (ii (if notRec s p = 0 then -1 else (appS s p).2.1)) := by
  obtain ⟨l0, b0⟩ := w.ln n k h0
  obtain ⟨l1, b1⟩ := w.ln n k h1
  obtain ⟨l2, b2⟩ := w.ln n k h2
  have s1 := sts_bd b2 b1
  have s2 := sts_bd b1 b0
  have dm := dir_mul (lat s.md (p - 1)) (lat s.md p) (lat s.md (p - 2)) (lat s.md (p - 1))
  unfold f_X9_recover notRec arrS appS stepS agaS
  rw [il_2, il_1, ii_sub, ii_sub, spn_on b1 b0, spn_on b2 b1]
  simp (disch := omega) only [↓ob_some, ↓ob_of (w.1), ↓ob_of (l0), ↓ob_of (l1), ↓ob_of (l2), ↓ob_of (X9_steps b2 b1), ↓ob_of (X9_steps b1 b0), ↓ob_of (X9_direction b1 b0), ↓ob_of (X9_direction b2 b1), ii_add, ii_sub, ii_mul, ii_neg, ii_div, ii_lt, ii_le, ii_eq, ob_some, il_0, il_1, il_2, il_3, il_4, il_5, il_6, il_7, il_8, il_9, il_10, il_11, il_12, il_13, il_14, il_15, il_16, il_17, il_18, il_19, il_20, il_21, il_22, il_23, il_24, il_25, il_26, il_27, il_28, il_29, il_30, il_31, il_32, il_33, il_34, il_35, il_36, il_37, il_38, il_39, il_40, il_41, il_42, il_43, il_44, il_45, il_46, il_47, il_48, il_49, il_50, il_51, il_52, il_53, il_54, il_55, il_56, il_57, il_58, il_59, il_60, il_61, il_62, il_63, il_64, il_65, il_66, il_67, il_68, il_69, il_70, il_71, il_72, il_73, il_74, il_75, il_76, il_77, il_78, il_79, il_80, il_81, il_82, il_83, il_84, il_85, il_86, il_87, il_88, il_89, il_90, il_91, il_92, il_93, il_94, il_95, il_96, il_97, il_98, il_99, il_100, il_101, il_102, il_103, il_104, il_105, il_106, il_107, il_108, il_109, il_110, il_111, il_112, il_113, il_114, il_115, il_116, il_117, il_118, il_119, il_120, il_121, il_122, il_123, il_124, il_125, il_126, il_127, il_128, il_129, il_130, il_131, il_132, il_133, il_134, il_135, il_136, il_137, il_138, il_139, il_140, il_141, il_142, il_143, il_144, il_145, il_146, il_147, il_148, il_149, il_150, il_151, il_152, il_153, il_154, il_155, il_156, il_157, il_158, il_159, il_160, il_161, il_162, il_163, il_164, il_165, il_166, il_167, il_168, il_169, il_170, il_171, il_172, il_173, il_174, il_175, il_176, il_177, il_178, il_179, il_180, il_181, il_182, il_183, il_184, il_185, il_186, il_187, il_188, il_189, il_190, il_191, il_192, il_193, il_194, il_195, il_196, il_197, il_198, il_199, il_200, il_201, il_202, il_203, il_204, il_205, il_206, il_207, il_208, il_209, il_210, il_211, il_212, il_213, il_214, il_215, il_216, il_217, il_218, il_219, il_220, il_221, il_222, il_223, il_224, il_225, il_226, il_227, il_228, il_229, il_230, il_231, il_232, il_233, il_234, il_235, il_236, il_237, il_238, il_239, il_240, il_241, il_242, il_243, il_244, il_245, il_246, il_247, il_248, il_249, il_250, il_251, il_252, il_253, il_254, il_255, il_400, il_480, il_1023, il_2880, il_3000, il_6000, il_m1, il_m8]
  generalize sts (lat s.md (p - 2)) (lat s.md (p - 1)) = X at s1 ⊢
  generalize sts (lat s.md (p - 1)) (lat s.md p) = Y at s2 ⊢
  rw [if_neg (show ¬ (1 : Int) = 0 by omega), if_neg (show ¬ (1 : Int) = 0 by omega)]
  by_cases c : 4 ≤ X
  · rw [if_pos c, if_neg (show ¬ X < 4 by omega)]
    by_cases d : Y = 1
    · rw [if_pos d, if_pos d, if_neg (show ¬ (1 : Int) = 0 by omega)]
      rcases dir_3 (lat s.md (p - 1)) (lat s.md p) with h | h | h <;> rcases dir_3 (lat s.md (p - 2)) (lat s.md (p - 1)) with g | g | g <;> rw [h, g] <;> rfl
    · rw [if_neg d, if_neg d]; rfl
  · rw [if_neg c, if_pos (show X < 4 by omega)]; rfl
theorem X9_outline (w : NW hs f) (n : NoA f s) (k : SOK s) {p : Int} (h0 : lat s.md p ≠ -1) (h1 : lat s.md (p - 1) ≠ -1) (h2 : lat s.md (p - 2) ≠ -1) : f_X9_outline 95 (ii p) hs = some (ii (outl s p)) := by
  obtain ⟨l0, b0⟩ := w.ln n k h0
  obtain ⟨l1, b1⟩ := w.ln n k h1
  obtain ⟨l2, b2⟩ := w.ln n k h2
  have s1 := sts_bd b2 b1
  have s2 := sts_bd b1 b0
  have dm := dir_mul (lat s.md (p - 2)) (lat s.md (p - 1)) (lat s.md (p - 1)) (lat s.md p)
  unfold f_X9_outline f_X9_outline_b85 outl arrS appS leapS withS
  rw [il_2, il_1, ii_sub, ii_sub, spn_on b1 b0, spn_on b2 b1]
  simp (disch := omega) only [↓ob_some, ↓ob_of (w.1), ↓ob_of (l0), ↓ob_of (l1), ↓ob_of (l2), ↓ob_of (X9_steps b2 b1), ↓ob_of (X9_steps b1 b0), ↓ob_of (X9_direction b1 b0), ↓ob_of (X9_direction b2 b1), ii_add, ii_sub, ii_mul, ii_neg, ii_div, ii_lt, ii_le, ii_eq, ob_some, il_0, il_1, il_2, il_3, il_4, il_5, il_6, il_7, il_8, il_9, il_10, il_11, il_12, il_13, il_14, il_15, il_16, il_17, il_18, il_19, il_20, il_21, il_22, il_23, il_24, il_25, il_26, il_27, il_28, il_29, il_30, il_31, il_32, il_33, il_34, il_35, il_36, il_37, il_38, il_39, il_40, il_41, il_42, il_43, il_44, il_45, il_46, il_47, il_48, il_49, il_50, il_51, il_52, il_53, il_54, il_55, il_56, il_57, il_58, il_59, il_60, il_61, il_62, il_63, il_64, il_65, il_66, il_67, il_68, il_69, il_70, il_71, il_72, il_73, il_74, il_75, il_76, il_77, il_78, il_79, il_80, il_81, il_82, il_83, il_84, il_85, il_86, il_87, il_88, il_89, il_90, il_91, il_92, il_93, il_94, il_95, il_96, il_97, il_98, il_99, il_100, il_101, il_102, il_103, il_104, il_105, il_106, il_107, il_108, il_109, il_110, il_111, il_112, il_113, il_114, il_115, il_116, il_117, il_118, il_119, il_120, il_121, il_122, il_123, il_124, il_125, il_126, il_127, il_128, il_129, il_130, il_131, il_132, il_133, il_134, il_135, il_136, il_137, il_138, il_139, il_140, il_141, il_142, il_143, il_144, il_145, il_146, il_147, il_148, il_149, il_150, il_151, il_152, il_153, il_154, il_155, il_156, il_157, il_158, il_159, il_160, il_161, il_162, il_163, il_164, il_165, il_166, il_167, il_168, il_169, il_170, il_171, il_172, il_173, il_174, il_175, il_176, il_177, il_178, il_179, il_180, il_181, il_182, il_183, il_184, il_185, il_186, il_187, il_188, il_189, il_190, il_191, il_192, il_193, il_194, il_195, il_196, il_197, il_198, il_199, il_200, il_201, il_202, il_203, il_204, il_205, il_206, il_207, il_208, il_209, il_210, il_211, il_212, il_213, il_214, il_215, il_216, il_217, il_218, il_219, il_220, il_221, il_222, il_223, il_224, il_225, il_226, il_227, il_228, il_229, il_230, il_231, il_232, il_233, il_234, il_235, il_236, il_237, il_238, il_239, il_240, il_241, il_242, il_243, il_244, il_245, il_246, il_247, il_248, il_249, il_250, il_251, il_252, il_253, il_254, il_255, il_400, il_480, il_1023, il_2880, il_3000, il_6000, il_m1, il_m8]
  generalize sts (lat s.md (p - 2)) (lat s.md (p - 1)) = X at s1 ⊢
  generalize sts (lat s.md (p - 1)) (lat s.md p) = Y at s2 ⊢
  rcases dir_3 (lat s.md (p - 1)) (lat s.md p) with h | h | h <;> rcases dir_3 (lat s.md (p - 2)) (lat s.md (p - 1)) with g | g | g <;> rw [h, g] <;> by_cases c : X ≤ 1 <;> by_cases d : Y ≤ 1 <;> by_cases e : X + Y = 6 <;> by_cases i : X + Y ≤ 7 <;> simp [c, d, e, i]
end MRU
