/-! ===== a sheet: places, settings, weights, copies ===== -/
theorem lg_cpy {x y : List Int} {k j : Nat} (hk : k ≤ y.length) (hl : x.length = y.length) : lg (y.take k ++ x.drop k) j = if j < k then lg y j else lg x j := by
  have h1 : (y.take k).length = k := by rw [List.length_take]; omega
  by_cases h : j < k
  · rw [if_pos h]
    unfold lg
    rw [List.getElem?_append_left (by omega), List.getElem?_take, if_pos h]
  · rw [if_neg h]
    unfold lg
    rw [List.getElem?_append_right (by omega), h1, List.getElem?_drop, show k + (j - k) = j by omega]
theorem len_cpy {x y : List Int} {k : Nat} (hk : k ≤ y.length) (hl : x.length = y.length) : (y.take k ++ x.drop k).length = y.length := by
  rw [List.length_append, List.length_take, List.length_drop]; omega
theorem cpy_step {x y : List Int} {k : Nat} (hk : k < y.length) (hl : x.length = y.length) : (y.take k ++ x.drop k).set k (lg y k) = y.take (k + 1) ++ x.drop (k + 1) := by
  have h1 := len_cpy (k := k) (by omega) hl
  have h2 := len_cpy (k := k + 1) (by omega) hl
  refine lg_ext (by rw [List.length_set, h1, h2]) (fun j hj => ?_)
  rw [List.length_set, h1] at hj
  rw [lg_cpy (by omega) hl]
  by_cases e : j = k
  · subst e
    rw [lg_set (by omega), if_pos (by omega)]
  · rw [lg_set_ne e, lg_cpy (by omega) hl]
    by_cases e2 : j < k
    · rw [if_pos e2, if_pos (by omega)]
    · rw [if_neg e2, if_neg (by omega)]
theorem cpy_one {x y : List Int} (hl : x.length = y.length) (h0 : lg x 0 = lg y 0) (hy : 1 ≤ y.length) : x = y.take 1 ++ x.drop 1 := by
  have h2 := len_cpy (k := 1) hy hl
  refine lg_ext (by omega) (fun j hj => ?_)
  rw [lg_cpy hy hl]
  by_cases e : j < 1
  · rw [if_pos e, show j = 0 by omega]; exact h0
  · rw [if_neg e]
theorem sh_l2 {z sp : Int} (h0 : -64 ≤ z) (h1 : z < 192) : ii z <<< (ii (bits sp) &&& ii 31) = ii (z * per sp) := sh_l h0 h1
def plc (s : Sh) (bar beat : Int) : Int := if 0 ≤ bar ∧ bar < s.gv.length ∧ 0 ≤ beat ∧ beat < (if bar = s.gv.length - 1 then 1 else per s.sp) then bar * per s.sp + beat else -1
section SHEET2
variable {hs : AH} {a : Nat} {s : Sh}
theorem X6_placeOf_b (h : ShA hs a s) (k : SOK s) {bar beat t : Int} (h1 : 0 ≤ bar) (h2 : bar < 12) (h3 : -2147483648 ≤ beat) (h4 : beat ≤ 2147483647) (h5 : 0 ≤ t) (h6 : t ≤ 4) : f_X6_placeOf_b40 a (ii bar) (ii beat) (ii t) hs = some (ii (if 0 ≤ beat ∧ beat < t then bar * per s.sp + beat else -1)) := by
  unfold f_X6_placeOf_b40
  simp (disch := omega) only [h.chk, X6_firstPlaceIn h k, ii_add, ii_sub, ii_mul, ii_neg, ii_div, ii_lt, ii_le, ii_eq, ob_some, il_0, il_1, il_2, il_3, il_4, il_5, il_6, il_7, il_8, il_9, il_10, il_11, il_12, il_13, il_14, il_15, il_16, il_17, il_18, il_19, il_20, il_21, il_22, il_23, il_24, il_25, il_26, il_27, il_28, il_29, il_30, il_31, il_32, il_33, il_34, il_35, il_36, il_37, il_38, il_39, il_40, il_41, il_42, il_43, il_44, il_45, il_46, il_47, il_48, il_49, il_50, il_51, il_52, il_53, il_54, il_55, il_56, il_57, il_58, il_59, il_60, il_61, il_62, il_63, il_64, il_65, il_66, il_67, il_68, il_69, il_70, il_71, il_72, il_73, il_74, il_75, il_76, il_77, il_78, il_79, il_80, il_81, il_82, il_83, il_84, il_85, il_86, il_87, il_88, il_89, il_90, il_91, il_92, il_93, il_94, il_95, il_96, il_97, il_98, il_99, il_100, il_101, il_102, il_103, il_104, il_105, il_106, il_107, il_108, il_109, il_110, il_111, il_112, il_113, il_114, il_115, il_116, il_117, il_118, il_119, il_120, il_121, il_122, il_123, il_124, il_125, il_126, il_127, il_128, il_129, il_130, il_131, il_132, il_133, il_134, il_135, il_136, il_137, il_138, il_139, il_140, il_141, il_142, il_143, il_144, il_145, il_146, il_147, il_148, il_149, il_150, il_151, il_152, il_153, il_154, il_155, il_156, il_157, il_158, il_159, il_160, il_161, il_162, il_163, il_164, il_165, il_166, il_167, il_168, il_169, il_170, il_171, il_172, il_173, il_174, il_175, il_176, il_177, il_178, il_179, il_180, il_181, il_182, il_183, il_184, il_185, il_186, il_187, il_188, il_189, il_190, il_191, il_192, il_193, il_194, il_195, il_196, il_197, il_198, il_199, il_200, il_201, il_202, il_203, il_204, il_205, il_206, il_207, il_208, il_209, il_210, il_211, il_212, il_213, il_214, il_215, il_216, il_217, il_218, il_219, il_220, il_221, il_222, il_223, il_224, il_225, il_226, il_227, il_228, il_229, il_230, il_231, il_232, il_233, il_234, il_235, il_236, il_237, il_238, il_239, il_240, il_241, il_242, il_243, il_244, il_245, il_246, il_247, il_248, il_249, il_250, il_251, il_252, il_253, il_254, il_255, il_400, il_480, il_1023, il_2880, il_3000, il_6000, il_m1, il_m8]
  by_cases c : beat < 0
  · rw [if_pos c, if_neg (show ¬ (0 ≤ beat ∧ beat < t) by omega)]
  · rw [if_neg c]
    by_cases d : t ≤ beat
    · rw [if_pos d, if_neg (show ¬ (0 ≤ beat ∧ beat < t) by omega)]
    · rw [if_neg d, if_pos (show (0 ≤ beat ∧ beat < t) by omega)]
theorem X6_placeOf (h : ShA hs a s) (k : SOK s) {bar beat : Int} (h1 : -2147483648 ≤ bar) (h2 : bar ≤ 2147483647) (h3 : -2147483648 ≤ beat) (h4 : beat ≤ 2147483647) : f_X6_placeOf a (ii bar) (ii beat) hs = some (ii (plc s bar beat)) := by
  have := k.gl
  have b3 := per_3 s.sp
  unfold f_X6_placeOf plc
  simp (disch := omega) only [h.g, h.chk, h.2.1.chk, X2_size h.2.1, X6_beatBits h k, sh_l2, ii_add, ii_sub, ii_mul, ii_neg, ii_div, ii_lt, ii_le, ii_eq, ob_some, il_0, il_1, il_2, il_3, il_4, il_5, il_6, il_7, il_8, il_9, il_10, il_11, il_12, il_13, il_14, il_15, il_16, il_17, il_18, il_19, il_20, il_21, il_22, il_23, il_24, il_25, il_26, il_27, il_28, il_29, il_30, il_31, il_32, il_33, il_34, il_35, il_36, il_37, il_38, il_39, il_40, il_41, il_42, il_43, il_44, il_45, il_46, il_47, il_48, il_49, il_50, il_51, il_52, il_53, il_54, il_55, il_56, il_57, il_58, il_59, il_60, il_61, il_62, il_63, il_64, il_65, il_66, il_67, il_68, il_69, il_70, il_71, il_72, il_73, il_74, il_75, il_76, il_77, il_78, il_79, il_80, il_81, il_82, il_83, il_84, il_85, il_86, il_87, il_88, il_89, il_90, il_91, il_92, il_93, il_94, il_95, il_96, il_97, il_98, il_99, il_100, il_101, il_102, il_103, il_104, il_105, il_106, il_107, il_108, il_109, il_110, il_111, il_112, il_113, il_114, il_115, il_116, il_117, il_118, il_119, il_120, il_121, il_122, il_123, il_124, il_125, il_126, il_127, il_128, il_129, il_130, il_131, il_132, il_133, il_134, il_135, il_136, il_137, il_138, il_139, il_140, il_141, il_142, il_143, il_144, il_145, il_146, il_147, il_148, il_149, il_150, il_151, il_152, il_153, il_154, il_155, il_156, il_157, il_158, il_159, il_160, il_161, il_162, il_163, il_164, il_165, il_166, il_167, il_168, il_169, il_170, il_171, il_172, il_173, il_174, il_175, il_176, il_177, il_178, il_179, il_180, il_181, il_182, il_183, il_184, il_185, il_186, il_187, il_188, il_189, il_190, il_191, il_192, il_193, il_194, il_195, il_196, il_197, il_198, il_199, il_200, il_201, il_202, il_203, il_204, il_205, il_206, il_207, il_208, il_209, il_210, il_211, il_212, il_213, il_214, il_215, il_216, il_217, il_218, il_219, il_220, il_221, il_222, il_223, il_224, il_225, il_226, il_227, il_228, il_229, il_230, il_231, il_232, il_233, il_234, il_235, il_236, il_237, il_238, il_239, il_240, il_241, il_242, il_243, il_244, il_245, il_246, il_247, il_248, il_249, il_250, il_251, il_252, il_253, il_254, il_255, il_400, il_480, il_1023, il_2880, il_3000, il_6000, il_m1, il_m8]
  by_cases c : bar < 0
  · rw [if_pos c, if_neg (fun z => absurd z.1 (by omega))]
  · rw [if_neg c]
    by_cases d : bar < s.gv.length
    · rw [if_pos d]
      by_cases e : bar = (s.gv.length : Int) - 1
      · rw [if_pos e, if_pos e, X6_placeOf_b h k (by omega) (by omega) h3 h4 (by omega) (by omega)]
        by_cases f : 0 ≤ beat ∧ beat < 1
        · rw [if_pos f, if_pos ⟨by omega, d, f.1, f.2⟩]
        · rw [if_neg f, if_neg (fun z => f ⟨z.2.2.1, z.2.2.2⟩)]
      · rw [if_neg e, if_neg e, X6_placeOf_b h k (by omega) (by omega) h3 h4 (by omega) (by omega), Int.one_mul]
        by_cases f : 0 ≤ beat ∧ beat < per s.sp
        · rw [if_pos f, if_pos ⟨by omega, d, f.1, f.2⟩]
        · rw [if_neg f, if_neg (fun z => f ⟨z.2.2.1, z.2.2.2⟩)]
    · rw [if_neg d, if_neg (fun z => absurd z.2.1 d)]
theorem X6_notesDue (h : ShA hs a s) (k : SOK s) : f_X6_notesDue a hs = some (ii (((s.gv.length : Int) - 1) * per s.sp + 1)) := by
  have := k.gl
  unfold f_X6_notesDue
  simp (disch := omega) only [h.g, h.chk, h.2.1.chk, X2_size h.2.1, X6_firstPlaceIn h k, ii_add, ii_sub, ii_mul, ii_neg, ii_div, ii_lt, ii_le, ii_eq, ob_some, il_0, il_1, il_2, il_3, il_4, il_5, il_6, il_7, il_8, il_9, il_10, il_11, il_12, il_13, il_14, il_15, il_16, il_17, il_18, il_19, il_20, il_21, il_22, il_23, il_24, il_25, il_26, il_27, il_28, il_29, il_30, il_31, il_32, il_33, il_34, il_35, il_36, il_37, il_38, il_39, il_40, il_41, il_42, il_43, il_44, il_45, il_46, il_47, il_48, il_49, il_50, il_51, il_52, il_53, il_54, il_55, il_56, il_57, il_58, il_59, il_60, il_61, il_62, il_63, il_64, il_65, il_66, il_67, il_68, il_69, il_70, il_71, il_72, il_73, il_74, il_75, il_76, il_77, il_78, il_79, il_80, il_81, il_82, il_83, il_84, il_85, il_86, il_87, il_88, il_89, il_90, il_91, il_92, il_93, il_94, il_95, il_96, il_97, il_98, il_99, il_100, il_101, il_102, il_103, il_104, il_105, il_106, il_107, il_108, il_109, il_110, il_111, il_112, il_113, il_114, il_115, il_116, il_117, il_118, il_119, il_120, il_121, il_122, il_123, il_124, il_125, il_126, il_127, il_128, il_129, il_130, il_131, il_132, il_133, il_134, il_135, il_136, il_137, il_138, il_139, il_140, il_141, il_142, il_143, il_144, il_145, il_146, il_147, il_148, il_149, il_150, il_151, il_152, il_153, il_154, il_155, il_156, il_157, il_158, il_159, il_160, il_161, il_162, il_163, il_164, il_165, il_166, il_167, il_168, il_169, il_170, il_171, il_172, il_173, il_174, il_175, il_176, il_177, il_178, il_179, il_180, il_181, il_182, il_183, il_184, il_185, il_186, il_187, il_188, il_189, il_190, il_191, il_192, il_193, il_194, il_195, il_196, il_197, il_198, il_199, il_200, il_201, il_202, il_203, il_204, il_205, il_206, il_207, il_208, il_209, il_210, il_211, il_212, il_213, il_214, il_215, il_216, il_217, il_218, il_219, il_220, il_221, il_222, il_223, il_224, il_225, il_226, il_227, il_228, il_229, il_230, il_231, il_232, il_233, il_234, il_235, il_236, il_237, il_238, il_239, il_240, il_241, il_242, il_243, il_244, il_245, il_246, il_247, il_248, il_249, il_250, il_251, il_252, il_253, il_254, il_255, il_400, il_480, il_1023, il_2880, il_3000, il_6000, il_m1, il_m8]
def allowsS (s : Sh) (w v : Int) : Prop := if w = 2 then 12 ≤ v ∧ v ≤ 36 else 24 ≤ v ∧ v ≤ 84 ∧ (if w = 0 then v ≤ lg s.st 1 else lg s.st 0 ≤ v)
theorem allowsS_0 {s : Sh} {v : Int} : allowsS s 0 v ↔ (24 ≤ v ∧ v ≤ 84 ∧ v ≤ lg s.st 1) := by unfold allowsS; rw [if_neg (by decide), if_pos rfl]
theorem allowsS_1 {s : Sh} {v : Int} : allowsS s 1 v ↔ (24 ≤ v ∧ v ≤ 84 ∧ lg s.st 0 ≤ v) := by unfold allowsS; rw [if_neg (by decide), if_neg (by decide)]
theorem allowsS_2 {s : Sh} {v : Int} : allowsS s 2 v ↔ (12 ≤ v ∧ v ≤ 36) := by unfold allowsS; rw [if_pos rfl]
theorem ct_tab : cT 0 (ii 0) = some (ii 24) ∧ cT 0 (ii 1) = some (ii 24) ∧ cT 0 (ii 2) = some (ii 12) ∧ cT 1 (ii 0) = some (ii 84) ∧ cT 1 (ii 1) = some (ii 84) ∧ cT 1 (ii 2) = some (ii 36) := by decide +kernel
theorem X6_allowsSetting (h : ShA hs a s) (k : SOK s) {w v : Int} (h0 : 0 ≤ w) (h1 : w < 3) (h3 : -2147483648 ≤ v) (h4 : v ≤ 2147483647) : (f_X6_allowsSetting a (ii w) (ii v) hs = some (ii 1) ∧ allowsS s w v) ∨ (f_X6_allowsSetting a (ii w) (ii v) hs = some (ii 0) ∧ ¬ allowsS s w v) := by
  have := k.1
  have b0 := k.stb 0
  have b1 := k.stb 1
  have lh := k.lohi
  have g0 : aN 0 hs (a + 5) (ii 0) = some (ii (lg s.st 0)) := h.2.2.2.1.get (by omega) (by omega) (by omega)
  have g1 : aN 0 hs (a + 5) (ii 1) = some (ii (lg s.st 1)) := h.2.2.2.1.get (by omega) (by omega) (by omega)
  obtain ⟨t1, t2, t3, t4, t5, t6⟩ := ct_tab
  unfold f_X6_allowsSetting f_X6_allowsSetting_b43
  simp (disch := omega) only [h.st, g0, g1, ii_add, ii_sub, ii_mul, ii_neg, ii_div, ii_lt, ii_le, ii_eq, ob_some, il_0, il_1, il_2, il_3, il_4, il_5, il_6, il_7, il_8, il_9, il_10, il_11, il_12, il_13, il_14, il_15, il_16, il_17, il_18, il_19, il_20, il_21, il_22, il_23, il_24, il_25, il_26, il_27, il_28, il_29, il_30, il_31, il_32, il_33, il_34, il_35, il_36, il_37, il_38, il_39, il_40, il_41, il_42, il_43, il_44, il_45, il_46, il_47, il_48, il_49, il_50, il_51, il_52, il_53, il_54, il_55, il_56, il_57, il_58, il_59, il_60, il_61, il_62, il_63, il_64, il_65, il_66, il_67, il_68, il_69, il_70, il_71, il_72, il_73, il_74, il_75, il_76, il_77, il_78, il_79, il_80, il_81, il_82, il_83, il_84, il_85, il_86, il_87, il_88, il_89, il_90, il_91, il_92, il_93, il_94, il_95, il_96, il_97, il_98, il_99, il_100, il_101, il_102, il_103, il_104, il_105, il_106, il_107, il_108, il_109, il_110, il_111, il_112, il_113, il_114, il_115, il_116, il_117, il_118, il_119, il_120, il_121, il_122, il_123, il_124, il_125, il_126, il_127, il_128, il_129, il_130, il_131, il_132, il_133, il_134, il_135, il_136, il_137, il_138, il_139, il_140, il_141, il_142, il_143, il_144, il_145, il_146, il_147, il_148, il_149, il_150, il_151, il_152, il_153, il_154, il_155, il_156, il_157, il_158, il_159, il_160, il_161, il_162, il_163, il_164, il_165, il_166, il_167, il_168, il_169, il_170, il_171, il_172, il_173, il_174, il_175, il_176, il_177, il_178, il_179, il_180, il_181, il_182, il_183, il_184, il_185, il_186, il_187, il_188, il_189, il_190, il_191, il_192, il_193, il_194, il_195, il_196, il_197, il_198, il_199, il_200, il_201, il_202, il_203, il_204, il_205, il_206, il_207, il_208, il_209, il_210, il_211, il_212, il_213, il_214, il_215, il_216, il_217, il_218, il_219, il_220, il_221, il_222, il_223, il_224, il_225, il_226, il_227, il_228, il_229, il_230, il_231, il_232, il_233, il_234, il_235, il_236, il_237, il_238, il_239, il_240, il_241, il_242, il_243, il_244, il_245, il_246, il_247, il_248, il_249, il_250, il_251, il_252, il_253, il_254, il_255, il_400, il_480, il_1023, il_2880, il_3000, il_6000, il_m1, il_m8]
  rw [if_neg (show ¬ w < 0 by omega), if_neg (show ¬ 3 ≤ w by omega)]
  rcases (show w = 0 ∨ w = 1 ∨ w = 2 by omega) with rfl | rfl | rfl
  · rw [allowsS_0]
    simp (disch := omega) only [h.st, g0, g1, t1, t4, ii_add, ii_sub, ii_mul, ii_neg, ii_div, ii_lt, ii_le, ii_eq, ob_some, il_0, il_1, il_2, il_3, il_4, il_5, il_6, il_7, il_8, il_9, il_10, il_11, il_12, il_13, il_14, il_15, il_16, il_17, il_18, il_19, il_20, il_21, il_22, il_23, il_24, il_25, il_26, il_27, il_28, il_29, il_30, il_31, il_32, il_33, il_34, il_35, il_36, il_37, il_38, il_39, il_40, il_41, il_42, il_43, il_44, il_45, il_46, il_47, il_48, il_49, il_50, il_51, il_52, il_53, il_54, il_55, il_56, il_57, il_58, il_59, il_60, il_61, il_62, il_63, il_64, il_65, il_66, il_67, il_68, il_69, il_70, il_71, il_72, il_73, il_74, il_75, il_76, il_77, il_78, il_79, il_80, il_81, il_82, il_83, il_84, il_85, il_86, il_87, il_88, il_89, il_90, il_91, il_92, il_93, il_94, il_95, il_96, il_97, il_98, il_99, il_100, il_101, il_102, il_103, il_104, il_105, il_106, il_107, il_108, il_109, il_110, il_111, il_112, il_113, il_114, il_115, il_116, il_117, il_118, il_119, il_120, il_121, il_122, il_123, il_124, il_125, il_126, il_127, il_128, il_129, il_130, il_131, il_132, il_133, il_134, il_135, il_136, il_137, il_138, il_139, il_140, il_141, il_142, il_143, il_144, il_145, il_146, il_147, il_148, il_149, il_150, il_151, il_152, il_153, il_154, il_155, il_156, il_157, il_158, il_159, il_160, il_161, il_162, il_163, il_164, il_165, il_166, il_167, il_168, il_169, il_170, il_171, il_172, il_173, il_174, il_175, il_176, il_177, il_178, il_179, il_180, il_181, il_182, il_183, il_184, il_185, il_186, il_187, il_188, il_189, il_190, il_191, il_192, il_193, il_194, il_195, il_196, il_197, il_198, il_199, il_200, il_201, il_202, il_203, il_204, il_205, il_206, il_207, il_208, il_209, il_210, il_211, il_212, il_213, il_214, il_215, il_216, il_217, il_218, il_219, il_220, il_221, il_222, il_223, il_224, il_225, il_226, il_227, il_228, il_229, il_230, il_231, il_232, il_233, il_234, il_235, il_236, il_237, il_238, il_239, il_240, il_241, il_242, il_243, il_244, il_245, il_246, il_247, il_248, il_249, il_250, il_251, il_252, il_253, il_254, il_255, il_400, il_480, il_1023, il_2880, il_3000, il_6000, il_m1, il_m8]
    by_cases c : v < 24
    · rw [if_pos c]; exact Or.inr ⟨rfl, by omega⟩
    · rw [if_neg c]
      by_cases d : v ≤ 84
      · rw [if_pos d]
        by_cases e : lg s.st 1 < v
        · simp only [e, if_true, if_false]; exact Or.inr ⟨rfl, by omega⟩
        · simp only [e, if_true, if_false]; exact Or.inl ⟨rfl, by omega⟩
      · rw [if_neg d]; exact Or.inr ⟨rfl, by omega⟩
  · rw [allowsS_1]
    simp (disch := omega) only [h.st, g0, g1, t2, t5, ii_add, ii_sub, ii_mul, ii_neg, ii_div, ii_lt, ii_le, ii_eq, ob_some, il_0, il_1, il_2, il_3, il_4, il_5, il_6, il_7, il_8, il_9, il_10, il_11, il_12, il_13, il_14, il_15, il_16, il_17, il_18, il_19, il_20, il_21, il_22, il_23, il_24, il_25, il_26, il_27, il_28, il_29, il_30, il_31, il_32, il_33, il_34, il_35, il_36, il_37, il_38, il_39, il_40, il_41, il_42, il_43, il_44, il_45, il_46, il_47, il_48, il_49, il_50, il_51, il_52, il_53, il_54, il_55, il_56, il_57, il_58, il_59, il_60, il_61, il_62, il_63, il_64, il_65, il_66, il_67, il_68, il_69, il_70, il_71, il_72, il_73, il_74, il_75, il_76, il_77, il_78, il_79, il_80, il_81, il_82, il_83, il_84, il_85, il_86, il_87, il_88, il_89, il_90, il_91, il_92, il_93, il_94, il_95, il_96, il_97, il_98, il_99, il_100, il_101, il_102, il_103, il_104, il_105, il_106, il_107, il_108, il_109, il_110, il_111, il_112, il_113, il_114, il_115, il_116, il_117, il_118, il_119, il_120, il_121, il_122, il_123, il_124, il_125, il_126, il_127, il_128, il_129, il_130, il_131, il_132, il_133, il_134, il_135, il_136, il_137, il_138, il_139, il_140, il_141, il_142, il_143, il_144, il_145, il_146, il_147, il_148, il_149, il_150, il_151, il_152, il_153, il_154, il_155, il_156, il_157, il_158, il_159, il_160, il_161, il_162, il_163, il_164, il_165, il_166, il_167, il_168, il_169, il_170, il_171, il_172, il_173, il_174, il_175, il_176, il_177, il_178, il_179, il_180, il_181, il_182, il_183, il_184, il_185, il_186, il_187, il_188, il_189, il_190, il_191, il_192, il_193, il_194, il_195, il_196, il_197, il_198, il_199, il_200, il_201, il_202, il_203, il_204, il_205, il_206, il_207, il_208, il_209, il_210, il_211, il_212, il_213, il_214, il_215, il_216, il_217, il_218, il_219, il_220, il_221, il_222, il_223, il_224, il_225, il_226, il_227, il_228, il_229, il_230, il_231, il_232, il_233, il_234, il_235, il_236, il_237, il_238, il_239, il_240, il_241, il_242, il_243, il_244, il_245, il_246, il_247, il_248, il_249, il_250, il_251, il_252, il_253, il_254, il_255, il_400, il_480, il_1023, il_2880, il_3000, il_6000, il_m1, il_m8]
    by_cases c : v < 24
    · rw [if_pos c]; exact Or.inr ⟨rfl, by omega⟩
    · rw [if_neg c]
      by_cases d : v ≤ 84
      · rw [if_pos d]
        by_cases e : v < lg s.st 0
        · simp only [e, if_true, if_false]; exact Or.inr ⟨rfl, by omega⟩
        · simp only [e, if_true, if_false]; exact Or.inl ⟨rfl, by omega⟩
      · rw [if_neg d]; exact Or.inr ⟨rfl, by omega⟩
  · rw [allowsS_2]
    simp (disch := omega) only [h.st, g0, g1, t3, t6, ii_add, ii_sub, ii_mul, ii_neg, ii_div, ii_lt, ii_le, ii_eq, ob_some, il_0, il_1, il_2, il_3, il_4, il_5, il_6, il_7, il_8, il_9, il_10, il_11, il_12, il_13, il_14, il_15, il_16, il_17, il_18, il_19, il_20, il_21, il_22, il_23, il_24, il_25, il_26, il_27, il_28, il_29, il_30, il_31, il_32, il_33, il_34, il_35, il_36, il_37, il_38, il_39, il_40, il_41, il_42, il_43, il_44, il_45, il_46, il_47, il_48, il_49, il_50, il_51, il_52, il_53, il_54, il_55, il_56, il_57, il_58, il_59, il_60, il_61, il_62, il_63, il_64, il_65, il_66, il_67, il_68, il_69, il_70, il_71, il_72, il_73, il_74, il_75, il_76, il_77, il_78, il_79, il_80, il_81, il_82, il_83, il_84, il_85, il_86, il_87, il_88, il_89, il_90, il_91, il_92, il_93, il_94, il_95, il_96, il_97, il_98, il_99, il_100, il_101, il_102, il_103, il_104, il_105, il_106, il_107, il_108, il_109, il_110, il_111, il_112, il_113, il_114, il_115, il_116, il_117, il_118, il_119, il_120, il_121, il_122, il_123, il_124, il_125, il_126, il_127, il_128, il_129, il_130, il_131, il_132, il_133, il_134, il_135, il_136, il_137, il_138, il_139, il_140, il_141, il_142, il_143, il_144, il_145, il_146, il_147, il_148, il_149, il_150, il_151, il_152, il_153, il_154, il_155, il_156, il_157, il_158, il_159, il_160, il_161, il_162, il_163, il_164, il_165, il_166, il_167, il_168, il_169, il_170, il_171, il_172, il_173, il_174, il_175, il_176, il_177, il_178, il_179, il_180, il_181, il_182, il_183, il_184, il_185, il_186, il_187, il_188, il_189, il_190, il_191, il_192, il_193, il_194, il_195, il_196, il_197, il_198, il_199, il_200, il_201, il_202, il_203, il_204, il_205, il_206, il_207, il_208, il_209, il_210, il_211, il_212, il_213, il_214, il_215, il_216, il_217, il_218, il_219, il_220, il_221, il_222, il_223, il_224, il_225, il_226, il_227, il_228, il_229, il_230, il_231, il_232, il_233, il_234, il_235, il_236, il_237, il_238, il_239, il_240, il_241, il_242, il_243, il_244, il_245, il_246, il_247, il_248, il_249, il_250, il_251, il_252, il_253, il_254, il_255, il_400, il_480, il_1023, il_2880, il_3000, il_6000, il_m1, il_m8]
    by_cases c : v < 12
    · rw [if_pos c]; exact Or.inr ⟨rfl, by omega⟩
    · rw [if_neg c]
      by_cases d : v ≤ 36
      · rw [if_pos d]
        have e : ¬ lg s.st 1 < lg s.st 0 := by omega
        simp only [e, if_true, if_false]; exact Or.inl ⟨rfl, by omega⟩
      · rw [if_neg d]; exact Or.inr ⟨rfl, by omega⟩
/-- the weights of the rules up to k, added up -/
def wsum (l : List Int) : Nat → Int
  | 0 => 0
  | k + 1 => wsum l k + lg l (k + 1)
theorem wsum_bd {l : List Int} (h : ∀ j, -1 ≤ lg l j ∧ lg l j ≤ 9) : ∀ k : Nat, -(k : Int) ≤ wsum l k ∧ wsum l k ≤ 9 * k
  | 0 => ⟨Int.le_refl _, Int.le_refl _⟩
  | k + 1 => by
    have h1 := wsum_bd h k
    have h2 := h (k + 1)
    unfold wsum
    omega
theorem X6_sum_loop (h : ShA hs a s) (k : SOK s) : ∀ (d n r : Nat), d < n → r + d = 17 → 1 ≤ r → f_X6_sumOfWeights_b4 n a (ii (wsum s.wt (r - 1))) (ii r) hs = some (ii (wsum s.wt 16)) := by
  intro d
  induction d with
  | zero =>
    intro n r hn hr h1
    obtain ⟨n, rfl⟩ : ∃ z, n = z + 1 := ⟨n - 1, by omega⟩
    obtain rfl : r = 17 := by omega
    unfold f_X6_sumOfWeights_b4
    simp (disch := omega) only [ii_add, ii_sub, ii_mul, ii_neg, ii_div, ii_lt, ii_le, ii_eq, ob_some, il_0, il_1, il_2, il_3, il_4, il_5, il_6, il_7, il_8, il_9, il_10, il_11, il_12, il_13, il_14, il_15, il_16, il_17, il_18, il_19, il_20, il_21, il_22, il_23, il_24, il_25, il_26, il_27, il_28, il_29, il_30, il_31, il_32, il_33, il_34, il_35, il_36, il_37, il_38, il_39, il_40, il_41, il_42, il_43, il_44, il_45, il_46, il_47, il_48, il_49, il_50, il_51, il_52, il_53, il_54, il_55, il_56, il_57, il_58, il_59, il_60, il_61, il_62, il_63, il_64, il_65, il_66, il_67, il_68, il_69, il_70, il_71, il_72, il_73, il_74, il_75, il_76, il_77, il_78, il_79, il_80, il_81, il_82, il_83, il_84, il_85, il_86, il_87, il_88, il_89, il_90, il_91, il_92, il_93, il_94, il_95, il_96, il_97, il_98, il_99, il_100, il_101, il_102, il_103, il_104, il_105, il_106, il_107, il_108, il_109, il_110, il_111, il_112, il_113, il_114, il_115, il_116, il_117, il_118, il_119, il_120, il_121, il_122, il_123, il_124, il_125, il_126, il_127, il_128, il_129, il_130, il_131, il_132, il_133, il_134, il_135, il_136, il_137, il_138, il_139, il_140, il_141, il_142, il_143, il_144, il_145, il_146, il_147, il_148, il_149, il_150, il_151, il_152, il_153, il_154, il_155, il_156, il_157, il_158, il_159, il_160, il_161, il_162, il_163, il_164, il_165, il_166, il_167, il_168, il_169, il_170, il_171, il_172, il_173, il_174, il_175, il_176, il_177, il_178, il_179, il_180, il_181, il_182, il_183, il_184, il_185, il_186, il_187, il_188, il_189, il_190, il_191, il_192, il_193, il_194, il_195, il_196, il_197, il_198, il_199, il_200, il_201, il_202, il_203, il_204, il_205, il_206, il_207, il_208, il_209, il_210, il_211, il_212, il_213, il_214, il_215, il_216, il_217, il_218, il_219, il_220, il_221, il_222, il_223, il_224, il_225, il_226, il_227, il_228, il_229, il_230, il_231, il_232, il_233, il_234, il_235, il_236, il_237, il_238, il_239, il_240, il_241, il_242, il_243, il_244, il_245, il_246, il_247, il_248, il_249, il_250, il_251, il_252, il_253, il_254, il_255, il_400, il_480, il_1023, il_2880, il_3000, il_6000, il_m1, il_m8]
    rfl
  | succ d ih =>
    intro n r hn hr h1
    obtain ⟨n, rfl⟩ : ∃ z, n = z + 1 := ⟨n - 1, by omega⟩
    have := k.2.1
    unfold f_X6_sumOfWeights_b4
    simp (disch := omega) only [h.wt, h.2.2.2.2.get, ii_add, ii_sub, ii_mul, ii_neg, ii_div, ii_lt, ii_le, ii_eq, ob_some, il_0, il_1, il_2, il_3, il_4, il_5, il_6, il_7, il_8, il_9, il_10, il_11, il_12, il_13, il_14, il_15, il_16, il_17, il_18, il_19, il_20, il_21, il_22, il_23, il_24, il_25, il_26, il_27, il_28, il_29, il_30, il_31, il_32, il_33, il_34, il_35, il_36, il_37, il_38, il_39, il_40, il_41, il_42, il_43, il_44, il_45, il_46, il_47, il_48, il_49, il_50, il_51, il_52, il_53, il_54, il_55, il_56, il_57, il_58, il_59, il_60, il_61, il_62, il_63, il_64, il_65, il_66, il_67, il_68, il_69, il_70, il_71, il_72, il_73, il_74, il_75, il_76, il_77, il_78, il_79, il_80, il_81, il_82, il_83, il_84, il_85, il_86, il_87, il_88, il_89, il_90, il_91, il_92, il_93, il_94, il_95, il_96, il_97, il_98, il_99, il_100, il_101, il_102, il_103, il_104, il_105, il_106, il_107, il_108, il_109, il_110, il_111, il_112, il_113, il_114, il_115, il_116, il_117, il_118, il_119, il_120, il_121, il_122, il_123, il_124, il_125, il_126, il_127, il_128, il_129, il_130, il_131, il_132, il_133, il_134, il_135, il_136, il_137, il_138, il_139, il_140, il_141, il_142, il_143, il_144, il_145, il_146, il_147, il_148, il_149, il_150, il_151, il_152, il_153, il_154, il_155, il_156, il_157, il_158, il_159, il_160, il_161, il_162, il_163, il_164, il_165, il_166, il_167, il_168, il_169, il_170, il_171, il_172, il_173, il_174, il_175, il_176, il_177, il_178, il_179, il_180, il_181, il_182, il_183, il_184, il_185, il_186, il_187, il_188, il_189, il_190, il_191, il_192, il_193, il_194, il_195, il_196, il_197, il_198, il_199, il_200, il_201, il_202, il_203, il_204, il_205, il_206, il_207, il_208, il_209, il_210, il_211, il_212, il_213, il_214, il_215, il_216, il_217, il_218, il_219, il_220, il_221, il_222, il_223, il_224, il_225, il_226, il_227, il_228, il_229, il_230, il_231, il_232, il_233, il_234, il_235, il_236, il_237, il_238, il_239, il_240, il_241, il_242, il_243, il_244, il_245, il_246, il_247, il_248, il_249, il_250, il_251, il_252, il_253, il_254, il_255, il_400, il_480, il_1023, il_2880, il_3000, il_6000, il_m1, il_m8]
    rw [if_neg (show ¬ (16 : Int) < r by omega), ← ih n (r + 1) (by omega) (by omega) (by omega)]
    obtain ⟨q, rfl⟩ : ∃ z, r = z + 1 := ⟨r - 1, by omega⟩
    rfl
theorem X6_sumOfWeights (h : ShA hs a s) (k : SOK s) : f_X6_sumOfWeights a hs = some (ii (wsum s.wt 16)) := by
  unfold f_X6_sumOfWeights
  exact X6_sum_loop h k 16 FUEL 1 (by unfold FUEL; omega) rfl (Nat.le_refl _)
theorem ShA.put (h : ShA hs a s) {k : Nat} {v : Int} (hk : k = 2 ∨ (k = 3 ∧ (v = 0 ∨ v = 1))) : ∃ hs', (if k = 2 then pI hs a 6 2 (ii v) else pZ hs a 6 3 (ii v)) = some hs' ∧ ShA hs' a (s.1, s.2.1, (if k = 2 then v else s.sp), (if k = 3 then v else s.bl), s.2.2.2.2) ∧ Out hs hs' a 1 := by
  rcases hk with rfl | ⟨rfl, hv⟩
  · exact ⟨_, pI_of _ h.1 (Nat.le_of_ble_eq_true rfl), ⟨set_at h.1, h.2.1.out (Out.set _ _ _) (by omega), h.2.2.1.out (Out.set _ _ _) (by omega), h.2.2.2.1.out (Out.set _ _ _) (by omega), h.2.2.2.2.out (Out.set _ _ _) (by omega)⟩, Out.set _ _ _⟩
  · exact ⟨_, pZ_of h.1 (Nat.le_of_ble_eq_true rfl) hv, ⟨set_at h.1, h.2.1.out (Out.set _ _ _) (by omega), h.2.2.1.out (Out.set _ _ _) (by omega), h.2.2.2.1.out (Out.set _ _ _) (by omega), h.2.2.2.2.out (Out.set _ _ _) (by omega)⟩, Out.set _ _ _⟩
theorem X6_makeSpecies (h : ShA hs a s) (k : SOK s) {v : Int} (h0 : 1 ≤ v) (h1 : v ≤ 4) : ∃ hs', f_X6_makeSpecies a (ii v) hs = some hs' ∧ ShA hs' a (s.gv, (if v = s.sp then s.md else []), v, s.bl, s.st, s.wt) ∧ Out hs hs' a 7 := by
  have := k.spb
  unfold f_X6_makeSpecies
  simp (disch := omega) only [h.sp, ii_add, ii_sub, ii_mul, ii_neg, ii_div, ii_lt, ii_le, ii_eq, ob_some, il_0, il_1, il_2, il_3, il_4, il_5, il_6, il_7, il_8, il_9, il_10, il_11, il_12, il_13, il_14, il_15, il_16, il_17, il_18, il_19, il_20, il_21, il_22, il_23, il_24, il_25, il_26, il_27, il_28, il_29, il_30, il_31, il_32, il_33, il_34, il_35, il_36, il_37, il_38, il_39, il_40, il_41, il_42, il_43, il_44, il_45, il_46, il_47, il_48, il_49, il_50, il_51, il_52, il_53, il_54, il_55, il_56, il_57, il_58, il_59, il_60, il_61, il_62, il_63, il_64, il_65, il_66, il_67, il_68, il_69, il_70, il_71, il_72, il_73, il_74, il_75, il_76, il_77, il_78, il_79, il_80, il_81, il_82, il_83, il_84, il_85, il_86, il_87, il_88, il_89, il_90, il_91, il_92, il_93, il_94, il_95, il_96, il_97, il_98, il_99, il_100, il_101, il_102, il_103, il_104, il_105, il_106, il_107, il_108, il_109, il_110, il_111, il_112, il_113, il_114, il_115, il_116, il_117, il_118, il_119, il_120, il_121, il_122, il_123, il_124, il_125, il_126, il_127, il_128, il_129, il_130, il_131, il_132, il_133, il_134, il_135, il_136, il_137, il_138, il_139, il_140, il_141, il_142, il_143, il_144, il_145, il_146, il_147, il_148, il_149, il_150, il_151, il_152, il_153, il_154, il_155, il_156, il_157, il_158, il_159, il_160, il_161, il_162, il_163, il_164, il_165, il_166, il_167, il_168, il_169, il_170, il_171, il_172, il_173, il_174, il_175, il_176, il_177, il_178, il_179, il_180, il_181, il_182, il_183, il_184, il_185, il_186, il_187, il_188, il_189, il_190, il_191, il_192, il_193, il_194, il_195, il_196, il_197, il_198, il_199, il_200, il_201, il_202, il_203, il_204, il_205, il_206, il_207, il_208, il_209, il_210, il_211, il_212, il_213, il_214, il_215, il_216, il_217, il_218, il_219, il_220, il_221, il_222, il_223, il_224, il_225, il_226, il_227, il_228, il_229, il_230, il_231, il_232, il_233, il_234, il_235, il_236, il_237, il_238, il_239, il_240, il_241, il_242, il_243, il_244, il_245, il_246, il_247, il_248, il_249, il_250, il_251, il_252, il_253, il_254, il_255, il_400, il_480, il_1023, il_2880, il_3000, il_6000, il_m1, il_m8]
  by_cases c : v = s.sp
  · rw [if_pos c, if_pos c]
    exact ⟨hs, rfl, by rw [c]; exact h, Out.refl _ _ _⟩
  · rw [if_neg c, if_neg c]
    obtain ⟨hs1, e1, l1, o1⟩ := h.put (k := 2) (v := v) (Or.inl rfl)
    rw [if_pos rfl] at e1
    obtain ⟨hs2, e2, l2, o2⟩ := X2_clear l1.2.2.1
    refine ⟨hs2, ?_, ⟨o2.at l1.1 (by omega), l1.2.1.out o2 (by omega), l2, l1.2.2.2.1.out o2 (by omega), l1.2.2.2.2.out o2 (by omega)⟩, (o1.mono (by omega) (by omega)).trans (o2.mono (by omega) (by omega))⟩
    rw [e1, ob_some, l1.m, ob_some, l1.2.2.1.chk, ob_some, e2]
    rfl
theorem X6_makeBelow (h : ShA hs a s) {v : Int} (h0 : v = 0 ∨ v = 1) : ∃ hs', f_X6_makeBelow a (ii v) hs = some hs' ∧ ShA hs' a (s.gv, s.md, s.sp, v, s.st, s.wt) ∧ Out hs hs' a 7 := by
  obtain ⟨hs1, e1, l1, o1⟩ := h.put (k := 3) (v := v) (Or.inr ⟨rfl, h0⟩)
  rw [if_neg (by decide)] at e1
  exact ⟨hs1, by unfold f_X6_makeBelow; rw [e1]; rfl, l1, o1.mono (by omega) (by omega)⟩
theorem X6_makeSetting (h : ShA hs a s) (k : SOK s) {w v : Int} (h0 : 0 ≤ w) (h1 : w < 3) : ∃ hs', f_X6_makeSetting a (ii w) (ii v) hs = some hs' ∧ ShA hs' a (s.gv, s.md, s.sp, s.bl, s.st.set w.toNat v, s.wt) ∧ Out hs hs' a 7 := by
  have := k.1
  unfold f_X6_makeSetting
  simp (disch := omega) only [h.st, ii_add, ii_sub, ii_mul, ii_neg, ii_div, ii_lt, ii_le, ii_eq, ob_some, il_0, il_1, il_2, il_3, il_4, il_5, il_6, il_7, il_8, il_9, il_10, il_11, il_12, il_13, il_14, il_15, il_16, il_17, il_18, il_19, il_20, il_21, il_22, il_23, il_24, il_25, il_26, il_27, il_28, il_29, il_30, il_31, il_32, il_33, il_34, il_35, il_36, il_37, il_38, il_39, il_40, il_41, il_42, il_43, il_44, il_45, il_46, il_47, il_48, il_49, il_50, il_51, il_52, il_53, il_54, il_55, il_56, il_57, il_58, il_59, il_60, il_61, il_62, il_63, il_64, il_65, il_66, il_67, il_68, il_69, il_70, il_71, il_72, il_73, il_74, il_75, il_76, il_77, il_78, il_79, il_80, il_81, il_82, il_83, il_84, il_85, il_86, il_87, il_88, il_89, il_90, il_91, il_92, il_93, il_94, il_95, il_96, il_97, il_98, il_99, il_100, il_101, il_102, il_103, il_104, il_105, il_106, il_107, il_108, il_109, il_110, il_111, il_112, il_113, il_114, il_115, il_116, il_117, il_118, il_119, il_120, il_121, il_122, il_123, il_124, il_125, il_126, il_127, il_128, il_129, il_130, il_131, il_132, il_133, il_134, il_135, il_136, il_137, il_138, il_139, il_140, il_141, il_142, il_143, il_144, il_145, il_146, il_147, il_148, il_149, il_150, il_151, il_152, il_153, il_154, il_155, il_156, il_157, il_158, il_159, il_160, il_161, il_162, il_163, il_164, il_165, il_166, il_167, il_168, il_169, il_170, il_171, il_172, il_173, il_174, il_175, il_176, il_177, il_178, il_179, il_180, il_181, il_182, il_183, il_184, il_185, il_186, il_187, il_188, il_189, il_190, il_191, il_192, il_193, il_194, il_195, il_196, il_197, il_198, il_199, il_200, il_201, il_202, il_203, il_204, il_205, il_206, il_207, il_208, il_209, il_210, il_211, il_212, il_213, il_214, il_215, il_216, il_217, il_218, il_219, il_220, il_221, il_222, il_223, il_224, il_225, il_226, il_227, il_228, il_229, il_230, il_231, il_232, il_233, il_234, il_235, il_236, il_237, il_238, il_239, il_240, il_241, il_242, il_243, il_244, il_245, il_246, il_247, il_248, il_249, il_250, il_251, il_252, il_253, il_254, il_255, il_400, il_480, il_1023, il_2880, il_3000, il_6000, il_m1, il_m8]
  rw [if_neg (show ¬ w < 0 by omega), if_neg (show ¬ 3 ≤ w by omega)]
  obtain ⟨hs1, e1, l1, o1⟩ := h.2.2.2.1.put (z := w) v h0 (by omega) (by decide)
  exact ⟨hs1, by rw [e1]; rfl, ⟨o1.at h.1 (by omega), h.2.1.out o1 (by omega), h.2.2.1.out o1 (by omega), l1, h.2.2.2.2.out o1 (by omega)⟩, o1.mono (by omega) (by omega)⟩
theorem X6_makeWeight (h : ShA hs a s) (k : SOK s) {w v : Int} (h0 : 1 ≤ w) (h1 : w ≤ 16) : ∃ hs', f_X6_makeWeight a (ii w) (ii v) hs = some hs' ∧ ShA hs' a (s.gv, s.md, s.sp, s.bl, s.st, s.wt.set w.toNat v) ∧ Out hs hs' a 7 := by
  have := k.2.1
  unfold f_X6_makeWeight
  simp (disch := omega) only [h.wt, ii_add, ii_sub, ii_mul, ii_neg, ii_div, ii_lt, ii_le, ii_eq, ob_some, il_0, il_1, il_2, il_3, il_4, il_5, il_6, il_7, il_8, il_9, il_10, il_11, il_12, il_13, il_14, il_15, il_16, il_17, il_18, il_19, il_20, il_21, il_22, il_23, il_24, il_25, il_26, il_27, il_28, il_29, il_30, il_31, il_32, il_33, il_34, il_35, il_36, il_37, il_38, il_39, il_40, il_41, il_42, il_43, il_44, il_45, il_46, il_47, il_48, il_49, il_50, il_51, il_52, il_53, il_54, il_55, il_56, il_57, il_58, il_59, il_60, il_61, il_62, il_63, il_64, il_65, il_66, il_67, il_68, il_69, il_70, il_71, il_72, il_73, il_74, il_75, il_76, il_77, il_78, il_79, il_80, il_81, il_82, il_83, il_84, il_85, il_86, il_87, il_88, il_89, il_90, il_91, il_92, il_93, il_94, il_95, il_96, il_97, il_98, il_99, il_100, il_101, il_102, il_103, il_104, il_105, il_106, il_107, il_108, il_109, il_110, il_111, il_112, il_113, il_114, il_115, il_116, il_117, il_118, il_119, il_120, il_121, il_122, il_123, il_124, il_125, il_126, il_127, il_128, il_129, il_130, il_131, il_132, il_133, il_134, il_135, il_136, il_137, il_138, il_139, il_140, il_141, il_142, il_143, il_144, il_145, il_146, il_147, il_148, il_149, il_150, il_151, il_152, il_153, il_154, il_155, il_156, il_157, il_158, il_159, il_160, il_161, il_162, il_163, il_164, il_165, il_166, il_167, il_168, il_169, il_170, il_171, il_172, il_173, il_174, il_175, il_176, il_177, il_178, il_179, il_180, il_181, il_182, il_183, il_184, il_185, il_186, il_187, il_188, il_189, il_190, il_191, il_192, il_193, il_194, il_195, il_196, il_197, il_198, il_199, il_200, il_201, il_202, il_203, il_204, il_205, il_206, il_207, il_208, il_209, il_210, il_211, il_212, il_213, il_214, il_215, il_216, il_217, il_218, il_219, il_220, il_221, il_222, il_223, il_224, il_225, il_226, il_227, il_228, il_229, il_230, il_231, il_232, il_233, il_234, il_235, il_236, il_237, il_238, il_239, il_240, il_241, il_242, il_243, il_244, il_245, il_246, il_247, il_248, il_249, il_250, il_251, il_252, il_253, il_254, il_255, il_400, il_480, il_1023, il_2880, il_3000, il_6000, il_m1, il_m8]
  rw [if_neg (show ¬ w < 1 by omega), if_neg (show ¬ 16 < w by omega)]
  obtain ⟨hs1, e1, l1, o1⟩ := h.2.2.2.2.put (z := w) v (by omega) (by omega) (by decide)
  exact ⟨hs1, by rw [e1]; rfl, ⟨o1.at h.1 (by omega), h.2.1.out o1 (by omega), h.2.2.1.out o1 (by omega), h.2.2.2.1.out o1 (by omega), l1⟩, o1.mono (by omega) (by omega)⟩
end SHEET2
