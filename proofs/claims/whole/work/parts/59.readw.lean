/-! ===== the reader: weights ===== -/
/-- the name of a rule -/
def nm (r : Nat) : List Int := tx (23 + r)
theorem nm_tab : ∀ r : Fin 17, 1 ≤ r.1 → f_X8_nameOf (ii r.1) = some (SBn + (23 + r.1)) ∧ 4 ≤ (nm r.1).length ∧ (nm r.1).length ≤ 8 ∧ ∀ x ∈ nm r.1, 97 ≤ x ∧ x ≤ 122 := by decide +kernel
theorem X8_nameOf {r : Nat} (h1 : 1 ≤ r) (h2 : r ≤ 16) : f_X8_nameOf (ii r) = some (SBn + (23 + r)) := (nm_tab ⟨r, by omega⟩ h1).1
theorem nm_len {r : Nat} (h1 : 1 ≤ r) (h2 : r ≤ 16) : 4 ≤ (nm r).length ∧ (nm r).length ≤ 8 := ⟨(nm_tab ⟨r, by omega⟩ h1).2.1, (nm_tab ⟨r, by omega⟩ h1).2.2.1⟩
theorem nm_az {r : Nat} (h1 : 1 ≤ r) (h2 : r ≤ 16) : ∀ x ∈ nm r, 97 ≤ x ∧ x ≤ 122 := (nm_tab ⟨r, by omega⟩ h1).2.2.2
/-- the word w stands at p, from its sign k on, and no letter behind it -/
def hereW (b w : List Int) (p : Nat) : Prop := (∀ k, k < w.length → pat b ((p : Int) + k) = lg w k) ∧ ¬ (97 ≤ pat b ((p : Int) + w.length) ∧ pat b ((p : Int) + w.length) ≤ 122)
section READW
variable {a : Nat} {b : List Int}
theorem X4_here_loop {hs : AH} {ln w : List Int} {cnt : Int} {p i : Nat} (hi : i < 55) (kc : CH b) (h : RdA hs a b ln w cnt p) (hp : p ≤ 400) : ∀ (d n k : Nat), d < n → k + d = (tx i).length → (∀ j, j < k → pat b ((p : Int) + j) = lg (tx i) j) →
    (f_X4_isHere_b2 n a (SBn + i) (ii k) hs = some (ii 1) ∧ hereW b (tx i) p) ∨ (f_X4_isHere_b2 n a (SBn + i) (ii k) hs = some (ii 0) ∧ ¬ hereW b (tx i) p) := by
  have hle := str_le hi
  intro d
  induction d with
  | zero =>
    intro n k hn hk hj
    obtain ⟨n, rfl⟩ : ∃ z, n = z + 1 := ⟨n - 1, by omega⟩
    have bd := pat_bd kc ((p : Int) + (tx i).length)
    unfold f_X4_isHere_b2
    rw [str_chk hi, ob_some, str_len hi, ob_some]
    simp (disch := omega) only [h.src, h.pla, h.2.1.chk, X3_at h.2.1 kc, ii_add, ii_sub, ii_mul, ii_neg, ii_div, ii_lt, ii_le, ii_eq, ob_some, il_0, il_1, il_2, il_3, il_4, il_5, il_6, il_7, il_8, il_9, il_10, il_11, il_12, il_13, il_14, il_15, il_16, il_17, il_18, il_19, il_20, il_21, il_22, il_23, il_24, il_25, il_26, il_27, il_28, il_29, il_30, il_31, il_32, il_33, il_34, il_35, il_36, il_37, il_38, il_39, il_40, il_41, il_42, il_43, il_44, il_45, il_46, il_47, il_48, il_49, il_50, il_51, il_52, il_53, il_54, il_55, il_56, il_57, il_58, il_59, il_60, il_61, il_62, il_63, il_64, il_65, il_66, il_67, il_68, il_69, il_70, il_71, il_72, il_73, il_74, il_75, il_76, il_77, il_78, il_79, il_80, il_81, il_82, il_83, il_84, il_85, il_86, il_87, il_88, il_89, il_90, il_91, il_92, il_93, il_94, il_95, il_96, il_97, il_98, il_99, il_100, il_101, il_102, il_103, il_104, il_105, il_106, il_107, il_108, il_109, il_110, il_111, il_112, il_113, il_114, il_115, il_116, il_117, il_118, il_119, il_120, il_121, il_122, il_123, il_124, il_125, il_126, il_127, il_128, il_129, il_130, il_131, il_132, il_133, il_134, il_135, il_136, il_137, il_138, il_139, il_140, il_141, il_142, il_143, il_144, il_145, il_146, il_147, il_148, il_149, il_150, il_151, il_152, il_153, il_154, il_155, il_156, il_157, il_158, il_159, il_160, il_161, il_162, il_163, il_164, il_165, il_166, il_167, il_168, il_169, il_170, il_171, il_172, il_173, il_174, il_175, il_176, il_177, il_178, il_179, il_180, il_181, il_182, il_183, il_184, il_185, il_186, il_187, il_188, il_189, il_190, il_191, il_192, il_193, il_194, il_195, il_196, il_197, il_198, il_199, il_200, il_201, il_202, il_203, il_204, il_205, il_206, il_207, il_208, il_209, il_210, il_211, il_212, il_213, il_214, il_215, il_216, il_217, il_218, il_219, il_220, il_221, il_222, il_223, il_224, il_225, il_226, il_227, il_228, il_229, il_230, il_231, il_232, il_233, il_234, il_235, il_236, il_237, il_238, il_239, il_240, il_241, il_242, il_243, il_244, il_245, il_246, il_247, il_248, il_249, il_250, il_251, il_252, il_253, il_254, il_255, il_400, il_480, il_1023, il_2880, il_3000, il_6000, il_m1, il_m8]
    rw [if_pos (show ((tx i).length : Int) ≤ k by omega)]
    have hj' : ∀ j, j < (tx i).length → pat b ((p : Int) + j) = lg (tx i) j := fun j h => hj j (by omega)
    by_cases c : pat b ((p : Int) + (tx i).length) < 97
    · rw [if_pos c]; exact Or.inl ⟨rfl, hj', by omega⟩
    · rw [if_neg c]
      by_cases d : pat b ((p : Int) + (tx i).length) ≤ 122
      · rw [if_pos d]; exact Or.inr ⟨rfl, fun z => z.2 ⟨by omega, d⟩⟩
      · rw [if_neg d]; exact Or.inl ⟨rfl, hj', by omega⟩
  | succ d ih =>
    intro n k hn hk hj
    obtain ⟨n, rfl⟩ : ∃ z, n = z + 1 := ⟨n - 1, by omega⟩
    have bd := pat_bd kc ((p : Int) + k)
    have b2 : 32 ≤ lg (tx i) k ∧ lg (tx i) k ≤ 126 := tx_tab ⟨i, hi⟩ _ (lg_mem (l := tx i) (by omega))
    unfold f_X4_isHere_b2
    rw [str_chk hi, ob_some, str_len hi, ob_some]
    simp (disch := omega) only [h.src, h.pla, h.2.1.chk, X3_at h.2.1 kc, str_chr hi, ii_add, ii_sub, ii_mul, ii_neg, ii_div, ii_lt, ii_le, ii_eq, ob_some, il_0, il_1, il_2, il_3, il_4, il_5, il_6, il_7, il_8, il_9, il_10, il_11, il_12, il_13, il_14, il_15, il_16, il_17, il_18, il_19, il_20, il_21, il_22, il_23, il_24, il_25, il_26, il_27, il_28, il_29, il_30, il_31, il_32, il_33, il_34, il_35, il_36, il_37, il_38, il_39, il_40, il_41, il_42, il_43, il_44, il_45, il_46, il_47, il_48, il_49, il_50, il_51, il_52, il_53, il_54, il_55, il_56, il_57, il_58, il_59, il_60, il_61, il_62, il_63, il_64, il_65, il_66, il_67, il_68, il_69, il_70, il_71, il_72, il_73, il_74, il_75, il_76, il_77, il_78, il_79, il_80, il_81, il_82, il_83, il_84, il_85, il_86, il_87, il_88, il_89, il_90, il_91, il_92, il_93, il_94, il_95, il_96, il_97, il_98, il_99, il_100, il_101, il_102, il_103, il_104, il_105, il_106, il_107, il_108, il_109, il_110, il_111, il_112, il_113, il_114, il_115, il_116, il_117, il_118, il_119, il_120, il_121, il_122, il_123, il_124, il_125, il_126, il_127, il_128, il_129, il_130, il_131, il_132, il_133, il_134, il_135, il_136, il_137, il_138, il_139, il_140, il_141, il_142, il_143, il_144, il_145, il_146, il_147, il_148, il_149, il_150, il_151, il_152, il_153, il_154, il_155, il_156, il_157, il_158, il_159, il_160, il_161, il_162, il_163, il_164, il_165, il_166, il_167, il_168, il_169, il_170, il_171, il_172, il_173, il_174, il_175, il_176, il_177, il_178, il_179, il_180, il_181, il_182, il_183, il_184, il_185, il_186, il_187, il_188, il_189, il_190, il_191, il_192, il_193, il_194, il_195, il_196, il_197, il_198, il_199, il_200, il_201, il_202, il_203, il_204, il_205, il_206, il_207, il_208, il_209, il_210, il_211, il_212, il_213, il_214, il_215, il_216, il_217, il_218, il_219, il_220, il_221, il_222, il_223, il_224, il_225, il_226, il_227, il_228, il_229, il_230, il_231, il_232, il_233, il_234, il_235, il_236, il_237, il_238, il_239, il_240, il_241, il_242, il_243, il_244, il_245, il_246, il_247, il_248, il_249, il_250, il_251, il_252, il_253, il_254, il_255, il_400, il_480, il_1023, il_2880, il_3000, il_6000, il_m1, il_m8]
    rw [if_neg (show ¬ ((tx i).length : Int) ≤ k by omega), Int.toNat_natCast]
    simp (disch := omega) only [ii_add, ii_sub, ii_mul, ii_neg, ii_div, ii_lt, ii_le, ii_eq, ob_some, il_0, il_1, il_2, il_3, il_4, il_5, il_6, il_7, il_8, il_9, il_10, il_11, il_12, il_13, il_14, il_15, il_16, il_17, il_18, il_19, il_20, il_21, il_22, il_23, il_24, il_25, il_26, il_27, il_28, il_29, il_30, il_31, il_32, il_33, il_34, il_35, il_36, il_37, il_38, il_39, il_40, il_41, il_42, il_43, il_44, il_45, il_46, il_47, il_48, il_49, il_50, il_51, il_52, il_53, il_54, il_55, il_56, il_57, il_58, il_59, il_60, il_61, il_62, il_63, il_64, il_65, il_66, il_67, il_68, il_69, il_70, il_71, il_72, il_73, il_74, il_75, il_76, il_77, il_78, il_79, il_80, il_81, il_82, il_83, il_84, il_85, il_86, il_87, il_88, il_89, il_90, il_91, il_92, il_93, il_94, il_95, il_96, il_97, il_98, il_99, il_100, il_101, il_102, il_103, il_104, il_105, il_106, il_107, il_108, il_109, il_110, il_111, il_112, il_113, il_114, il_115, il_116, il_117, il_118, il_119, il_120, il_121, il_122, il_123, il_124, il_125, il_126, il_127, il_128, il_129, il_130, il_131, il_132, il_133, il_134, il_135, il_136, il_137, il_138, il_139, il_140, il_141, il_142, il_143, il_144, il_145, il_146, il_147, il_148, il_149, il_150, il_151, il_152, il_153, il_154, il_155, il_156, il_157, il_158, il_159, il_160, il_161, il_162, il_163, il_164, il_165, il_166, il_167, il_168, il_169, il_170, il_171, il_172, il_173, il_174, il_175, il_176, il_177, il_178, il_179, il_180, il_181, il_182, il_183, il_184, il_185, il_186, il_187, il_188, il_189, il_190, il_191, il_192, il_193, il_194, il_195, il_196, il_197, il_198, il_199, il_200, il_201, il_202, il_203, il_204, il_205, il_206, il_207, il_208, il_209, il_210, il_211, il_212, il_213, il_214, il_215, il_216, il_217, il_218, il_219, il_220, il_221, il_222, il_223, il_224, il_225, il_226, il_227, il_228, il_229, il_230, il_231, il_232, il_233, il_234, il_235, il_236, il_237, il_238, il_239, il_240, il_241, il_242, il_243, il_244, il_245, il_246, il_247, il_248, il_249, il_250, il_251, il_252, il_253, il_254, il_255, il_400, il_480, il_1023, il_2880, il_3000, il_6000, il_m1, il_m8]
    by_cases c : pat b ((p : Int) + k) = lg (tx i) k
    · rw [if_pos c]
      exact ih n (k + 1) (by omega) (by omega) (fun j h => by
        by_cases e : j = k
        · rw [e]; exact c
        · exact hj j (by omega))
    · rw [if_neg c]
      exact Or.inr ⟨rfl, fun z => c (z.1 k (by omega))⟩
theorem X4_isHere {hs : AH} {ln w : List Int} {cnt : Int} {p i : Nat} (hi : i < 55) (kc : CH b) (h : RdA hs a b ln w cnt p) (hp : p ≤ 400) : (f_X4_isHere a (SBn + i) hs = some (ii 1) ∧ hereW b (tx i) p) ∨ (f_X4_isHere a (SBn + i) hs = some (ii 0) ∧ ¬ hereW b (tx i) p) := by
  have hle := str_le hi
  unfold f_X4_isHere
  exact X4_here_loop hi kc h hp (tx i).length FUEL 0 (by unfold FUEL; omega) (by omega) (fun j h => by omega)
/-- which rule's name stands at p: the first one; none: 0 -/
def isRule (b : List Int) (p r : Nat) : Prop := if r = 0 then ∀ k, 1 ≤ k → k ≤ 16 → ¬ hereW b (nm k) p else 1 ≤ r ∧ r ≤ 16 ∧ hereW b (nm r) p ∧ ∀ k, 1 ≤ k → k < r → ¬ hereW b (nm k) p
theorem X4_rule_loop {hs : AH} {ln w : List Int} {cnt : Int} {p : Nat} (kc : CH b) (h : RdA hs a b ln w cnt p) (hp : p ≤ 400) : ∀ (d n r : Nat), d < n → r + d = 17 → 1 ≤ r → (∀ k, 1 ≤ k → k < r → ¬ hereW b (nm k) p) →
    ∃ q, f_X4_ruleNamedHere_b2 n a (ii r) hs = some (ii (q : Nat)) ∧ isRule b p q := by
  intro d
  induction d with
  | zero =>
    intro n r hn hr h1 hk
    obtain ⟨n, rfl⟩ : ∃ z, n = z + 1 := ⟨n - 1, by omega⟩
    obtain rfl : r = 17 := by omega
    refine ⟨0, ?_, fun k k1 k2 => hk k k1 (by omega)⟩
    unfold f_X4_ruleNamedHere_b2
    simp (disch := omega) only [ii_add, ii_sub, ii_mul, ii_neg, ii_div, ii_lt, ii_le, ii_eq, ob_some, il_0, il_1, il_2, il_3, il_4, il_5, il_6, il_7, il_8, il_9, il_10, il_11, il_12, il_13, il_14, il_15, il_16, il_17, il_18, il_19, il_20, il_21, il_22, il_23, il_24, il_25, il_26, il_27, il_28, il_29, il_30, il_31, il_32, il_33, il_34, il_35, il_36, il_37, il_38, il_39, il_40, il_41, il_42, il_43, il_44, il_45, il_46, il_47, il_48, il_49, il_50, il_51, il_52, il_53, il_54, il_55, il_56, il_57, il_58, il_59, il_60, il_61, il_62, il_63, il_64, il_65, il_66, il_67, il_68, il_69, il_70, il_71, il_72, il_73, il_74, il_75, il_76, il_77, il_78, il_79, il_80, il_81, il_82, il_83, il_84, il_85, il_86, il_87, il_88, il_89, il_90, il_91, il_92, il_93, il_94, il_95, il_96, il_97, il_98, il_99, il_100, il_101, il_102, il_103, il_104, il_105, il_106, il_107, il_108, il_109, il_110, il_111, il_112, il_113, il_114, il_115, il_116, il_117, il_118, il_119, il_120, il_121, il_122, il_123, il_124, il_125, il_126, il_127, il_128, il_129, il_130, il_131, il_132, il_133, il_134, il_135, il_136, il_137, il_138, il_139, il_140, il_141, il_142, il_143, il_144, il_145, il_146, il_147, il_148, il_149, il_150, il_151, il_152, il_153, il_154, il_155, il_156, il_157, il_158, il_159, il_160, il_161, il_162, il_163, il_164, il_165, il_166, il_167, il_168, il_169, il_170, il_171, il_172, il_173, il_174, il_175, il_176, il_177, il_178, il_179, il_180, il_181, il_182, il_183, il_184, il_185, il_186, il_187, il_188, il_189, il_190, il_191, il_192, il_193, il_194, il_195, il_196, il_197, il_198, il_199, il_200, il_201, il_202, il_203, il_204, il_205, il_206, il_207, il_208, il_209, il_210, il_211, il_212, il_213, il_214, il_215, il_216, il_217, il_218, il_219, il_220, il_221, il_222, il_223, il_224, il_225, il_226, il_227, il_228, il_229, il_230, il_231, il_232, il_233, il_234, il_235, il_236, il_237, il_238, il_239, il_240, il_241, il_242, il_243, il_244, il_245, il_246, il_247, il_248, il_249, il_250, il_251, il_252, il_253, il_254, il_255, il_400, il_480, il_1023, il_2880, il_3000, il_6000, il_m1, il_m8]
    rfl
  | succ d ih =>
    intro n r hn hr h1 hk
    obtain ⟨n, rfl⟩ : ∃ z, n = z + 1 := ⟨n - 1, by omega⟩
    unfold f_X4_ruleNamedHere_b2
    rw [X8_nameOf h1 (by omega), ob_some, h.chk, ob_some]
    simp (disch := omega) only [ii_add, ii_sub, ii_mul, ii_neg, ii_div, ii_lt, ii_le, ii_eq, ob_some, il_0, il_1, il_2, il_3, il_4, il_5, il_6, il_7, il_8, il_9, il_10, il_11, il_12, il_13, il_14, il_15, il_16, il_17, il_18, il_19, il_20, il_21, il_22, il_23, il_24, il_25, il_26, il_27, il_28, il_29, il_30, il_31, il_32, il_33, il_34, il_35, il_36, il_37, il_38, il_39, il_40, il_41, il_42, il_43, il_44, il_45, il_46, il_47, il_48, il_49, il_50, il_51, il_52, il_53, il_54, il_55, il_56, il_57, il_58, il_59, il_60, il_61, il_62, il_63, il_64, il_65, il_66, il_67, il_68, il_69, il_70, il_71, il_72, il_73, il_74, il_75, il_76, il_77, il_78, il_79, il_80, il_81, il_82, il_83, il_84, il_85, il_86, il_87, il_88, il_89, il_90, il_91, il_92, il_93, il_94, il_95, il_96, il_97, il_98, il_99, il_100, il_101, il_102, il_103, il_104, il_105, il_106, il_107, il_108, il_109, il_110, il_111, il_112, il_113, il_114, il_115, il_116, il_117, il_118, il_119, il_120, il_121, il_122, il_123, il_124, il_125, il_126, il_127, il_128, il_129, il_130, il_131, il_132, il_133, il_134, il_135, il_136, il_137, il_138, il_139, il_140, il_141, il_142, il_143, il_144, il_145, il_146, il_147, il_148, il_149, il_150, il_151, il_152, il_153, il_154, il_155, il_156, il_157, il_158, il_159, il_160, il_161, il_162, il_163, il_164, il_165, il_166, il_167, il_168, il_169, il_170, il_171, il_172, il_173, il_174, il_175, il_176, il_177, il_178, il_179, il_180, il_181, il_182, il_183, il_184, il_185, il_186, il_187, il_188, il_189, il_190, il_191, il_192, il_193, il_194, il_195, il_196, il_197, il_198, il_199, il_200, il_201, il_202, il_203, il_204, il_205, il_206, il_207, il_208, il_209, il_210, il_211, il_212, il_213, il_214, il_215, il_216, il_217, il_218, il_219, il_220, il_221, il_222, il_223, il_224, il_225, il_226, il_227, il_228, il_229, il_230, il_231, il_232, il_233, il_234, il_235, il_236, il_237, il_238, il_239, il_240, il_241, il_242, il_243, il_244, il_245, il_246, il_247, il_248, il_249, il_250, il_251, il_252, il_253, il_254, il_255, il_400, il_480, il_1023, il_2880, il_3000, il_6000, il_m1, il_m8]
    rw [if_neg (show ¬ (16 : Int) < r by omega)]
    rcases X4_isHere (i := 23 + r) (by omega) kc h hp with ⟨e, q⟩ | ⟨e, q⟩
    · rw [e, ob_some, if_neg (show ¬ ii 1 = ii 0 by decide +kernel)]
      refine ⟨r, rfl, ?_⟩
      unfold isRule
      rw [if_neg (by omega)]
      exact ⟨h1, by omega, q, hk⟩
    · rw [e, ob_some, if_pos rfl]
      exact ih n (r + 1) (by omega) (by omega) (by omega) (fun k k1 k2 => by
        by_cases e : k = r
        · rw [e]; exact q
        · exact hk k k1 (by omega))
theorem X4_ruleNamedHere {hs : AH} {ln w : List Int} {cnt : Int} {p : Nat} (kc : CH b) (h : RdA hs a b ln w cnt p) (hp : p ≤ 400) : ∃ q, f_X4_ruleNamedHere a hs = some (ii (q : Nat)) ∧ isRule b p q := by
  unfold f_X4_ruleNamedHere
  exact X4_rule_loop kc h hp 16 FUEL 1 (by unfold FUEL; omega) rfl (Nat.le_refl _) (fun k k1 k2 => by omega)
/-- a weight read at p: rule r with the digit v, up to the place q; or an error at q -/
def wtOne (b : List Int) (p : Nat) (o : Option (Nat × Int)) (q : Nat) : Prop := ∃ r, isRule b p r ∧
  (if r = 0 then o = none ∧ q = p
   else if ¬ pat b (p + (nm r).length : Nat) = 61 then o = none ∧ q = p + (nm r).length
   else if pat b (p + (nm r).length + 1 : Nat) < 48 ∨ 57 < pat b (p + (nm r).length + 1 : Nat) then o = none ∧ q = p + (nm r).length + 1
   else o = some (r, pat b (p + (nm r).length + 1 : Nat) - 48) ∧ q = p + (nm r).length + 2)
theorem X4_readWeight {hs : AH} {ln w : List Int} {cnt : Int} {p : Nat} (kc : CH b) (h : RdA hs a b ln w cnt p) (hp : p ≤ 200) (hw : w.length = 17) : ∃ hs' o q, wtOne b p o q ∧ Out hs hs' a 6 ∧
    f_X4_readWeight a hs = some (match o with | some _ => ii 1 | none => ii 0, hs') ∧ RdA hs' a b ln (match o with | some x => w.set x.1 x.2 | none => w) (match o with | some _ => cnt + 1 | none => cnt) q := by
  obtain ⟨r, er, hr⟩ := X4_ruleNamedHere kc h (by omega)
  unfold f_X4_readWeight
  rw [h.chk, ob_some, er, ob_some]
  by_cases h0 : r = 0
  · subst h0
    rw [if_pos (show ii ((0 : Nat) : Int) = 0 from rfl)]
    exact ⟨hs, none, p, ⟨0, hr, by rw [if_pos rfl]; exact ⟨rfl, rfl⟩⟩, Out.refl _ _ _, rfl, h⟩
  · have hr' := hr
    unfold isRule at hr'
    rw [if_neg h0] at hr'
    obtain ⟨r1, r2, -, -⟩ := hr'
    have hn := nm_len r1 r2
    simp (disch := omega) only [h.pla, ii_add, ii_sub, ii_mul, ii_neg, ii_div, ii_lt, ii_le, ii_eq, ob_some, il_0, il_1, il_2, il_3, il_4, il_5, il_6, il_7, il_8, il_9, il_10, il_11, il_12, il_13, il_14, il_15, il_16, il_17, il_18, il_19, il_20, il_21, il_22, il_23, il_24, il_25, il_26, il_27, il_28, il_29, il_30, il_31, il_32, il_33, il_34, il_35, il_36, il_37, il_38, il_39, il_40, il_41, il_42, il_43, il_44, il_45, il_46, il_47, il_48, il_49, il_50, il_51, il_52, il_53, il_54, il_55, il_56, il_57, il_58, il_59, il_60, il_61, il_62, il_63, il_64, il_65, il_66, il_67, il_68, il_69, il_70, il_71, il_72, il_73, il_74, il_75, il_76, il_77, il_78, il_79, il_80, il_81, il_82, il_83, il_84, il_85, il_86, il_87, il_88, il_89, il_90, il_91, il_92, il_93, il_94, il_95, il_96, il_97, il_98, il_99, il_100, il_101, il_102, il_103, il_104, il_105, il_106, il_107, il_108, il_109, il_110, il_111, il_112, il_113, il_114, il_115, il_116, il_117, il_118, il_119, il_120, il_121, il_122, il_123, il_124, il_125, il_126, il_127, il_128, il_129, il_130, il_131, il_132, il_133, il_134, il_135, il_136, il_137, il_138, il_139, il_140, il_141, il_142, il_143, il_144, il_145, il_146, il_147, il_148, il_149, il_150, il_151, il_152, il_153, il_154, il_155, il_156, il_157, il_158, il_159, il_160, il_161, il_162, il_163, il_164, il_165, il_166, il_167, il_168, il_169, il_170, il_171, il_172, il_173, il_174, il_175, il_176, il_177, il_178, il_179, il_180, il_181, il_182, il_183, il_184, il_185, il_186, il_187, il_188, il_189, il_190, il_191, il_192, il_193, il_194, il_195, il_196, il_197, il_198, il_199, il_200, il_201, il_202, il_203, il_204, il_205, il_206, il_207, il_208, il_209, il_210, il_211, il_212, il_213, il_214, il_215, il_216, il_217, il_218, il_219, il_220, il_221, il_222, il_223, il_224, il_225, il_226, il_227, il_228, il_229, il_230, il_231, il_232, il_233, il_234, il_235, il_236, il_237, il_238, il_239, il_240, il_241, il_242, il_243, il_244, il_245, il_246, il_247, il_248, il_249, il_250, il_251, il_252, il_253, il_254, il_255, il_400, il_480, il_1023, il_2880, il_3000, il_6000, il_m1, il_m8]
    rw [if_neg (show ¬ (r : Int) = 0 by omega), X8_nameOf r1 r2, ob_some, str_chk (by omega), ob_some, str_len (by omega), ob_some, ii_add]
    obtain ⟨hs1, e1, h1, o1⟩ := h.place ((p + (nm r).length : Nat) : Int)
    have b1 := pat_bd kc ((p + (nm r).length : Nat) : Int)
    have b2 := pat_bd kc ((p + (nm r).length + 1 : Nat) : Int)
    rw [show (p : Int) + ((tx (23 + r)).length : Nat) = ((p + (nm r).length : Nat) : Int) by unfold nm; omega, e1, ob_some]
    simp (disch := omega) only [h1.src, h1.pla, h1.2.1.chk, X3_at h1.2.1 kc, ii_add, ii_sub, ii_mul, ii_neg, ii_div, ii_lt, ii_le, ii_eq, ob_some, il_0, il_1, il_2, il_3, il_4, il_5, il_6, il_7, il_8, il_9, il_10, il_11, il_12, il_13, il_14, il_15, il_16, il_17, il_18, il_19, il_20, il_21, il_22, il_23, il_24, il_25, il_26, il_27, il_28, il_29, il_30, il_31, il_32, il_33, il_34, il_35, il_36, il_37, il_38, il_39, il_40, il_41, il_42, il_43, il_44, il_45, il_46, il_47, il_48, il_49, il_50, il_51, il_52, il_53, il_54, il_55, il_56, il_57, il_58, il_59, il_60, il_61, il_62, il_63, il_64, il_65, il_66, il_67, il_68, il_69, il_70, il_71, il_72, il_73, il_74, il_75, il_76, il_77, il_78, il_79, il_80, il_81, il_82, il_83, il_84, il_85, il_86, il_87, il_88, il_89, il_90, il_91, il_92, il_93, il_94, il_95, il_96, il_97, il_98, il_99, il_100, il_101, il_102, il_103, il_104, il_105, il_106, il_107, il_108, il_109, il_110, il_111, il_112, il_113, il_114, il_115, il_116, il_117, il_118, il_119, il_120, il_121, il_122, il_123, il_124, il_125, il_126, il_127, il_128, il_129, il_130, il_131, il_132, il_133, il_134, il_135, il_136, il_137, il_138, il_139, il_140, il_141, il_142, il_143, il_144, il_145, il_146, il_147, il_148, il_149, il_150, il_151, il_152, il_153, il_154, il_155, il_156, il_157, il_158, il_159, il_160, il_161, il_162, il_163, il_164, il_165, il_166, il_167, il_168, il_169, il_170, il_171, il_172, il_173, il_174, il_175, il_176, il_177, il_178, il_179, il_180, il_181, il_182, il_183, il_184, il_185, il_186, il_187, il_188, il_189, il_190, il_191, il_192, il_193, il_194, il_195, il_196, il_197, il_198, il_199, il_200, il_201, il_202, il_203, il_204, il_205, il_206, il_207, il_208, il_209, il_210, il_211, il_212, il_213, il_214, il_215, il_216, il_217, il_218, il_219, il_220, il_221, il_222, il_223, il_224, il_225, il_226, il_227, il_228, il_229, il_230, il_231, il_232, il_233, il_234, il_235, il_236, il_237, il_238, il_239, il_240, il_241, il_242, il_243, il_244, il_245, il_246, il_247, il_248, il_249, il_250, il_251, il_252, il_253, il_254, il_255, il_400, il_480, il_1023, il_2880, il_3000, il_6000, il_m1, il_m8]
    by_cases c1 : pat b (p + (nm r).length : Nat) = 61
    · rw [if_pos c1]
      obtain ⟨hs2, e2, h2, o2⟩ := h1.place ((p + (nm r).length + 1 : Nat) : Int)
      rw [show ((p + (nm r).length : Nat) : Int) + 1 = ((p + (nm r).length + 1 : Nat) : Int) by omega, e2, ob_some]
      simp (disch := omega) only [h2.src, h2.pla, h2.2.1.chk, X3_at h2.2.1 kc, ii_add, ii_sub, ii_mul, ii_neg, ii_div, ii_lt, ii_le, ii_eq, ob_some, il_0, il_1, il_2, il_3, il_4, il_5, il_6, il_7, il_8, il_9, il_10, il_11, il_12, il_13, il_14, il_15, il_16, il_17, il_18, il_19, il_20, il_21, il_22, il_23, il_24, il_25, il_26, il_27, il_28, il_29, il_30, il_31, il_32, il_33, il_34, il_35, il_36, il_37, il_38, il_39, il_40, il_41, il_42, il_43, il_44, il_45, il_46, il_47, il_48, il_49, il_50, il_51, il_52, il_53, il_54, il_55, il_56, il_57, il_58, il_59, il_60, il_61, il_62, il_63, il_64, il_65, il_66, il_67, il_68, il_69, il_70, il_71, il_72, il_73, il_74, il_75, il_76, il_77, il_78, il_79, il_80, il_81, il_82, il_83, il_84, il_85, il_86, il_87, il_88, il_89, il_90, il_91, il_92, il_93, il_94, il_95, il_96, il_97, il_98, il_99, il_100, il_101, il_102, il_103, il_104, il_105, il_106, il_107, il_108, il_109, il_110, il_111, il_112, il_113, il_114, il_115, il_116, il_117, il_118, il_119, il_120, il_121, il_122, il_123, il_124, il_125, il_126, il_127, il_128, il_129, il_130, il_131, il_132, il_133, il_134, il_135, il_136, il_137, il_138, il_139, il_140, il_141, il_142, il_143, il_144, il_145, il_146, il_147, il_148, il_149, il_150, il_151, il_152, il_153, il_154, il_155, il_156, il_157, il_158, il_159, il_160, il_161, il_162, il_163, il_164, il_165, il_166, il_167, il_168, il_169, il_170, il_171, il_172, il_173, il_174, il_175, il_176, il_177, il_178, il_179, il_180, il_181, il_182, il_183, il_184, il_185, il_186, il_187, il_188, il_189, il_190, il_191, il_192, il_193, il_194, il_195, il_196, il_197, il_198, il_199, il_200, il_201, il_202, il_203, il_204, il_205, il_206, il_207, il_208, il_209, il_210, il_211, il_212, il_213, il_214, il_215, il_216, il_217, il_218, il_219, il_220, il_221, il_222, il_223, il_224, il_225, il_226, il_227, il_228, il_229, il_230, il_231, il_232, il_233, il_234, il_235, il_236, il_237, il_238, il_239, il_240, il_241, il_242, il_243, il_244, il_245, il_246, il_247, il_248, il_249, il_250, il_251, il_252, il_253, il_254, il_255, il_400, il_480, il_1023, il_2880, il_3000, il_6000, il_m1, il_m8]
      by_cases c2 : pat b (p + (nm r).length + 1 : Nat) - 48 < 0
      · rw [if_pos c2]
        exact ⟨hs2, none, _, ⟨r, hr, by rw [if_neg h0, if_neg (fun z => z c1), if_pos (Or.inl (by omega))]; exact ⟨rfl, rfl⟩⟩, o1.trans o2, rfl, h2⟩
      · rw [if_neg c2]
        by_cases c3 : pat b (p + (nm r).length + 1 : Nat) - 48 ≤ 9
        · rw [if_pos c3]
          obtain ⟨hs3, e3, h3, o3⟩ := h2.place ((p + (nm r).length + 2 : Nat) : Int)
          rw [show ((p + (nm r).length + 1 : Nat) : Int) + 1 = ((p + (nm r).length + 2 : Nat) : Int) by omega, e3, ob_some, h3.wei, ob_some]
          obtain ⟨hs4, e4, l4, o4⟩ := h3.2.2.2.put (z := r) (pat b (p + (nm r).length + 1 : Nat) - 48) (by omega) (by omega) (by decide)
          rw [Int.toNat_natCast] at l4
          have a4 := o4.at h3.1 (by omega)
          obtain ⟨hs5, e5, a5, o5⟩ := pI_x (k := 3) (ii (cnt + 1)) a4 (Nat.le_of_ble_eq_true rfl)
          rw [e4, ob_some, gI_of (x := ii cnt) a4 rfl, ob_some, ii_add, e5, ob_some]
          refine ⟨hs5, some (r, _), _, ⟨r, hr, by rw [if_neg h0, if_neg (fun z => z c1), if_neg (by omega)]; exact ⟨rfl, rfl⟩⟩, o1.trans (o2.trans (o3.trans ((o4.mono (by omega) (by omega)).trans (o5.mono (by omega) (by omega))))), rfl, a5, (h3.2.1.out o4 (by omega)).out o5 (by omega), (h3.2.2.1.out o4 (by omega)).out o5 (by omega), l4.out o5 (by omega)⟩
        · rw [if_neg c3]
          exact ⟨hs2, none, _, ⟨r, hr, by rw [if_neg h0, if_neg (fun z => z c1), if_pos (Or.inr (by omega))]; exact ⟨rfl, rfl⟩⟩, o1.trans o2, rfl, h2⟩
    · rw [if_neg c1]
      exact ⟨hs1, none, _, ⟨r, hr, by rw [if_neg h0, if_pos c1]; exact ⟨rfl, rfl⟩⟩, o1, rfl, h1⟩
/-- weights read from p on into w -/
def wtMore (b : List Int) : Nat → List Int → Int → Nat → Option (List Int × Int) → Nat → Prop
  | 0, _, _, _, _, _ => False
  | f + 1, w, cnt, p, o, q => ∃ o1 q1, wtOne b p o1 q1 ∧ (match o1 with
    | none => o = none ∧ q = q1
    | some x => if q1 = b.length then o = some (w.set x.1 x.2, cnt + 1) ∧ q = q1 else if pat b q1 = 44 then wtMore b f (w.set x.1 x.2) (cnt + 1) (q1 + 1) o q else o = none ∧ q = q1)
theorem isRule_17 {p r : Nat} (h : isRule b p r) : r ≤ 16 := by
  unfold isRule at h
  by_cases c : r = 0
  · omega
  · rw [if_neg c] at h; exact h.2.1
theorem wtOne_some {p : Nat} {x : Nat × Int} {q : Nat} (h : wtOne b p (some x) q) : 1 ≤ x.1 ∧ x.1 ≤ 16 ∧ 0 ≤ x.2 ∧ x.2 ≤ 9 ∧ p + 6 ≤ q ∧ q ≤ b.length := by
  obtain ⟨r, hr, h⟩ := h
  have h17 := isRule_17 hr
  by_cases c : r = 0
  · rw [if_pos c] at h; cases h.1
  · rw [if_neg c] at h
    have hn := nm_len (r := r) (by omega) h17
    by_cases c1 : ¬ pat b (p + (nm r).length : Nat) = 61
    · rw [if_pos c1] at h; cases h.1
    · rw [if_neg c1] at h
      by_cases c2 : pat b (p + (nm r).length + 1 : Nat) < 48 ∨ 57 < pat b (p + (nm r).length + 1 : Nat)
      · rw [if_pos c2] at h; cases h.1
      · rw [if_neg c2] at h
        have hin := pat_in (b := b) (z := ((p + (nm r).length + 1 : Nat) : Int)) (by omega)
        cases h.1
        dsimp only
        omega
theorem X4_weights_loop (kc : CH b) : ∀ (f n i : Nat) (hs : AH) (ln w : List Int) (cnt : Int) (p : Nat), b.length - p < f → f ≤ n → 7 * i ≤ p → p ≤ b.length → w.length = 17 → RdA hs a b ln w cnt p →
    ∃ hs' o q w' c', wtMore b f w cnt p o q ∧ Out hs hs' a 6 ∧ f_X4_readWeights_b33 n a (ii i) hs = some (ii (match o with | some _ => -1 | none => (q : Int)), hs') ∧ RdA hs' a b ln w' c' q ∧ w'.length = 17 ∧ ∀ x, o = some x → w' = x.1 ∧ c' = x.2 := by
  intro f
  induction f with
  | zero => intro n i hs ln w cnt p hf; omega
  | succ f ih =>
    intro n i hs ln w cnt p hf hn hi hp hw h
    obtain ⟨n, rfl⟩ : ∃ z, n = z + 1 := ⟨n - 1, by omega⟩
    have hb := h.2.1.le
    unfold f_X4_readWeights_b33
    simp (disch := omega) only [h.chk, ii_add, ii_sub, ii_mul, ii_neg, ii_div, ii_lt, ii_le, ii_eq, ob_some, il_0, il_1, il_2, il_3, il_4, il_5, il_6, il_7, il_8, il_9, il_10, il_11, il_12, il_13, il_14, il_15, il_16, il_17, il_18, il_19, il_20, il_21, il_22, il_23, il_24, il_25, il_26, il_27, il_28, il_29, il_30, il_31, il_32, il_33, il_34, il_35, il_36, il_37, il_38, il_39, il_40, il_41, il_42, il_43, il_44, il_45, il_46, il_47, il_48, il_49, il_50, il_51, il_52, il_53, il_54, il_55, il_56, il_57, il_58, il_59, il_60, il_61, il_62, il_63, il_64, il_65, il_66, il_67, il_68, il_69, il_70, il_71, il_72, il_73, il_74, il_75, il_76, il_77, il_78, il_79, il_80, il_81, il_82, il_83, il_84, il_85, il_86, il_87, il_88, il_89, il_90, il_91, il_92, il_93, il_94, il_95, il_96, il_97, il_98, il_99, il_100, il_101, il_102, il_103, il_104, il_105, il_106, il_107, il_108, il_109, il_110, il_111, il_112, il_113, il_114, il_115, il_116, il_117, il_118, il_119, il_120, il_121, il_122, il_123, il_124, il_125, il_126, il_127, il_128, il_129, il_130, il_131, il_132, il_133, il_134, il_135, il_136, il_137, il_138, il_139, il_140, il_141, il_142, il_143, il_144, il_145, il_146, il_147, il_148, il_149, il_150, il_151, il_152, il_153, il_154, il_155, il_156, il_157, il_158, il_159, il_160, il_161, il_162, il_163, il_164, il_165, il_166, il_167, il_168, il_169, il_170, il_171, il_172, il_173, il_174, il_175, il_176, il_177, il_178, il_179, il_180, il_181, il_182, il_183, il_184, il_185, il_186, il_187, il_188, il_189, il_190, il_191, il_192, il_193, il_194, il_195, il_196, il_197, il_198, il_199, il_200, il_201, il_202, il_203, il_204, il_205, il_206, il_207, il_208, il_209, il_210, il_211, il_212, il_213, il_214, il_215, il_216, il_217, il_218, il_219, il_220, il_221, il_222, il_223, il_224, il_225, il_226, il_227, il_228, il_229, il_230, il_231, il_232, il_233, il_234, il_235, il_236, il_237, il_238, il_239, il_240, il_241, il_242, il_243, il_244, il_245, il_246, il_247, il_248, il_249, il_250, il_251, il_252, il_253, il_254, il_255, il_400, il_480, il_1023, il_2880, il_3000, il_6000, il_m1, il_m8]
    rw [if_neg (show ¬ (180 : Int) ≤ i by omega)]
    obtain ⟨hs1, o1, q1, w1, u1, e1, h1⟩ := X4_readWeight kc h (by omega) hw
    rw [e1, ob_some]
    cases o1 with
    | none =>
      dsimp only at h1 ⊢
      rw [if_pos (show ii 0 = ii 0 from rfl), h1.pla, ob_some]
      exact ⟨hs1, none, q1, _, _, ⟨none, q1, w1, rfl, rfl⟩, u1, rfl, h1, hw, (fun x hx => by cases hx)⟩
    | some x =>
      have hx := wtOne_some w1
      dsimp only at h1 ⊢
      rw [if_neg (show ¬ ii 1 = ii 0 by decide +kernel)]
      have bd := pat_bd kc q1
      simp (disch := omega) only [h1.pla, h1.src, h1.2.1.chk, X3_size h1.2.1, X3_at h1.2.1 kc, ii_add, ii_sub, ii_mul, ii_neg, ii_div, ii_lt, ii_le, ii_eq, ob_some, il_0, il_1, il_2, il_3, il_4, il_5, il_6, il_7, il_8, il_9, il_10, il_11, il_12, il_13, il_14, il_15, il_16, il_17, il_18, il_19, il_20, il_21, il_22, il_23, il_24, il_25, il_26, il_27, il_28, il_29, il_30, il_31, il_32, il_33, il_34, il_35, il_36, il_37, il_38, il_39, il_40, il_41, il_42, il_43, il_44, il_45, il_46, il_47, il_48, il_49, il_50, il_51, il_52, il_53, il_54, il_55, il_56, il_57, il_58, il_59, il_60, il_61, il_62, il_63, il_64, il_65, il_66, il_67, il_68, il_69, il_70, il_71, il_72, il_73, il_74, il_75, il_76, il_77, il_78, il_79, il_80, il_81, il_82, il_83, il_84, il_85, il_86, il_87, il_88, il_89, il_90, il_91, il_92, il_93, il_94, il_95, il_96, il_97, il_98, il_99, il_100, il_101, il_102, il_103, il_104, il_105, il_106, il_107, il_108, il_109, il_110, il_111, il_112, il_113, il_114, il_115, il_116, il_117, il_118, il_119, il_120, il_121, il_122, il_123, il_124, il_125, il_126, il_127, il_128, il_129, il_130, il_131, il_132, il_133, il_134, il_135, il_136, il_137, il_138, il_139, il_140, il_141, il_142, il_143, il_144, il_145, il_146, il_147, il_148, il_149, il_150, il_151, il_152, il_153, il_154, il_155, il_156, il_157, il_158, il_159, il_160, il_161, il_162, il_163, il_164, il_165, il_166, il_167, il_168, il_169, il_170, il_171, il_172, il_173, il_174, il_175, il_176, il_177, il_178, il_179, il_180, il_181, il_182, il_183, il_184, il_185, il_186, il_187, il_188, il_189, il_190, il_191, il_192, il_193, il_194, il_195, il_196, il_197, il_198, il_199, il_200, il_201, il_202, il_203, il_204, il_205, il_206, il_207, il_208, il_209, il_210, il_211, il_212, il_213, il_214, il_215, il_216, il_217, il_218, il_219, il_220, il_221, il_222, il_223, il_224, il_225, il_226, il_227, il_228, il_229, il_230, il_231, il_232, il_233, il_234, il_235, il_236, il_237, il_238, il_239, il_240, il_241, il_242, il_243, il_244, il_245, il_246, il_247, il_248, il_249, il_250, il_251, il_252, il_253, il_254, il_255, il_400, il_480, il_1023, il_2880, il_3000, il_6000, il_m1, il_m8]
      by_cases c1 : q1 = b.length
      · rw [if_pos (show (q1 : Int) = b.length by omega)]
        exact ⟨hs1, some (w.set x.1 x.2, cnt + 1), q1, _, _, ⟨some x, q1, w1, by dsimp only; rw [if_pos c1]; exact ⟨rfl, rfl⟩⟩, u1, rfl, h1, by rw [List.length_set]; exact hw, (fun y hy => by cases hy; exact ⟨rfl, rfl⟩)⟩
      · rw [if_neg (show ¬ (q1 : Int) = b.length by omega)]
        by_cases c2 : pat b q1 = 44
        · rw [if_pos c2]
          obtain ⟨hs2, e2, h2, o2⟩ := h1.place ((q1 + 1 : Nat) : Int)
          rw [show (q1 : Int) + 1 = ((q1 + 1 : Nat) : Int) by omega, e2, ob_some]
          obtain ⟨hs3, o3, q3, w3, c3, m3, u3, e3, h3, l3, g3⟩ := ih n (i + 1) hs2 ln (w.set x.1 x.2) (cnt + 1) (q1 + 1) (by omega) (by omega) (by omega) (by omega) (by rw [List.length_set]; exact hw) h2
          exact ⟨hs3, o3, q3, w3, c3, ⟨some x, q1, w1, by dsimp only; rw [if_neg c1, if_pos c2]; exact m3⟩, u1.trans (o2.trans u3), by rw [← e3]; rfl, h3, l3, g3⟩
        · rw [if_neg c2]
          exact ⟨hs1, none, q1, _, _, ⟨some x, q1, w1, by dsimp only; rw [if_neg c1, if_neg c2]; exact ⟨rfl, rfl⟩⟩, u1, rfl, h1, by rw [List.length_set]; exact hw, (fun y hy => by cases hy)⟩
def w0 : List Int := List.replicate 17 (-1)
theorem X4_weights_init (kc : CH b) : ∀ (d n k : Nat) (hs : AH) (ln w : List Int), d < n → k + d = 17 → w.length = 17 → RdA hs a b ln (w0.take k ++ w.drop k) 0 (0 : Nat) →
    ∃ hs' o q w' c', wtMore b 181 w0 0 0 o q ∧ Out hs hs' a 6 ∧ f_X4_readWeights_b12 n a (ii k) hs = some (ii (match o with | some _ => -1 | none => (q : Int)), hs') ∧ RdA hs' a b ln w' c' q ∧ w'.length = 17 ∧ ∀ x, o = some x → w' = x.1 ∧ c' = x.2 := by
  intro d
  induction d with
  | zero =>
    intro n k hs ln w hn hk hw h
    obtain ⟨n, rfl⟩ : ∃ z, n = z + 1 := ⟨n - 1, by omega⟩
    obtain rfl : k = 17 := by omega
    have hb := h.2.1.le
    unfold f_X4_readWeights_b12
    simp (disch := omega) only [ii_add, ii_sub, ii_mul, ii_neg, ii_div, ii_lt, ii_le, ii_eq, ob_some, il_0, il_1, il_2, il_3, il_4, il_5, il_6, il_7, il_8, il_9, il_10, il_11, il_12, il_13, il_14, il_15, il_16, il_17, il_18, il_19, il_20, il_21, il_22, il_23, il_24, il_25, il_26, il_27, il_28, il_29, il_30, il_31, il_32, il_33, il_34, il_35, il_36, il_37, il_38, il_39, il_40, il_41, il_42, il_43, il_44, il_45, il_46, il_47, il_48, il_49, il_50, il_51, il_52, il_53, il_54, il_55, il_56, il_57, il_58, il_59, il_60, il_61, il_62, il_63, il_64, il_65, il_66, il_67, il_68, il_69, il_70, il_71, il_72, il_73, il_74, il_75, il_76, il_77, il_78, il_79, il_80, il_81, il_82, il_83, il_84, il_85, il_86, il_87, il_88, il_89, il_90, il_91, il_92, il_93, il_94, il_95, il_96, il_97, il_98, il_99, il_100, il_101, il_102, il_103, il_104, il_105, il_106, il_107, il_108, il_109, il_110, il_111, il_112, il_113, il_114, il_115, il_116, il_117, il_118, il_119, il_120, il_121, il_122, il_123, il_124, il_125, il_126, il_127, il_128, il_129, il_130, il_131, il_132, il_133, il_134, il_135, il_136, il_137, il_138, il_139, il_140, il_141, il_142, il_143, il_144, il_145, il_146, il_147, il_148, il_149, il_150, il_151, il_152, il_153, il_154, il_155, il_156, il_157, il_158, il_159, il_160, il_161, il_162, il_163, il_164, il_165, il_166, il_167, il_168, il_169, il_170, il_171, il_172, il_173, il_174, il_175, il_176, il_177, il_178, il_179, il_180, il_181, il_182, il_183, il_184, il_185, il_186, il_187, il_188, il_189, il_190, il_191, il_192, il_193, il_194, il_195, il_196, il_197, il_198, il_199, il_200, il_201, il_202, il_203, il_204, il_205, il_206, il_207, il_208, il_209, il_210, il_211, il_212, il_213, il_214, il_215, il_216, il_217, il_218, il_219, il_220, il_221, il_222, il_223, il_224, il_225, il_226, il_227, il_228, il_229, il_230, il_231, il_232, il_233, il_234, il_235, il_236, il_237, il_238, il_239, il_240, il_241, il_242, il_243, il_244, il_245, il_246, il_247, il_248, il_249, il_250, il_251, il_252, il_253, il_254, il_255, il_400, il_480, il_1023, il_2880, il_3000, il_6000, il_m1, il_m8]
    rw [if_pos (show (16 : Int) < (17 : Nat) by omega)]
    rw [List.take_of_length_le (by decide), List.drop_of_length_le (by omega), List.append_nil] at h
    exact X4_weights_loop kc 181 FUEL 0 hs ln w0 0 0 (by omega) (by unfold FUEL; omega) (by omega) (by omega) rfl h
  | succ d ih =>
    intro n k hs ln w hn hk hw h
    obtain ⟨n, rfl⟩ : ∃ z, n = z + 1 := ⟨n - 1, by omega⟩
    have h0 : w0.length = 17 := rfl
    have hl := len_cpy (x := w) (y := w0) (k := k) (by omega) (by omega)
    unfold f_X4_readWeights_b12
    simp (disch := omega) only [h.wei, ii_add, ii_sub, ii_mul, ii_neg, ii_div, ii_lt, ii_le, ii_eq, ob_some, il_0, il_1, il_2, il_3, il_4, il_5, il_6, il_7, il_8, il_9, il_10, il_11, il_12, il_13, il_14, il_15, il_16, il_17, il_18, il_19, il_20, il_21, il_22, il_23, il_24, il_25, il_26, il_27, il_28, il_29, il_30, il_31, il_32, il_33, il_34, il_35, il_36, il_37, il_38, il_39, il_40, il_41, il_42, il_43, il_44, il_45, il_46, il_47, il_48, il_49, il_50, il_51, il_52, il_53, il_54, il_55, il_56, il_57, il_58, il_59, il_60, il_61, il_62, il_63, il_64, il_65, il_66, il_67, il_68, il_69, il_70, il_71, il_72, il_73, il_74, il_75, il_76, il_77, il_78, il_79, il_80, il_81, il_82, il_83, il_84, il_85, il_86, il_87, il_88, il_89, il_90, il_91, il_92, il_93, il_94, il_95, il_96, il_97, il_98, il_99, il_100, il_101, il_102, il_103, il_104, il_105, il_106, il_107, il_108, il_109, il_110, il_111, il_112, il_113, il_114, il_115, il_116, il_117, il_118, il_119, il_120, il_121, il_122, il_123, il_124, il_125, il_126, il_127, il_128, il_129, il_130, il_131, il_132, il_133, il_134, il_135, il_136, il_137, il_138, il_139, il_140, il_141, il_142, il_143, il_144, il_145, il_146, il_147, il_148, il_149, il_150, il_151, il_152, il_153, il_154, il_155, il_156, il_157, il_158, il_159, il_160, il_161, il_162, il_163, il_164, il_165, il_166, il_167, il_168, il_169, il_170, il_171, il_172, il_173, il_174, il_175, il_176, il_177, il_178, il_179, il_180, il_181, il_182, il_183, il_184, il_185, il_186, il_187, il_188, il_189, il_190, il_191, il_192, il_193, il_194, il_195, il_196, il_197, il_198, il_199, il_200, il_201, il_202, il_203, il_204, il_205, il_206, il_207, il_208, il_209, il_210, il_211, il_212, il_213, il_214, il_215, il_216, il_217, il_218, il_219, il_220, il_221, il_222, il_223, il_224, il_225, il_226, il_227, il_228, il_229, il_230, il_231, il_232, il_233, il_234, il_235, il_236, il_237, il_238, il_239, il_240, il_241, il_242, il_243, il_244, il_245, il_246, il_247, il_248, il_249, il_250, il_251, il_252, il_253, il_254, il_255, il_400, il_480, il_1023, il_2880, il_3000, il_6000, il_m1, il_m8]
    rw [if_neg (show ¬ (16 : Int) < k by omega)]
    obtain ⟨hs1, e1, l1, o1⟩ := h.2.2.2.put (z := k) (lg w0 k) (by omega) (by omega) (by decide)
    rw [Int.toNat_natCast, cpy_step (by omega) (by omega)] at l1
    have hm : lg w0 k = -1 := by
      have : lg w0 k ∈ w0 := lg_mem (by omega)
      exact List.eq_of_mem_replicate this
    rw [hm] at e1
    rw [e1, ob_some]
    obtain ⟨hs2, o2, q2, w2, c2, m2, u2, e2, h2, g2⟩ := ih n (k + 1) hs1 ln w (by omega) (by omega) hw ⟨o1.at h.1 (by omega), h.2.1.out o1 (by omega), h.2.2.1.out o1 (by omega), l1⟩
    exact ⟨hs2, o2, q2, w2, c2, m2, (o1.mono (by omega) (by omega)).trans u2, by rw [← e2]; rfl, h2, g2⟩
theorem X4_readWeights {hs : AH} {ln w : List Int} {cnt pl : Int} (kc : CH b) (h : RdA hs a b ln w cnt pl) (hw : w.length = 17) :
    ∃ hs' o q w' c', wtMore b 181 w0 0 0 o q ∧ Out hs hs' a 6 ∧ f_X4_readWeights a hs = some (ii (match o with | some _ => -1 | none => (q : Int)), hs') ∧ RdA hs' a b ln w' c' q ∧ w'.length = 17 ∧ ∀ x, o = some x → w' = x.1 ∧ c' = x.2 := by
  obtain ⟨hs1, e1, h1, o1⟩ := h.place 0
  obtain ⟨hs2, e2, a2, o2⟩ := pI_x (k := 3) (ii 0) h1.1 (Nat.le_of_ble_eq_true rfl)
  unfold f_X4_readWeights
  rw [il_0, e1, ob_some, e2, ob_some]
  obtain ⟨hs3, o3, q3, w3, c3, m3, u3, e3, h3, g3⟩ := X4_weights_init kc 17 FUEL 0 hs2 ln w (by unfold FUEL; omega) rfl hw ⟨a2, h1.2.1.out o2 (by omega), h1.2.2.1.out o2 (by omega), h1.2.2.2.out o2 (by omega)⟩
  exact ⟨hs3, o3, q3, w3, c3, m3, o1.trans ((o2.mono (by omega) (by omega)).trans u3), e3, h3, g3⟩
end READW
