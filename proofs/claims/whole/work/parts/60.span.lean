/-! ===== pitches, steps, spans ===== -/
def pit (c : Int) : Int := 12 * (c / 21) + (if 3 ≤ c / 3 % 7 then 2 * (c / 3 % 7) - 1 else 2 * (c / 3 % 7)) + c % 3 - 1
def stp (c : Int) : Int := c / 3
def absz (z : Int) : Int := if 0 ≤ z then z else -z
def sts (a b : Int) : Int := absz (stp b - stp a)
def wid (a b : Int) : Int := absz (pit b - pit a)
def dir (a b : Int) : Int := if 0 < pit b - pit a then 1 else if pit b - pit a < 0 then -1 else 0
def prf (a b : Int) : Int := if sts a b % 7 = 0 ∧ wid a b % 12 = 0 then 8 else if sts a b % 7 = 4 ∧ wid a b % 12 = 7 then 5 else 0
theorem pit_bd {c : Int} (h : 42 ≤ c ∧ c ≤ 146) : 20 ≤ pit c ∧ pit c ≤ 90 := by
  unfold pit
  by_cases d : 3 ≤ c / 3 % 7
  · rw [if_pos d]; omega
  · rw [if_neg d]; omega
theorem stp_bd {c : Int} (h : 42 ≤ c ∧ c ≤ 146) : 14 ≤ stp c ∧ stp c ≤ 48 := by unfold stp; omega
theorem absz_bd {z n : Int} (h : -n ≤ z ∧ z ≤ n) : 0 ≤ absz z ∧ absz z ≤ n := by
  unfold absz
  by_cases d : 0 ≤ z
  · rw [if_pos d]; omega
  · rw [if_neg d]; omega
theorem sts_bd {a b : Int} (ha : 42 ≤ a ∧ a ≤ 146) (hb : 42 ≤ b ∧ b ≤ 146) : 0 ≤ sts a b ∧ sts a b ≤ 40 := by
  have h1 := stp_bd ha
  have h2 := stp_bd hb
  exact absz_bd (by omega)
theorem wid_bd {a b : Int} (ha : 42 ≤ a ∧ a ≤ 146) (hb : 42 ≤ b ∧ b ≤ 146) : 0 ≤ wid a b ∧ wid a b ≤ 80 := by
  have h1 := pit_bd ha
  have h2 := pit_bd hb
  exact absz_bd (by omega)
theorem dir_3 (a b : Int) : dir a b = 1 ∨ dir a b = 0 ∨ dir a b = -1 := by
  unfold dir
  by_cases d : 0 < pit b - pit a
  · rw [if_pos d]; exact Or.inl rfl
  · rw [if_neg d]
    by_cases e : pit b - pit a < 0
    · rw [if_pos e]; exact Or.inr (Or.inr rfl)
    · rw [if_neg e]; exact Or.inr (Or.inl rfl)
theorem prf_3 (a b : Int) : prf a b = 8 ∨ prf a b = 5 ∨ prf a b = 0 := by
  unfold prf
  by_cases d : sts a b % 7 = 0 ∧ wid a b % 12 = 0
  · rw [if_pos d]; exact Or.inl rfl
  · rw [if_neg d]
    by_cases e : sts a b % 7 = 4 ∧ wid a b % 12 = 7
    · rw [if_pos e]; exact Or.inr (Or.inl rfl)
    · rw [if_neg e]; exact Or.inr (Or.inr rfl)
theorem X8_pitchOf {c : Int} (h0 : 0 ≤ c) (h1 : c ≤ 1000) : f_X8_pitchOf (ii c) = some (ii (pit c)) := by
  unfold f_X8_pitchOf f_X8_pitchOf_b23 pit
  rw [il_3, ii_div h0 (by omega) (by omega) (by omega), il_7, ii_mod (by omega) (by omega) (by omega) (by omega)]
  simp (disch := omega) only [ii_add, ii_sub, ii_mul, ii_neg, ii_div, ii_lt, ii_le, ii_eq, ob_some, il_0, il_1, il_2, il_3, il_4, il_5, il_6, il_7, il_8, il_9, il_10, il_11, il_12, il_13, il_14, il_15, il_16, il_17, il_18, il_19, il_20, il_21, il_22, il_23, il_24, il_25, il_26, il_27, il_28, il_29, il_30, il_31, il_32, il_33, il_34, il_35, il_36, il_37, il_38, il_39, il_40, il_41, il_42, il_43, il_44, il_45, il_46, il_47, il_48, il_49, il_50, il_51, il_52, il_53, il_54, il_55, il_56, il_57, il_58, il_59, il_60, il_61, il_62, il_63, il_64, il_65, il_66, il_67, il_68, il_69, il_70, il_71, il_72, il_73, il_74, il_75, il_76, il_77, il_78, il_79, il_80, il_81, il_82, il_83, il_84, il_85, il_86, il_87, il_88, il_89, il_90, il_91, il_92, il_93, il_94, il_95, il_96, il_97, il_98, il_99, il_100, il_101, il_102, il_103, il_104, il_105, il_106, il_107, il_108, il_109, il_110, il_111, il_112, il_113, il_114, il_115, il_116, il_117, il_118, il_119, il_120, il_121, il_122, il_123, il_124, il_125, il_126, il_127, il_128, il_129, il_130, il_131, il_132, il_133, il_134, il_135, il_136, il_137, il_138, il_139, il_140, il_141, il_142, il_143, il_144, il_145, il_146, il_147, il_148, il_149, il_150, il_151, il_152, il_153, il_154, il_155, il_156, il_157, il_158, il_159, il_160, il_161, il_162, il_163, il_164, il_165, il_166, il_167, il_168, il_169, il_170, il_171, il_172, il_173, il_174, il_175, il_176, il_177, il_178, il_179, il_180, il_181, il_182, il_183, il_184, il_185, il_186, il_187, il_188, il_189, il_190, il_191, il_192, il_193, il_194, il_195, il_196, il_197, il_198, il_199, il_200, il_201, il_202, il_203, il_204, il_205, il_206, il_207, il_208, il_209, il_210, il_211, il_212, il_213, il_214, il_215, il_216, il_217, il_218, il_219, il_220, il_221, il_222, il_223, il_224, il_225, il_226, il_227, il_228, il_229, il_230, il_231, il_232, il_233, il_234, il_235, il_236, il_237, il_238, il_239, il_240, il_241, il_242, il_243, il_244, il_245, il_246, il_247, il_248, il_249, il_250, il_251, il_252, il_253, il_254, il_255, il_400, il_480, il_1023, il_2880, il_3000, il_6000, il_m1, il_m8]
  by_cases d : 3 ≤ c / 3 % 7
  · rw [if_pos d, if_pos d]
    exact congrArg (fun z => some (ii z)) (by omega)
  · rw [if_neg d, if_neg d]
    exact congrArg (fun z => some (ii z)) (by omega)
theorem X8_stepOf {c : Int} (h0 : 0 ≤ c) (h1 : c ≤ 1000) : f_X8_stepOf (ii c) = some (ii (stp c)) := by
  unfold f_X8_stepOf stp
  simp (disch := omega) only [ii_add, ii_sub, ii_mul, ii_neg, ii_div, ii_lt, ii_le, ii_eq, ob_some, il_0, il_1, il_2, il_3, il_4, il_5, il_6, il_7, il_8, il_9, il_10, il_11, il_12, il_13, il_14, il_15, il_16, il_17, il_18, il_19, il_20, il_21, il_22, il_23, il_24, il_25, il_26, il_27, il_28, il_29, il_30, il_31, il_32, il_33, il_34, il_35, il_36, il_37, il_38, il_39, il_40, il_41, il_42, il_43, il_44, il_45, il_46, il_47, il_48, il_49, il_50, il_51, il_52, il_53, il_54, il_55, il_56, il_57, il_58, il_59, il_60, il_61, il_62, il_63, il_64, il_65, il_66, il_67, il_68, il_69, il_70, il_71, il_72, il_73, il_74, il_75, il_76, il_77, il_78, il_79, il_80, il_81, il_82, il_83, il_84, il_85, il_86, il_87, il_88, il_89, il_90, il_91, il_92, il_93, il_94, il_95, il_96, il_97, il_98, il_99, il_100, il_101, il_102, il_103, il_104, il_105, il_106, il_107, il_108, il_109, il_110, il_111, il_112, il_113, il_114, il_115, il_116, il_117, il_118, il_119, il_120, il_121, il_122, il_123, il_124, il_125, il_126, il_127, il_128, il_129, il_130, il_131, il_132, il_133, il_134, il_135, il_136, il_137, il_138, il_139, il_140, il_141, il_142, il_143, il_144, il_145, il_146, il_147, il_148, il_149, il_150, il_151, il_152, il_153, il_154, il_155, il_156, il_157, il_158, il_159, il_160, il_161, il_162, il_163, il_164, il_165, il_166, il_167, il_168, il_169, il_170, il_171, il_172, il_173, il_174, il_175, il_176, il_177, il_178, il_179, il_180, il_181, il_182, il_183, il_184, il_185, il_186, il_187, il_188, il_189, il_190, il_191, il_192, il_193, il_194, il_195, il_196, il_197, il_198, il_199, il_200, il_201, il_202, il_203, il_204, il_205, il_206, il_207, il_208, il_209, il_210, il_211, il_212, il_213, il_214, il_215, il_216, il_217, il_218, il_219, il_220, il_221, il_222, il_223, il_224, il_225, il_226, il_227, il_228, il_229, il_230, il_231, il_232, il_233, il_234, il_235, il_236, il_237, il_238, il_239, il_240, il_241, il_242, il_243, il_244, il_245, il_246, il_247, il_248, il_249, il_250, il_251, il_252, il_253, il_254, il_255, il_400, il_480, il_1023, il_2880, il_3000, il_6000, il_m1, il_m8]
/-- a span: is it there, steps, width, way, perfect class -/
abbrev Spn : Type := Int × Int × Int × Int × Int
def spn (a b : Int) : Spn := if a = -1 ∨ b = -1 then (0, 0, 0, 0, 0) else (1, sts a b, wid a b, dir a b, prf a b)
def SpA (hs : AH) (a : Nat) (x : Spn) : Prop := hs[a]? = some (.inr (7, [.int (ii x.1), .int (ii x.2.1), .int (ii x.2.2.1), .int (ii x.2.2.2.1), .int (ii x.2.2.2.2)]))
def SpB (x : Spn) : Prop := (x.1 = 0 ∨ x.1 = 1) ∧ (0 ≤ x.2.1 ∧ x.2.1 ≤ 40) ∧ (0 ≤ x.2.2.1 ∧ x.2.2.1 ≤ 80) ∧ (x.2.2.2.1 = 1 ∨ x.2.2.2.1 = 0 ∨ x.2.2.2.1 = -1) ∧ (x.2.2.2.2 = 8 ∨ x.2.2.2.2 = 5 ∨ x.2.2.2.2 = 0)
theorem spn_b {a b : Int} (ha : a = -1 ∨ (42 ≤ a ∧ a ≤ 146)) (hb : b = -1 ∨ (42 ≤ b ∧ b ≤ 146)) : SpB (spn a b) := by
  unfold spn SpB
  by_cases c : a = -1 ∨ b = -1
  · rw [if_pos c]; decide
  · rw [if_neg c]
    exact ⟨Or.inr rfl, sts_bd (by omega) (by omega), wid_bd (by omega) (by omega), dir_3 a b, prf_3 a b⟩
theorem SpA.out {hs hs' : AH} {a b m : Nat} {x : Spn} (h : SpA hs a x) (o : Out hs hs' b m) (hd : a < b ∨ b + m ≤ a) : SpA hs' a x := o.at h hd
section SPAN
variable {hs : AH} {a : Nat} {x : Spn}
theorem SpA.chk (h : SpA hs a x) : chk hs a 7 = some () := chk_of h
theorem SpA.g0 (h : SpA hs a x) : gI hs a 7 0 = some (ii x.1) := gI_of h rfl
theorem SpA.g1 (h : SpA hs a x) : gI hs a 7 1 = some (ii x.2.1) := gI_of h rfl
theorem SpA.g2 (h : SpA hs a x) : gI hs a 7 2 = some (ii x.2.2.1) := gI_of h rfl
theorem SpA.g3 (h : SpA hs a x) : gI hs a 7 3 = some (ii x.2.2.2.1) := gI_of h rfl
theorem SpA.g4 (h : SpA hs a x) : gI hs a 7 4 = some (ii x.2.2.2.2) := gI_of h rfl
def lvs (x : Spn) (p q : Int) : Int := if x.2.1 % 7 = p ∧ x.2.2.1 % 12 = q then 1 else 0
theorem X7_leaves (h : SpA hs a x) {p q : Int} (h1 : 0 ≤ x.2.1 ∧ x.2.1 ≤ 40) (h2 : 0 ≤ x.2.2.1 ∧ x.2.2.1 ≤ 80) (hp : 0 ≤ p ∧ p ≤ 20) (hq : 0 ≤ q ∧ q ≤ 20) : f_X7_leaves a (ii p) (ii q) hs = some (ii (lvs x p q)) := by
  unfold f_X7_leaves lvs
  rw [h.g1, ob_some, il_7, ii_mod (by omega) (by omega) (by omega) (by omega), h.g2, ob_some, il_12, ii_mod (by omega) (by omega) (by omega) (by omega)]
  simp (disch := omega) only [ii_add, ii_sub, ii_mul, ii_neg, ii_div, ii_lt, ii_le, ii_eq, ob_some, il_0, il_1, il_2, il_3, il_4, il_5, il_6, il_7, il_8, il_9, il_10, il_11, il_12, il_13, il_14, il_15, il_16, il_17, il_18, il_19, il_20, il_21, il_22, il_23, il_24, il_25, il_26, il_27, il_28, il_29, il_30, il_31, il_32, il_33, il_34, il_35, il_36, il_37, il_38, il_39, il_40, il_41, il_42, il_43, il_44, il_45, il_46, il_47, il_48, il_49, il_50, il_51, il_52, il_53, il_54, il_55, il_56, il_57, il_58, il_59, il_60, il_61, il_62, il_63, il_64, il_65, il_66, il_67, il_68, il_69, il_70, il_71, il_72, il_73, il_74, il_75, il_76, il_77, il_78, il_79, il_80, il_81, il_82, il_83, il_84, il_85, il_86, il_87, il_88, il_89, il_90, il_91, il_92, il_93, il_94, il_95, il_96, il_97, il_98, il_99, il_100, il_101, il_102, il_103, il_104, il_105, il_106, il_107, il_108, il_109, il_110, il_111, il_112, il_113, il_114, il_115, il_116, il_117, il_118, il_119, il_120, il_121, il_122, il_123, il_124, il_125, il_126, il_127, il_128, il_129, il_130, il_131, il_132, il_133, il_134, il_135, il_136, il_137, il_138, il_139, il_140, il_141, il_142, il_143, il_144, il_145, il_146, il_147, il_148, il_149, il_150, il_151, il_152, il_153, il_154, il_155, il_156, il_157, il_158, il_159, il_160, il_161, il_162, il_163, il_164, il_165, il_166, il_167, il_168, il_169, il_170, il_171, il_172, il_173, il_174, il_175, il_176, il_177, il_178, il_179, il_180, il_181, il_182, il_183, il_184, il_185, il_186, il_187, il_188, il_189, il_190, il_191, il_192, il_193, il_194, il_195, il_196, il_197, il_198, il_199, il_200, il_201, il_202, il_203, il_204, il_205, il_206, il_207, il_208, il_209, il_210, il_211, il_212, il_213, il_214, il_215, il_216, il_217, il_218, il_219, il_220, il_221, il_222, il_223, il_224, il_225, il_226, il_227, il_228, il_229, il_230, il_231, il_232, il_233, il_234, il_235, il_236, il_237, il_238, il_239, il_240, il_241, il_242, il_243, il_244, il_245, il_246, il_247, il_248, il_249, il_250, il_251, il_252, il_253, il_254, il_255, il_400, il_480, il_1023, il_2880, il_3000, il_6000, il_m1, il_m8]
  by_cases c : x.2.1 % 7 = p
  · by_cases d : x.2.2.1 % 12 = q
    · rw [if_pos c, if_pos d, if_pos ⟨c, d⟩]
    · rw [if_pos c, if_neg d, if_neg (fun z => d z.2)]
  · rw [if_neg c, if_neg (fun z => c z.1)]
theorem lvs_01 (x : Spn) (p q : Int) : lvs x p q = 0 ∨ lvs x p q = 1 := by
  unfold lvs
  by_cases c : x.2.1 % 7 = p ∧ x.2.2.1 % 12 = q
  · rw [if_pos c]; exact Or.inr rfl
  · rw [if_neg c]; exact Or.inl rfl
theorem X7_b93 {u1 u2 u3 u4 u5 w : Int} (h : SpA hs a (u1, u2, u3, u4, u5)) (h0 : u1 = 0 ∨ u1 = 1) (h1 : 0 ≤ u2 ∧ u2 ≤ 40) (h2 : 0 ≤ u3 ∧ u3 ≤ 80) :
    ∃ hs', f_X7_measure_b93 a a (ii w) hs = some hs' ∧ SpA hs' a (u1, u2, u3, w, if u1 = 0 then 0 else if u2 % 7 = 0 ∧ u3 % 12 = 0 then 8 else if u2 % 7 = 4 ∧ u3 % 12 = 7 then 5 else 0) ∧ Out hs hs' a 1 := by
  obtain ⟨hs1, e1, a1, o1⟩ := pI_x (k := 3) (ii w) h (Nat.le_of_ble_eq_true rfl)
  have s1 : SpA hs1 a (u1, u2, u3, w, u5) := a1
  unfold f_X7_measure_b93
  rw [e1, ob_some, s1.g0, ob_some]
  have put : ∀ v, ∃ hs', pI hs1 a 7 4 (ii v) = some hs' ∧ SpA hs' a (u1, u2, u3, w, v) ∧ Out hs hs' a 1 := fun v => by
    obtain ⟨hs2, e2, a2, o2⟩ := pI_x (k := 4) (ii v) s1 (Nat.le_of_ble_eq_true rfl)
    exact ⟨hs2, e2, a2, o1.trans o2⟩
  simp (disch := omega) only [ii_add, ii_sub, ii_mul, ii_neg, ii_div, ii_lt, ii_le, ii_eq, ob_some, il_0, il_1, il_2, il_3, il_4, il_5, il_6, il_7, il_8, il_9, il_10, il_11, il_12, il_13, il_14, il_15, il_16, il_17, il_18, il_19, il_20, il_21, il_22, il_23, il_24, il_25, il_26, il_27, il_28, il_29, il_30, il_31, il_32, il_33, il_34, il_35, il_36, il_37, il_38, il_39, il_40, il_41, il_42, il_43, il_44, il_45, il_46, il_47, il_48, il_49, il_50, il_51, il_52, il_53, il_54, il_55, il_56, il_57, il_58, il_59, il_60, il_61, il_62, il_63, il_64, il_65, il_66, il_67, il_68, il_69, il_70, il_71, il_72, il_73, il_74, il_75, il_76, il_77, il_78, il_79, il_80, il_81, il_82, il_83, il_84, il_85, il_86, il_87, il_88, il_89, il_90, il_91, il_92, il_93, il_94, il_95, il_96, il_97, il_98, il_99, il_100, il_101, il_102, il_103, il_104, il_105, il_106, il_107, il_108, il_109, il_110, il_111, il_112, il_113, il_114, il_115, il_116, il_117, il_118, il_119, il_120, il_121, il_122, il_123, il_124, il_125, il_126, il_127, il_128, il_129, il_130, il_131, il_132, il_133, il_134, il_135, il_136, il_137, il_138, il_139, il_140, il_141, il_142, il_143, il_144, il_145, il_146, il_147, il_148, il_149, il_150, il_151, il_152, il_153, il_154, il_155, il_156, il_157, il_158, il_159, il_160, il_161, il_162, il_163, il_164, il_165, il_166, il_167, il_168, il_169, il_170, il_171, il_172, il_173, il_174, il_175, il_176, il_177, il_178, il_179, il_180, il_181, il_182, il_183, il_184, il_185, il_186, il_187, il_188, il_189, il_190, il_191, il_192, il_193, il_194, il_195, il_196, il_197, il_198, il_199, il_200, il_201, il_202, il_203, il_204, il_205, il_206, il_207, il_208, il_209, il_210, il_211, il_212, il_213, il_214, il_215, il_216, il_217, il_218, il_219, il_220, il_221, il_222, il_223, il_224, il_225, il_226, il_227, il_228, il_229, il_230, il_231, il_232, il_233, il_234, il_235, il_236, il_237, il_238, il_239, il_240, il_241, il_242, il_243, il_244, il_245, il_246, il_247, il_248, il_249, il_250, il_251, il_252, il_253, il_254, il_255, il_400, il_480, il_1023, il_2880, il_3000, il_6000, il_m1, il_m8]
  rcases h0 with rfl | rfl
  · rw [if_pos rfl, if_pos rfl]
    obtain ⟨hs2, e2, a2, o2⟩ := put 0
    exact ⟨hs2, by rw [e2]; rfl, a2, o2⟩
  · rw [if_neg (show ¬ (1 : Int) = 0 by omega), if_neg (show ¬ (1 : Int) = 0 by omega), s1.chk, ob_some, X7_leaves s1 h1 h2 (by omega) (by omega), ob_some, ob_some, X7_leaves s1 h1 h2 (by omega) (by omega), ob_some]
    unfold lvs
    simp (disch := omega) only [ii_add, ii_sub, ii_mul, ii_neg, ii_div, ii_lt, ii_le, ii_eq, ob_some, il_0, il_1, il_2, il_3, il_4, il_5, il_6, il_7, il_8, il_9, il_10, il_11, il_12, il_13, il_14, il_15, il_16, il_17, il_18, il_19, il_20, il_21, il_22, il_23, il_24, il_25, il_26, il_27, il_28, il_29, il_30, il_31, il_32, il_33, il_34, il_35, il_36, il_37, il_38, il_39, il_40, il_41, il_42, il_43, il_44, il_45, il_46, il_47, il_48, il_49, il_50, il_51, il_52, il_53, il_54, il_55, il_56, il_57, il_58, il_59, il_60, il_61, il_62, il_63, il_64, il_65, il_66, il_67, il_68, il_69, il_70, il_71, il_72, il_73, il_74, il_75, il_76, il_77, il_78, il_79, il_80, il_81, il_82, il_83, il_84, il_85, il_86, il_87, il_88, il_89, il_90, il_91, il_92, il_93, il_94, il_95, il_96, il_97, il_98, il_99, il_100, il_101, il_102, il_103, il_104, il_105, il_106, il_107, il_108, il_109, il_110, il_111, il_112, il_113, il_114, il_115, il_116, il_117, il_118, il_119, il_120, il_121, il_122, il_123, il_124, il_125, il_126, il_127, il_128, il_129, il_130, il_131, il_132, il_133, il_134, il_135, il_136, il_137, il_138, il_139, il_140, il_141, il_142, il_143, il_144, il_145, il_146, il_147, il_148, il_149, il_150, il_151, il_152, il_153, il_154, il_155, il_156, il_157, il_158, il_159, il_160, il_161, il_162, il_163, il_164, il_165, il_166, il_167, il_168, il_169, il_170, il_171, il_172, il_173, il_174, il_175, il_176, il_177, il_178, il_179, il_180, il_181, il_182, il_183, il_184, il_185, il_186, il_187, il_188, il_189, il_190, il_191, il_192, il_193, il_194, il_195, il_196, il_197, il_198, il_199, il_200, il_201, il_202, il_203, il_204, il_205, il_206, il_207, il_208, il_209, il_210, il_211, il_212, il_213, il_214, il_215, il_216, il_217, il_218, il_219, il_220, il_221, il_222, il_223, il_224, il_225, il_226, il_227, il_228, il_229, il_230, il_231, il_232, il_233, il_234, il_235, il_236, il_237, il_238, il_239, il_240, il_241, il_242, il_243, il_244, il_245, il_246, il_247, il_248, il_249, il_250, il_251, il_252, il_253, il_254, il_255, il_400, il_480, il_1023, il_2880, il_3000, il_6000, il_m1, il_m8]
    by_cases c : u2 % 7 = 0 ∧ u3 % 12 = 0
    · obtain ⟨hs2, e2, a2, o2⟩ := put 8
      rw [if_pos c, if_pos c, if_neg (show ¬ (1 : Int) = 0 by omega), e2]
      exact ⟨hs2, rfl, a2, o2⟩
    · rw [if_neg c, if_neg c, if_pos (show (0 : Int) = 0 from rfl)]
      by_cases d : u2 % 7 = 4 ∧ u3 % 12 = 7
      · obtain ⟨hs2, e2, a2, o2⟩ := put 5
        rw [if_pos d, if_pos d, if_neg (show ¬ (1 : Int) = 0 by omega), e2]
        exact ⟨hs2, rfl, a2, o2⟩
      · obtain ⟨hs2, e2, a2, o2⟩ := put 0
        rw [if_neg d, if_neg d, if_pos (show (0 : Int) = 0 from rfl), e2]
        exact ⟨hs2, rfl, a2, o2⟩
theorem X7_b64 {u1 u2 u3 u4 u5 v w : Int} (h : SpA hs a (u1, u2, u3, u4, u5)) (h0 : u1 = 0 ∨ u1 = 1) (h1 : 0 ≤ w ∧ w ≤ 40) (h2 : -80 ≤ v ∧ v ≤ 80) :
    ∃ hs', f_X7_measure_b64 a (ii v) a (ii w) hs = some hs' ∧ SpA hs' a (u1, w, absz v, (if 0 < v then 1 else if v < 0 then -1 else 0), if u1 = 0 then 0 else if w % 7 = 0 ∧ absz v % 12 = 0 then 8 else if w % 7 = 4 ∧ absz v % 12 = 7 then 5 else 0) ∧ Out hs hs' a 1 := by
  obtain ⟨hs1, e1, a1, o1⟩ := pI_x (k := 1) (ii w) h (Nat.le_of_ble_eq_true rfl)
  have s1 : SpA hs1 a (u1, w, u3, u4, u5) := a1
  obtain ⟨hs2, e2, a2, o2⟩ := pI_x (k := 2) (ii (absz v)) s1 (Nat.le_of_ble_eq_true rfl)
  have s2 : SpA hs2 a (u1, w, absz v, u4, u5) := a2
  have hz := absz_bd (z := v) (n := 80) h2
  unfold f_X7_measure_b64
  rw [e1, ob_some, ii_abs (by omega) (by omega)]
  have ea : (if 0 ≤ v then v else -v) = absz v := rfl
  rw [ea, e2, ob_some]
  simp (disch := omega) only [ii_add, ii_sub, ii_mul, ii_neg, ii_div, ii_lt, ii_le, ii_eq, ob_some, il_0, il_1, il_2, il_3, il_4, il_5, il_6, il_7, il_8, il_9, il_10, il_11, il_12, il_13, il_14, il_15, il_16, il_17, il_18, il_19, il_20, il_21, il_22, il_23, il_24, il_25, il_26, il_27, il_28, il_29, il_30, il_31, il_32, il_33, il_34, il_35, il_36, il_37, il_38, il_39, il_40, il_41, il_42, il_43, il_44, il_45, il_46, il_47, il_48, il_49, il_50, il_51, il_52, il_53, il_54, il_55, il_56, il_57, il_58, il_59, il_60, il_61, il_62, il_63, il_64, il_65, il_66, il_67, il_68, il_69, il_70, il_71, il_72, il_73, il_74, il_75, il_76, il_77, il_78, il_79, il_80, il_81, il_82, il_83, il_84, il_85, il_86, il_87, il_88, il_89, il_90, il_91, il_92, il_93, il_94, il_95, il_96, il_97, il_98, il_99, il_100, il_101, il_102, il_103, il_104, il_105, il_106, il_107, il_108, il_109, il_110, il_111, il_112, il_113, il_114, il_115, il_116, il_117, il_118, il_119, il_120, il_121, il_122, il_123, il_124, il_125, il_126, il_127, il_128, il_129, il_130, il_131, il_132, il_133, il_134, il_135, il_136, il_137, il_138, il_139, il_140, il_141, il_142, il_143, il_144, il_145, il_146, il_147, il_148, il_149, il_150, il_151, il_152, il_153, il_154, il_155, il_156, il_157, il_158, il_159, il_160, il_161, il_162, il_163, il_164, il_165, il_166, il_167, il_168, il_169, il_170, il_171, il_172, il_173, il_174, il_175, il_176, il_177, il_178, il_179, il_180, il_181, il_182, il_183, il_184, il_185, il_186, il_187, il_188, il_189, il_190, il_191, il_192, il_193, il_194, il_195, il_196, il_197, il_198, il_199, il_200, il_201, il_202, il_203, il_204, il_205, il_206, il_207, il_208, il_209, il_210, il_211, il_212, il_213, il_214, il_215, il_216, il_217, il_218, il_219, il_220, il_221, il_222, il_223, il_224, il_225, il_226, il_227, il_228, il_229, il_230, il_231, il_232, il_233, il_234, il_235, il_236, il_237, il_238, il_239, il_240, il_241, il_242, il_243, il_244, il_245, il_246, il_247, il_248, il_249, il_250, il_251, il_252, il_253, il_254, il_255, il_400, il_480, il_1023, il_2880, il_3000, il_6000, il_m1, il_m8]
  by_cases c : v ≤ 0
  · rw [if_pos c, if_neg (show ¬ 0 < v by omega)]
    by_cases d : 0 ≤ v
    · rw [if_pos d, if_neg (show ¬ v < 0 by omega)]
      obtain ⟨hs3, e3, a3, o3⟩ := X7_b93 (w := 0) s2 h0 h1 hz
      exact ⟨hs3, e3, a3, o1.trans (o2.trans o3)⟩
    · rw [if_neg d, if_pos (show v < 0 by omega)]
      obtain ⟨hs3, e3, a3, o3⟩ := X7_b93 (w := -1) s2 h0 h1 hz
      exact ⟨hs3, e3, a3, o1.trans (o2.trans o3)⟩
  · rw [if_neg c, if_pos (show 0 < v by omega)]
    obtain ⟨hs3, e3, a3, o3⟩ := X7_b93 (w := 1) s2 h0 h1 hz
    exact ⟨hs3, e3, a3, o1.trans (o2.trans o3)⟩
theorem X7_measure (h : SpA hs a x) {p q : Int} (hp : p = -1 ∨ (42 ≤ p ∧ p ≤ 146)) (hq : q = -1 ∨ (42 ≤ q ∧ q ≤ 146)) : ∃ hs', f_X7_measure a (ii p) (ii q) hs = some hs' ∧ SpA hs' a (spn p q) ∧ Out hs hs' a 1 := by
  obtain ⟨u1, u2, u3, u4, u5⟩ := x
  have none : ∃ hs', f_X7_measure_b16 a (ii p) (ii q) a (ii 0) hs = some hs' ∧ SpA hs' a (0, 0, 0, 0, 0) ∧ Out hs hs' a 1 := by
    obtain ⟨hs1, e1, a1, o1⟩ := pZ_x (k := 0) (x := 0) h (Nat.le_of_ble_eq_true rfl) (Or.inl rfl)
    have s1 : SpA hs1 a (0, u2, u3, u4, u5) := a1
    unfold f_X7_measure_b16 f_X7_measure_b39
    rw [e1, ob_some, s1.g0, ob_some, if_pos (show ii 0 = 0 from rfl), ob_some, if_pos (show ii 0 = 0 from rfl)]
    obtain ⟨hs2, e2, a2, o2⟩ := X7_b64 (v := 0) (w := 0) s1 (Or.inl rfl) (by omega) (by omega)
    exact ⟨hs2, e2, a2, o1.trans o2⟩
  unfold f_X7_measure spn
  simp (disch := omega) only [ii_add, ii_sub, ii_mul, ii_neg, ii_div, ii_lt, ii_le, ii_eq, ob_some, il_0, il_1, il_2, il_3, il_4, il_5, il_6, il_7, il_8, il_9, il_10, il_11, il_12, il_13, il_14, il_15, il_16, il_17, il_18, il_19, il_20, il_21, il_22, il_23, il_24, il_25, il_26, il_27, il_28, il_29, il_30, il_31, il_32, il_33, il_34, il_35, il_36, il_37, il_38, il_39, il_40, il_41, il_42, il_43, il_44, il_45, il_46, il_47, il_48, il_49, il_50, il_51, il_52, il_53, il_54, il_55, il_56, il_57, il_58, il_59, il_60, il_61, il_62, il_63, il_64, il_65, il_66, il_67, il_68, il_69, il_70, il_71, il_72, il_73, il_74, il_75, il_76, il_77, il_78, il_79, il_80, il_81, il_82, il_83, il_84, il_85, il_86, il_87, il_88, il_89, il_90, il_91, il_92, il_93, il_94, il_95, il_96, il_97, il_98, il_99, il_100, il_101, il_102, il_103, il_104, il_105, il_106, il_107, il_108, il_109, il_110, il_111, il_112, il_113, il_114, il_115, il_116, il_117, il_118, il_119, il_120, il_121, il_122, il_123, il_124, il_125, il_126, il_127, il_128, il_129, il_130, il_131, il_132, il_133, il_134, il_135, il_136, il_137, il_138, il_139, il_140, il_141, il_142, il_143, il_144, il_145, il_146, il_147, il_148, il_149, il_150, il_151, il_152, il_153, il_154, il_155, il_156, il_157, il_158, il_159, il_160, il_161, il_162, il_163, il_164, il_165, il_166, il_167, il_168, il_169, il_170, il_171, il_172, il_173, il_174, il_175, il_176, il_177, il_178, il_179, il_180, il_181, il_182, il_183, il_184, il_185, il_186, il_187, il_188, il_189, il_190, il_191, il_192, il_193, il_194, il_195, il_196, il_197, il_198, il_199, il_200, il_201, il_202, il_203, il_204, il_205, il_206, il_207, il_208, il_209, il_210, il_211, il_212, il_213, il_214, il_215, il_216, il_217, il_218, il_219, il_220, il_221, il_222, il_223, il_224, il_225, il_226, il_227, il_228, il_229, il_230, il_231, il_232, il_233, il_234, il_235, il_236, il_237, il_238, il_239, il_240, il_241, il_242, il_243, il_244, il_245, il_246, il_247, il_248, il_249, il_250, il_251, il_252, il_253, il_254, il_255, il_400, il_480, il_1023, il_2880, il_3000, il_6000, il_m1, il_m8]
  by_cases c : p = -1
  · rw [if_pos c, if_pos (Or.inl c)]; exact none
  · rw [if_neg c]
    by_cases d : q = -1
    · rw [if_pos d, if_pos (Or.inr d)]; exact none
    · rw [if_neg d, if_neg (show ¬ (p = -1 ∨ q = -1) by omega)]
      obtain ⟨hs1, e1, a1, o1⟩ := pZ_x (k := 0) (x := 1) h (Nat.le_of_ble_eq_true rfl) (Or.inr rfl)
      have s1 : SpA hs1 a (1, u2, u3, u4, u5) := a1
      have bp := pit_bd (c := p) (by omega)
      have bq := pit_bd (c := q) (by omega)
      have sp := stp_bd (c := p) (by omega)
      have sq := stp_bd (c := q) (by omega)
      unfold f_X7_measure_b16 f_X7_measure_b39
      rw [e1, ob_some, s1.g0, ob_some, if_neg (show ¬ ii 1 = 0 by decide +kernel), X8_pitchOf (by omega) (by omega), ob_some, X8_pitchOf (by omega) (by omega), ob_some, ob_some, if_neg (show ¬ ii 1 = 0 by decide +kernel), X8_stepOf (by omega) (by omega), ob_some, X8_stepOf (by omega) (by omega), ob_some, ii_sub, ii_sub, ii_abs (by omega) (by omega)]
      obtain ⟨hs2, e2, a2, o2⟩ := X7_b64 (v := pit q - pit p) (w := sts p q) s1 (Or.inr rfl) (sts_bd (by omega) (by omega)) (by omega)
      exact ⟨hs2, e2, a2, o1.trans o2⟩
end SPAN
