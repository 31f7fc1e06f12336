/-! ===== what the rules find, the others ===== -/
theorem ob_of {α β : Type} {o : Option α} {v : α} {f : α → Option β} (h : o = some v) : o.bind f = f v := by rw [h]; rfl
theorem pc_there {x y : Int} (h : (spn x y).2.2.2.2 ≠ 0) : x ≠ -1 ∧ y ≠ -1 := by
  unfold spn at h
  by_cases c : x = -1 ∨ y = -1
  · rw [if_pos c] at h; exact absurd rfl h
  · omega
theorem parF_b (s : Sh) (p : Int) (b : Spn) (z : Int) : 0 ≤ parF s p b z ∧ parF s p b z ≤ 1 := if_b b00 (if_b (if_b b00 (if_b b00 b11)) b00)
theorem beat_0 {s : Sh} {p : Int} (h : p % per s.sp = 0) : p / per s.sp * per s.sp = p := by
  rcases per_3 s.sp with e | e | e <;> rw [e] at h ⊢ <;> omega
section RULES2
variable {hs : AH} {a : Nat} {s : Sh} {p cp cn : Int}
theorem X1_parF (k : SOK s) (L : Lkd hs a s p cp cn) (h0 : 0 ≤ p) (h1 : p ≤ 60) {q : Nat} {b : Spn} {z : Int} (S : SpA hs q b) (B : SpB b) (z0 : -8 ≤ z) (z1 : z ≤ 100) (hz : b.2.2.2.2 ≠ 0 → lat s.md z ≠ -1) : f_X1_isParallelFrom a q (ii z) hs = some (ii (parF s p b z)) := by
  obtain ⟨x, j, y9, y10, y11, y12, y13, y14, y15, y16⟩ := L
  have g9 := j.i9
  have g10 := j.i10
  have g11 := j.i11
  have g12 := j.i12
  have g13 := j.i13
  have g14 := j.i14
  have g15 := j.i15
  have g16 := j.i16
  rw [y9] at g9
  rw [y10] at g10
  rw [y11] at g11
  rw [y12] at g12
  rw [y13] at g13
  rw [y14] at g14
  rw [y15] at g15
  rw [y16] at g16
  have S0 : SpA hs (a + 8) (har s p) := j.2.2 0 (by decide)
  have S1 : SpA hs (a + 9) (har s (p + 1)) := j.2.2 1 (by decide)
  have S2 : SpA hs (a + 10) (har s ((p / per s.sp - 1) * per s.sp)) := j.2.2 2 (by decide)
  have S3 : SpA hs (a + 11) (har s (p / per s.sp * per s.sp - 1)) := j.2.2 3 (by decide)
  have S4 : SpA hs (a + 12) (arrS s p) := j.2.2 4 (by decide)
  have S5 : SpA hs (a + 13) (appS s p) := j.2.2 5 (by decide)
  have S6 : SpA hs (a + 14) (depS s p) := j.2.2 6 (by decide)
  have S7 : SpA hs (a + 15) (cmvS s p) := j.2.2 7 (by decide)
  have B0 : SpB (har s p) := spn_b (k.gvb _) (k.mdb _)
  have B1 : SpB (har s (p + 1)) := spn_b (k.gvb _) (k.mdb _)
  have B2 : SpB (har s ((p / per s.sp - 1) * per s.sp)) := spn_b (k.gvb _) (k.mdb _)
  have B3 : SpB (har s (p / per s.sp * per s.sp - 1)) := spn_b (k.gvb _) (k.mdb _)
  have B4 : SpB (arrS s p) := spn_b (k.mdb _) (k.mdb _)
  have B5 : SpB (appS s p) := spn_b (k.mdb _) (k.mdb _)
  have B6 : SpB (depS s p) := spn_b (k.mdb _) (k.mdb _)
  have B7 : SpB (cmvS s p) := spn_b (k.gvb _) (k.gvb _)
  obtain ⟨b1, b2, b3, b4, b5, b6, b7, b8⟩ := bar_bd (s := s) h0 h1
  have tb := tie_b s p
  have mb := k.mdi p
  have gl := k.gl
  have ml := k.ml
  have spb := k.spb
  obtain ⟨v1, v2, v3, v4, v5⟩ := B.i
  obtain ⟨u01, u02, u03, u04, u05⟩ := B0.i
  obtain ⟨u71, u72, u73, u74, u75⟩ := B7.i
  have mz := k.mdi z
  have pp := pitN_b k p
  unfold f_X1_isParallelFrom parF
  simp (disch := omega) only [S.chk, X7_perfectClass S, g13, j.sh, j.r1, j.r8, S0.chk, S7.chk, X7_perfectClass S0, X7_way S7, j.2.1.m, j.2.1.2.2.1.chk, X2_at j.2.1.2.2.1, ii_add, ii_sub, ii_mul, ii_neg, ii_div, ii_lt, ii_le, ii_eq, ob_some, il_0, il_1, il_2, il_3, il_4, il_5, il_6, il_7, il_8, il_9, il_10, il_11, il_12, il_13, il_14, il_15, il_16, il_17, il_18, il_19, il_20, il_21, il_22, il_23, il_24, il_25, il_26, il_27, il_28, il_29, il_30, il_31, il_32, il_33, il_34, il_35, il_36, il_37, il_38, il_39, il_40, il_41, il_42, il_43, il_44, il_45, il_46, il_47, il_48, il_49, il_50, il_51, il_52, il_53, il_54, il_55, il_56, il_57, il_58, il_59, il_60, il_61, il_62, il_63, il_64, il_65, il_66, il_67, il_68, il_69, il_70, il_71, il_72, il_73, il_74, il_75, il_76, il_77, il_78, il_79, il_80, il_81, il_82, il_83, il_84, il_85, il_86, il_87, il_88, il_89, il_90, il_91, il_92, il_93, il_94, il_95, il_96, il_97, il_98, il_99, il_100, il_101, il_102, il_103, il_104, il_105, il_106, il_107, il_108, il_109, il_110, il_111, il_112, il_113, il_114, il_115, il_116, il_117, il_118, il_119, il_120, il_121, il_122, il_123, il_124, il_125, il_126, il_127, il_128, il_129, il_130, il_131, il_132, il_133, il_134, il_135, il_136, il_137, il_138, il_139, il_140, il_141, il_142, il_143, il_144, il_145, il_146, il_147, il_148, il_149, il_150, il_151, il_152, il_153, il_154, il_155, il_156, il_157, il_158, il_159, il_160, il_161, il_162, il_163, il_164, il_165, il_166, il_167, il_168, il_169, il_170, il_171, il_172, il_173, il_174, il_175, il_176, il_177, il_178, il_179, il_180, il_181, il_182, il_183, il_184, il_185, il_186, il_187, il_188, il_189, il_190, il_191, il_192, il_193, il_194, il_195, il_196, il_197, il_198, il_199, il_200, il_201, il_202, il_203, il_204, il_205, il_206, il_207, il_208, il_209, il_210, il_211, il_212, il_213, il_214, il_215, il_216, il_217, il_218, il_219, il_220, il_221, il_222, il_223, il_224, il_225, il_226, il_227, il_228, il_229, il_230, il_231, il_232, il_233, il_234, il_235, il_236, il_237, il_238, il_239, il_240, il_241, il_242, il_243, il_244, il_245, il_246, il_247, il_248, il_249, il_250, il_251, il_252, il_253, il_254, il_255, il_400, il_480, il_1023, il_2880, il_3000, il_6000, il_m1, il_m8]
  by_cases c : b.2.2.2.2 = 0
  · rw [if_pos c, if_pos c]
  · rw [if_neg c, if_neg c]
    by_cases d : b.2.2.2.2 = (har s p).2.2.2.2
    · have m := hz c
      have pb := pit_bd (c := lat s.md z) ((k.mdb z).resolve_left m)
      rw [if_pos d, if_pos d, X8_pitchOf (by omega) (by omega), ob_some]
      simp (disch := omega) only [if_ii, ii_add, ii_sub, ii_mul, ii_neg, ii_div, ii_lt, ii_le, ii_eq, ob_some, il_0, il_1, il_2, il_3, il_4, il_5, il_6, il_7, il_8, il_9, il_10, il_11, il_12, il_13, il_14, il_15, il_16, il_17, il_18, il_19, il_20, il_21, il_22, il_23, il_24, il_25, il_26, il_27, il_28, il_29, il_30, il_31, il_32, il_33, il_34, il_35, il_36, il_37, il_38, il_39, il_40, il_41, il_42, il_43, il_44, il_45, il_46, il_47, il_48, il_49, il_50, il_51, il_52, il_53, il_54, il_55, il_56, il_57, il_58, il_59, il_60, il_61, il_62, il_63, il_64, il_65, il_66, il_67, il_68, il_69, il_70, il_71, il_72, il_73, il_74, il_75, il_76, il_77, il_78, il_79, il_80, il_81, il_82, il_83, il_84, il_85, il_86, il_87, il_88, il_89, il_90, il_91, il_92, il_93, il_94, il_95, il_96, il_97, il_98, il_99, il_100, il_101, il_102, il_103, il_104, il_105, il_106, il_107, il_108, il_109, il_110, il_111, il_112, il_113, il_114, il_115, il_116, il_117, il_118, il_119, il_120, il_121, il_122, il_123, il_124, il_125, il_126, il_127, il_128, il_129, il_130, il_131, il_132, il_133, il_134, il_135, il_136, il_137, il_138, il_139, il_140, il_141, il_142, il_143, il_144, il_145, il_146, il_147, il_148, il_149, il_150, il_151, il_152, il_153, il_154, il_155, il_156, il_157, il_158, il_159, il_160, il_161, il_162, il_163, il_164, il_165, il_166, il_167, il_168, il_169, il_170, il_171, il_172, il_173, il_174, il_175, il_176, il_177, il_178, il_179, il_180, il_181, il_182, il_183, il_184, il_185, il_186, il_187, il_188, il_189, il_190, il_191, il_192, il_193, il_194, il_195, il_196, il_197, il_198, il_199, il_200, il_201, il_202, il_203, il_204, il_205, il_206, il_207, il_208, il_209, il_210, il_211, il_212, il_213, il_214, il_215, il_216, il_217, il_218, il_219, il_220, il_221, il_222, il_223, il_224, il_225, il_226, il_227, il_228, il_229, il_230, il_231, il_232, il_233, il_234, il_235, il_236, il_237, il_238, il_239, il_240, il_241, il_242, il_243, il_244, il_245, il_246, il_247, il_248, il_249, il_250, il_251, il_252, il_253, il_254, il_255, il_400, il_480, il_1023, il_2880, il_3000, il_6000, il_m1, il_m8]
    · rw [if_neg d, if_neg d]
theorem X1_isPar (k : SOK s) (L : Lkd hs a s p cp cn) (h0 : 0 ≤ p) (h1 : p ≤ 60) : f_X1_isParallel a hs = some (ii (isPar s p)) := by
  have w := @X1_parF hs a s p cp cn k L h0 h1
  obtain ⟨x, j, y9, y10, y11, y12, y13, y14, y15, y16⟩ := L
  have g9 := j.i9
  have g10 := j.i10
  have g11 := j.i11
  have g12 := j.i12
  have g13 := j.i13
  have g14 := j.i14
  have g15 := j.i15
  have g16 := j.i16
  rw [y9] at g9
  rw [y10] at g10
  rw [y11] at g11
  rw [y12] at g12
  rw [y13] at g13
  rw [y14] at g14
  rw [y15] at g15
  rw [y16] at g16
  have S0 : SpA hs (a + 8) (har s p) := j.2.2 0 (by decide)
  have S1 : SpA hs (a + 9) (har s (p + 1)) := j.2.2 1 (by decide)
  have S2 : SpA hs (a + 10) (har s ((p / per s.sp - 1) * per s.sp)) := j.2.2 2 (by decide)
  have S3 : SpA hs (a + 11) (har s (p / per s.sp * per s.sp - 1)) := j.2.2 3 (by decide)
  have S4 : SpA hs (a + 12) (arrS s p) := j.2.2 4 (by decide)
  have S5 : SpA hs (a + 13) (appS s p) := j.2.2 5 (by decide)
  have S6 : SpA hs (a + 14) (depS s p) := j.2.2 6 (by decide)
  have S7 : SpA hs (a + 15) (cmvS s p) := j.2.2 7 (by decide)
  have B0 : SpB (har s p) := spn_b (k.gvb _) (k.mdb _)
  have B1 : SpB (har s (p + 1)) := spn_b (k.gvb _) (k.mdb _)
  have B2 : SpB (har s ((p / per s.sp - 1) * per s.sp)) := spn_b (k.gvb _) (k.mdb _)
  have B3 : SpB (har s (p / per s.sp * per s.sp - 1)) := spn_b (k.gvb _) (k.mdb _)
  have B4 : SpB (arrS s p) := spn_b (k.mdb _) (k.mdb _)
  have B5 : SpB (appS s p) := spn_b (k.mdb _) (k.mdb _)
  have B6 : SpB (depS s p) := spn_b (k.mdb _) (k.mdb _)
  have B7 : SpB (cmvS s p) := spn_b (k.gvb _) (k.gvb _)
  obtain ⟨b1, b2, b3, b4, b5, b6, b7, b8⟩ := bar_bd (s := s) h0 h1
  have tb := tie_b s p
  have mb := k.mdi p
  have gl := k.gl
  have ml := k.ml
  have spb := k.spb
  have q2 := w S2 B2 (z := (p / per s.sp - 1) * per s.sp) (by omega) (by omega) (fun h => (pc_there h).2)
  have q3 : p % per s.sp = 0 → f_X1_isParallelFrom a (a + 11) (ii (p - 1)) hs = some (ii (parF s p (har s (p / per s.sp * per s.sp - 1)) (p - 1))) := fun e => w S3 B3 (z := p - 1) (by omega) (by omega) (fun h => by
    have := (pc_there h).2
    rw [beat_0 e] at this
    exact this)
  have r2 := parF_b s p (har s ((p / per s.sp - 1) * per s.sp)) ((p / per s.sp - 1) * per s.sp)
  have r3 := parF_b s p (har s (p / per s.sp * per s.sp - 1)) (p - 1)
  unfold f_X1_isParallel isPar
  simp (disch := omega) only [g9, g10, g11, g12, g13, g14, g15, g16, j.sh, j.r1, j.r2, j.r3, j.r4, j.r5, j.r6, j.r7, j.r8, j.chk, j.2.1.g, j.2.1.m, j.2.1.chk, j.2.1.2.1.chk, j.2.1.2.2.1.chk, X2_size j.2.1.2.1, X2_size j.2.1.2.2.1, X2_at j.2.1.2.1, X2_at j.2.1.2.2.1, X6_species j.2.1, X6_isBelow j.2.1 k, X6_firstPlaceIn j.2.1 k, S0.chk, S1.chk, S2.chk, S3.chk, S4.chk, S5.chk, S6.chk, S7.chk, X7_isThere S0 B0, X7_steps S0, X7_width S0, X7_way S0, X7_perfectClass S0, X7_isStep S0 B0, X7_isLeap S0 B0, X7_isConsonant S0 B0, X7_isMelodious S0 B0, X7_isThere S1 B1, X7_steps S1, X7_width S1, X7_way S1, X7_perfectClass S1, X7_isStep S1 B1, X7_isLeap S1 B1, X7_isConsonant S1 B1, X7_isMelodious S1 B1, X7_isThere S2 B2, X7_steps S2, X7_width S2, X7_way S2, X7_perfectClass S2, X7_isStep S2 B2, X7_isLeap S2 B2, X7_isConsonant S2 B2, X7_isMelodious S2 B2, X7_isThere S3 B3, X7_steps S3, X7_width S3, X7_way S3, X7_perfectClass S3, X7_isStep S3 B3, X7_isLeap S3 B3, X7_isConsonant S3 B3, X7_isMelodious S3 B3, X7_isThere S4 B4, X7_steps S4, X7_width S4, X7_way S4, X7_perfectClass S4, X7_isStep S4 B4, X7_isLeap S4 B4, X7_isConsonant S4 B4, X7_isMelodious S4 B4, X7_isThere S5 B5, X7_steps S5, X7_width S5, X7_way S5, X7_perfectClass S5, X7_isStep S5 B5, X7_isLeap S5 B5, X7_isConsonant S5 B5, X7_isMelodious S5 B5, X7_isThere S6 B6, X7_steps S6, X7_width S6, X7_way S6, X7_perfectClass S6, X7_isStep S6 B6, X7_isLeap S6 B6, X7_isConsonant S6 B6, X7_isMelodious S6 B6, X7_isThere S7 B7, X7_steps S7, X7_width S7, X7_way S7, X7_perfectClass S7, X7_isStep S7 B7, X7_isLeap S7 B7, X7_isConsonant S7 B7, X7_isMelodious S7 B7, q2, ii_add, ii_sub, ii_mul, ii_neg, ii_div, ii_lt, ii_le, ii_eq, ob_some, il_0, il_1, il_2, il_3, il_4, il_5, il_6, il_7, il_8, il_9, il_10, il_11, il_12, il_13, il_14, il_15, il_16, il_17, il_18, il_19, il_20, il_21, il_22, il_23, il_24, il_25, il_26, il_27, il_28, il_29, il_30, il_31, il_32, il_33, il_34, il_35, il_36, il_37, il_38, il_39, il_40, il_41, il_42, il_43, il_44, il_45, il_46, il_47, il_48, il_49, il_50, il_51, il_52, il_53, il_54, il_55, il_56, il_57, il_58, il_59, il_60, il_61, il_62, il_63, il_64, il_65, il_66, il_67, il_68, il_69, il_70, il_71, il_72, il_73, il_74, il_75, il_76, il_77, il_78, il_79, il_80, il_81, il_82, il_83, il_84, il_85, il_86, il_87, il_88, il_89, il_90, il_91, il_92, il_93, il_94, il_95, il_96, il_97, il_98, il_99, il_100, il_101, il_102, il_103, il_104, il_105, il_106, il_107, il_108, il_109, il_110, il_111, il_112, il_113, il_114, il_115, il_116, il_117, il_118, il_119, il_120, il_121, il_122, il_123, il_124, il_125, il_126, il_127, il_128, il_129, il_130, il_131, il_132, il_133, il_134, il_135, il_136, il_137, il_138, il_139, il_140, il_141, il_142, il_143, il_144, il_145, il_146, il_147, il_148, il_149, il_150, il_151, il_152, il_153, il_154, il_155, il_156, il_157, il_158, il_159, il_160, il_161, il_162, il_163, il_164, il_165, il_166, il_167, il_168, il_169, il_170, il_171, il_172, il_173, il_174, il_175, il_176, il_177, il_178, il_179, il_180, il_181, il_182, il_183, il_184, il_185, il_186, il_187, il_188, il_189, il_190, il_191, il_192, il_193, il_194, il_195, il_196, il_197, il_198, il_199, il_200, il_201, il_202, il_203, il_204, il_205, il_206, il_207, il_208, il_209, il_210, il_211, il_212, il_213, il_214, il_215, il_216, il_217, il_218, il_219, il_220, il_221, il_222, il_223, il_224, il_225, il_226, il_227, il_228, il_229, il_230, il_231, il_232, il_233, il_234, il_235, il_236, il_237, il_238, il_239, il_240, il_241, il_242, il_243, il_244, il_245, il_246, il_247, il_248, il_249, il_250, il_251, il_252, il_253, il_254, il_255, il_400, il_480, il_1023, il_2880, il_3000, il_6000, il_m1, il_m8]
  by_cases c : p % per s.sp = 0
  · rw [if_pos c, if_pos c, q3 c]
    simp (disch := omega) only [if_ii, ii_add, ii_sub, ii_mul, ii_neg, ii_div, ii_lt, ii_le, ii_eq, ob_some, il_0, il_1, il_2, il_3, il_4, il_5, il_6, il_7, il_8, il_9, il_10, il_11, il_12, il_13, il_14, il_15, il_16, il_17, il_18, il_19, il_20, il_21, il_22, il_23, il_24, il_25, il_26, il_27, il_28, il_29, il_30, il_31, il_32, il_33, il_34, il_35, il_36, il_37, il_38, il_39, il_40, il_41, il_42, il_43, il_44, il_45, il_46, il_47, il_48, il_49, il_50, il_51, il_52, il_53, il_54, il_55, il_56, il_57, il_58, il_59, il_60, il_61, il_62, il_63, il_64, il_65, il_66, il_67, il_68, il_69, il_70, il_71, il_72, il_73, il_74, il_75, il_76, il_77, il_78, il_79, il_80, il_81, il_82, il_83, il_84, il_85, il_86, il_87, il_88, il_89, il_90, il_91, il_92, il_93, il_94, il_95, il_96, il_97, il_98, il_99, il_100, il_101, il_102, il_103, il_104, il_105, il_106, il_107, il_108, il_109, il_110, il_111, il_112, il_113, il_114, il_115, il_116, il_117, il_118, il_119, il_120, il_121, il_122, il_123, il_124, il_125, il_126, il_127, il_128, il_129, il_130, il_131, il_132, il_133, il_134, il_135, il_136, il_137, il_138, il_139, il_140, il_141, il_142, il_143, il_144, il_145, il_146, il_147, il_148, il_149, il_150, il_151, il_152, il_153, il_154, il_155, il_156, il_157, il_158, il_159, il_160, il_161, il_162, il_163, il_164, il_165, il_166, il_167, il_168, il_169, il_170, il_171, il_172, il_173, il_174, il_175, il_176, il_177, il_178, il_179, il_180, il_181, il_182, il_183, il_184, il_185, il_186, il_187, il_188, il_189, il_190, il_191, il_192, il_193, il_194, il_195, il_196, il_197, il_198, il_199, il_200, il_201, il_202, il_203, il_204, il_205, il_206, il_207, il_208, il_209, il_210, il_211, il_212, il_213, il_214, il_215, il_216, il_217, il_218, il_219, il_220, il_221, il_222, il_223, il_224, il_225, il_226, il_227, il_228, il_229, il_230, il_231, il_232, il_233, il_234, il_235, il_236, il_237, il_238, il_239, il_240, il_241, il_242, il_243, il_244, il_245, il_246, il_247, il_248, il_249, il_250, il_251, il_252, il_253, il_254, il_255, il_400, il_480, il_1023, il_2880, il_3000, il_6000, il_m1, il_m8]
  · rw [if_neg c, if_neg c]
theorem X1_dir (k : SOK s) (L : Lkd hs a s p cp cn) (h0 : 0 ≤ p) (h1 : p ≤ 60) : f_X1_isDirect a hs = some (ii (dirD s p)) := by
  have w := @X1_parF hs a s p cp cn k L h0 h1
  obtain ⟨x, j, y9, y10, y11, y12, y13, y14, y15, y16⟩ := L
  have g9 := j.i9
  have g10 := j.i10
  have g11 := j.i11
  have g12 := j.i12
  have g13 := j.i13
  have g14 := j.i14
  have g15 := j.i15
  have g16 := j.i16
  rw [y9] at g9
  rw [y10] at g10
  rw [y11] at g11
  rw [y12] at g12
  rw [y13] at g13
  rw [y14] at g14
  rw [y15] at g15
  rw [y16] at g16
  have S0 : SpA hs (a + 8) (har s p) := j.2.2 0 (by decide)
  have S1 : SpA hs (a + 9) (har s (p + 1)) := j.2.2 1 (by decide)
  have S2 : SpA hs (a + 10) (har s ((p / per s.sp - 1) * per s.sp)) := j.2.2 2 (by decide)
  have S3 : SpA hs (a + 11) (har s (p / per s.sp * per s.sp - 1)) := j.2.2 3 (by decide)
  have S4 : SpA hs (a + 12) (arrS s p) := j.2.2 4 (by decide)
  have S5 : SpA hs (a + 13) (appS s p) := j.2.2 5 (by decide)
  have S6 : SpA hs (a + 14) (depS s p) := j.2.2 6 (by decide)
  have S7 : SpA hs (a + 15) (cmvS s p) := j.2.2 7 (by decide)
  have B0 : SpB (har s p) := spn_b (k.gvb _) (k.mdb _)
  have B1 : SpB (har s (p + 1)) := spn_b (k.gvb _) (k.mdb _)
  have B2 : SpB (har s ((p / per s.sp - 1) * per s.sp)) := spn_b (k.gvb _) (k.mdb _)
  have B3 : SpB (har s (p / per s.sp * per s.sp - 1)) := spn_b (k.gvb _) (k.mdb _)
  have B4 : SpB (arrS s p) := spn_b (k.mdb _) (k.mdb _)
  have B5 : SpB (appS s p) := spn_b (k.mdb _) (k.mdb _)
  have B6 : SpB (depS s p) := spn_b (k.mdb _) (k.mdb _)
  have B7 : SpB (cmvS s p) := spn_b (k.gvb _) (k.gvb _)
  obtain ⟨b1, b2, b3, b4, b5, b6, b7, b8⟩ := bar_bd (s := s) h0 h1
  have tb := tie_b s p
  have mb := k.mdi p
  have gl := k.gl
  have ml := k.ml
  have spb := k.spb
  have q3 : p % per s.sp = 0 → f_X1_isParallelFrom a (a + 11) (ii (p - 1)) hs = some (ii (parF s p (har s (p / per s.sp * per s.sp - 1)) (p - 1))) := fun e => w S3 B3 (z := p - 1) (by omega) (by omega) (fun h => by
    have := (pc_there h).2
    rw [beat_0 e] at this
    exact this)
  have r3 := parF_b s p (har s (p / per s.sp * per s.sp - 1)) (p - 1)
  have w1 := leapS_b (arrS s p)
  have w2 := leapS_b (cmvS s p)
  have w3 := withS_b (arrS s p) (cmvS s p)
  have q := X7_goesWith S4 B4 S7 B7
  have B0' := B0.i
  obtain ⟨u01, u02, u03, u04, u05⟩ := B0'
  have e2 : p % per s.sp = 0 → ∀ t, 0 ≤ t ∧ t ≤ 1 → f_X1_isDirect_b60 a (ii t) hs = some (ii (dir2 s p t)) := fun e t ht => by
    unfold f_X1_isDirect_b60 dir2
    simp (disch := omega) only [j.r4, g9, j.chk, q3 e, if_ii, ii_add, ii_sub, ii_mul, ii_neg, ii_div, ii_lt, ii_le, ii_eq, ob_some, il_0, il_1, il_2, il_3, il_4, il_5, il_6, il_7, il_8, il_9, il_10, il_11, il_12, il_13, il_14, il_15, il_16, il_17, il_18, il_19, il_20, il_21, il_22, il_23, il_24, il_25, il_26, il_27, il_28, il_29, il_30, il_31, il_32, il_33, il_34, il_35, il_36, il_37, il_38, il_39, il_40, il_41, il_42, il_43, il_44, il_45, il_46, il_47, il_48, il_49, il_50, il_51, il_52, il_53, il_54, il_55, il_56, il_57, il_58, il_59, il_60, il_61, il_62, il_63, il_64, il_65, il_66, il_67, il_68, il_69, il_70, il_71, il_72, il_73, il_74, il_75, il_76, il_77, il_78, il_79, il_80, il_81, il_82, il_83, il_84, il_85, il_86, il_87, il_88, il_89, il_90, il_91, il_92, il_93, il_94, il_95, il_96, il_97, il_98, il_99, il_100, il_101, il_102, il_103, il_104, il_105, il_106, il_107, il_108, il_109, il_110, il_111, il_112, il_113, il_114, il_115, il_116, il_117, il_118, il_119, il_120, il_121, il_122, il_123, il_124, il_125, il_126, il_127, il_128, il_129, il_130, il_131, il_132, il_133, il_134, il_135, il_136, il_137, il_138, il_139, il_140, il_141, il_142, il_143, il_144, il_145, il_146, il_147, il_148, il_149, il_150, il_151, il_152, il_153, il_154, il_155, il_156, il_157, il_158, il_159, il_160, il_161, il_162, il_163, il_164, il_165, il_166, il_167, il_168, il_169, il_170, il_171, il_172, il_173, il_174, il_175, il_176, il_177, il_178, il_179, il_180, il_181, il_182, il_183, il_184, il_185, il_186, il_187, il_188, il_189, il_190, il_191, il_192, il_193, il_194, il_195, il_196, il_197, il_198, il_199, il_200, il_201, il_202, il_203, il_204, il_205, il_206, il_207, il_208, il_209, il_210, il_211, il_212, il_213, il_214, il_215, il_216, il_217, il_218, il_219, il_220, il_221, il_222, il_223, il_224, il_225, il_226, il_227, il_228, il_229, il_230, il_231, il_232, il_233, il_234, il_235, il_236, il_237, il_238, il_239, il_240, il_241, il_242, il_243, il_244, il_245, il_246, il_247, il_248, il_249, il_250, il_251, il_252, il_253, il_254, il_255, il_400, il_480, il_1023, il_2880, il_3000, il_6000, il_m1, il_m8]
  unfold f_X1_isDirect dirD
  simp (disch := omega) only [g9, g10, g11, g12, g13, g14, g15, g16, j.sh, j.r1, j.r2, j.r3, j.r4, j.r5, j.r6, j.r7, j.r8, j.chk, j.2.1.g, j.2.1.m, j.2.1.chk, j.2.1.2.1.chk, j.2.1.2.2.1.chk, X2_size j.2.1.2.1, X2_size j.2.1.2.2.1, X2_at j.2.1.2.1, X2_at j.2.1.2.2.1, X6_species j.2.1, X6_isBelow j.2.1 k, X6_firstPlaceIn j.2.1 k, S0.chk, S1.chk, S2.chk, S3.chk, S4.chk, S5.chk, S6.chk, S7.chk, X7_isThere S0 B0, X7_steps S0, X7_width S0, X7_way S0, X7_perfectClass S0, X7_isStep S0 B0, X7_isLeap S0 B0, X7_isConsonant S0 B0, X7_isMelodious S0 B0, X7_isThere S1 B1, X7_steps S1, X7_width S1, X7_way S1, X7_perfectClass S1, X7_isStep S1 B1, X7_isLeap S1 B1, X7_isConsonant S1 B1, X7_isMelodious S1 B1, X7_isThere S2 B2, X7_steps S2, X7_width S2, X7_way S2, X7_perfectClass S2, X7_isStep S2 B2, X7_isLeap S2 B2, X7_isConsonant S2 B2, X7_isMelodious S2 B2, X7_isThere S3 B3, X7_steps S3, X7_width S3, X7_way S3, X7_perfectClass S3, X7_isStep S3 B3, X7_isLeap S3 B3, X7_isConsonant S3 B3, X7_isMelodious S3 B3, X7_isThere S4 B4, X7_steps S4, X7_width S4, X7_way S4, X7_perfectClass S4, X7_isStep S4 B4, X7_isLeap S4 B4, X7_isConsonant S4 B4, X7_isMelodious S4 B4, X7_isThere S5 B5, X7_steps S5, X7_width S5, X7_way S5, X7_perfectClass S5, X7_isStep S5 B5, X7_isLeap S5 B5, X7_isConsonant S5 B5, X7_isMelodious S5 B5, X7_isThere S6 B6, X7_steps S6, X7_width S6, X7_way S6, X7_perfectClass S6, X7_isStep S6 B6, X7_isLeap S6 B6, X7_isConsonant S6 B6, X7_isMelodious S6 B6, X7_isThere S7 B7, X7_steps S7, X7_width S7, X7_way S7, X7_perfectClass S7, X7_isStep S7 B7, X7_isLeap S7 B7, X7_isConsonant S7 B7, X7_isMelodious S7 B7, q, ii_add, ii_sub, ii_mul, ii_neg, ii_div, ii_lt, ii_le, ii_eq, ob_some, il_0, il_1, il_2, il_3, il_4, il_5, il_6, il_7, il_8, il_9, il_10, il_11, il_12, il_13, il_14, il_15, il_16, il_17, il_18, il_19, il_20, il_21, il_22, il_23, il_24, il_25, il_26, il_27, il_28, il_29, il_30, il_31, il_32, il_33, il_34, il_35, il_36, il_37, il_38, il_39, il_40, il_41, il_42, il_43, il_44, il_45, il_46, il_47, il_48, il_49, il_50, il_51, il_52, il_53, il_54, il_55, il_56, il_57, il_58, il_59, il_60, il_61, il_62, il_63, il_64, il_65, il_66, il_67, il_68, il_69, il_70, il_71, il_72, il_73, il_74, il_75, il_76, il_77, il_78, il_79, il_80, il_81, il_82, il_83, il_84, il_85, il_86, il_87, il_88, il_89, il_90, il_91, il_92, il_93, il_94, il_95, il_96, il_97, il_98, il_99, il_100, il_101, il_102, il_103, il_104, il_105, il_106, il_107, il_108, il_109, il_110, il_111, il_112, il_113, il_114, il_115, il_116, il_117, il_118, il_119, il_120, il_121, il_122, il_123, il_124, il_125, il_126, il_127, il_128, il_129, il_130, il_131, il_132, il_133, il_134, il_135, il_136, il_137, il_138, il_139, il_140, il_141, il_142, il_143, il_144, il_145, il_146, il_147, il_148, il_149, il_150, il_151, il_152, il_153, il_154, il_155, il_156, il_157, il_158, il_159, il_160, il_161, il_162, il_163, il_164, il_165, il_166, il_167, il_168, il_169, il_170, il_171, il_172, il_173, il_174, il_175, il_176, il_177, il_178, il_179, il_180, il_181, il_182, il_183, il_184, il_185, il_186, il_187, il_188, il_189, il_190, il_191, il_192, il_193, il_194, il_195, il_196, il_197, il_198, il_199, il_200, il_201, il_202, il_203, il_204, il_205, il_206, il_207, il_208, il_209, il_210, il_211, il_212, il_213, il_214, il_215, il_216, il_217, il_218, il_219, il_220, il_221, il_222, il_223, il_224, il_225, il_226, il_227, il_228, il_229, il_230, il_231, il_232, il_233, il_234, il_235, il_236, il_237, il_238, il_239, il_240, il_241, il_242, il_243, il_244, il_245, il_246, il_247, il_248, il_249, il_250, il_251, il_252, il_253, il_254, il_255, il_400, il_480, il_1023, il_2880, il_3000, il_6000, il_m1, il_m8]
  by_cases c : p % per s.sp = 0
  · rw [if_pos c, if_pos c, e2 c _ w1, e2 c _ w2]
    simp (disch := omega) only [if_ii, ii_add, ii_sub, ii_mul, ii_neg, ii_div, ii_lt, ii_le, ii_eq, ob_some, il_0, il_1, il_2, il_3, il_4, il_5, il_6, il_7, il_8, il_9, il_10, il_11, il_12, il_13, il_14, il_15, il_16, il_17, il_18, il_19, il_20, il_21, il_22, il_23, il_24, il_25, il_26, il_27, il_28, il_29, il_30, il_31, il_32, il_33, il_34, il_35, il_36, il_37, il_38, il_39, il_40, il_41, il_42, il_43, il_44, il_45, il_46, il_47, il_48, il_49, il_50, il_51, il_52, il_53, il_54, il_55, il_56, il_57, il_58, il_59, il_60, il_61, il_62, il_63, il_64, il_65, il_66, il_67, il_68, il_69, il_70, il_71, il_72, il_73, il_74, il_75, il_76, il_77, il_78, il_79, il_80, il_81, il_82, il_83, il_84, il_85, il_86, il_87, il_88, il_89, il_90, il_91, il_92, il_93, il_94, il_95, il_96, il_97, il_98, il_99, il_100, il_101, il_102, il_103, il_104, il_105, il_106, il_107, il_108, il_109, il_110, il_111, il_112, il_113, il_114, il_115, il_116, il_117, il_118, il_119, il_120, il_121, il_122, il_123, il_124, il_125, il_126, il_127, il_128, il_129, il_130, il_131, il_132, il_133, il_134, il_135, il_136, il_137, il_138, il_139, il_140, il_141, il_142, il_143, il_144, il_145, il_146, il_147, il_148, il_149, il_150, il_151, il_152, il_153, il_154, il_155, il_156, il_157, il_158, il_159, il_160, il_161, il_162, il_163, il_164, il_165, il_166, il_167, il_168, il_169, il_170, il_171, il_172, il_173, il_174, il_175, il_176, il_177, il_178, il_179, il_180, il_181, il_182, il_183, il_184, il_185, il_186, il_187, il_188, il_189, il_190, il_191, il_192, il_193, il_194, il_195, il_196, il_197, il_198, il_199, il_200, il_201, il_202, il_203, il_204, il_205, il_206, il_207, il_208, il_209, il_210, il_211, il_212, il_213, il_214, il_215, il_216, il_217, il_218, il_219, il_220, il_221, il_222, il_223, il_224, il_225, il_226, il_227, il_228, il_229, il_230, il_231, il_232, il_233, il_234, il_235, il_236, il_237, il_238, il_239, il_240, il_241, il_242, il_243, il_244, il_245, il_246, il_247, il_248, il_249, il_250, il_251, il_252, il_253, il_254, il_255, il_400, il_480, il_1023, il_2880, il_3000, il_6000, il_m1, il_m8]
  · rw [if_neg c, if_neg c]
theorem X1_innU (k : SOK s) (L : Lkd hs a s p cp cn) (h0 : 0 ≤ p) (h1 : p ≤ 60) : f_X1_isInnerUnison a hs = some (ii (innU s p)) := by
  obtain ⟨x, j, y9, y10, y11, y12, y13, y14, y15, y16⟩ := L
  have g9 := j.i9
  have g10 := j.i10
  have g11 := j.i11
  have g12 := j.i12
  have g13 := j.i13
  have g14 := j.i14
  have g15 := j.i15
  have g16 := j.i16
  rw [y9] at g9
  rw [y10] at g10
  rw [y11] at g11
  rw [y12] at g12
  rw [y13] at g13
  rw [y14] at g14
  rw [y15] at g15
  rw [y16] at g16
  have S0 : SpA hs (a + 8) (har s p) := j.2.2 0 (by decide)
  have S1 : SpA hs (a + 9) (har s (p + 1)) := j.2.2 1 (by decide)
  have S2 : SpA hs (a + 10) (har s ((p / per s.sp - 1) * per s.sp)) := j.2.2 2 (by decide)
  have S3 : SpA hs (a + 11) (har s (p / per s.sp * per s.sp - 1)) := j.2.2 3 (by decide)
  have S4 : SpA hs (a + 12) (arrS s p) := j.2.2 4 (by decide)
  have S5 : SpA hs (a + 13) (appS s p) := j.2.2 5 (by decide)
  have S6 : SpA hs (a + 14) (depS s p) := j.2.2 6 (by decide)
  have S7 : SpA hs (a + 15) (cmvS s p) := j.2.2 7 (by decide)
  have B0 : SpB (har s p) := spn_b (k.gvb _) (k.mdb _)
  have B1 : SpB (har s (p + 1)) := spn_b (k.gvb _) (k.mdb _)
  have B2 : SpB (har s ((p / per s.sp - 1) * per s.sp)) := spn_b (k.gvb _) (k.mdb _)
  have B3 : SpB (har s (p / per s.sp * per s.sp - 1)) := spn_b (k.gvb _) (k.mdb _)
  have B4 : SpB (arrS s p) := spn_b (k.mdb _) (k.mdb _)
  have B5 : SpB (appS s p) := spn_b (k.mdb _) (k.mdb _)
  have B6 : SpB (depS s p) := spn_b (k.mdb _) (k.mdb _)
  have B7 : SpB (cmvS s p) := spn_b (k.gvb _) (k.gvb _)
  obtain ⟨b1, b2, b3, b4, b5, b6, b7, b8⟩ := bar_bd (s := s) h0 h1
  have tb := tie_b s p
  have mb := k.mdi p
  have gl := k.gl
  have ml := k.ml
  have spb := k.spb
  have B0' := B0.i
  obtain ⟨u01, u02, u03, u04, u05⟩ := B0'
  unfold f_X1_isInnerUnison innU
  simp (disch := omega) only [g9, g10, g11, g12, g13, g14, g15, g16, j.sh, j.r1, j.r2, j.r3, j.r4, j.r5, j.r6, j.r7, j.r8, j.chk, j.2.1.g, j.2.1.m, j.2.1.chk, j.2.1.2.1.chk, j.2.1.2.2.1.chk, X2_size j.2.1.2.1, X2_size j.2.1.2.2.1, X2_at j.2.1.2.1, X2_at j.2.1.2.2.1, X6_species j.2.1, X6_isBelow j.2.1 k, X6_firstPlaceIn j.2.1 k, S0.chk, S1.chk, S2.chk, S3.chk, S4.chk, S5.chk, S6.chk, S7.chk, X7_isThere S0 B0, X7_steps S0, X7_width S0, X7_way S0, X7_perfectClass S0, X7_isStep S0 B0, X7_isLeap S0 B0, X7_isConsonant S0 B0, X7_isMelodious S0 B0, X7_isThere S1 B1, X7_steps S1, X7_width S1, X7_way S1, X7_perfectClass S1, X7_isStep S1 B1, X7_isLeap S1 B1, X7_isConsonant S1 B1, X7_isMelodious S1 B1, X7_isThere S2 B2, X7_steps S2, X7_width S2, X7_way S2, X7_perfectClass S2, X7_isStep S2 B2, X7_isLeap S2 B2, X7_isConsonant S2 B2, X7_isMelodious S2 B2, X7_isThere S3 B3, X7_steps S3, X7_width S3, X7_way S3, X7_perfectClass S3, X7_isStep S3 B3, X7_isLeap S3 B3, X7_isConsonant S3 B3, X7_isMelodious S3 B3, X7_isThere S4 B4, X7_steps S4, X7_width S4, X7_way S4, X7_perfectClass S4, X7_isStep S4 B4, X7_isLeap S4 B4, X7_isConsonant S4 B4, X7_isMelodious S4 B4, X7_isThere S5 B5, X7_steps S5, X7_width S5, X7_way S5, X7_perfectClass S5, X7_isStep S5 B5, X7_isLeap S5 B5, X7_isConsonant S5 B5, X7_isMelodious S5 B5, X7_isThere S6 B6, X7_steps S6, X7_width S6, X7_way S6, X7_perfectClass S6, X7_isStep S6 B6, X7_isLeap S6 B6, X7_isConsonant S6 B6, X7_isMelodious S6 B6, X7_isThere S7 B7, X7_steps S7, X7_width S7, X7_way S7, X7_perfectClass S7, X7_isStep S7 B7, X7_isLeap S7 B7, X7_isConsonant S7 B7, X7_isMelodious S7 B7, if_ii, ii_add, ii_sub, ii_mul, ii_neg, ii_div, ii_lt, ii_le, ii_eq, ob_some, il_0, il_1, il_2, il_3, il_4, il_5, il_6, il_7, il_8, il_9, il_10, il_11, il_12, il_13, il_14, il_15, il_16, il_17, il_18, il_19, il_20, il_21, il_22, il_23, il_24, il_25, il_26, il_27, il_28, il_29, il_30, il_31, il_32, il_33, il_34, il_35, il_36, il_37, il_38, il_39, il_40, il_41, il_42, il_43, il_44, il_45, il_46, il_47, il_48, il_49, il_50, il_51, il_52, il_53, il_54, il_55, il_56, il_57, il_58, il_59, il_60, il_61, il_62, il_63, il_64, il_65, il_66, il_67, il_68, il_69, il_70, il_71, il_72, il_73, il_74, il_75, il_76, il_77, il_78, il_79, il_80, il_81, il_82, il_83, il_84, il_85, il_86, il_87, il_88, il_89, il_90, il_91, il_92, il_93, il_94, il_95, il_96, il_97, il_98, il_99, il_100, il_101, il_102, il_103, il_104, il_105, il_106, il_107, il_108, il_109, il_110, il_111, il_112, il_113, il_114, il_115, il_116, il_117, il_118, il_119, il_120, il_121, il_122, il_123, il_124, il_125, il_126, il_127, il_128, il_129, il_130, il_131, il_132, il_133, il_134, il_135, il_136, il_137, il_138, il_139, il_140, il_141, il_142, il_143, il_144, il_145, il_146, il_147, il_148, il_149, il_150, il_151, il_152, il_153, il_154, il_155, il_156, il_157, il_158, il_159, il_160, il_161, il_162, il_163, il_164, il_165, il_166, il_167, il_168, il_169, il_170, il_171, il_172, il_173, il_174, il_175, il_176, il_177, il_178, il_179, il_180, il_181, il_182, il_183, il_184, il_185, il_186, il_187, il_188, il_189, il_190, il_191, il_192, il_193, il_194, il_195, il_196, il_197, il_198, il_199, il_200, il_201, il_202, il_203, il_204, il_205, il_206, il_207, il_208, il_209, il_210, il_211, il_212, il_213, il_214, il_215, il_216, il_217, il_218, il_219, il_220, il_221, il_222, il_223, il_224, il_225, il_226, il_227, il_228, il_229, il_230, il_231, il_232, il_233, il_234, il_235, il_236, il_237, il_238, il_239, il_240, il_241, il_242, il_243, il_244, il_245, il_246, il_247, il_248, il_249, il_250, il_251, il_252, il_253, il_254, il_255, il_400, il_480, il_1023, il_2880, il_3000, il_6000, il_m1, il_m8]
theorem X1_badB (k : SOK s) (L : Lkd hs a s p cp cn) (h0 : 0 ≤ p) (h1 : p ≤ 60) : f_X1_isBadBegin a hs = some (ii (badB s p)) := by
  obtain ⟨x, j, y9, y10, y11, y12, y13, y14, y15, y16⟩ := L
  have g9 := j.i9
  have g10 := j.i10
  have g11 := j.i11
  have g12 := j.i12
  have g13 := j.i13
  have g14 := j.i14
  have g15 := j.i15
  have g16 := j.i16
  rw [y9] at g9
  rw [y10] at g10
  rw [y11] at g11
  rw [y12] at g12
  rw [y13] at g13
  rw [y14] at g14
  rw [y15] at g15
  rw [y16] at g16
  have S0 : SpA hs (a + 8) (har s p) := j.2.2 0 (by decide)
  have S1 : SpA hs (a + 9) (har s (p + 1)) := j.2.2 1 (by decide)
  have S2 : SpA hs (a + 10) (har s ((p / per s.sp - 1) * per s.sp)) := j.2.2 2 (by decide)
  have S3 : SpA hs (a + 11) (har s (p / per s.sp * per s.sp - 1)) := j.2.2 3 (by decide)
  have S4 : SpA hs (a + 12) (arrS s p) := j.2.2 4 (by decide)
  have S5 : SpA hs (a + 13) (appS s p) := j.2.2 5 (by decide)
  have S6 : SpA hs (a + 14) (depS s p) := j.2.2 6 (by decide)
  have S7 : SpA hs (a + 15) (cmvS s p) := j.2.2 7 (by decide)
  have B0 : SpB (har s p) := spn_b (k.gvb _) (k.mdb _)
  have B1 : SpB (har s (p + 1)) := spn_b (k.gvb _) (k.mdb _)
  have B2 : SpB (har s ((p / per s.sp - 1) * per s.sp)) := spn_b (k.gvb _) (k.mdb _)
  have B3 : SpB (har s (p / per s.sp * per s.sp - 1)) := spn_b (k.gvb _) (k.mdb _)
  have B4 : SpB (arrS s p) := spn_b (k.mdb _) (k.mdb _)
  have B5 : SpB (appS s p) := spn_b (k.mdb _) (k.mdb _)
  have B6 : SpB (depS s p) := spn_b (k.mdb _) (k.mdb _)
  have B7 : SpB (cmvS s p) := spn_b (k.gvb _) (k.gvb _)
  obtain ⟨b1, b2, b3, b4, b5, b6, b7, b8⟩ := bar_bd (s := s) h0 h1
  have tb := tie_b s p
  have mb := k.mdi p
  have gl := k.gl
  have ml := k.ml
  have spb := k.spb
  have B0' := B0.i
  have m0 := k.mdi 0
  have blb := k.bli
  obtain ⟨u01, u02, u03, u04, u05⟩ := B0'
  unfold f_X1_isBadBegin f_X1_isBadBegin_b20 badB bad2
  simp (disch := omega) only [g9, g10, g11, g12, g13, g14, g15, g16, j.sh, j.r1, j.r2, j.r3, j.r4, j.r5, j.r6, j.r7, j.r8, j.chk, j.2.1.g, j.2.1.m, j.2.1.chk, j.2.1.2.1.chk, j.2.1.2.2.1.chk, X2_size j.2.1.2.1, X2_size j.2.1.2.2.1, X2_at j.2.1.2.1, X2_at j.2.1.2.2.1, X6_species j.2.1, X6_isBelow j.2.1 k, X6_firstPlaceIn j.2.1 k, S0.chk, S1.chk, S2.chk, S3.chk, S4.chk, S5.chk, S6.chk, S7.chk, X7_isThere S0 B0, X7_steps S0, X7_width S0, X7_way S0, X7_perfectClass S0, X7_isStep S0 B0, X7_isLeap S0 B0, X7_isConsonant S0 B0, X7_isMelodious S0 B0, X7_isThere S1 B1, X7_steps S1, X7_width S1, X7_way S1, X7_perfectClass S1, X7_isStep S1 B1, X7_isLeap S1 B1, X7_isConsonant S1 B1, X7_isMelodious S1 B1, X7_isThere S2 B2, X7_steps S2, X7_width S2, X7_way S2, X7_perfectClass S2, X7_isStep S2 B2, X7_isLeap S2 B2, X7_isConsonant S2 B2, X7_isMelodious S2 B2, X7_isThere S3 B3, X7_steps S3, X7_width S3, X7_way S3, X7_perfectClass S3, X7_isStep S3 B3, X7_isLeap S3 B3, X7_isConsonant S3 B3, X7_isMelodious S3 B3, X7_isThere S4 B4, X7_steps S4, X7_width S4, X7_way S4, X7_perfectClass S4, X7_isStep S4 B4, X7_isLeap S4 B4, X7_isConsonant S4 B4, X7_isMelodious S4 B4, X7_isThere S5 B5, X7_steps S5, X7_width S5, X7_way S5, X7_perfectClass S5, X7_isStep S5 B5, X7_isLeap S5 B5, X7_isConsonant S5 B5, X7_isMelodious S5 B5, X7_isThere S6 B6, X7_steps S6, X7_width S6, X7_way S6, X7_perfectClass S6, X7_isStep S6 B6, X7_isLeap S6 B6, X7_isConsonant S6 B6, X7_isMelodious S6 B6, X7_isThere S7 B7, X7_steps S7, X7_width S7, X7_way S7, X7_perfectClass S7, X7_isStep S7 B7, X7_isLeap S7 B7, X7_isConsonant S7 B7, X7_isMelodious S7 B7, if_ii, ii_add, ii_sub, ii_mul, ii_neg, ii_div, ii_lt, ii_le, ii_eq, ob_some, il_0, il_1, il_2, il_3, il_4, il_5, il_6, il_7, il_8, il_9, il_10, il_11, il_12, il_13, il_14, il_15, il_16, il_17, il_18, il_19, il_20, il_21, il_22, il_23, il_24, il_25, il_26, il_27, il_28, il_29, il_30, il_31, il_32, il_33, il_34, il_35, il_36, il_37, il_38, il_39, il_40, il_41, il_42, il_43, il_44, il_45, il_46, il_47, il_48, il_49, il_50, il_51, il_52, il_53, il_54, il_55, il_56, il_57, il_58, il_59, il_60, il_61, il_62, il_63, il_64, il_65, il_66, il_67, il_68, il_69, il_70, il_71, il_72, il_73, il_74, il_75, il_76, il_77, il_78, il_79, il_80, il_81, il_82, il_83, il_84, il_85, il_86, il_87, il_88, il_89, il_90, il_91, il_92, il_93, il_94, il_95, il_96, il_97, il_98, il_99, il_100, il_101, il_102, il_103, il_104, il_105, il_106, il_107, il_108, il_109, il_110, il_111, il_112, il_113, il_114, il_115, il_116, il_117, il_118, il_119, il_120, il_121, il_122, il_123, il_124, il_125, il_126, il_127, il_128, il_129, il_130, il_131, il_132, il_133, il_134, il_135, il_136, il_137, il_138, il_139, il_140, il_141, il_142, il_143, il_144, il_145, il_146, il_147, il_148, il_149, il_150, il_151, il_152, il_153, il_154, il_155, il_156, il_157, il_158, il_159, il_160, il_161, il_162, il_163, il_164, il_165, il_166, il_167, il_168, il_169, il_170, il_171, il_172, il_173, il_174, il_175, il_176, il_177, il_178, il_179, il_180, il_181, il_182, il_183, il_184, il_185, il_186, il_187, il_188, il_189, il_190, il_191, il_192, il_193, il_194, il_195, il_196, il_197, il_198, il_199, il_200, il_201, il_202, il_203, il_204, il_205, il_206, il_207, il_208, il_209, il_210, il_211, il_212, il_213, il_214, il_215, il_216, il_217, il_218, il_219, il_220, il_221, il_222, il_223, il_224, il_225, il_226, il_227, il_228, il_229, il_230, il_231, il_232, il_233, il_234, il_235, il_236, il_237, il_238, il_239, il_240, il_241, il_242, il_243, il_244, il_245, il_246, il_247, il_248, il_249, il_250, il_251, il_252, il_253, il_254, il_255, il_400, il_480, il_1023, il_2880, il_3000, il_6000, il_m1, il_m8]
theorem X1_cad (k : SOK s) (L : Lkd hs a s p cp cn) (h0 : 0 ≤ p) (h1 : p ≤ 60) : f_X1_cadence a hs = some (ii (cadC s p)) := by
  obtain ⟨x, j, y9, y10, y11, y12, y13, y14, y15, y16⟩ := L
  have g9 := j.i9
  have g10 := j.i10
  have g11 := j.i11
  have g12 := j.i12
  have g13 := j.i13
  have g14 := j.i14
  have g15 := j.i15
  have g16 := j.i16
  rw [y9] at g9
  rw [y10] at g10
  rw [y11] at g11
  rw [y12] at g12
  rw [y13] at g13
  rw [y14] at g14
  rw [y15] at g15
  rw [y16] at g16
  have S0 : SpA hs (a + 8) (har s p) := j.2.2 0 (by decide)
  have S1 : SpA hs (a + 9) (har s (p + 1)) := j.2.2 1 (by decide)
  have S2 : SpA hs (a + 10) (har s ((p / per s.sp - 1) * per s.sp)) := j.2.2 2 (by decide)
  have S3 : SpA hs (a + 11) (har s (p / per s.sp * per s.sp - 1)) := j.2.2 3 (by decide)
  have S4 : SpA hs (a + 12) (arrS s p) := j.2.2 4 (by decide)
  have S5 : SpA hs (a + 13) (appS s p) := j.2.2 5 (by decide)
  have S6 : SpA hs (a + 14) (depS s p) := j.2.2 6 (by decide)
  have S7 : SpA hs (a + 15) (cmvS s p) := j.2.2 7 (by decide)
  have B0 : SpB (har s p) := spn_b (k.gvb _) (k.mdb _)
  have B1 : SpB (har s (p + 1)) := spn_b (k.gvb _) (k.mdb _)
  have B2 : SpB (har s ((p / per s.sp - 1) * per s.sp)) := spn_b (k.gvb _) (k.mdb _)
  have B3 : SpB (har s (p / per s.sp * per s.sp - 1)) := spn_b (k.gvb _) (k.mdb _)
  have B4 : SpB (arrS s p) := spn_b (k.mdb _) (k.mdb _)
  have B5 : SpB (appS s p) := spn_b (k.mdb _) (k.mdb _)
  have B6 : SpB (depS s p) := spn_b (k.mdb _) (k.mdb _)
  have B7 : SpB (cmvS s p) := spn_b (k.gvb _) (k.gvb _)
  obtain ⟨b1, b2, b3, b4, b5, b6, b7, b8⟩ := bar_bd (s := s) h0 h1
  have tb := tie_b s p
  have mb := k.mdi p
  have gl := k.gl
  have ml := k.ml
  have spb := k.spb
  have w1 := stepS_b (arrS s p)
  have w2 := stepS_b (cmvS s p)
  have w3 := agaS_b (cmvS s p) (arrS s p)
  have q := X7_goesAgainst S7 B7 S4 B4
  have B0' := B0.i
  obtain ⟨u01, u02, u03, u04, u05⟩ := B0'
  have B4' := B4.i
  obtain ⟨u41, u42, u43, u44, u45⟩ := B4'
  have B7' := B7.i
  obtain ⟨u71, u72, u73, u74, u75⟩ := B7'
  unfold f_X1_cadence cadC
  simp (disch := omega) only [↓ob_some, ↓ob_of (g9), ↓ob_of (j.sh), ↓ob_of (j.2.1.m), ↓ob_of (j.2.1.2.2.1.chk), ↓ob_of (X2_size j.2.1.2.2.1), ↓ob_of (j.r1), ↓ob_of (S0.chk), ↓ob_of (X7_perfectClass S0), ↓ob_of (j.r5), ↓ob_of (S4.chk), ↓ob_of (X7_isStep S4 B4), ↓ob_of (j.r8), ↓ob_of (S7.chk), ↓ob_of (X7_isStep S7 B7), ↓ob_of (q), ↓ob_of (X7_way S4), ↓ob_of (X7_width S7), ↓ob_of (X7_width S4), if_ii, ii_add, ii_sub, ii_mul, ii_neg, ii_div, ii_lt, ii_le, ii_eq, ob_some, il_0, il_1, il_2, il_3, il_4, il_5, il_6, il_7, il_8, il_9, il_10, il_11, il_12, il_13, il_14, il_15, il_16, il_17, il_18, il_19, il_20, il_21, il_22, il_23, il_24, il_25, il_26, il_27, il_28, il_29, il_30, il_31, il_32, il_33, il_34, il_35, il_36, il_37, il_38, il_39, il_40, il_41, il_42, il_43, il_44, il_45, il_46, il_47, il_48, il_49, il_50, il_51, il_52, il_53, il_54, il_55, il_56, il_57, il_58, il_59, il_60, il_61, il_62, il_63, il_64, il_65, il_66, il_67, il_68, il_69, il_70, il_71, il_72, il_73, il_74, il_75, il_76, il_77, il_78, il_79, il_80, il_81, il_82, il_83, il_84, il_85, il_86, il_87, il_88, il_89, il_90, il_91, il_92, il_93, il_94, il_95, il_96, il_97, il_98, il_99, il_100, il_101, il_102, il_103, il_104, il_105, il_106, il_107, il_108, il_109, il_110, il_111, il_112, il_113, il_114, il_115, il_116, il_117, il_118, il_119, il_120, il_121, il_122, il_123, il_124, il_125, il_126, il_127, il_128, il_129, il_130, il_131, il_132, il_133, il_134, il_135, il_136, il_137, il_138, il_139, il_140, il_141, il_142, il_143, il_144, il_145, il_146, il_147, il_148, il_149, il_150, il_151, il_152, il_153, il_154, il_155, il_156, il_157, il_158, il_159, il_160, il_161, il_162, il_163, il_164, il_165, il_166, il_167, il_168, il_169, il_170, il_171, il_172, il_173, il_174, il_175, il_176, il_177, il_178, il_179, il_180, il_181, il_182, il_183, il_184, il_185, il_186, il_187, il_188, il_189, il_190, il_191, il_192, il_193, il_194, il_195, il_196, il_197, il_198, il_199, il_200, il_201, il_202, il_203, il_204, il_205, il_206, il_207, il_208, il_209, il_210, il_211, il_212, il_213, il_214, il_215, il_216, il_217, il_218, il_219, il_220, il_221, il_222, il_223, il_224, il_225, il_226, il_227, il_228, il_229, il_230, il_231, il_232, il_233, il_234, il_235, il_236, il_237, il_238, il_239, il_240, il_241, il_242, il_243, il_244, il_245, il_246, il_247, il_248, il_249, il_250, il_251, il_252, il_253, il_254, il_255, il_400, il_480, il_1023, il_2880, il_3000, il_6000, il_m1, il_m8]
theorem tie_note {s : Sh} {p : Int} (h : tie s p ≠ 0) : lat s.md p ≠ -1 := by
  unfold tie at h
  by_cases c : s.sp = 4 ∧ 0 < p ∧ p % 2 = 0 ∧ lat s.md p ≠ -1 ∧ lat s.md p = lat s.md (p - 1)
  · exact c.2.2.2.1
  · rw [if_neg c] at h; exact absurd rfl h
theorem X1_sus (k : SOK s) (L : Lkd hs a s p cp cn) (h0 : 0 ≤ p) (h1 : p ≤ 60) : f_X1_isBadSuspension a hs = some (ii (susD s p)) := by
  obtain ⟨x, j, y9, y10, y11, y12, y13, y14, y15, y16⟩ := L
  have g9 := j.i9
  have g10 := j.i10
  have g11 := j.i11
  have g12 := j.i12
  have g13 := j.i13
  have g14 := j.i14
  have g15 := j.i15
  have g16 := j.i16
  rw [y9] at g9
  rw [y10] at g10
  rw [y11] at g11
  rw [y12] at g12
  rw [y13] at g13
  rw [y14] at g14
  rw [y15] at g15
  rw [y16] at g16
  have S0 : SpA hs (a + 8) (har s p) := j.2.2 0 (by decide)
  have S1 : SpA hs (a + 9) (har s (p + 1)) := j.2.2 1 (by decide)
  have S2 : SpA hs (a + 10) (har s ((p / per s.sp - 1) * per s.sp)) := j.2.2 2 (by decide)
  have S3 : SpA hs (a + 11) (har s (p / per s.sp * per s.sp - 1)) := j.2.2 3 (by decide)
  have S4 : SpA hs (a + 12) (arrS s p) := j.2.2 4 (by decide)
  have S5 : SpA hs (a + 13) (appS s p) := j.2.2 5 (by decide)
  have S6 : SpA hs (a + 14) (depS s p) := j.2.2 6 (by decide)
  have S7 : SpA hs (a + 15) (cmvS s p) := j.2.2 7 (by decide)
  have B0 : SpB (har s p) := spn_b (k.gvb _) (k.mdb _)
  have B1 : SpB (har s (p + 1)) := spn_b (k.gvb _) (k.mdb _)
  have B2 : SpB (har s ((p / per s.sp - 1) * per s.sp)) := spn_b (k.gvb _) (k.mdb _)
  have B3 : SpB (har s (p / per s.sp * per s.sp - 1)) := spn_b (k.gvb _) (k.mdb _)
  have B4 : SpB (arrS s p) := spn_b (k.mdb _) (k.mdb _)
  have B5 : SpB (appS s p) := spn_b (k.mdb _) (k.mdb _)
  have B6 : SpB (depS s p) := spn_b (k.mdb _) (k.mdb _)
  have B7 : SpB (cmvS s p) := spn_b (k.gvb _) (k.gvb _)
  obtain ⟨b1, b2, b3, b4, b5, b6, b7, b8⟩ := bar_bd (s := s) h0 h1
  have tb := tie_b s p
  have mb := k.mdi p
  have gl := k.gl
  have ml := k.ml
  have spb := k.spb
  have m1 := k.mdi (p + 1)
  have w3 := conS_b (har s p)
  have w4 := conS_b (har s (p + 1))
  unfold f_X1_isBadSuspension susD
  simp (disch := omega) only [g9, g10, g11, g12, g13, g14, g15, g16, j.sh, j.r1, j.r2, j.r3, j.r4, j.r5, j.r6, j.r7, j.r8, j.chk, j.2.1.g, j.2.1.m, j.2.1.chk, j.2.1.2.1.chk, j.2.1.2.2.1.chk, X2_size j.2.1.2.1, X2_size j.2.1.2.2.1, X2_at j.2.1.2.1, X2_at j.2.1.2.2.1, X6_species j.2.1, X6_isBelow j.2.1 k, X6_firstPlaceIn j.2.1 k, S0.chk, S1.chk, S2.chk, S3.chk, S4.chk, S5.chk, S6.chk, S7.chk, X7_isThere S0 B0, X7_steps S0, X7_width S0, X7_way S0, X7_perfectClass S0, X7_isStep S0 B0, X7_isLeap S0 B0, X7_isConsonant S0 B0, X7_isMelodious S0 B0, X7_isThere S1 B1, X7_steps S1, X7_width S1, X7_way S1, X7_perfectClass S1, X7_isStep S1 B1, X7_isLeap S1 B1, X7_isConsonant S1 B1, X7_isMelodious S1 B1, X7_isThere S2 B2, X7_steps S2, X7_width S2, X7_way S2, X7_perfectClass S2, X7_isStep S2 B2, X7_isLeap S2 B2, X7_isConsonant S2 B2, X7_isMelodious S2 B2, X7_isThere S3 B3, X7_steps S3, X7_width S3, X7_way S3, X7_perfectClass S3, X7_isStep S3 B3, X7_isLeap S3 B3, X7_isConsonant S3 B3, X7_isMelodious S3 B3, X7_isThere S4 B4, X7_steps S4, X7_width S4, X7_way S4, X7_perfectClass S4, X7_isStep S4 B4, X7_isLeap S4 B4, X7_isConsonant S4 B4, X7_isMelodious S4 B4, X7_isThere S5 B5, X7_steps S5, X7_width S5, X7_way S5, X7_perfectClass S5, X7_isStep S5 B5, X7_isLeap S5 B5, X7_isConsonant S5 B5, X7_isMelodious S5 B5, X7_isThere S6 B6, X7_steps S6, X7_width S6, X7_way S6, X7_perfectClass S6, X7_isStep S6 B6, X7_isLeap S6 B6, X7_isConsonant S6 B6, X7_isMelodious S6 B6, X7_isThere S7 B7, X7_steps S7, X7_width S7, X7_way S7, X7_perfectClass S7, X7_isStep S7 B7, X7_isLeap S7 B7, X7_isConsonant S7 B7, X7_isMelodious S7 B7, ii_add, ii_sub, ii_mul, ii_neg, ii_div, ii_lt, ii_le, ii_eq, ob_some, il_0, il_1, il_2, il_3, il_4, il_5, il_6, il_7, il_8, il_9, il_10, il_11, il_12, il_13, il_14, il_15, il_16, il_17, il_18, il_19, il_20, il_21, il_22, il_23, il_24, il_25, il_26, il_27, il_28, il_29, il_30, il_31, il_32, il_33, il_34, il_35, il_36, il_37, il_38, il_39, il_40, il_41, il_42, il_43, il_44, il_45, il_46, il_47, il_48, il_49, il_50, il_51, il_52, il_53, il_54, il_55, il_56, il_57, il_58, il_59, il_60, il_61, il_62, il_63, il_64, il_65, il_66, il_67, il_68, il_69, il_70, il_71, il_72, il_73, il_74, il_75, il_76, il_77, il_78, il_79, il_80, il_81, il_82, il_83, il_84, il_85, il_86, il_87, il_88, il_89, il_90, il_91, il_92, il_93, il_94, il_95, il_96, il_97, il_98, il_99, il_100, il_101, il_102, il_103, il_104, il_105, il_106, il_107, il_108, il_109, il_110, il_111, il_112, il_113, il_114, il_115, il_116, il_117, il_118, il_119, il_120, il_121, il_122, il_123, il_124, il_125, il_126, il_127, il_128, il_129, il_130, il_131, il_132, il_133, il_134, il_135, il_136, il_137, il_138, il_139, il_140, il_141, il_142, il_143, il_144, il_145, il_146, il_147, il_148, il_149, il_150, il_151, il_152, il_153, il_154, il_155, il_156, il_157, il_158, il_159, il_160, il_161, il_162, il_163, il_164, il_165, il_166, il_167, il_168, il_169, il_170, il_171, il_172, il_173, il_174, il_175, il_176, il_177, il_178, il_179, il_180, il_181, il_182, il_183, il_184, il_185, il_186, il_187, il_188, il_189, il_190, il_191, il_192, il_193, il_194, il_195, il_196, il_197, il_198, il_199, il_200, il_201, il_202, il_203, il_204, il_205, il_206, il_207, il_208, il_209, il_210, il_211, il_212, il_213, il_214, il_215, il_216, il_217, il_218, il_219, il_220, il_221, il_222, il_223, il_224, il_225, il_226, il_227, il_228, il_229, il_230, il_231, il_232, il_233, il_234, il_235, il_236, il_237, il_238, il_239, il_240, il_241, il_242, il_243, il_244, il_245, il_246, il_247, il_248, il_249, il_250, il_251, il_252, il_253, il_254, il_255, il_400, il_480, il_1023, il_2880, il_3000, il_6000, il_m1, il_m8]
  by_cases c : tie s p = 0
  · rw [if_pos c, if_pos c]
  · have mp := tie_note c
    rw [if_neg c, if_neg c]
    by_cases d : conS (har s p) = 0
    · rw [if_pos d, if_pos d]
      by_cases e : lat s.md (p + 1) = -1
      · rw [if_pos e, if_pos e]
      · have s1 := stp_bd (c := lat s.md p) ((k.mdb p).resolve_left mp)
        have s2 := stp_bd (c := lat s.md (p + 1)) ((k.mdb (p + 1)).resolve_left e)
        rw [if_neg e, if_neg e, X8_stepOf (by omega) (by omega), ob_some, X8_stepOf (by omega) (by omega), ob_some]
        simp (disch := omega) only [if_ii, ii_add, ii_sub, ii_mul, ii_neg, ii_div, ii_lt, ii_le, ii_eq, ob_some, il_0, il_1, il_2, il_3, il_4, il_5, il_6, il_7, il_8, il_9, il_10, il_11, il_12, il_13, il_14, il_15, il_16, il_17, il_18, il_19, il_20, il_21, il_22, il_23, il_24, il_25, il_26, il_27, il_28, il_29, il_30, il_31, il_32, il_33, il_34, il_35, il_36, il_37, il_38, il_39, il_40, il_41, il_42, il_43, il_44, il_45, il_46, il_47, il_48, il_49, il_50, il_51, il_52, il_53, il_54, il_55, il_56, il_57, il_58, il_59, il_60, il_61, il_62, il_63, il_64, il_65, il_66, il_67, il_68, il_69, il_70, il_71, il_72, il_73, il_74, il_75, il_76, il_77, il_78, il_79, il_80, il_81, il_82, il_83, il_84, il_85, il_86, il_87, il_88, il_89, il_90, il_91, il_92, il_93, il_94, il_95, il_96, il_97, il_98, il_99, il_100, il_101, il_102, il_103, il_104, il_105, il_106, il_107, il_108, il_109, il_110, il_111, il_112, il_113, il_114, il_115, il_116, il_117, il_118, il_119, il_120, il_121, il_122, il_123, il_124, il_125, il_126, il_127, il_128, il_129, il_130, il_131, il_132, il_133, il_134, il_135, il_136, il_137, il_138, il_139, il_140, il_141, il_142, il_143, il_144, il_145, il_146, il_147, il_148, il_149, il_150, il_151, il_152, il_153, il_154, il_155, il_156, il_157, il_158, il_159, il_160, il_161, il_162, il_163, il_164, il_165, il_166, il_167, il_168, il_169, il_170, il_171, il_172, il_173, il_174, il_175, il_176, il_177, il_178, il_179, il_180, il_181, il_182, il_183, il_184, il_185, il_186, il_187, il_188, il_189, il_190, il_191, il_192, il_193, il_194, il_195, il_196, il_197, il_198, il_199, il_200, il_201, il_202, il_203, il_204, il_205, il_206, il_207, il_208, il_209, il_210, il_211, il_212, il_213, il_214, il_215, il_216, il_217, il_218, il_219, il_220, il_221, il_222, il_223, il_224, il_225, il_226, il_227, il_228, il_229, il_230, il_231, il_232, il_233, il_234, il_235, il_236, il_237, il_238, il_239, il_240, il_241, il_242, il_243, il_244, il_245, il_246, il_247, il_248, il_249, il_250, il_251, il_252, il_253, il_254, il_255, il_400, il_480, il_1023, il_2880, il_3000, il_6000, il_m1, il_m8]
    · rw [if_neg d, if_neg d]
/-- the detail that a rule finds; -1: none -/
def detC (s : Sh) (cp cn p : Int) (r : Nat) : Int := if lat s.md p = -1 then -1 else if lg s.wt r = 0 then -1 else match r with
  | 1 => if allow s (pitN (lat s.md p)) = 0 then pitN (lat s.md p) else -1
  | 2 => if (arrS s p).1 = 0 then -1 else if melS (arrS s p) = 0 then (arrS s p).2.2.1 else -1
  | 3 => if notRec s p = 0 then -1 else (appS s p).2.1
  | 4 => if lat s.md p = lat s.md (p - 1) then (if tie s p = 0 then 0 else -1) else -1
  | 5 => outl s p
  | 6 => if p = cp then cn else -1
  | 7 => if p % per s.sp = 0 then (if conS (har s p) = 0 then (if tie s p = 0 then (har s p).2.2.1 else -1) else -1) else -1
  | 8 => if weakD s p = 0 then -1 else (har s p).2.2.1
  | 9 => if isPar s p = 0 then -1 else (har s p).2.2.2.2
  | 10 => if dirD s p = 0 then -1 else (har s p).2.2.2.2
  | 11 => if innU s p = 0 then -1 else 0
  | 12 => if s.bl = 0 then (if (har s p).2.2.2.1 = -1 then (har s p).2.2.1 else -1) else (if (har s p).2.2.2.1 = 1 then (har s p).2.2.1 else -1)
  | 13 => if (har s p).2.2.1 ≤ lg s.st 2 then -1 else (har s p).2.2.1
  | 14 => if badB s p = 0 then -1 else (har s p).2.2.1
  | 15 => cadC s p
  | 16 => if susD s p = 0 then -1 else (har s p).2.2.1
  | _ => -1
theorem weakD_b (s : Sh) (p : Int) : 0 ≤ weakD s p ∧ weakD s p ≤ 1 := by
  have w3 : ∀ v t, 0 ≤ weak3 s v t ∧ weak3 s v t ≤ 1 := fun v t => if_b (if_b b11 b00) (if_b (if_b (if_b b11 b00) b00) b11)
  have w2 : ∀ st v, 0 ≤ weak2 s p st v ∧ weak2 s p st v ≤ 1 := fun st v => if_b (w3 _ _) (if_b (w3 _ _) (w3 _ _))
  have w1 : ∀ st, 0 ≤ weak1 s p st ∧ weak1 s p st ≤ 1 := fun st => if_b (w2 _ _) (if_b (w2 _ _) (w2 _ _))
  exact if_b b00 (if_b (if_b (w1 _) (if_b (w1 _) (w1 _))) b00)
theorem isPar_b (s : Sh) (p : Int) : 0 ≤ isPar s p ∧ isPar s p ≤ 1 := if_b (if_b (if_b b00 b11) b11) b00
theorem dirD_b (s : Sh) (p : Int) : 0 ≤ dirD s p ∧ dirD s p ≤ 1 := by
  have d : ∀ t, 0 ≤ dir2 s p t ∧ dir2 s p t ≤ 1 := fun t => if_b b00 (if_b b11 b00)
  exact if_b (if_b b00 (if_b b00 (if_b (d _) (d _)))) b00
theorem innU_b (s : Sh) (p : Int) : 0 ≤ innU s p ∧ innU s p ≤ 1 := if_b (if_b (if_b b00 (if_b b00 b11)) b00) b00
theorem badB_b (s : Sh) (p : Int) : 0 ≤ badB s p ∧ badB s p ≤ 1 := by
  have d : ∀ t, 0 ≤ bad2 s p t ∧ bad2 s p t ≤ 1 := fun t => if_b (if_b b00 (if_b (if_b b00 b11) b11)) b00
  exact if_b (d _) (d _)
theorem susD_b (s : Sh) (p : Int) : 0 ≤ susD s p ∧ susD s p ≤ 1 := if_b b00 (if_b (if_b b11 (if_b (if_b b11 b00) b11)) b00)
theorem notRec_b (s : Sh) (p : Int) : 0 ≤ notRec s p ∧ notRec s p ≤ 1 := if_b b00 (if_b b00 (if_b b00 (if_b b11 (if_b b11 b00))))
theorem X1_detailOf (k : SOK s) (L : Lkd hs a s p cp cn) (h0 : 0 ≤ p) (h1 : p ≤ 60) (c0 : -1 ≤ cp ∧ cp ≤ 60) (c1 : 0 ≤ cn ∧ cn ≤ 60) {r : Nat} (r1 : 1 ≤ r) (r2 : r ≤ 16) : f_X1_detailOf a (ii r) hs = some (ii (detC s cp cn p r)) := by
  have q3 := X1_isNotRecovered k L h0 h1
  have q5 := X1_outline k L h0 h1
  have q8 := X1_weak k L h0 h1
  have q9 := X1_isPar k L h0 h1
  have q10 := X1_dir k L h0 h1
  have q11 := X1_innU k L h0 h1
  have q14 := X1_badB k L h0 h1
  have q15 := X1_cad k L h0 h1
  have q16 := X1_sus k L h0 h1
  have z3 := notRec_b s p
  have z8 := weakD_b s p
  have z9 := isPar_b s p
  have z10 := dirD_b s p
  have z11 := innU_b s p
  have z14 := badB_b s p
  have z16 := susD_b s p
  obtain ⟨x, j, y9, y10, y11, y12, y13, y14, y15, y16⟩ := L
  have g9 := j.i9
  have g10 := j.i10
  have g11 := j.i11
  have g12 := j.i12
  have g13 := j.i13
  have g14 := j.i14
  have g15 := j.i15
  have g16 := j.i16
  rw [y9] at g9
  rw [y10] at g10
  rw [y11] at g11
  rw [y12] at g12
  rw [y13] at g13
  rw [y14] at g14
  rw [y15] at g15
  rw [y16] at g16
  have S0 : SpA hs (a + 8) (har s p) := j.2.2 0 (by decide)
  have S1 : SpA hs (a + 9) (har s (p + 1)) := j.2.2 1 (by decide)
  have S2 : SpA hs (a + 10) (har s ((p / per s.sp - 1) * per s.sp)) := j.2.2 2 (by decide)
  have S3 : SpA hs (a + 11) (har s (p / per s.sp * per s.sp - 1)) := j.2.2 3 (by decide)
  have S4 : SpA hs (a + 12) (arrS s p) := j.2.2 4 (by decide)
  have S5 : SpA hs (a + 13) (appS s p) := j.2.2 5 (by decide)
  have S6 : SpA hs (a + 14) (depS s p) := j.2.2 6 (by decide)
  have S7 : SpA hs (a + 15) (cmvS s p) := j.2.2 7 (by decide)
  have B0 : SpB (har s p) := spn_b (k.gvb _) (k.mdb _)
  have B1 : SpB (har s (p + 1)) := spn_b (k.gvb _) (k.mdb _)
  have B2 : SpB (har s ((p / per s.sp - 1) * per s.sp)) := spn_b (k.gvb _) (k.mdb _)
  have B3 : SpB (har s (p / per s.sp * per s.sp - 1)) := spn_b (k.gvb _) (k.mdb _)
  have B4 : SpB (arrS s p) := spn_b (k.mdb _) (k.mdb _)
  have B5 : SpB (appS s p) := spn_b (k.mdb _) (k.mdb _)
  have B6 : SpB (depS s p) := spn_b (k.mdb _) (k.mdb _)
  have B7 : SpB (cmvS s p) := spn_b (k.gvb _) (k.gvb _)
  obtain ⟨b1, b2, b3, b4, b5, b6, b7, b8⟩ := bar_bd (s := s) h0 h1
  have tb := tie_b s p
  have mb := k.mdi p
  have gl := k.gl
  have ml := k.ml
  have spb := k.spb
  have mp1 := k.mdi (p - 1)
  have w1 := melS_b (arrS s p)
  have w2 := conS_b (har s p)
  have blb := k.bli
  have st2 := k.stb 2
  have wr := k.wtb r
  have al := allow_b s (pitN (lat s.md p))
  have pp := pitN_b k p
  have ga := X6_allow j.2.1 k (z := pitN (lat s.md p)) (by omega) (by omega)
  have gs : f_X6_settingOf (a + 1) (ii 2) hs = some (ii (lg s.st 2)) := X6_settingOf j.2.1 k (by omega) (by omega)
  have gw : f_X6_weightOf (a + 1) (ii r) hs = some (ii (lg s.wt r)) := X6_weightOf j.2.1 k (by omega) (by omega)
  have B0' := B0.i
  obtain ⟨u01, u02, u03, u04, u05⟩ := B0'
  have B4' := B4.i
  obtain ⟨u41, u42, u43, u44, u45⟩ := B4'
  unfold f_X1_detailOf detC
  rw [g12, ob_some, j.sh, ob_some, j.2.1.chk, ob_some, gw, ob_some]
  by_cases c : lat s.md p = -1
  · rw [if_pos c, if_pos (by rw [c]; rfl)]
    rfl
  · rw [if_neg c, if_neg (by rw [il_m1, ii_eq (by omega) (by omega) (by omega) (by omega)]; exact c)]
    by_cases d : lg s.wt r = 0
    · rw [if_pos d, if_pos (by rw [d]; rfl)]
      rfl
    · rw [if_neg d, if_neg (by rw [il_0, ii_eq (by omega) (by omega) (by omega) (by omega)]; exact d)]
      clear gw wr d
      have hr : r = 1 ∨ r = 2 ∨ r = 3 ∨ r = 4 ∨ r = 5 ∨ r = 6 ∨ r = 7 ∨ r = 8 ∨ r = 9 ∨ r = 10 ∨ r = 11 ∨ r = 12 ∨ r = 13 ∨ r = 14 ∨ r = 15 ∨ r = 16 := by omega
      rcases hr with rfl | rfl | rfl | rfl | rfl | rfl | rfl | rfl | rfl | rfl | rfl | rfl | rfl | rfl | rfl | rfl
      · rw [show ((1 : Nat) : Int) = 1 from rfl, if_pos (show ii 1 = 1 from rfl)]
        simp (disch := omega) only [↓ob_some, ↓ob_of (j.sh), ↓ob_of (g13), ↓ob_of (j.2.1.chk), ↓ob_of (ga), if_ii, ii_add, ii_sub, ii_mul, ii_neg, ii_div, ii_lt, ii_le, ii_eq, ob_some, il_0, il_1, il_2, il_3, il_4, il_5, il_6, il_7, il_8, il_9, il_10, il_11, il_12, il_13, il_14, il_15, il_16, il_17, il_18, il_19, il_20, il_21, il_22, il_23, il_24, il_25, il_26, il_27, il_28, il_29, il_30, il_31, il_32, il_33, il_34, il_35, il_36, il_37, il_38, il_39, il_40, il_41, il_42, il_43, il_44, il_45, il_46, il_47, il_48, il_49, il_50, il_51, il_52, il_53, il_54, il_55, il_56, il_57, il_58, il_59, il_60, il_61, il_62, il_63, il_64, il_65, il_66, il_67, il_68, il_69, il_70, il_71, il_72, il_73, il_74, il_75, il_76, il_77, il_78, il_79, il_80, il_81, il_82, il_83, il_84, il_85, il_86, il_87, il_88, il_89, il_90, il_91, il_92, il_93, il_94, il_95, il_96, il_97, il_98, il_99, il_100, il_101, il_102, il_103, il_104, il_105, il_106, il_107, il_108, il_109, il_110, il_111, il_112, il_113, il_114, il_115, il_116, il_117, il_118, il_119, il_120, il_121, il_122, il_123, il_124, il_125, il_126, il_127, il_128, il_129, il_130, il_131, il_132, il_133, il_134, il_135, il_136, il_137, il_138, il_139, il_140, il_141, il_142, il_143, il_144, il_145, il_146, il_147, il_148, il_149, il_150, il_151, il_152, il_153, il_154, il_155, il_156, il_157, il_158, il_159, il_160, il_161, il_162, il_163, il_164, il_165, il_166, il_167, il_168, il_169, il_170, il_171, il_172, il_173, il_174, il_175, il_176, il_177, il_178, il_179, il_180, il_181, il_182, il_183, il_184, il_185, il_186, il_187, il_188, il_189, il_190, il_191, il_192, il_193, il_194, il_195, il_196, il_197, il_198, il_199, il_200, il_201, il_202, il_203, il_204, il_205, il_206, il_207, il_208, il_209, il_210, il_211, il_212, il_213, il_214, il_215, il_216, il_217, il_218, il_219, il_220, il_221, il_222, il_223, il_224, il_225, il_226, il_227, il_228, il_229, il_230, il_231, il_232, il_233, il_234, il_235, il_236, il_237, il_238, il_239, il_240, il_241, il_242, il_243, il_244, il_245, il_246, il_247, il_248, il_249, il_250, il_251, il_252, il_253, il_254, il_255, il_400, il_480, il_1023, il_2880, il_3000, il_6000, il_m1, il_m8]
      · rw [show ((2 : Nat) : Int) = 2 from rfl, if_neg (show ¬ ii 2 = 1 by decide +kernel), if_pos (show ii 2 = 2 from rfl)]
        simp (disch := omega) only [↓ob_some, ↓ob_of (j.r5), ↓ob_of (S4.chk), ↓ob_of (X7_isThere S4 B4), ↓ob_of (X7_isMelodious S4 B4), ↓ob_of (X7_width S4), if_ii, ii_add, ii_sub, ii_mul, ii_neg, ii_div, ii_lt, ii_le, ii_eq, ob_some, il_0, il_1, il_2, il_3, il_4, il_5, il_6, il_7, il_8, il_9, il_10, il_11, il_12, il_13, il_14, il_15, il_16, il_17, il_18, il_19, il_20, il_21, il_22, il_23, il_24, il_25, il_26, il_27, il_28, il_29, il_30, il_31, il_32, il_33, il_34, il_35, il_36, il_37, il_38, il_39, il_40, il_41, il_42, il_43, il_44, il_45, il_46, il_47, il_48, il_49, il_50, il_51, il_52, il_53, il_54, il_55, il_56, il_57, il_58, il_59, il_60, il_61, il_62, il_63, il_64, il_65, il_66, il_67, il_68, il_69, il_70, il_71, il_72, il_73, il_74, il_75, il_76, il_77, il_78, il_79, il_80, il_81, il_82, il_83, il_84, il_85, il_86, il_87, il_88, il_89, il_90, il_91, il_92, il_93, il_94, il_95, il_96, il_97, il_98, il_99, il_100, il_101, il_102, il_103, il_104, il_105, il_106, il_107, il_108, il_109, il_110, il_111, il_112, il_113, il_114, il_115, il_116, il_117, il_118, il_119, il_120, il_121, il_122, il_123, il_124, il_125, il_126, il_127, il_128, il_129, il_130, il_131, il_132, il_133, il_134, il_135, il_136, il_137, il_138, il_139, il_140, il_141, il_142, il_143, il_144, il_145, il_146, il_147, il_148, il_149, il_150, il_151, il_152, il_153, il_154, il_155, il_156, il_157, il_158, il_159, il_160, il_161, il_162, il_163, il_164, il_165, il_166, il_167, il_168, il_169, il_170, il_171, il_172, il_173, il_174, il_175, il_176, il_177, il_178, il_179, il_180, il_181, il_182, il_183, il_184, il_185, il_186, il_187, il_188, il_189, il_190, il_191, il_192, il_193, il_194, il_195, il_196, il_197, il_198, il_199, il_200, il_201, il_202, il_203, il_204, il_205, il_206, il_207, il_208, il_209, il_210, il_211, il_212, il_213, il_214, il_215, il_216, il_217, il_218, il_219, il_220, il_221, il_222, il_223, il_224, il_225, il_226, il_227, il_228, il_229, il_230, il_231, il_232, il_233, il_234, il_235, il_236, il_237, il_238, il_239, il_240, il_241, il_242, il_243, il_244, il_245, il_246, il_247, il_248, il_249, il_250, il_251, il_252, il_253, il_254, il_255, il_400, il_480, il_1023, il_2880, il_3000, il_6000, il_m1, il_m8]
      · rw [show ((3 : Nat) : Int) = 3 from rfl, if_neg (show ¬ ii 3 = 1 by decide +kernel), if_neg (show ¬ ii 3 = 2 by decide +kernel), if_pos (show ii 3 = 3 from rfl)]
        simp (disch := omega) only [↓ob_some, ↓ob_of (j.chk), ↓ob_of (q3), ↓ob_of (j.r6), ↓ob_of (S5.chk), ↓ob_of (X7_steps S5), if_ii, ii_add, ii_sub, ii_mul, ii_neg, ii_div, ii_lt, ii_le, ii_eq, ob_some, il_0, il_1, il_2, il_3, il_4, il_5, il_6, il_7, il_8, il_9, il_10, il_11, il_12, il_13, il_14, il_15, il_16, il_17, il_18, il_19, il_20, il_21, il_22, il_23, il_24, il_25, il_26, il_27, il_28, il_29, il_30, il_31, il_32, il_33, il_34, il_35, il_36, il_37, il_38, il_39, il_40, il_41, il_42, il_43, il_44, il_45, il_46, il_47, il_48, il_49, il_50, il_51, il_52, il_53, il_54, il_55, il_56, il_57, il_58, il_59, il_60, il_61, il_62, il_63, il_64, il_65, il_66, il_67, il_68, il_69, il_70, il_71, il_72, il_73, il_74, il_75, il_76, il_77, il_78, il_79, il_80, il_81, il_82, il_83, il_84, il_85, il_86, il_87, il_88, il_89, il_90, il_91, il_92, il_93, il_94, il_95, il_96, il_97, il_98, il_99, il_100, il_101, il_102, il_103, il_104, il_105, il_106, il_107, il_108, il_109, il_110, il_111, il_112, il_113, il_114, il_115, il_116, il_117, il_118, il_119, il_120, il_121, il_122, il_123, il_124, il_125, il_126, il_127, il_128, il_129, il_130, il_131, il_132, il_133, il_134, il_135, il_136, il_137, il_138, il_139, il_140, il_141, il_142, il_143, il_144, il_145, il_146, il_147, il_148, il_149, il_150, il_151, il_152, il_153, il_154, il_155, il_156, il_157, il_158, il_159, il_160, il_161, il_162, il_163, il_164, il_165, il_166, il_167, il_168, il_169, il_170, il_171, il_172, il_173, il_174, il_175, il_176, il_177, il_178, il_179, il_180, il_181, il_182, il_183, il_184, il_185, il_186, il_187, il_188, il_189, il_190, il_191, il_192, il_193, il_194, il_195, il_196, il_197, il_198, il_199, il_200, il_201, il_202, il_203, il_204, il_205, il_206, il_207, il_208, il_209, il_210, il_211, il_212, il_213, il_214, il_215, il_216, il_217, il_218, il_219, il_220, il_221, il_222, il_223, il_224, il_225, il_226, il_227, il_228, il_229, il_230, il_231, il_232, il_233, il_234, il_235, il_236, il_237, il_238, il_239, il_240, il_241, il_242, il_243, il_244, il_245, il_246, il_247, il_248, il_249, il_250, il_251, il_252, il_253, il_254, il_255, il_400, il_480, il_1023, il_2880, il_3000, il_6000, il_m1, il_m8]
      · rw [show ((4 : Nat) : Int) = 4 from rfl, if_neg (show ¬ ii 4 = 1 by decide +kernel), if_neg (show ¬ ii 4 = 2 by decide +kernel), if_neg (show ¬ ii 4 = 3 by decide +kernel), if_pos (show ii 4 = 4 from rfl)]
        simp (disch := omega) only [↓ob_some, ↓ob_of (g12), ↓ob_of (j.sh), ↓ob_of (j.2.1.m), ↓ob_of (g9), ↓ob_of (j.2.1.2.2.1.chk), ↓(fun {z : Int} (h1 : _) (h2 : _) => ob_of (X2_at j.2.1.2.2.1 (z := z) h1 h2)), X2_at j.2.1.2.2.1, ↓ob_of (g14), if_ii, ii_add, ii_sub, ii_mul, ii_neg, ii_div, ii_lt, ii_le, ii_eq, ob_some, il_0, il_1, il_2, il_3, il_4, il_5, il_6, il_7, il_8, il_9, il_10, il_11, il_12, il_13, il_14, il_15, il_16, il_17, il_18, il_19, il_20, il_21, il_22, il_23, il_24, il_25, il_26, il_27, il_28, il_29, il_30, il_31, il_32, il_33, il_34, il_35, il_36, il_37, il_38, il_39, il_40, il_41, il_42, il_43, il_44, il_45, il_46, il_47, il_48, il_49, il_50, il_51, il_52, il_53, il_54, il_55, il_56, il_57, il_58, il_59, il_60, il_61, il_62, il_63, il_64, il_65, il_66, il_67, il_68, il_69, il_70, il_71, il_72, il_73, il_74, il_75, il_76, il_77, il_78, il_79, il_80, il_81, il_82, il_83, il_84, il_85, il_86, il_87, il_88, il_89, il_90, il_91, il_92, il_93, il_94, il_95, il_96, il_97, il_98, il_99, il_100, il_101, il_102, il_103, il_104, il_105, il_106, il_107, il_108, il_109, il_110, il_111, il_112, il_113, il_114, il_115, il_116, il_117, il_118, il_119, il_120, il_121, il_122, il_123, il_124, il_125, il_126, il_127, il_128, il_129, il_130, il_131, il_132, il_133, il_134, il_135, il_136, il_137, il_138, il_139, il_140, il_141, il_142, il_143, il_144, il_145, il_146, il_147, il_148, il_149, il_150, il_151, il_152, il_153, il_154, il_155, il_156, il_157, il_158, il_159, il_160, il_161, il_162, il_163, il_164, il_165, il_166, il_167, il_168, il_169, il_170, il_171, il_172, il_173, il_174, il_175, il_176, il_177, il_178, il_179, il_180, il_181, il_182, il_183, il_184, il_185, il_186, il_187, il_188, il_189, il_190, il_191, il_192, il_193, il_194, il_195, il_196, il_197, il_198, il_199, il_200, il_201, il_202, il_203, il_204, il_205, il_206, il_207, il_208, il_209, il_210, il_211, il_212, il_213, il_214, il_215, il_216, il_217, il_218, il_219, il_220, il_221, il_222, il_223, il_224, il_225, il_226, il_227, il_228, il_229, il_230, il_231, il_232, il_233, il_234, il_235, il_236, il_237, il_238, il_239, il_240, il_241, il_242, il_243, il_244, il_245, il_246, il_247, il_248, il_249, il_250, il_251, il_252, il_253, il_254, il_255, il_400, il_480, il_1023, il_2880, il_3000, il_6000, il_m1, il_m8]
      · rw [show ((5 : Nat) : Int) = 5 from rfl, if_neg (show ¬ ii 5 = 1 by decide +kernel), if_neg (show ¬ ii 5 = 2 by decide +kernel), if_neg (show ¬ ii 5 = 3 by decide +kernel), if_neg (show ¬ ii 5 = 4 by decide +kernel), if_pos (show ii 5 = 5 from rfl)]
        simp (disch := omega) only [↓ob_some, ↓ob_of (j.chk), ↓ob_of (q5), if_ii, ii_add, ii_sub, ii_mul, ii_neg, ii_div, ii_lt, ii_le, ii_eq, ob_some, il_0, il_1, il_2, il_3, il_4, il_5, il_6, il_7, il_8, il_9, il_10, il_11, il_12, il_13, il_14, il_15, il_16, il_17, il_18, il_19, il_20, il_21, il_22, il_23, il_24, il_25, il_26, il_27, il_28, il_29, il_30, il_31, il_32, il_33, il_34, il_35, il_36, il_37, il_38, il_39, il_40, il_41, il_42, il_43, il_44, il_45, il_46, il_47, il_48, il_49, il_50, il_51, il_52, il_53, il_54, il_55, il_56, il_57, il_58, il_59, il_60, il_61, il_62, il_63, il_64, il_65, il_66, il_67, il_68, il_69, il_70, il_71, il_72, il_73, il_74, il_75, il_76, il_77, il_78, il_79, il_80, il_81, il_82, il_83, il_84, il_85, il_86, il_87, il_88, il_89, il_90, il_91, il_92, il_93, il_94, il_95, il_96, il_97, il_98, il_99, il_100, il_101, il_102, il_103, il_104, il_105, il_106, il_107, il_108, il_109, il_110, il_111, il_112, il_113, il_114, il_115, il_116, il_117, il_118, il_119, il_120, il_121, il_122, il_123, il_124, il_125, il_126, il_127, il_128, il_129, il_130, il_131, il_132, il_133, il_134, il_135, il_136, il_137, il_138, il_139, il_140, il_141, il_142, il_143, il_144, il_145, il_146, il_147, il_148, il_149, il_150, il_151, il_152, il_153, il_154, il_155, il_156, il_157, il_158, il_159, il_160, il_161, il_162, il_163, il_164, il_165, il_166, il_167, il_168, il_169, il_170, il_171, il_172, il_173, il_174, il_175, il_176, il_177, il_178, il_179, il_180, il_181, il_182, il_183, il_184, il_185, il_186, il_187, il_188, il_189, il_190, il_191, il_192, il_193, il_194, il_195, il_196, il_197, il_198, il_199, il_200, il_201, il_202, il_203, il_204, il_205, il_206, il_207, il_208, il_209, il_210, il_211, il_212, il_213, il_214, il_215, il_216, il_217, il_218, il_219, il_220, il_221, il_222, il_223, il_224, il_225, il_226, il_227, il_228, il_229, il_230, il_231, il_232, il_233, il_234, il_235, il_236, il_237, il_238, il_239, il_240, il_241, il_242, il_243, il_244, il_245, il_246, il_247, il_248, il_249, il_250, il_251, il_252, il_253, il_254, il_255, il_400, il_480, il_1023, il_2880, il_3000, il_6000, il_m1, il_m8]
      · rw [show ((6 : Nat) : Int) = 6 from rfl, if_neg (show ¬ ii 6 = 1 by decide +kernel), if_neg (show ¬ ii 6 = 2 by decide +kernel), if_neg (show ¬ ii 6 = 3 by decide +kernel), if_neg (show ¬ ii 6 = 4 by decide +kernel), if_neg (show ¬ ii 6 = 5 by decide +kernel), if_pos (show ii 6 = 6 from rfl)]
        simp (disch := omega) only [↓ob_some, ↓ob_of (g9), ↓ob_of (g15), ↓ob_of (g16), if_ii, ii_add, ii_sub, ii_mul, ii_neg, ii_div, ii_lt, ii_le, ii_eq, ob_some, il_0, il_1, il_2, il_3, il_4, il_5, il_6, il_7, il_8, il_9, il_10, il_11, il_12, il_13, il_14, il_15, il_16, il_17, il_18, il_19, il_20, il_21, il_22, il_23, il_24, il_25, il_26, il_27, il_28, il_29, il_30, il_31, il_32, il_33, il_34, il_35, il_36, il_37, il_38, il_39, il_40, il_41, il_42, il_43, il_44, il_45, il_46, il_47, il_48, il_49, il_50, il_51, il_52, il_53, il_54, il_55, il_56, il_57, il_58, il_59, il_60, il_61, il_62, il_63, il_64, il_65, il_66, il_67, il_68, il_69, il_70, il_71, il_72, il_73, il_74, il_75, il_76, il_77, il_78, il_79, il_80, il_81, il_82, il_83, il_84, il_85, il_86, il_87, il_88, il_89, il_90, il_91, il_92, il_93, il_94, il_95, il_96, il_97, il_98, il_99, il_100, il_101, il_102, il_103, il_104, il_105, il_106, il_107, il_108, il_109, il_110, il_111, il_112, il_113, il_114, il_115, il_116, il_117, il_118, il_119, il_120, il_121, il_122, il_123, il_124, il_125, il_126, il_127, il_128, il_129, il_130, il_131, il_132, il_133, il_134, il_135, il_136, il_137, il_138, il_139, il_140, il_141, il_142, il_143, il_144, il_145, il_146, il_147, il_148, il_149, il_150, il_151, il_152, il_153, il_154, il_155, il_156, il_157, il_158, il_159, il_160, il_161, il_162, il_163, il_164, il_165, il_166, il_167, il_168, il_169, il_170, il_171, il_172, il_173, il_174, il_175, il_176, il_177, il_178, il_179, il_180, il_181, il_182, il_183, il_184, il_185, il_186, il_187, il_188, il_189, il_190, il_191, il_192, il_193, il_194, il_195, il_196, il_197, il_198, il_199, il_200, il_201, il_202, il_203, il_204, il_205, il_206, il_207, il_208, il_209, il_210, il_211, il_212, il_213, il_214, il_215, il_216, il_217, il_218, il_219, il_220, il_221, il_222, il_223, il_224, il_225, il_226, il_227, il_228, il_229, il_230, il_231, il_232, il_233, il_234, il_235, il_236, il_237, il_238, il_239, il_240, il_241, il_242, il_243, il_244, il_245, il_246, il_247, il_248, il_249, il_250, il_251, il_252, il_253, il_254, il_255, il_400, il_480, il_1023, il_2880, il_3000, il_6000, il_m1, il_m8]
      · rw [show ((7 : Nat) : Int) = 7 from rfl, if_neg (show ¬ ii 7 = 1 by decide +kernel), if_neg (show ¬ ii 7 = 2 by decide +kernel), if_neg (show ¬ ii 7 = 3 by decide +kernel), if_neg (show ¬ ii 7 = 4 by decide +kernel), if_neg (show ¬ ii 7 = 5 by decide +kernel), if_neg (show ¬ ii 7 = 6 by decide +kernel), if_pos (show ii 7 = 7 from rfl)]
        simp (disch := omega) only [↓ob_some, ↓ob_of (g11), ↓ob_of (j.r1), ↓ob_of (S0.chk), ↓ob_of (X7_isConsonant S0 B0), ↓ob_of (g14), ↓ob_of (X7_width S0), if_ii, ii_add, ii_sub, ii_mul, ii_neg, ii_div, ii_lt, ii_le, ii_eq, ob_some, il_0, il_1, il_2, il_3, il_4, il_5, il_6, il_7, il_8, il_9, il_10, il_11, il_12, il_13, il_14, il_15, il_16, il_17, il_18, il_19, il_20, il_21, il_22, il_23, il_24, il_25, il_26, il_27, il_28, il_29, il_30, il_31, il_32, il_33, il_34, il_35, il_36, il_37, il_38, il_39, il_40, il_41, il_42, il_43, il_44, il_45, il_46, il_47, il_48, il_49, il_50, il_51, il_52, il_53, il_54, il_55, il_56, il_57, il_58, il_59, il_60, il_61, il_62, il_63, il_64, il_65, il_66, il_67, il_68, il_69, il_70, il_71, il_72, il_73, il_74, il_75, il_76, il_77, il_78, il_79, il_80, il_81, il_82, il_83, il_84, il_85, il_86, il_87, il_88, il_89, il_90, il_91, il_92, il_93, il_94, il_95, il_96, il_97, il_98, il_99, il_100, il_101, il_102, il_103, il_104, il_105, il_106, il_107, il_108, il_109, il_110, il_111, il_112, il_113, il_114, il_115, il_116, il_117, il_118, il_119, il_120, il_121, il_122, il_123, il_124, il_125, il_126, il_127, il_128, il_129, il_130, il_131, il_132, il_133, il_134, il_135, il_136, il_137, il_138, il_139, il_140, il_141, il_142, il_143, il_144, il_145, il_146, il_147, il_148, il_149, il_150, il_151, il_152, il_153, il_154, il_155, il_156, il_157, il_158, il_159, il_160, il_161, il_162, il_163, il_164, il_165, il_166, il_167, il_168, il_169, il_170, il_171, il_172, il_173, il_174, il_175, il_176, il_177, il_178, il_179, il_180, il_181, il_182, il_183, il_184, il_185, il_186, il_187, il_188, il_189, il_190, il_191, il_192, il_193, il_194, il_195, il_196, il_197, il_198, il_199, il_200, il_201, il_202, il_203, il_204, il_205, il_206, il_207, il_208, il_209, il_210, il_211, il_212, il_213, il_214, il_215, il_216, il_217, il_218, il_219, il_220, il_221, il_222, il_223, il_224, il_225, il_226, il_227, il_228, il_229, il_230, il_231, il_232, il_233, il_234, il_235, il_236, il_237, il_238, il_239, il_240, il_241, il_242, il_243, il_244, il_245, il_246, il_247, il_248, il_249, il_250, il_251, il_252, il_253, il_254, il_255, il_400, il_480, il_1023, il_2880, il_3000, il_6000, il_m1, il_m8]
      · rw [show ((8 : Nat) : Int) = 8 from rfl, if_neg (show ¬ ii 8 = 1 by decide +kernel), if_neg (show ¬ ii 8 = 2 by decide +kernel), if_neg (show ¬ ii 8 = 3 by decide +kernel), if_neg (show ¬ ii 8 = 4 by decide +kernel), if_neg (show ¬ ii 8 = 5 by decide +kernel), if_neg (show ¬ ii 8 = 6 by decide +kernel), if_neg (show ¬ ii 8 = 7 by decide +kernel), if_pos (show ii 8 = 8 from rfl)]
        simp (disch := omega) only [↓ob_some, ↓ob_of (j.chk), ↓ob_of (q8), ↓ob_of (j.r1), ↓ob_of (S0.chk), ↓ob_of (X7_width S0), if_ii, ii_add, ii_sub, ii_mul, ii_neg, ii_div, ii_lt, ii_le, ii_eq, ob_some, il_0, il_1, il_2, il_3, il_4, il_5, il_6, il_7, il_8, il_9, il_10, il_11, il_12, il_13, il_14, il_15, il_16, il_17, il_18, il_19, il_20, il_21, il_22, il_23, il_24, il_25, il_26, il_27, il_28, il_29, il_30, il_31, il_32, il_33, il_34, il_35, il_36, il_37, il_38, il_39, il_40, il_41, il_42, il_43, il_44, il_45, il_46, il_47, il_48, il_49, il_50, il_51, il_52, il_53, il_54, il_55, il_56, il_57, il_58, il_59, il_60, il_61, il_62, il_63, il_64, il_65, il_66, il_67, il_68, il_69, il_70, il_71, il_72, il_73, il_74, il_75, il_76, il_77, il_78, il_79, il_80, il_81, il_82, il_83, il_84, il_85, il_86, il_87, il_88, il_89, il_90, il_91, il_92, il_93, il_94, il_95, il_96, il_97, il_98, il_99, il_100, il_101, il_102, il_103, il_104, il_105, il_106, il_107, il_108, il_109, il_110, il_111, il_112, il_113, il_114, il_115, il_116, il_117, il_118, il_119, il_120, il_121, il_122, il_123, il_124, il_125, il_126, il_127, il_128, il_129, il_130, il_131, il_132, il_133, il_134, il_135, il_136, il_137, il_138, il_139, il_140, il_141, il_142, il_143, il_144, il_145, il_146, il_147, il_148, il_149, il_150, il_151, il_152, il_153, il_154, il_155, il_156, il_157, il_158, il_159, il_160, il_161, il_162, il_163, il_164, il_165, il_166, il_167, il_168, il_169, il_170, il_171, il_172, il_173, il_174, il_175, il_176, il_177, il_178, il_179, il_180, il_181, il_182, il_183, il_184, il_185, il_186, il_187, il_188, il_189, il_190, il_191, il_192, il_193, il_194, il_195, il_196, il_197, il_198, il_199, il_200, il_201, il_202, il_203, il_204, il_205, il_206, il_207, il_208, il_209, il_210, il_211, il_212, il_213, il_214, il_215, il_216, il_217, il_218, il_219, il_220, il_221, il_222, il_223, il_224, il_225, il_226, il_227, il_228, il_229, il_230, il_231, il_232, il_233, il_234, il_235, il_236, il_237, il_238, il_239, il_240, il_241, il_242, il_243, il_244, il_245, il_246, il_247, il_248, il_249, il_250, il_251, il_252, il_253, il_254, il_255, il_400, il_480, il_1023, il_2880, il_3000, il_6000, il_m1, il_m8]
      · rw [show ((9 : Nat) : Int) = 9 from rfl, if_neg (show ¬ ii 9 = 1 by decide +kernel), if_neg (show ¬ ii 9 = 2 by decide +kernel), if_neg (show ¬ ii 9 = 3 by decide +kernel), if_neg (show ¬ ii 9 = 4 by decide +kernel), if_neg (show ¬ ii 9 = 5 by decide +kernel), if_neg (show ¬ ii 9 = 6 by decide +kernel), if_neg (show ¬ ii 9 = 7 by decide +kernel), if_neg (show ¬ ii 9 = 8 by decide +kernel), if_pos (show ii 9 = 9 from rfl)]
        simp (disch := omega) only [↓ob_some, ↓ob_of (j.chk), ↓ob_of (q9), ↓ob_of (j.r1), ↓ob_of (S0.chk), ↓ob_of (X7_perfectClass S0), if_ii, ii_add, ii_sub, ii_mul, ii_neg, ii_div, ii_lt, ii_le, ii_eq, ob_some, il_0, il_1, il_2, il_3, il_4, il_5, il_6, il_7, il_8, il_9, il_10, il_11, il_12, il_13, il_14, il_15, il_16, il_17, il_18, il_19, il_20, il_21, il_22, il_23, il_24, il_25, il_26, il_27, il_28, il_29, il_30, il_31, il_32, il_33, il_34, il_35, il_36, il_37, il_38, il_39, il_40, il_41, il_42, il_43, il_44, il_45, il_46, il_47, il_48, il_49, il_50, il_51, il_52, il_53, il_54, il_55, il_56, il_57, il_58, il_59, il_60, il_61, il_62, il_63, il_64, il_65, il_66, il_67, il_68, il_69, il_70, il_71, il_72, il_73, il_74, il_75, il_76, il_77, il_78, il_79, il_80, il_81, il_82, il_83, il_84, il_85, il_86, il_87, il_88, il_89, il_90, il_91, il_92, il_93, il_94, il_95, il_96, il_97, il_98, il_99, il_100, il_101, il_102, il_103, il_104, il_105, il_106, il_107, il_108, il_109, il_110, il_111, il_112, il_113, il_114, il_115, il_116, il_117, il_118, il_119, il_120, il_121, il_122, il_123, il_124, il_125, il_126, il_127, il_128, il_129, il_130, il_131, il_132, il_133, il_134, il_135, il_136, il_137, il_138, il_139, il_140, il_141, il_142, il_143, il_144, il_145, il_146, il_147, il_148, il_149, il_150, il_151, il_152, il_153, il_154, il_155, il_156, il_157, il_158, il_159, il_160, il_161, il_162, il_163, il_164, il_165, il_166, il_167, il_168, il_169, il_170, il_171, il_172, il_173, il_174, il_175, il_176, il_177, il_178, il_179, il_180, il_181, il_182, il_183, il_184, il_185, il_186, il_187, il_188, il_189, il_190, il_191, il_192, il_193, il_194, il_195, il_196, il_197, il_198, il_199, il_200, il_201, il_202, il_203, il_204, il_205, il_206, il_207, il_208, il_209, il_210, il_211, il_212, il_213, il_214, il_215, il_216, il_217, il_218, il_219, il_220, il_221, il_222, il_223, il_224, il_225, il_226, il_227, il_228, il_229, il_230, il_231, il_232, il_233, il_234, il_235, il_236, il_237, il_238, il_239, il_240, il_241, il_242, il_243, il_244, il_245, il_246, il_247, il_248, il_249, il_250, il_251, il_252, il_253, il_254, il_255, il_400, il_480, il_1023, il_2880, il_3000, il_6000, il_m1, il_m8]
      · rw [show ((10 : Nat) : Int) = 10 from rfl, if_neg (show ¬ ii 10 = 1 by decide +kernel), if_neg (show ¬ ii 10 = 2 by decide +kernel), if_neg (show ¬ ii 10 = 3 by decide +kernel), if_neg (show ¬ ii 10 = 4 by decide +kernel), if_neg (show ¬ ii 10 = 5 by decide +kernel), if_neg (show ¬ ii 10 = 6 by decide +kernel), if_neg (show ¬ ii 10 = 7 by decide +kernel), if_neg (show ¬ ii 10 = 8 by decide +kernel), if_neg (show ¬ ii 10 = 9 by decide +kernel), if_pos (show ii 10 = 10 from rfl)]
        simp (disch := omega) only [↓ob_some, ↓ob_of (j.chk), ↓ob_of (q10), ↓ob_of (j.r1), ↓ob_of (S0.chk), ↓ob_of (X7_perfectClass S0), if_ii, ii_add, ii_sub, ii_mul, ii_neg, ii_div, ii_lt, ii_le, ii_eq, ob_some, il_0, il_1, il_2, il_3, il_4, il_5, il_6, il_7, il_8, il_9, il_10, il_11, il_12, il_13, il_14, il_15, il_16, il_17, il_18, il_19, il_20, il_21, il_22, il_23, il_24, il_25, il_26, il_27, il_28, il_29, il_30, il_31, il_32, il_33, il_34, il_35, il_36, il_37, il_38, il_39, il_40, il_41, il_42, il_43, il_44, il_45, il_46, il_47, il_48, il_49, il_50, il_51, il_52, il_53, il_54, il_55, il_56, il_57, il_58, il_59, il_60, il_61, il_62, il_63, il_64, il_65, il_66, il_67, il_68, il_69, il_70, il_71, il_72, il_73, il_74, il_75, il_76, il_77, il_78, il_79, il_80, il_81, il_82, il_83, il_84, il_85, il_86, il_87, il_88, il_89, il_90, il_91, il_92, il_93, il_94, il_95, il_96, il_97, il_98, il_99, il_100, il_101, il_102, il_103, il_104, il_105, il_106, il_107, il_108, il_109, il_110, il_111, il_112, il_113, il_114, il_115, il_116, il_117, il_118, il_119, il_120, il_121, il_122, il_123, il_124, il_125, il_126, il_127, il_128, il_129, il_130, il_131, il_132, il_133, il_134, il_135, il_136, il_137, il_138, il_139, il_140, il_141, il_142, il_143, il_144, il_145, il_146, il_147, il_148, il_149, il_150, il_151, il_152, il_153, il_154, il_155, il_156, il_157, il_158, il_159, il_160, il_161, il_162, il_163, il_164, il_165, il_166, il_167, il_168, il_169, il_170, il_171, il_172, il_173, il_174, il_175, il_176, il_177, il_178, il_179, il_180, il_181, il_182, il_183, il_184, il_185, il_186, il_187, il_188, il_189, il_190, il_191, il_192, il_193, il_194, il_195, il_196, il_197, il_198, il_199, il_200, il_201, il_202, il_203, il_204, il_205, il_206, il_207, il_208, il_209, il_210, il_211, il_212, il_213, il_214, il_215, il_216, il_217, il_218, il_219, il_220, il_221, il_222, il_223, il_224, il_225, il_226, il_227, il_228, il_229, il_230, il_231, il_232, il_233, il_234, il_235, il_236, il_237, il_238, il_239, il_240, il_241, il_242, il_243, il_244, il_245, il_246, il_247, il_248, il_249, il_250, il_251, il_252, il_253, il_254, il_255, il_400, il_480, il_1023, il_2880, il_3000, il_6000, il_m1, il_m8]
      · rw [show ((11 : Nat) : Int) = 11 from rfl, if_neg (show ¬ ii 11 = 1 by decide +kernel), if_neg (show ¬ ii 11 = 2 by decide +kernel), if_neg (show ¬ ii 11 = 3 by decide +kernel), if_neg (show ¬ ii 11 = 4 by decide +kernel), if_neg (show ¬ ii 11 = 5 by decide +kernel), if_neg (show ¬ ii 11 = 6 by decide +kernel), if_neg (show ¬ ii 11 = 7 by decide +kernel), if_neg (show ¬ ii 11 = 8 by decide +kernel), if_neg (show ¬ ii 11 = 9 by decide +kernel), if_neg (show ¬ ii 11 = 10 by decide +kernel), if_pos (show ii 11 = 11 from rfl)]
        simp (disch := omega) only [↓ob_some, ↓ob_of (j.chk), ↓ob_of (q11), if_ii, ii_add, ii_sub, ii_mul, ii_neg, ii_div, ii_lt, ii_le, ii_eq, ob_some, il_0, il_1, il_2, il_3, il_4, il_5, il_6, il_7, il_8, il_9, il_10, il_11, il_12, il_13, il_14, il_15, il_16, il_17, il_18, il_19, il_20, il_21, il_22, il_23, il_24, il_25, il_26, il_27, il_28, il_29, il_30, il_31, il_32, il_33, il_34, il_35, il_36, il_37, il_38, il_39, il_40, il_41, il_42, il_43, il_44, il_45, il_46, il_47, il_48, il_49, il_50, il_51, il_52, il_53, il_54, il_55, il_56, il_57, il_58, il_59, il_60, il_61, il_62, il_63, il_64, il_65, il_66, il_67, il_68, il_69, il_70, il_71, il_72, il_73, il_74, il_75, il_76, il_77, il_78, il_79, il_80, il_81, il_82, il_83, il_84, il_85, il_86, il_87, il_88, il_89, il_90, il_91, il_92, il_93, il_94, il_95, il_96, il_97, il_98, il_99, il_100, il_101, il_102, il_103, il_104, il_105, il_106, il_107, il_108, il_109, il_110, il_111, il_112, il_113, il_114, il_115, il_116, il_117, il_118, il_119, il_120, il_121, il_122, il_123, il_124, il_125, il_126, il_127, il_128, il_129, il_130, il_131, il_132, il_133, il_134, il_135, il_136, il_137, il_138, il_139, il_140, il_141, il_142, il_143, il_144, il_145, il_146, il_147, il_148, il_149, il_150, il_151, il_152, il_153, il_154, il_155, il_156, il_157, il_158, il_159, il_160, il_161, il_162, il_163, il_164, il_165, il_166, il_167, il_168, il_169, il_170, il_171, il_172, il_173, il_174, il_175, il_176, il_177, il_178, il_179, il_180, il_181, il_182, il_183, il_184, il_185, il_186, il_187, il_188, il_189, il_190, il_191, il_192, il_193, il_194, il_195, il_196, il_197, il_198, il_199, il_200, il_201, il_202, il_203, il_204, il_205, il_206, il_207, il_208, il_209, il_210, il_211, il_212, il_213, il_214, il_215, il_216, il_217, il_218, il_219, il_220, il_221, il_222, il_223, il_224, il_225, il_226, il_227, il_228, il_229, il_230, il_231, il_232, il_233, il_234, il_235, il_236, il_237, il_238, il_239, il_240, il_241, il_242, il_243, il_244, il_245, il_246, il_247, il_248, il_249, il_250, il_251, il_252, il_253, il_254, il_255, il_400, il_480, il_1023, il_2880, il_3000, il_6000, il_m1, il_m8]
      · rw [show ((12 : Nat) : Int) = 12 from rfl, if_neg (show ¬ ii 12 = 1 by decide +kernel), if_neg (show ¬ ii 12 = 2 by decide +kernel), if_neg (show ¬ ii 12 = 3 by decide +kernel), if_neg (show ¬ ii 12 = 4 by decide +kernel), if_neg (show ¬ ii 12 = 5 by decide +kernel), if_neg (show ¬ ii 12 = 6 by decide +kernel), if_neg (show ¬ ii 12 = 7 by decide +kernel), if_neg (show ¬ ii 12 = 8 by decide +kernel), if_neg (show ¬ ii 12 = 9 by decide +kernel), if_neg (show ¬ ii 12 = 10 by decide +kernel), if_neg (show ¬ ii 12 = 11 by decide +kernel), if_pos (show ii 12 = 12 from rfl)]
        simp (disch := omega) only [↓ob_some, ↓ob_of (j.r1), ↓ob_of (S0.chk), ↓ob_of (X7_way S0), ↓ob_of (j.sh), ↓ob_of (j.2.1.chk), ↓ob_of (X6_isBelow j.2.1 k), ↓ob_of (X7_width S0), if_ii, ii_add, ii_sub, ii_mul, ii_neg, ii_div, ii_lt, ii_le, ii_eq, ob_some, il_0, il_1, il_2, il_3, il_4, il_5, il_6, il_7, il_8, il_9, il_10, il_11, il_12, il_13, il_14, il_15, il_16, il_17, il_18, il_19, il_20, il_21, il_22, il_23, il_24, il_25, il_26, il_27, il_28, il_29, il_30, il_31, il_32, il_33, il_34, il_35, il_36, il_37, il_38, il_39, il_40, il_41, il_42, il_43, il_44, il_45, il_46, il_47, il_48, il_49, il_50, il_51, il_52, il_53, il_54, il_55, il_56, il_57, il_58, il_59, il_60, il_61, il_62, il_63, il_64, il_65, il_66, il_67, il_68, il_69, il_70, il_71, il_72, il_73, il_74, il_75, il_76, il_77, il_78, il_79, il_80, il_81, il_82, il_83, il_84, il_85, il_86, il_87, il_88, il_89, il_90, il_91, il_92, il_93, il_94, il_95, il_96, il_97, il_98, il_99, il_100, il_101, il_102, il_103, il_104, il_105, il_106, il_107, il_108, il_109, il_110, il_111, il_112, il_113, il_114, il_115, il_116, il_117, il_118, il_119, il_120, il_121, il_122, il_123, il_124, il_125, il_126, il_127, il_128, il_129, il_130, il_131, il_132, il_133, il_134, il_135, il_136, il_137, il_138, il_139, il_140, il_141, il_142, il_143, il_144, il_145, il_146, il_147, il_148, il_149, il_150, il_151, il_152, il_153, il_154, il_155, il_156, il_157, il_158, il_159, il_160, il_161, il_162, il_163, il_164, il_165, il_166, il_167, il_168, il_169, il_170, il_171, il_172, il_173, il_174, il_175, il_176, il_177, il_178, il_179, il_180, il_181, il_182, il_183, il_184, il_185, il_186, il_187, il_188, il_189, il_190, il_191, il_192, il_193, il_194, il_195, il_196, il_197, il_198, il_199, il_200, il_201, il_202, il_203, il_204, il_205, il_206, il_207, il_208, il_209, il_210, il_211, il_212, il_213, il_214, il_215, il_216, il_217, il_218, il_219, il_220, il_221, il_222, il_223, il_224, il_225, il_226, il_227, il_228, il_229, il_230, il_231, il_232, il_233, il_234, il_235, il_236, il_237, il_238, il_239, il_240, il_241, il_242, il_243, il_244, il_245, il_246, il_247, il_248, il_249, il_250, il_251, il_252, il_253, il_254, il_255, il_400, il_480, il_1023, il_2880, il_3000, il_6000, il_m1, il_m8]
      · rw [show ((13 : Nat) : Int) = 13 from rfl, if_neg (show ¬ ii 13 = 1 by decide +kernel), if_neg (show ¬ ii 13 = 2 by decide +kernel), if_neg (show ¬ ii 13 = 3 by decide +kernel), if_neg (show ¬ ii 13 = 4 by decide +kernel), if_neg (show ¬ ii 13 = 5 by decide +kernel), if_neg (show ¬ ii 13 = 6 by decide +kernel), if_neg (show ¬ ii 13 = 7 by decide +kernel), if_neg (show ¬ ii 13 = 8 by decide +kernel), if_neg (show ¬ ii 13 = 9 by decide +kernel), if_neg (show ¬ ii 13 = 10 by decide +kernel), if_neg (show ¬ ii 13 = 11 by decide +kernel), if_neg (show ¬ ii 13 = 12 by decide +kernel), if_pos (show ii 13 = 13 from rfl)]
        rw [show (2 : Int32) = ii 2 from rfl]
        simp (disch := omega) only [↓ob_some, ↓ob_of (j.r1), ↓ob_of (S0.chk), ↓ob_of (X7_width S0), ↓ob_of (j.sh), ↓ob_of (j.2.1.chk), ↓ob_of (gs), if_ii, ii_add, ii_sub, ii_mul, ii_neg, ii_div, ii_lt, ii_le, ii_eq, ob_some, il_0, il_1, il_2, il_3, il_4, il_5, il_6, il_7, il_8, il_9, il_10, il_11, il_12, il_13, il_14, il_15, il_16, il_17, il_18, il_19, il_20, il_21, il_22, il_23, il_24, il_25, il_26, il_27, il_28, il_29, il_30, il_31, il_32, il_33, il_34, il_35, il_36, il_37, il_38, il_39, il_40, il_41, il_42, il_43, il_44, il_45, il_46, il_47, il_48, il_49, il_50, il_51, il_52, il_53, il_54, il_55, il_56, il_57, il_58, il_59, il_60, il_61, il_62, il_63, il_64, il_65, il_66, il_67, il_68, il_69, il_70, il_71, il_72, il_73, il_74, il_75, il_76, il_77, il_78, il_79, il_80, il_81, il_82, il_83, il_84, il_85, il_86, il_87, il_88, il_89, il_90, il_91, il_92, il_93, il_94, il_95, il_96, il_97, il_98, il_99, il_100, il_101, il_102, il_103, il_104, il_105, il_106, il_107, il_108, il_109, il_110, il_111, il_112, il_113, il_114, il_115, il_116, il_117, il_118, il_119, il_120, il_121, il_122, il_123, il_124, il_125, il_126, il_127, il_128, il_129, il_130, il_131, il_132, il_133, il_134, il_135, il_136, il_137, il_138, il_139, il_140, il_141, il_142, il_143, il_144, il_145, il_146, il_147, il_148, il_149, il_150, il_151, il_152, il_153, il_154, il_155, il_156, il_157, il_158, il_159, il_160, il_161, il_162, il_163, il_164, il_165, il_166, il_167, il_168, il_169, il_170, il_171, il_172, il_173, il_174, il_175, il_176, il_177, il_178, il_179, il_180, il_181, il_182, il_183, il_184, il_185, il_186, il_187, il_188, il_189, il_190, il_191, il_192, il_193, il_194, il_195, il_196, il_197, il_198, il_199, il_200, il_201, il_202, il_203, il_204, il_205, il_206, il_207, il_208, il_209, il_210, il_211, il_212, il_213, il_214, il_215, il_216, il_217, il_218, il_219, il_220, il_221, il_222, il_223, il_224, il_225, il_226, il_227, il_228, il_229, il_230, il_231, il_232, il_233, il_234, il_235, il_236, il_237, il_238, il_239, il_240, il_241, il_242, il_243, il_244, il_245, il_246, il_247, il_248, il_249, il_250, il_251, il_252, il_253, il_254, il_255, il_400, il_480, il_1023, il_2880, il_3000, il_6000, il_m1, il_m8]
      · rw [show ((14 : Nat) : Int) = 14 from rfl, if_neg (show ¬ ii 14 = 1 by decide +kernel), if_neg (show ¬ ii 14 = 2 by decide +kernel), if_neg (show ¬ ii 14 = 3 by decide +kernel), if_neg (show ¬ ii 14 = 4 by decide +kernel), if_neg (show ¬ ii 14 = 5 by decide +kernel), if_neg (show ¬ ii 14 = 6 by decide +kernel), if_neg (show ¬ ii 14 = 7 by decide +kernel), if_neg (show ¬ ii 14 = 8 by decide +kernel), if_neg (show ¬ ii 14 = 9 by decide +kernel), if_neg (show ¬ ii 14 = 10 by decide +kernel), if_neg (show ¬ ii 14 = 11 by decide +kernel), if_neg (show ¬ ii 14 = 12 by decide +kernel), if_neg (show ¬ ii 14 = 13 by decide +kernel), if_pos (show ii 14 = 14 from rfl)]
        simp (disch := omega) only [↓ob_some, ↓ob_of (j.chk), ↓ob_of (q14), ↓ob_of (j.r1), ↓ob_of (S0.chk), ↓ob_of (X7_width S0), if_ii, ii_add, ii_sub, ii_mul, ii_neg, ii_div, ii_lt, ii_le, ii_eq, ob_some, il_0, il_1, il_2, il_3, il_4, il_5, il_6, il_7, il_8, il_9, il_10, il_11, il_12, il_13, il_14, il_15, il_16, il_17, il_18, il_19, il_20, il_21, il_22, il_23, il_24, il_25, il_26, il_27, il_28, il_29, il_30, il_31, il_32, il_33, il_34, il_35, il_36, il_37, il_38, il_39, il_40, il_41, il_42, il_43, il_44, il_45, il_46, il_47, il_48, il_49, il_50, il_51, il_52, il_53, il_54, il_55, il_56, il_57, il_58, il_59, il_60, il_61, il_62, il_63, il_64, il_65, il_66, il_67, il_68, il_69, il_70, il_71, il_72, il_73, il_74, il_75, il_76, il_77, il_78, il_79, il_80, il_81, il_82, il_83, il_84, il_85, il_86, il_87, il_88, il_89, il_90, il_91, il_92, il_93, il_94, il_95, il_96, il_97, il_98, il_99, il_100, il_101, il_102, il_103, il_104, il_105, il_106, il_107, il_108, il_109, il_110, il_111, il_112, il_113, il_114, il_115, il_116, il_117, il_118, il_119, il_120, il_121, il_122, il_123, il_124, il_125, il_126, il_127, il_128, il_129, il_130, il_131, il_132, il_133, il_134, il_135, il_136, il_137, il_138, il_139, il_140, il_141, il_142, il_143, il_144, il_145, il_146, il_147, il_148, il_149, il_150, il_151, il_152, il_153, il_154, il_155, il_156, il_157, il_158, il_159, il_160, il_161, il_162, il_163, il_164, il_165, il_166, il_167, il_168, il_169, il_170, il_171, il_172, il_173, il_174, il_175, il_176, il_177, il_178, il_179, il_180, il_181, il_182, il_183, il_184, il_185, il_186, il_187, il_188, il_189, il_190, il_191, il_192, il_193, il_194, il_195, il_196, il_197, il_198, il_199, il_200, il_201, il_202, il_203, il_204, il_205, il_206, il_207, il_208, il_209, il_210, il_211, il_212, il_213, il_214, il_215, il_216, il_217, il_218, il_219, il_220, il_221, il_222, il_223, il_224, il_225, il_226, il_227, il_228, il_229, il_230, il_231, il_232, il_233, il_234, il_235, il_236, il_237, il_238, il_239, il_240, il_241, il_242, il_243, il_244, il_245, il_246, il_247, il_248, il_249, il_250, il_251, il_252, il_253, il_254, il_255, il_400, il_480, il_1023, il_2880, il_3000, il_6000, il_m1, il_m8]
      · rw [show ((15 : Nat) : Int) = 15 from rfl, if_neg (show ¬ ii 15 = 1 by decide +kernel), if_neg (show ¬ ii 15 = 2 by decide +kernel), if_neg (show ¬ ii 15 = 3 by decide +kernel), if_neg (show ¬ ii 15 = 4 by decide +kernel), if_neg (show ¬ ii 15 = 5 by decide +kernel), if_neg (show ¬ ii 15 = 6 by decide +kernel), if_neg (show ¬ ii 15 = 7 by decide +kernel), if_neg (show ¬ ii 15 = 8 by decide +kernel), if_neg (show ¬ ii 15 = 9 by decide +kernel), if_neg (show ¬ ii 15 = 10 by decide +kernel), if_neg (show ¬ ii 15 = 11 by decide +kernel), if_neg (show ¬ ii 15 = 12 by decide +kernel), if_neg (show ¬ ii 15 = 13 by decide +kernel), if_neg (show ¬ ii 15 = 14 by decide +kernel), if_pos (show ii 15 = 15 from rfl)]
        simp (disch := omega) only [↓ob_some, ↓ob_of (j.chk), ↓ob_of (q15), if_ii, ii_add, ii_sub, ii_mul, ii_neg, ii_div, ii_lt, ii_le, ii_eq, ob_some, il_0, il_1, il_2, il_3, il_4, il_5, il_6, il_7, il_8, il_9, il_10, il_11, il_12, il_13, il_14, il_15, il_16, il_17, il_18, il_19, il_20, il_21, il_22, il_23, il_24, il_25, il_26, il_27, il_28, il_29, il_30, il_31, il_32, il_33, il_34, il_35, il_36, il_37, il_38, il_39, il_40, il_41, il_42, il_43, il_44, il_45, il_46, il_47, il_48, il_49, il_50, il_51, il_52, il_53, il_54, il_55, il_56, il_57, il_58, il_59, il_60, il_61, il_62, il_63, il_64, il_65, il_66, il_67, il_68, il_69, il_70, il_71, il_72, il_73, il_74, il_75, il_76, il_77, il_78, il_79, il_80, il_81, il_82, il_83, il_84, il_85, il_86, il_87, il_88, il_89, il_90, il_91, il_92, il_93, il_94, il_95, il_96, il_97, il_98, il_99, il_100, il_101, il_102, il_103, il_104, il_105, il_106, il_107, il_108, il_109, il_110, il_111, il_112, il_113, il_114, il_115, il_116, il_117, il_118, il_119, il_120, il_121, il_122, il_123, il_124, il_125, il_126, il_127, il_128, il_129, il_130, il_131, il_132, il_133, il_134, il_135, il_136, il_137, il_138, il_139, il_140, il_141, il_142, il_143, il_144, il_145, il_146, il_147, il_148, il_149, il_150, il_151, il_152, il_153, il_154, il_155, il_156, il_157, il_158, il_159, il_160, il_161, il_162, il_163, il_164, il_165, il_166, il_167, il_168, il_169, il_170, il_171, il_172, il_173, il_174, il_175, il_176, il_177, il_178, il_179, il_180, il_181, il_182, il_183, il_184, il_185, il_186, il_187, il_188, il_189, il_190, il_191, il_192, il_193, il_194, il_195, il_196, il_197, il_198, il_199, il_200, il_201, il_202, il_203, il_204, il_205, il_206, il_207, il_208, il_209, il_210, il_211, il_212, il_213, il_214, il_215, il_216, il_217, il_218, il_219, il_220, il_221, il_222, il_223, il_224, il_225, il_226, il_227, il_228, il_229, il_230, il_231, il_232, il_233, il_234, il_235, il_236, il_237, il_238, il_239, il_240, il_241, il_242, il_243, il_244, il_245, il_246, il_247, il_248, il_249, il_250, il_251, il_252, il_253, il_254, il_255, il_400, il_480, il_1023, il_2880, il_3000, il_6000, il_m1, il_m8]
      · rw [show ((16 : Nat) : Int) = 16 from rfl, if_neg (show ¬ ii 16 = 1 by decide +kernel), if_neg (show ¬ ii 16 = 2 by decide +kernel), if_neg (show ¬ ii 16 = 3 by decide +kernel), if_neg (show ¬ ii 16 = 4 by decide +kernel), if_neg (show ¬ ii 16 = 5 by decide +kernel), if_neg (show ¬ ii 16 = 6 by decide +kernel), if_neg (show ¬ ii 16 = 7 by decide +kernel), if_neg (show ¬ ii 16 = 8 by decide +kernel), if_neg (show ¬ ii 16 = 9 by decide +kernel), if_neg (show ¬ ii 16 = 10 by decide +kernel), if_neg (show ¬ ii 16 = 11 by decide +kernel), if_neg (show ¬ ii 16 = 12 by decide +kernel), if_neg (show ¬ ii 16 = 13 by decide +kernel), if_neg (show ¬ ii 16 = 14 by decide +kernel), if_neg (show ¬ ii 16 = 15 by decide +kernel), if_pos (show ii 16 = 16 from rfl)]
        simp (disch := omega) only [↓ob_some, ↓ob_of (j.chk), ↓ob_of (q16), ↓ob_of (j.r1), ↓ob_of (S0.chk), ↓ob_of (X7_width S0), if_ii, ii_add, ii_sub, ii_mul, ii_neg, ii_div, ii_lt, ii_le, ii_eq, ob_some, il_0, il_1, il_2, il_3, il_4, il_5, il_6, il_7, il_8, il_9, il_10, il_11, il_12, il_13, il_14, il_15, il_16, il_17, il_18, il_19, il_20, il_21, il_22, il_23, il_24, il_25, il_26, il_27, il_28, il_29, il_30, il_31, il_32, il_33, il_34, il_35, il_36, il_37, il_38, il_39, il_40, il_41, il_42, il_43, il_44, il_45, il_46, il_47, il_48, il_49, il_50, il_51, il_52, il_53, il_54, il_55, il_56, il_57, il_58, il_59, il_60, il_61, il_62, il_63, il_64, il_65, il_66, il_67, il_68, il_69, il_70, il_71, il_72, il_73, il_74, il_75, il_76, il_77, il_78, il_79, il_80, il_81, il_82, il_83, il_84, il_85, il_86, il_87, il_88, il_89, il_90, il_91, il_92, il_93, il_94, il_95, il_96, il_97, il_98, il_99, il_100, il_101, il_102, il_103, il_104, il_105, il_106, il_107, il_108, il_109, il_110, il_111, il_112, il_113, il_114, il_115, il_116, il_117, il_118, il_119, il_120, il_121, il_122, il_123, il_124, il_125, il_126, il_127, il_128, il_129, il_130, il_131, il_132, il_133, il_134, il_135, il_136, il_137, il_138, il_139, il_140, il_141, il_142, il_143, il_144, il_145, il_146, il_147, il_148, il_149, il_150, il_151, il_152, il_153, il_154, il_155, il_156, il_157, il_158, il_159, il_160, il_161, il_162, il_163, il_164, il_165, il_166, il_167, il_168, il_169, il_170, il_171, il_172, il_173, il_174, il_175, il_176, il_177, il_178, il_179, il_180, il_181, il_182, il_183, il_184, il_185, il_186, il_187, il_188, il_189, il_190, il_191, il_192, il_193, il_194, il_195, il_196, il_197, il_198, il_199, il_200, il_201, il_202, il_203, il_204, il_205, il_206, il_207, il_208, il_209, il_210, il_211, il_212, il_213, il_214, il_215, il_216, il_217, il_218, il_219, il_220, il_221, il_222, il_223, il_224, il_225, il_226, il_227, il_228, il_229, il_230, il_231, il_232, il_233, il_234, il_235, il_236, il_237, il_238, il_239, il_240, il_241, il_242, il_243, il_244, il_245, il_246, il_247, il_248, il_249, il_250, il_251, il_252, il_253, il_254, il_255, il_400, il_480, il_1023, il_2880, il_3000, il_6000, il_m1, il_m8]
end RULES2
