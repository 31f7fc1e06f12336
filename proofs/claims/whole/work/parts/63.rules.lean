/-! ===== what the rules find at the note looked at ===== -/
def notRec (s : Sh) (p : Int) : Int := if (arrS s p).1 = 0 then 0 else if (appS s p).1 = 0 then 0 else if (appS s p).2.1 < 4 then 0 else if stepS (arrS s p) = 0 then 1 else if agaS (arrS s p) (appS s p) = 0 then 1 else 0
def outl (s : Sh) (p : Int) : Int := if leapS (appS s p) = 0 then -1 else if leapS (arrS s p) = 0 then -1 else if withS (arrS s p) (appS s p) = 0 then -1 else if (appS s p).2.1 + (arrS s p).2.1 = 6 then (appS s p).2.1 + (arrS s p).2.1 else if (appS s p).2.1 + (arrS s p).2.1 ≤ 7 then -1 else (appS s p).2.1 + (arrS s p).2.1
def weak3 (s : Sh) (v t : Int) : Int := if s.sp = 2 then (if v = 0 then 1 else 0) else if s.sp = 3 then (if v = 0 then (if t = 0 then 1 else 0) else 0) else 1
def weak2 (s : Sh) (p st v : Int) : Int := if st = 0 then weak3 s v 0 else if lat s.md (p - 1) = lat s.md (p + 1) then weak3 s v 1 else weak3 s v 0
def weak1 (s : Sh) (p st : Int) : Int := if st = 0 then weak2 s p st 0 else if withS (depS s p) (arrS s p) = 0 then weak2 s p st 0 else weak2 s p st 1
def weakD (s : Sh) (p : Int) : Int := if p % per s.sp = 0 then 0 else if conS (har s p) = 0 then (if stepS (arrS s p) = 0 then weak1 s p 0 else if stepS (depS s p) = 0 then weak1 s p 0 else weak1 s p 1) else 0
def parF (s : Sh) (p : Int) (b : Spn) (z : Int) : Int := if b.2.2.2.2 = 0 then 0 else if b.2.2.2.2 = (har s p).2.2.2.2 then (if pit (lat s.md z) = pitN (lat s.md p) then 0 else if (cmvS s p).2.2.2.1 = 0 then 0 else 1) else 0
def isPar (s : Sh) (p : Int) : Int := if p % per s.sp = 0 then (if parF s p (har s ((p / per s.sp - 1) * per s.sp)) ((p / per s.sp - 1) * per s.sp) = 0 then (if parF s p (har s (p / per s.sp * per s.sp - 1)) (p - 1) = 0 then 0 else 1) else 1) else 0
def dir2 (s : Sh) (p t : Int) : Int := if t = 0 then 0 else if parF s p (har s (p / per s.sp * per s.sp - 1)) (p - 1) = 0 then 1 else 0
def dirD (s : Sh) (p : Int) : Int := if p % per s.sp = 0 then (if (har s p).2.2.2.2 = 0 then 0 else if withS (arrS s p) (cmvS s p) = 0 then 0 else if (har s p).2.2.2.1 < 0 then dir2 s p (leapS (cmvS s p)) else dir2 s p (leapS (arrS s p))) else 0
def innU (s : Sh) (p : Int) : Int := if p % per s.sp = 0 then (if (har s p).2.2.1 = 0 then (if p / per s.sp ≤ 0 then 0 else if (s.gv.length : Int) - 1 ≤ p / per s.sp then 0 else 1) else 0) else 0
def bad2 (s : Sh) (p t : Int) : Int := if p = t then (if (har s p).2.2.2.2 = 8 then 0 else if s.bl = 0 then (if (har s p).2.2.2.2 = 5 then 0 else 1) else 1) else 0
def badB (s : Sh) (p : Int) : Int := if lat s.md 0 = -1 then bad2 s p 1 else bad2 s p 0
def cadC (s : Sh) (p : Int) : Int := if p = (s.md.length : Int) - 1 then (if (har s p).2.2.2.2 = 8 then (if stepS (arrS s p) = 0 then 2 else if stepS (cmvS s p) = 0 then 3 else if agaS (cmvS s p) (arrS s p) = 0 then 3 else if (arrS s p).2.2.2.1 ≤ 0 then (if (cmvS s p).2.2.1 = 1 then -1 else 4) else (if (arrS s p).2.2.1 = 1 then -1 else 4)) else 1) else -1
def susD (s : Sh) (p : Int) : Int := if tie s p = 0 then 0 else if conS (har s p) = 0 then (if lat s.md (p + 1) = -1 then 1 else if stp (lat s.md (p + 1)) = stp (lat s.md p) - 1 then (if conS (har s (p + 1)) = 0 then 1 else 0) else 1) else 0
section RULES
variable {hs : AH} {a : Nat} {s : Sh} {p cp cn : Int}
theorem X1_isNotRecovered (k : SOK s) (L : Lkd hs a s p cp cn) (h0 : 0 ≤ p) (h1 : p ≤ 60) : f_X1_isNotRecovered a hs = some (ii (notRec s p)) := by
  obtain ⟨x, j, y9, y10, y11, y12, y13, y14, y15, y16⟩ := L
  have g9 := j.i9
  have g10 := j.i10
  have g11 := j.i11
  have g12 := j.i12
  have g13 := j.i13
  have g14 := j.i14
  have g15 := j.i15
  have g16 := j.i16
  rw [y9] at g9
  rw [y10] at g10
  rw [y11] at g11
  rw [y12] at g12
  rw [y13] at g13
  rw [y14] at g14
  rw [y15] at g15
  rw [y16] at g16
  have S0 : SpA hs (a + 8) (har s p) := j.2.2 0 (by decide)
  have S1 : SpA hs (a + 9) (har s (p + 1)) := j.2.2 1 (by decide)
  have S2 : SpA hs (a + 10) (har s ((p / per s.sp - 1) * per s.sp)) := j.2.2 2 (by decide)
  have S3 : SpA hs (a + 11) (har s (p / per s.sp * per s.sp - 1)) := j.2.2 3 (by decide)
  have S4 : SpA hs (a + 12) (arrS s p) := j.2.2 4 (by decide)
  have S5 : SpA hs (a + 13) (appS s p) := j.2.2 5 (by decide)
  have S6 : SpA hs (a + 14) (depS s p) := j.2.2 6 (by decide)
  have S7 : SpA hs (a + 15) (cmvS s p) := j.2.2 7 (by decide)
  have B0 : SpB (har s p) := spn_b (k.gvb _) (k.mdb _)
  have B1 : SpB (har s (p + 1)) := spn_b (k.gvb _) (k.mdb _)
  have B2 : SpB (har s ((p / per s.sp - 1) * per s.sp)) := spn_b (k.gvb _) (k.mdb _)
  have B3 : SpB (har s (p / per s.sp * per s.sp - 1)) := spn_b (k.gvb _) (k.mdb _)
  have B4 : SpB (arrS s p) := spn_b (k.mdb _) (k.mdb _)
  have B5 : SpB (appS s p) := spn_b (k.mdb _) (k.mdb _)
  have B6 : SpB (depS s p) := spn_b (k.mdb _) (k.mdb _)
  have B7 : SpB (cmvS s p) := spn_b (k.gvb _) (k.gvb _)
  obtain ⟨b1, b2, b3, b4, b5, b6, b7, b8⟩ := bar_bd (s := s) h0 h1
  have tb := tie_b s p
  have mb := k.mdi p
  have gl := k.gl
  have ml := k.ml
  have spb := k.spb
  have w1 := stepS_b (arrS s p)
  have w2 := agaS_b (arrS s p) (appS s p)
  have q := X7_goesAgainst S4 B4 S5 B5
  unfold f_X1_isNotRecovered notRec
  have B4' := B4
  have B5' := B5
  obtain ⟨u41, u42, u43, u44, u45⟩ := B4'
  obtain ⟨u51, u52, u53, u54, u55⟩ := B5'
  simp (disch := omega) only [g9, g10, g11, g12, g13, g14, g15, g16, j.sh, j.r1, j.r2, j.r3, j.r4, j.r5, j.r6, j.r7, j.r8, j.chk, j.2.1.g, j.2.1.m, j.2.1.chk, j.2.1.2.1.chk, j.2.1.2.2.1.chk, X2_size j.2.1.2.1, X2_size j.2.1.2.2.1, X2_at j.2.1.2.1, X2_at j.2.1.2.2.1, X6_species j.2.1, X6_isBelow j.2.1 k, X6_firstPlaceIn j.2.1 k, S0.chk, S1.chk, S2.chk, S3.chk, S4.chk, S5.chk, S6.chk, S7.chk, X7_isThere S0 B0, X7_steps S0, X7_width S0, X7_way S0, X7_perfectClass S0, X7_isStep S0 B0, X7_isLeap S0 B0, X7_isConsonant S0 B0, X7_isMelodious S0 B0, X7_isThere S1 B1, X7_steps S1, X7_width S1, X7_way S1, X7_perfectClass S1, X7_isStep S1 B1, X7_isLeap S1 B1, X7_isConsonant S1 B1, X7_isMelodious S1 B1, X7_isThere S2 B2, X7_steps S2, X7_width S2, X7_way S2, X7_perfectClass S2, X7_isStep S2 B2, X7_isLeap S2 B2, X7_isConsonant S2 B2, X7_isMelodious S2 B2, X7_isThere S3 B3, X7_steps S3, X7_width S3, X7_way S3, X7_perfectClass S3, X7_isStep S3 B3, X7_isLeap S3 B3, X7_isConsonant S3 B3, X7_isMelodious S3 B3, X7_isThere S4 B4, X7_steps S4, X7_width S4, X7_way S4, X7_perfectClass S4, X7_isStep S4 B4, X7_isLeap S4 B4, X7_isConsonant S4 B4, X7_isMelodious S4 B4, X7_isThere S5 B5, X7_steps S5, X7_width S5, X7_way S5, X7_perfectClass S5, X7_isStep S5 B5, X7_isLeap S5 B5, X7_isConsonant S5 B5, X7_isMelodious S5 B5, X7_isThere S6 B6, X7_steps S6, X7_width S6, X7_way S6, X7_perfectClass S6, X7_isStep S6 B6, X7_isLeap S6 B6, X7_isConsonant S6 B6, X7_isMelodious S6 B6, X7_isThere S7 B7, X7_steps S7, X7_width S7, X7_way S7, X7_perfectClass S7, X7_isStep S7 B7, X7_isLeap S7 B7, X7_isConsonant S7 B7, X7_isMelodious S7 B7, q, if_ii, ii_add, ii_sub, ii_mul, ii_neg, ii_div, ii_lt, ii_le, ii_eq, ob_some, il_0, il_1, il_2, il_3, il_4, il_5, il_6, il_7, il_8, il_9, il_10, il_11, il_12, il_13, il_14, il_15, il_16, il_17, il_18, il_19, il_20, il_21, il_22, il_23, il_24, il_25, il_26, il_27, il_28, il_29, il_30, il_31, il_32, il_33, il_34, il_35, il_36, il_37, il_38, il_39, il_40, il_41, il_42, il_43, il_44, il_45, il_46, il_47, il_48, il_49, il_50, il_51, il_52, il_53, il_54, il_55, il_56, il_57, il_58, il_59, il_60, il_61, il_62, il_63, il_64, il_65, il_66, il_67, il_68, il_69, il_70, il_71, il_72, il_73, il_74, il_75, il_76, il_77, il_78, il_79, il_80, il_81, il_82, il_83, il_84, il_85, il_86, il_87, il_88, il_89, il_90, il_91, il_92, il_93, il_94, il_95, il_96, il_97, il_98, il_99, il_100, il_101, il_102, il_103, il_104, il_105, il_106, il_107, il_108, il_109, il_110, il_111, il_112, il_113, il_114, il_115, il_116, il_117, il_118, il_119, il_120, il_121, il_122, il_123, il_124, il_125, il_126, il_127, il_128, il_129, il_130, il_131, il_132, il_133, il_134, il_135, il_136, il_137, il_138, il_139, il_140, il_141, il_142, il_143, il_144, il_145, il_146, il_147, il_148, il_149, il_150, il_151, il_152, il_153, il_154, il_155, il_156, il_157, il_158, il_159, il_160, il_161, il_162, il_163, il_164, il_165, il_166, il_167, il_168, il_169, il_170, il_171, il_172, il_173, il_174, il_175, il_176, il_177, il_178, il_179, il_180, il_181, il_182, il_183, il_184, il_185, il_186, il_187, il_188, il_189, il_190, il_191, il_192, il_193, il_194, il_195, il_196, il_197, il_198, il_199, il_200, il_201, il_202, il_203, il_204, il_205, il_206, il_207, il_208, il_209, il_210, il_211, il_212, il_213, il_214, il_215, il_216, il_217, il_218, il_219, il_220, il_221, il_222, il_223, il_224, il_225, il_226, il_227, il_228, il_229, il_230, il_231, il_232, il_233, il_234, il_235, il_236, il_237, il_238, il_239, il_240, il_241, il_242, il_243, il_244, il_245, il_246, il_247, il_248, il_249, il_250, il_251, il_252, il_253, il_254, il_255, il_400, il_480, il_1023, il_2880, il_3000, il_6000, il_m1, il_m8]
theorem X1_outline (k : SOK s) (L : Lkd hs a s p cp cn) (h0 : 0 ≤ p) (h1 : p ≤ 60) : f_X1_outline a hs = some (ii (outl s p)) := by
  obtain ⟨x, j, y9, y10, y11, y12, y13, y14, y15, y16⟩ := L
  have g9 := j.i9
  have g10 := j.i10
  have g11 := j.i11
  have g12 := j.i12
  have g13 := j.i13
  have g14 := j.i14
  have g15 := j.i15
  have g16 := j.i16
  rw [y9] at g9
  rw [y10] at g10
  rw [y11] at g11
  rw [y12] at g12
  rw [y13] at g13
  rw [y14] at g14
  rw [y15] at g15
  rw [y16] at g16
  have S0 : SpA hs (a + 8) (har s p) := j.2.2 0 (by decide)
  have S1 : SpA hs (a + 9) (har s (p + 1)) := j.2.2 1 (by decide)
  have S2 : SpA hs (a + 10) (har s ((p / per s.sp - 1) * per s.sp)) := j.2.2 2 (by decide)
  have S3 : SpA hs (a + 11) (har s (p / per s.sp * per s.sp - 1)) := j.2.2 3 (by decide)
  have S4 : SpA hs (a + 12) (arrS s p) := j.2.2 4 (by decide)
  have S5 : SpA hs (a + 13) (appS s p) := j.2.2 5 (by decide)
  have S6 : SpA hs (a + 14) (depS s p) := j.2.2 6 (by decide)
  have S7 : SpA hs (a + 15) (cmvS s p) := j.2.2 7 (by decide)
  have B0 : SpB (har s p) := spn_b (k.gvb _) (k.mdb _)
  have B1 : SpB (har s (p + 1)) := spn_b (k.gvb _) (k.mdb _)
  have B2 : SpB (har s ((p / per s.sp - 1) * per s.sp)) := spn_b (k.gvb _) (k.mdb _)
  have B3 : SpB (har s (p / per s.sp * per s.sp - 1)) := spn_b (k.gvb _) (k.mdb _)
  have B4 : SpB (arrS s p) := spn_b (k.mdb _) (k.mdb _)
  have B5 : SpB (appS s p) := spn_b (k.mdb _) (k.mdb _)
  have B6 : SpB (depS s p) := spn_b (k.mdb _) (k.mdb _)
  have B7 : SpB (cmvS s p) := spn_b (k.gvb _) (k.gvb _)
  obtain ⟨b1, b2, b3, b4, b5, b6, b7, b8⟩ := bar_bd (s := s) h0 h1
  have tb := tie_b s p
  have mb := k.mdi p
  have gl := k.gl
  have ml := k.ml
  have spb := k.spb
  have w1 := leapS_b (arrS s p)
  have w2 := leapS_b (appS s p)
  have w3 := withS_b (arrS s p) (appS s p)
  have q := X7_goesWith S4 B4 S5 B5
  have B4' := B4
  have B5' := B5
  obtain ⟨u41, u42, u43, u44, u45⟩ := B4'
  obtain ⟨u51, u52, u53, u54, u55⟩ := B5'
  have e0 : ∀ v, f_X1_outline_b55 v 0 hs = some (ii (-1)) := fun v => by unfold f_X1_outline_b55; rw [if_pos rfl]; rfl
  unfold f_X1_outline outl
  simp only [e0]
  unfold f_X1_outline_b55
  simp (disch := omega) only [g9, g10, g11, g12, g13, g14, g15, g16, j.sh, j.r1, j.r2, j.r3, j.r4, j.r5, j.r6, j.r7, j.r8, j.chk, j.2.1.g, j.2.1.m, j.2.1.chk, j.2.1.2.1.chk, j.2.1.2.2.1.chk, X2_size j.2.1.2.1, X2_size j.2.1.2.2.1, X2_at j.2.1.2.1, X2_at j.2.1.2.2.1, X6_species j.2.1, X6_isBelow j.2.1 k, X6_firstPlaceIn j.2.1 k, S0.chk, S1.chk, S2.chk, S3.chk, S4.chk, S5.chk, S6.chk, S7.chk, X7_isThere S0 B0, X7_steps S0, X7_width S0, X7_way S0, X7_perfectClass S0, X7_isStep S0 B0, X7_isLeap S0 B0, X7_isConsonant S0 B0, X7_isMelodious S0 B0, X7_isThere S1 B1, X7_steps S1, X7_width S1, X7_way S1, X7_perfectClass S1, X7_isStep S1 B1, X7_isLeap S1 B1, X7_isConsonant S1 B1, X7_isMelodious S1 B1, X7_isThere S2 B2, X7_steps S2, X7_width S2, X7_way S2, X7_perfectClass S2, X7_isStep S2 B2, X7_isLeap S2 B2, X7_isConsonant S2 B2, X7_isMelodious S2 B2, X7_isThere S3 B3, X7_steps S3, X7_width S3, X7_way S3, X7_perfectClass S3, X7_isStep S3 B3, X7_isLeap S3 B3, X7_isConsonant S3 B3, X7_isMelodious S3 B3, X7_isThere S4 B4, X7_steps S4, X7_width S4, X7_way S4, X7_perfectClass S4, X7_isStep S4 B4, X7_isLeap S4 B4, X7_isConsonant S4 B4, X7_isMelodious S4 B4, X7_isThere S5 B5, X7_steps S5, X7_width S5, X7_way S5, X7_perfectClass S5, X7_isStep S5 B5, X7_isLeap S5 B5, X7_isConsonant S5 B5, X7_isMelodious S5 B5, X7_isThere S6 B6, X7_steps S6, X7_width S6, X7_way S6, X7_perfectClass S6, X7_isStep S6 B6, X7_isLeap S6 B6, X7_isConsonant S6 B6, X7_isMelodious S6 B6, X7_isThere S7 B7, X7_steps S7, X7_width S7, X7_way S7, X7_perfectClass S7, X7_isStep S7 B7, X7_isLeap S7 B7, X7_isConsonant S7 B7, X7_isMelodious S7 B7, q, ii_add, ii_sub, ii_mul, ii_neg, ii_div, ii_lt, ii_le, ii_eq, ob_some, il_0, il_1, il_2, il_3, il_4, il_5, il_6, il_7, il_8, il_9, il_10, il_11, il_12, il_13, il_14, il_15, il_16, il_17, il_18, il_19, il_20, il_21, il_22, il_23, il_24, il_25, il_26, il_27, il_28, il_29, il_30, il_31, il_32, il_33, il_34, il_35, il_36, il_37, il_38, il_39, il_40, il_41, il_42, il_43, il_44, il_45, il_46, il_47, il_48, il_49, il_50, il_51, il_52, il_53, il_54, il_55, il_56, il_57, il_58, il_59, il_60, il_61, il_62, il_63, il_64, il_65, il_66, il_67, il_68, il_69, il_70, il_71, il_72, il_73, il_74, il_75, il_76, il_77, il_78, il_79, il_80, il_81, il_82, il_83, il_84, il_85, il_86, il_87, il_88, il_89, il_90, il_91, il_92, il_93, il_94, il_95, il_96, il_97, il_98, il_99, il_100, il_101, il_102, il_103, il_104, il_105, il_106, il_107, il_108, il_109, il_110, il_111, il_112, il_113, il_114, il_115, il_116, il_117, il_118, il_119, il_120, il_121, il_122, il_123, il_124, il_125, il_126, il_127, il_128, il_129, il_130, il_131, il_132, il_133, il_134, il_135, il_136, il_137, il_138, il_139, il_140, il_141, il_142, il_143, il_144, il_145, il_146, il_147, il_148, il_149, il_150, il_151, il_152, il_153, il_154, il_155, il_156, il_157, il_158, il_159, il_160, il_161, il_162, il_163, il_164, il_165, il_166, il_167, il_168, il_169, il_170, il_171, il_172, il_173, il_174, il_175, il_176, il_177, il_178, il_179, il_180, il_181, il_182, il_183, il_184, il_185, il_186, il_187, il_188, il_189, il_190, il_191, il_192, il_193, il_194, il_195, il_196, il_197, il_198, il_199, il_200, il_201, il_202, il_203, il_204, il_205, il_206, il_207, il_208, il_209, il_210, il_211, il_212, il_213, il_214, il_215, il_216, il_217, il_218, il_219, il_220, il_221, il_222, il_223, il_224, il_225, il_226, il_227, il_228, il_229, il_230, il_231, il_232, il_233, il_234, il_235, il_236, il_237, il_238, il_239, il_240, il_241, il_242, il_243, il_244, il_245, il_246, il_247, il_248, il_249, il_250, il_251, il_252, il_253, il_254, il_255, il_400, il_480, il_1023, il_2880, il_3000, il_6000, il_m1, il_m8]
  rw [if_neg (show ¬ (1 : Int) = 0 by decide)]
  simp (disch := omega) only [if_ii, ii_add, ii_sub, ii_mul, ii_neg, ii_div, ii_lt, ii_le, ii_eq, ob_some, il_0, il_1, il_2, il_3, il_4, il_5, il_6, il_7, il_8, il_9, il_10, il_11, il_12, il_13, il_14, il_15, il_16, il_17, il_18, il_19, il_20, il_21, il_22, il_23, il_24, il_25, il_26, il_27, il_28, il_29, il_30, il_31, il_32, il_33, il_34, il_35, il_36, il_37, il_38, il_39, il_40, il_41, il_42, il_43, il_44, il_45, il_46, il_47, il_48, il_49, il_50, il_51, il_52, il_53, il_54, il_55, il_56, il_57, il_58, il_59, il_60, il_61, il_62, il_63, il_64, il_65, il_66, il_67, il_68, il_69, il_70, il_71, il_72, il_73, il_74, il_75, il_76, il_77, il_78, il_79, il_80, il_81, il_82, il_83, il_84, il_85, il_86, il_87, il_88, il_89, il_90, il_91, il_92, il_93, il_94, il_95, il_96, il_97, il_98, il_99, il_100, il_101, il_102, il_103, il_104, il_105, il_106, il_107, il_108, il_109, il_110, il_111, il_112, il_113, il_114, il_115, il_116, il_117, il_118, il_119, il_120, il_121, il_122, il_123, il_124, il_125, il_126, il_127, il_128, il_129, il_130, il_131, il_132, il_133, il_134, il_135, il_136, il_137, il_138, il_139, il_140, il_141, il_142, il_143, il_144, il_145, il_146, il_147, il_148, il_149, il_150, il_151, il_152, il_153, il_154, il_155, il_156, il_157, il_158, il_159, il_160, il_161, il_162, il_163, il_164, il_165, il_166, il_167, il_168, il_169, il_170, il_171, il_172, il_173, il_174, il_175, il_176, il_177, il_178, il_179, il_180, il_181, il_182, il_183, il_184, il_185, il_186, il_187, il_188, il_189, il_190, il_191, il_192, il_193, il_194, il_195, il_196, il_197, il_198, il_199, il_200, il_201, il_202, il_203, il_204, il_205, il_206, il_207, il_208, il_209, il_210, il_211, il_212, il_213, il_214, il_215, il_216, il_217, il_218, il_219, il_220, il_221, il_222, il_223, il_224, il_225, il_226, il_227, il_228, il_229, il_230, il_231, il_232, il_233, il_234, il_235, il_236, il_237, il_238, il_239, il_240, il_241, il_242, il_243, il_244, il_245, il_246, il_247, il_248, il_249, il_250, il_251, il_252, il_253, il_254, il_255, il_400, il_480, il_1023, il_2880, il_3000, il_6000, il_m1, il_m8]
theorem X1_weak3 (k : SOK s) (L : Lkd hs a s p cp cn) (h0 : 0 ≤ p) (h1 : p ≤ 60) {v t : Int} (hv : 0 ≤ v ∧ v ≤ 1) (ht : 0 ≤ t ∧ t ≤ 1) : f_X1_isWeakDissonance_b113 a (ii v) (ii t) hs = some (ii (weak3 s v t)) := by
  obtain ⟨x, j, y9, y10, y11, y12, y13, y14, y15, y16⟩ := L
  have g9 := j.i9
  have g10 := j.i10
  have g11 := j.i11
  have g12 := j.i12
  have g13 := j.i13
  have g14 := j.i14
  have g15 := j.i15
  have g16 := j.i16
  rw [y9] at g9
  rw [y10] at g10
  rw [y11] at g11
  rw [y12] at g12
  rw [y13] at g13
  rw [y14] at g14
  rw [y15] at g15
  rw [y16] at g16
  have S0 : SpA hs (a + 8) (har s p) := j.2.2 0 (by decide)
  have S1 : SpA hs (a + 9) (har s (p + 1)) := j.2.2 1 (by decide)
  have S2 : SpA hs (a + 10) (har s ((p / per s.sp - 1) * per s.sp)) := j.2.2 2 (by decide)
  have S3 : SpA hs (a + 11) (har s (p / per s.sp * per s.sp - 1)) := j.2.2 3 (by decide)
  have S4 : SpA hs (a + 12) (arrS s p) := j.2.2 4 (by decide)
  have S5 : SpA hs (a + 13) (appS s p) := j.2.2 5 (by decide)
  have S6 : SpA hs (a + 14) (depS s p) := j.2.2 6 (by decide)
  have S7 : SpA hs (a + 15) (cmvS s p) := j.2.2 7 (by decide)
  have B0 : SpB (har s p) := spn_b (k.gvb _) (k.mdb _)
  have B1 : SpB (har s (p + 1)) := spn_b (k.gvb _) (k.mdb _)
  have B2 : SpB (har s ((p / per s.sp - 1) * per s.sp)) := spn_b (k.gvb _) (k.mdb _)
  have B3 : SpB (har s (p / per s.sp * per s.sp - 1)) := spn_b (k.gvb _) (k.mdb _)
  have B4 : SpB (arrS s p) := spn_b (k.mdb _) (k.mdb _)
  have B5 : SpB (appS s p) := spn_b (k.mdb _) (k.mdb _)
  have B6 : SpB (depS s p) := spn_b (k.mdb _) (k.mdb _)
  have B7 : SpB (cmvS s p) := spn_b (k.gvb _) (k.gvb _)
  obtain ⟨b1, b2, b3, b4, b5, b6, b7, b8⟩ := bar_bd (s := s) h0 h1
  have tb := tie_b s p
  have mb := k.mdi p
  have gl := k.gl
  have ml := k.ml
  have spb := k.spb
  unfold f_X1_isWeakDissonance_b113 weak3
  simp (disch := omega) only [g9, g10, g11, g12, g13, g14, g15, g16, j.sh, j.r1, j.r2, j.r3, j.r4, j.r5, j.r6, j.r7, j.r8, j.chk, j.2.1.g, j.2.1.m, j.2.1.chk, j.2.1.2.1.chk, j.2.1.2.2.1.chk, X2_size j.2.1.2.1, X2_size j.2.1.2.2.1, X2_at j.2.1.2.1, X2_at j.2.1.2.2.1, X6_species j.2.1, X6_isBelow j.2.1 k, X6_firstPlaceIn j.2.1 k, S0.chk, S1.chk, S2.chk, S3.chk, S4.chk, S5.chk, S6.chk, S7.chk, X7_isThere S0 B0, X7_steps S0, X7_width S0, X7_way S0, X7_perfectClass S0, X7_isStep S0 B0, X7_isLeap S0 B0, X7_isConsonant S0 B0, X7_isMelodious S0 B0, X7_isThere S1 B1, X7_steps S1, X7_width S1, X7_way S1, X7_perfectClass S1, X7_isStep S1 B1, X7_isLeap S1 B1, X7_isConsonant S1 B1, X7_isMelodious S1 B1, X7_isThere S2 B2, X7_steps S2, X7_width S2, X7_way S2, X7_perfectClass S2, X7_isStep S2 B2, X7_isLeap S2 B2, X7_isConsonant S2 B2, X7_isMelodious S2 B2, X7_isThere S3 B3, X7_steps S3, X7_width S3, X7_way S3, X7_perfectClass S3, X7_isStep S3 B3, X7_isLeap S3 B3, X7_isConsonant S3 B3, X7_isMelodious S3 B3, X7_isThere S4 B4, X7_steps S4, X7_width S4, X7_way S4, X7_perfectClass S4, X7_isStep S4 B4, X7_isLeap S4 B4, X7_isConsonant S4 B4, X7_isMelodious S4 B4, X7_isThere S5 B5, X7_steps S5, X7_width S5, X7_way S5, X7_perfectClass S5, X7_isStep S5 B5, X7_isLeap S5 B5, X7_isConsonant S5 B5, X7_isMelodious S5 B5, X7_isThere S6 B6, X7_steps S6, X7_width S6, X7_way S6, X7_perfectClass S6, X7_isStep S6 B6, X7_isLeap S6 B6, X7_isConsonant S6 B6, X7_isMelodious S6 B6, X7_isThere S7 B7, X7_steps S7, X7_width S7, X7_way S7, X7_perfectClass S7, X7_isStep S7 B7, X7_isLeap S7 B7, X7_isConsonant S7 B7, X7_isMelodious S7 B7, if_ii, ii_add, ii_sub, ii_mul, ii_neg, ii_div, ii_lt, ii_le, ii_eq, ob_some, il_0, il_1, il_2, il_3, il_4, il_5, il_6, il_7, il_8, il_9, il_10, il_11, il_12, il_13, il_14, il_15, il_16, il_17, il_18, il_19, il_20, il_21, il_22, il_23, il_24, il_25, il_26, il_27, il_28, il_29, il_30, il_31, il_32, il_33, il_34, il_35, il_36, il_37, il_38, il_39, il_40, il_41, il_42, il_43, il_44, il_45, il_46, il_47, il_48, il_49, il_50, il_51, il_52, il_53, il_54, il_55, il_56, il_57, il_58, il_59, il_60, il_61, il_62, il_63, il_64, il_65, il_66, il_67, il_68, il_69, il_70, il_71, il_72, il_73, il_74, il_75, il_76, il_77, il_78, il_79, il_80, il_81, il_82, il_83, il_84, il_85, il_86, il_87, il_88, il_89, il_90, il_91, il_92, il_93, il_94, il_95, il_96, il_97, il_98, il_99, il_100, il_101, il_102, il_103, il_104, il_105, il_106, il_107, il_108, il_109, il_110, il_111, il_112, il_113, il_114, il_115, il_116, il_117, il_118, il_119, il_120, il_121, il_122, il_123, il_124, il_125, il_126, il_127, il_128, il_129, il_130, il_131, il_132, il_133, il_134, il_135, il_136, il_137, il_138, il_139, il_140, il_141, il_142, il_143, il_144, il_145, il_146, il_147, il_148, il_149, il_150, il_151, il_152, il_153, il_154, il_155, il_156, il_157, il_158, il_159, il_160, il_161, il_162, il_163, il_164, il_165, il_166, il_167, il_168, il_169, il_170, il_171, il_172, il_173, il_174, il_175, il_176, il_177, il_178, il_179, il_180, il_181, il_182, il_183, il_184, il_185, il_186, il_187, il_188, il_189, il_190, il_191, il_192, il_193, il_194, il_195, il_196, il_197, il_198, il_199, il_200, il_201, il_202, il_203, il_204, il_205, il_206, il_207, il_208, il_209, il_210, il_211, il_212, il_213, il_214, il_215, il_216, il_217, il_218, il_219, il_220, il_221, il_222, il_223, il_224, il_225, il_226, il_227, il_228, il_229, il_230, il_231, il_232, il_233, il_234, il_235, il_236, il_237, il_238, il_239, il_240, il_241, il_242, il_243, il_244, il_245, il_246, il_247, il_248, il_249, il_250, il_251, il_252, il_253, il_254, il_255, il_400, il_480, il_1023, il_2880, il_3000, il_6000, il_m1, il_m8]
theorem X1_weak2 (k : SOK s) (L : Lkd hs a s p cp cn) (h0 : 0 ≤ p) (h1 : p ≤ 60) {st v : Int} (hs' : 0 ≤ st ∧ st ≤ 1) (hv : 0 ≤ v ∧ v ≤ 1) : f_X1_isWeakDissonance_b68 a (ii st) (ii v) hs = some (ii (weak2 s p st v)) := by
  have w := @X1_weak3 hs a s p cp cn k L h0 h1
  obtain ⟨x, j, y9, y10, y11, y12, y13, y14, y15, y16⟩ := L
  have g9 := j.i9
  have g10 := j.i10
  have g11 := j.i11
  have g12 := j.i12
  have g13 := j.i13
  have g14 := j.i14
  have g15 := j.i15
  have g16 := j.i16
  rw [y9] at g9
  rw [y10] at g10
  rw [y11] at g11
  rw [y12] at g12
  rw [y13] at g13
  rw [y14] at g14
  rw [y15] at g15
  rw [y16] at g16
  have S0 : SpA hs (a + 8) (har s p) := j.2.2 0 (by decide)
  have S1 : SpA hs (a + 9) (har s (p + 1)) := j.2.2 1 (by decide)
  have S2 : SpA hs (a + 10) (har s ((p / per s.sp - 1) * per s.sp)) := j.2.2 2 (by decide)
  have S3 : SpA hs (a + 11) (har s (p / per s.sp * per s.sp - 1)) := j.2.2 3 (by decide)
  have S4 : SpA hs (a + 12) (arrS s p) := j.2.2 4 (by decide)
  have S5 : SpA hs (a + 13) (appS s p) := j.2.2 5 (by decide)
  have S6 : SpA hs (a + 14) (depS s p) := j.2.2 6 (by decide)
  have S7 : SpA hs (a + 15) (cmvS s p) := j.2.2 7 (by decide)
  have B0 : SpB (har s p) := spn_b (k.gvb _) (k.mdb _)
  have B1 : SpB (har s (p + 1)) := spn_b (k.gvb _) (k.mdb _)
  have B2 : SpB (har s ((p / per s.sp - 1) * per s.sp)) := spn_b (k.gvb _) (k.mdb _)
  have B3 : SpB (har s (p / per s.sp * per s.sp - 1)) := spn_b (k.gvb _) (k.mdb _)
  have B4 : SpB (arrS s p) := spn_b (k.mdb _) (k.mdb _)
  have B5 : SpB (appS s p) := spn_b (k.mdb _) (k.mdb _)
  have B6 : SpB (depS s p) := spn_b (k.mdb _) (k.mdb _)
  have B7 : SpB (cmvS s p) := spn_b (k.gvb _) (k.gvb _)
  obtain ⟨b1, b2, b3, b4, b5, b6, b7, b8⟩ := bar_bd (s := s) h0 h1
  have tb := tie_b s p
  have mb := k.mdi p
  have gl := k.gl
  have ml := k.ml
  have spb := k.spb
  have m1 := k.mdb (p - 1)
  have m2 := k.mdb (p + 1)
  unfold f_X1_isWeakDissonance_b68 weak2
  simp (disch := omega) only [g9, g10, g11, g12, g13, g14, g15, g16, j.sh, j.r1, j.r2, j.r3, j.r4, j.r5, j.r6, j.r7, j.r8, j.chk, j.2.1.g, j.2.1.m, j.2.1.chk, j.2.1.2.1.chk, j.2.1.2.2.1.chk, X2_size j.2.1.2.1, X2_size j.2.1.2.2.1, X2_at j.2.1.2.1, X2_at j.2.1.2.2.1, X6_species j.2.1, X6_isBelow j.2.1 k, X6_firstPlaceIn j.2.1 k, S0.chk, S1.chk, S2.chk, S3.chk, S4.chk, S5.chk, S6.chk, S7.chk, X7_isThere S0 B0, X7_steps S0, X7_width S0, X7_way S0, X7_perfectClass S0, X7_isStep S0 B0, X7_isLeap S0 B0, X7_isConsonant S0 B0, X7_isMelodious S0 B0, X7_isThere S1 B1, X7_steps S1, X7_width S1, X7_way S1, X7_perfectClass S1, X7_isStep S1 B1, X7_isLeap S1 B1, X7_isConsonant S1 B1, X7_isMelodious S1 B1, X7_isThere S2 B2, X7_steps S2, X7_width S2, X7_way S2, X7_perfectClass S2, X7_isStep S2 B2, X7_isLeap S2 B2, X7_isConsonant S2 B2, X7_isMelodious S2 B2, X7_isThere S3 B3, X7_steps S3, X7_width S3, X7_way S3, X7_perfectClass S3, X7_isStep S3 B3, X7_isLeap S3 B3, X7_isConsonant S3 B3, X7_isMelodious S3 B3, X7_isThere S4 B4, X7_steps S4, X7_width S4, X7_way S4, X7_perfectClass S4, X7_isStep S4 B4, X7_isLeap S4 B4, X7_isConsonant S4 B4, X7_isMelodious S4 B4, X7_isThere S5 B5, X7_steps S5, X7_width S5, X7_way S5, X7_perfectClass S5, X7_isStep S5 B5, X7_isLeap S5 B5, X7_isConsonant S5 B5, X7_isMelodious S5 B5, X7_isThere S6 B6, X7_steps S6, X7_width S6, X7_way S6, X7_perfectClass S6, X7_isStep S6 B6, X7_isLeap S6 B6, X7_isConsonant S6 B6, X7_isMelodious S6 B6, X7_isThere S7 B7, X7_steps S7, X7_width S7, X7_way S7, X7_perfectClass S7, X7_isStep S7 B7, X7_isLeap S7 B7, X7_isConsonant S7 B7, X7_isMelodious S7 B7, w, if_ii, ii_add, ii_sub, ii_mul, ii_neg, ii_div, ii_lt, ii_le, ii_eq, ob_some, il_0, il_1, il_2, il_3, il_4, il_5, il_6, il_7, il_8, il_9, il_10, il_11, il_12, il_13, il_14, il_15, il_16, il_17, il_18, il_19, il_20, il_21, il_22, il_23, il_24, il_25, il_26, il_27, il_28, il_29, il_30, il_31, il_32, il_33, il_34, il_35, il_36, il_37, il_38, il_39, il_40, il_41, il_42, il_43, il_44, il_45, il_46, il_47, il_48, il_49, il_50, il_51, il_52, il_53, il_54, il_55, il_56, il_57, il_58, il_59, il_60, il_61, il_62, il_63, il_64, il_65, il_66, il_67, il_68, il_69, il_70, il_71, il_72, il_73, il_74, il_75, il_76, il_77, il_78, il_79, il_80, il_81, il_82, il_83, il_84, il_85, il_86, il_87, il_88, il_89, il_90, il_91, il_92, il_93, il_94, il_95, il_96, il_97, il_98, il_99, il_100, il_101, il_102, il_103, il_104, il_105, il_106, il_107, il_108, il_109, il_110, il_111, il_112, il_113, il_114, il_115, il_116, il_117, il_118, il_119, il_120, il_121, il_122, il_123, il_124, il_125, il_126, il_127, il_128, il_129, il_130, il_131, il_132, il_133, il_134, il_135, il_136, il_137, il_138, il_139, il_140, il_141, il_142, il_143, il_144, il_145, il_146, il_147, il_148, il_149, il_150, il_151, il_152, il_153, il_154, il_155, il_156, il_157, il_158, il_159, il_160, il_161, il_162, il_163, il_164, il_165, il_166, il_167, il_168, il_169, il_170, il_171, il_172, il_173, il_174, il_175, il_176, il_177, il_178, il_179, il_180, il_181, il_182, il_183, il_184, il_185, il_186, il_187, il_188, il_189, il_190, il_191, il_192, il_193, il_194, il_195, il_196, il_197, il_198, il_199, il_200, il_201, il_202, il_203, il_204, il_205, il_206, il_207, il_208, il_209, il_210, il_211, il_212, il_213, il_214, il_215, il_216, il_217, il_218, il_219, il_220, il_221, il_222, il_223, il_224, il_225, il_226, il_227, il_228, il_229, il_230, il_231, il_232, il_233, il_234, il_235, il_236, il_237, il_238, il_239, il_240, il_241, il_242, il_243, il_244, il_245, il_246, il_247, il_248, il_249, il_250, il_251, il_252, il_253, il_254, il_255, il_400, il_480, il_1023, il_2880, il_3000, il_6000, il_m1, il_m8]
theorem X1_weak1 (k : SOK s) (L : Lkd hs a s p cp cn) (h0 : 0 ≤ p) (h1 : p ≤ 60) {st : Int} (hs' : 0 ≤ st ∧ st ≤ 1) : f_X1_isWeakDissonance_b44 a (ii st) hs = some (ii (weak1 s p st)) := by
  have w := @X1_weak2 hs a s p cp cn k L h0 h1
  obtain ⟨x, j, y9, y10, y11, y12, y13, y14, y15, y16⟩ := L
  have g9 := j.i9
  have g10 := j.i10
  have g11 := j.i11
  have g12 := j.i12
  have g13 := j.i13
  have g14 := j.i14
  have g15 := j.i15
  have g16 := j.i16
  rw [y9] at g9
  rw [y10] at g10
  rw [y11] at g11
  rw [y12] at g12
  rw [y13] at g13
  rw [y14] at g14
  rw [y15] at g15
  rw [y16] at g16
  have S0 : SpA hs (a + 8) (har s p) := j.2.2 0 (by decide)
  have S1 : SpA hs (a + 9) (har s (p + 1)) := j.2.2 1 (by decide)
  have S2 : SpA hs (a + 10) (har s ((p / per s.sp - 1) * per s.sp)) := j.2.2 2 (by decide)
  have S3 : SpA hs (a + 11) (har s (p / per s.sp * per s.sp - 1)) := j.2.2 3 (by decide)
  have S4 : SpA hs (a + 12) (arrS s p) := j.2.2 4 (by decide)
  have S5 : SpA hs (a + 13) (appS s p) := j.2.2 5 (by decide)
  have S6 : SpA hs (a + 14) (depS s p) := j.2.2 6 (by decide)
  have S7 : SpA hs (a + 15) (cmvS s p) := j.2.2 7 (by decide)
  have B0 : SpB (har s p) := spn_b (k.gvb _) (k.mdb _)
  have B1 : SpB (har s (p + 1)) := spn_b (k.gvb _) (k.mdb _)
  have B2 : SpB (har s ((p / per s.sp - 1) * per s.sp)) := spn_b (k.gvb _) (k.mdb _)
  have B3 : SpB (har s (p / per s.sp * per s.sp - 1)) := spn_b (k.gvb _) (k.mdb _)
  have B4 : SpB (arrS s p) := spn_b (k.mdb _) (k.mdb _)
  have B5 : SpB (appS s p) := spn_b (k.mdb _) (k.mdb _)
  have B6 : SpB (depS s p) := spn_b (k.mdb _) (k.mdb _)
  have B7 : SpB (cmvS s p) := spn_b (k.gvb _) (k.gvb _)
  obtain ⟨b1, b2, b3, b4, b5, b6, b7, b8⟩ := bar_bd (s := s) h0 h1
  have tb := tie_b s p
  have mb := k.mdi p
  have gl := k.gl
  have ml := k.ml
  have spb := k.spb
  have w3 := withS_b (depS s p) (arrS s p)
  have q := X7_goesWith S6 B6 S4 B4
  unfold f_X1_isWeakDissonance_b44 weak1
  simp (disch := omega) only [g9, g10, g11, g12, g13, g14, g15, g16, j.sh, j.r1, j.r2, j.r3, j.r4, j.r5, j.r6, j.r7, j.r8, j.chk, j.2.1.g, j.2.1.m, j.2.1.chk, j.2.1.2.1.chk, j.2.1.2.2.1.chk, X2_size j.2.1.2.1, X2_size j.2.1.2.2.1, X2_at j.2.1.2.1, X2_at j.2.1.2.2.1, X6_species j.2.1, X6_isBelow j.2.1 k, X6_firstPlaceIn j.2.1 k, S0.chk, S1.chk, S2.chk, S3.chk, S4.chk, S5.chk, S6.chk, S7.chk, X7_isThere S0 B0, X7_steps S0, X7_width S0, X7_way S0, X7_perfectClass S0, X7_isStep S0 B0, X7_isLeap S0 B0, X7_isConsonant S0 B0, X7_isMelodious S0 B0, X7_isThere S1 B1, X7_steps S1, X7_width S1, X7_way S1, X7_perfectClass S1, X7_isStep S1 B1, X7_isLeap S1 B1, X7_isConsonant S1 B1, X7_isMelodious S1 B1, X7_isThere S2 B2, X7_steps S2, X7_width S2, X7_way S2, X7_perfectClass S2, X7_isStep S2 B2, X7_isLeap S2 B2, X7_isConsonant S2 B2, X7_isMelodious S2 B2, X7_isThere S3 B3, X7_steps S3, X7_width S3, X7_way S3, X7_perfectClass S3, X7_isStep S3 B3, X7_isLeap S3 B3, X7_isConsonant S3 B3, X7_isMelodious S3 B3, X7_isThere S4 B4, X7_steps S4, X7_width S4, X7_way S4, X7_perfectClass S4, X7_isStep S4 B4, X7_isLeap S4 B4, X7_isConsonant S4 B4, X7_isMelodious S4 B4, X7_isThere S5 B5, X7_steps S5, X7_width S5, X7_way S5, X7_perfectClass S5, X7_isStep S5 B5, X7_isLeap S5 B5, X7_isConsonant S5 B5, X7_isMelodious S5 B5, X7_isThere S6 B6, X7_steps S6, X7_width S6, X7_way S6, X7_perfectClass S6, X7_isStep S6 B6, X7_isLeap S6 B6, X7_isConsonant S6 B6, X7_isMelodious S6 B6, X7_isThere S7 B7, X7_steps S7, X7_width S7, X7_way S7, X7_perfectClass S7, X7_isStep S7 B7, X7_isLeap S7 B7, X7_isConsonant S7 B7, X7_isMelodious S7 B7, q, w, if_ii, ii_add, ii_sub, ii_mul, ii_neg, ii_div, ii_lt, ii_le, ii_eq, ob_some, il_0, il_1, il_2, il_3, il_4, il_5, il_6, il_7, il_8, il_9, il_10, il_11, il_12, il_13, il_14, il_15, il_16, il_17, il_18, il_19, il_20, il_21, il_22, il_23, il_24, il_25, il_26, il_27, il_28, il_29, il_30, il_31, il_32, il_33, il_34, il_35, il_36, il_37, il_38, il_39, il_40, il_41, il_42, il_43, il_44, il_45, il_46, il_47, il_48, il_49, il_50, il_51, il_52, il_53, il_54, il_55, il_56, il_57, il_58, il_59, il_60, il_61, il_62, il_63, il_64, il_65, il_66, il_67, il_68, il_69, il_70, il_71, il_72, il_73, il_74, il_75, il_76, il_77, il_78, il_79, il_80, il_81, il_82, il_83, il_84, il_85, il_86, il_87, il_88, il_89, il_90, il_91, il_92, il_93, il_94, il_95, il_96, il_97, il_98, il_99, il_100, il_101, il_102, il_103, il_104, il_105, il_106, il_107, il_108, il_109, il_110, il_111, il_112, il_113, il_114, il_115, il_116, il_117, il_118, il_119, il_120, il_121, il_122, il_123, il_124, il_125, il_126, il_127, il_128, il_129, il_130, il_131, il_132, il_133, il_134, il_135, il_136, il_137, il_138, il_139, il_140, il_141, il_142, il_143, il_144, il_145, il_146, il_147, il_148, il_149, il_150, il_151, il_152, il_153, il_154, il_155, il_156, il_157, il_158, il_159, il_160, il_161, il_162, il_163, il_164, il_165, il_166, il_167, il_168, il_169, il_170, il_171, il_172, il_173, il_174, il_175, il_176, il_177, il_178, il_179, il_180, il_181, il_182, il_183, il_184, il_185, il_186, il_187, il_188, il_189, il_190, il_191, il_192, il_193, il_194, il_195, il_196, il_197, il_198, il_199, il_200, il_201, il_202, il_203, il_204, il_205, il_206, il_207, il_208, il_209, il_210, il_211, il_212, il_213, il_214, il_215, il_216, il_217, il_218, il_219, il_220, il_221, il_222, il_223, il_224, il_225, il_226, il_227, il_228, il_229, il_230, il_231, il_232, il_233, il_234, il_235, il_236, il_237, il_238, il_239, il_240, il_241, il_242, il_243, il_244, il_245, il_246, il_247, il_248, il_249, il_250, il_251, il_252, il_253, il_254, il_255, il_400, il_480, il_1023, il_2880, il_3000, il_6000, il_m1, il_m8]
theorem X1_weak (k : SOK s) (L : Lkd hs a s p cp cn) (h0 : 0 ≤ p) (h1 : p ≤ 60) : f_X1_isWeakDissonance a hs = some (ii (weakD s p)) := by
  have w := @X1_weak1 hs a s p cp cn k L h0 h1
  obtain ⟨x, j, y9, y10, y11, y12, y13, y14, y15, y16⟩ := L
  have g9 := j.i9
  have g10 := j.i10
  have g11 := j.i11
  have g12 := j.i12
  have g13 := j.i13
  have g14 := j.i14
  have g15 := j.i15
  have g16 := j.i16
  rw [y9] at g9
  rw [y10] at g10
  rw [y11] at g11
  rw [y12] at g12
  rw [y13] at g13
  rw [y14] at g14
  rw [y15] at g15
  rw [y16] at g16
  have S0 : SpA hs (a + 8) (har s p) := j.2.2 0 (by decide)
  have S1 : SpA hs (a + 9) (har s (p + 1)) := j.2.2 1 (by decide)
  have S2 : SpA hs (a + 10) (har s ((p / per s.sp - 1) * per s.sp)) := j.2.2 2 (by decide)
  have S3 : SpA hs (a + 11) (har s (p / per s.sp * per s.sp - 1)) := j.2.2 3 (by decide)
  have S4 : SpA hs (a + 12) (arrS s p) := j.2.2 4 (by decide)
  have S5 : SpA hs (a + 13) (appS s p) := j.2.2 5 (by decide)
  have S6 : SpA hs (a + 14) (depS s p) := j.2.2 6 (by decide)
  have S7 : SpA hs (a + 15) (cmvS s p) := j.2.2 7 (by decide)
  have B0 : SpB (har s p) := spn_b (k.gvb _) (k.mdb _)
  have B1 : SpB (har s (p + 1)) := spn_b (k.gvb _) (k.mdb _)
  have B2 : SpB (har s ((p / per s.sp - 1) * per s.sp)) := spn_b (k.gvb _) (k.mdb _)
  have B3 : SpB (har s (p / per s.sp * per s.sp - 1)) := spn_b (k.gvb _) (k.mdb _)
  have B4 : SpB (arrS s p) := spn_b (k.mdb _) (k.mdb _)
  have B5 : SpB (appS s p) := spn_b (k.mdb _) (k.mdb _)
  have B6 : SpB (depS s p) := spn_b (k.mdb _) (k.mdb _)
  have B7 : SpB (cmvS s p) := spn_b (k.gvb _) (k.gvb _)
  obtain ⟨b1, b2, b3, b4, b5, b6, b7, b8⟩ := bar_bd (s := s) h0 h1
  have tb := tie_b s p
  have mb := k.mdi p
  have gl := k.gl
  have ml := k.ml
  have spb := k.spb
  have w1 := stepS_b (arrS s p)
  have w2 := stepS_b (depS s p)
  have w3 := conS_b (har s p)
  unfold f_X1_isWeakDissonance weakD
  simp (disch := omega) only [g9, g10, g11, g12, g13, g14, g15, g16, j.sh, j.r1, j.r2, j.r3, j.r4, j.r5, j.r6, j.r7, j.r8, j.chk, j.2.1.g, j.2.1.m, j.2.1.chk, j.2.1.2.1.chk, j.2.1.2.2.1.chk, X2_size j.2.1.2.1, X2_size j.2.1.2.2.1, X2_at j.2.1.2.1, X2_at j.2.1.2.2.1, X6_species j.2.1, X6_isBelow j.2.1 k, X6_firstPlaceIn j.2.1 k, S0.chk, S1.chk, S2.chk, S3.chk, S4.chk, S5.chk, S6.chk, S7.chk, X7_isThere S0 B0, X7_steps S0, X7_width S0, X7_way S0, X7_perfectClass S0, X7_isStep S0 B0, X7_isLeap S0 B0, X7_isConsonant S0 B0, X7_isMelodious S0 B0, X7_isThere S1 B1, X7_steps S1, X7_width S1, X7_way S1, X7_perfectClass S1, X7_isStep S1 B1, X7_isLeap S1 B1, X7_isConsonant S1 B1, X7_isMelodious S1 B1, X7_isThere S2 B2, X7_steps S2, X7_width S2, X7_way S2, X7_perfectClass S2, X7_isStep S2 B2, X7_isLeap S2 B2, X7_isConsonant S2 B2, X7_isMelodious S2 B2, X7_isThere S3 B3, X7_steps S3, X7_width S3, X7_way S3, X7_perfectClass S3, X7_isStep S3 B3, X7_isLeap S3 B3, X7_isConsonant S3 B3, X7_isMelodious S3 B3, X7_isThere S4 B4, X7_steps S4, X7_width S4, X7_way S4, X7_perfectClass S4, X7_isStep S4 B4, X7_isLeap S4 B4, X7_isConsonant S4 B4, X7_isMelodious S4 B4, X7_isThere S5 B5, X7_steps S5, X7_width S5, X7_way S5, X7_perfectClass S5, X7_isStep S5 B5, X7_isLeap S5 B5, X7_isConsonant S5 B5, X7_isMelodious S5 B5, X7_isThere S6 B6, X7_steps S6, X7_width S6, X7_way S6, X7_perfectClass S6, X7_isStep S6 B6, X7_isLeap S6 B6, X7_isConsonant S6 B6, X7_isMelodious S6 B6, X7_isThere S7 B7, X7_steps S7, X7_width S7, X7_way S7, X7_perfectClass S7, X7_isStep S7 B7, X7_isLeap S7 B7, X7_isConsonant S7 B7, X7_isMelodious S7 B7, w, if_ii, ii_add, ii_sub, ii_mul, ii_neg, ii_div, ii_lt, ii_le, ii_eq, ob_some, il_0, il_1, il_2, il_3, il_4, il_5, il_6, il_7, il_8, il_9, il_10, il_11, il_12, il_13, il_14, il_15, il_16, il_17, il_18, il_19, il_20, il_21, il_22, il_23, il_24, il_25, il_26, il_27, il_28, il_29, il_30, il_31, il_32, il_33, il_34, il_35, il_36, il_37, il_38, il_39, il_40, il_41, il_42, il_43, il_44, il_45, il_46, il_47, il_48, il_49, il_50, il_51, il_52, il_53, il_54, il_55, il_56, il_57, il_58, il_59, il_60, il_61, il_62, il_63, il_64, il_65, il_66, il_67, il_68, il_69, il_70, il_71, il_72, il_73, il_74, il_75, il_76, il_77, il_78, il_79, il_80, il_81, il_82, il_83, il_84, il_85, il_86, il_87, il_88, il_89, il_90, il_91, il_92, il_93, il_94, il_95, il_96, il_97, il_98, il_99, il_100, il_101, il_102, il_103, il_104, il_105, il_106, il_107, il_108, il_109, il_110, il_111, il_112, il_113, il_114, il_115, il_116, il_117, il_118, il_119, il_120, il_121, il_122, il_123, il_124, il_125, il_126, il_127, il_128, il_129, il_130, il_131, il_132, il_133, il_134, il_135, il_136, il_137, il_138, il_139, il_140, il_141, il_142, il_143, il_144, il_145, il_146, il_147, il_148, il_149, il_150, il_151, il_152, il_153, il_154, il_155, il_156, il_157, il_158, il_159, il_160, il_161, il_162, il_163, il_164, il_165, il_166, il_167, il_168, il_169, il_170, il_171, il_172, il_173, il_174, il_175, il_176, il_177, il_178, il_179, il_180, il_181, il_182, il_183, il_184, il_185, il_186, il_187, il_188, il_189, il_190, il_191, il_192, il_193, il_194, il_195, il_196, il_197, il_198, il_199, il_200, il_201, il_202, il_203, il_204, il_205, il_206, il_207, il_208, il_209, il_210, il_211, il_212, il_213, il_214, il_215, il_216, il_217, il_218, il_219, il_220, il_221, il_222, il_223, il_224, il_225, il_226, il_227, il_228, il_229, il_230, il_231, il_232, il_233, il_234, il_235, il_236, il_237, il_238, il_239, il_240, il_241, il_242, il_243, il_244, il_245, il_246, il_247, il_248, il_249, il_250, il_251, il_252, il_253, il_254, il_255, il_400, il_480, il_1023, il_2880, il_3000, il_6000, il_m1, il_m8]
end RULES
