/-! ===== the judge looks at a note ===== -/
theorem SpB.i {x : Spn} (h : SpB x) : (0 ≤ x.1 ∧ x.1 ≤ 1) ∧ (0 ≤ x.2.1 ∧ x.2.1 ≤ 40) ∧ (0 ≤ x.2.2.1 ∧ x.2.2.1 ≤ 80) ∧ (-1 ≤ x.2.2.2.1 ∧ x.2.2.2.1 ≤ 1) ∧ (0 ≤ x.2.2.2.2 ∧ x.2.2.2.2 ≤ 8) := by
  obtain ⟨h1, h2, h3, h4, h5⟩ := h
  exact ⟨by omega, h2, h3, by omega, by omega⟩
theorem SOK.mdi {s : Sh} (k : SOK s) (z : Int) : -1 ≤ lat s.md z ∧ lat s.md z ≤ 146 := by have := k.mdb z; omega
theorem SOK.bli {s : Sh} (k : SOK s) : 0 ≤ s.bl ∧ s.bl ≤ 1 := by have := k.blb; omega
def arrS (s : Sh) (p : Int) : Spn := spn (lat s.md (p - 1)) (lat s.md p)
def appS (s : Sh) (p : Int) : Spn := spn (lat s.md (p - 2)) (lat s.md (p - 1))
def depS (s : Sh) (p : Int) : Spn := spn (lat s.md p) (lat s.md (p + 1))
def cmvS (s : Sh) (p : Int) : Spn := spn (lat s.gv (p / per s.sp - 1)) (lat s.gv (p / per s.sp))
def pitN (c : Int) : Int := if c = -1 then 0 else pit c
def spL (s : Sh) (p : Int) (i : Nat) : Spn := match i with
  | 0 => har s p
  | 1 => har s (p + 1)
  | 2 => har s ((p / per s.sp - 1) * per s.sp)
  | 3 => har s (p / per s.sp * per s.sp - 1)
  | 4 => arrS s p
  | 5 => appS s p
  | 6 => depS s p
  | _ => cmvS s p
theorem pitN_b {s : Sh} (k : SOK s) (p : Int) : 0 ≤ pitN (lat s.md p) ∧ pitN (lat s.md p) ≤ 90 := by
  unfold pitN
  by_cases c : lat s.md p = -1
  · rw [if_pos c]; omega
  · have h := k.mdb p
    rw [if_neg c]; have := pit_bd (c := lat s.md p) (by omega); omega
/-- the judge has looked at p; what the survey left: cp, cn -/
def Lkd (hs : AH) (a : Nat) (s : Sh) (p cp cn : Int) : Prop := ∃ x, JuA hs a s x (spL s p) ∧ x 9 = p ∧ x 10 = p / per s.sp ∧ x 11 = p % per s.sp ∧ x 12 = lat s.md p ∧ x 13 = pitN (lat s.md p) ∧ x 14 = tie s p ∧ x 15 = cp ∧ x 16 = cn
theorem JuA.cong {hs : AH} {a : Nat} {s : Sh} {x : Nat → Int} {sp sp' : Nat → Spn} (h : JuA hs a s x sp) (he : ∀ i, i < 8 → sp i = sp' i) : JuA hs a s x sp' := ⟨h.1, h.2.1, fun i hi => he i hi ▸ h.2.2 i hi⟩
theorem bar_bd {s : Sh} {p : Int} (h0 : 0 ≤ p) (h1 : p ≤ 60) : 0 ≤ p / per s.sp ∧ p / per s.sp ≤ 60 ∧ -4 ≤ (p / per s.sp - 1) * per s.sp ∧ (p / per s.sp - 1) * per s.sp ≤ 60 ∧ 0 ≤ p / per s.sp * per s.sp ∧ p / per s.sp * per s.sp ≤ 60 ∧ 0 ≤ p % per s.sp ∧ p % per s.sp ≤ 3 := by
  rcases per_3 s.sp with e | e | e <;> rw [e] <;> omega
section LOOK
variable {a : Nat} {s : Sh}
theorem X1_look_b (k : SOK s) {hs : AH} {x : Nat → Int} {sp : Nat → Spn} {p t : Int} (h : JuA hs a s x sp) (h0 : 0 ≤ p) (h1 : p ≤ 60) (x10 : x 10 = p / per s.sp) (x12 : x 12 = lat s.md p) :
    ∃ hs' x', f_X1_look_b64 a (ii p) a (ii t) hs = some hs' ∧ JuA hs' a s x' (spL s p) ∧ Out hs hs' a 16 ∧ (∀ j, j ≠ 13 → j ≠ 14 → x' j = x j) ∧ x' 13 = t ∧ x' 14 = tie s p := by
  obtain ⟨b1, b2, b3, b4, b5, b6, b7, b8⟩ := bar_bd (s := s) h0 h1
  have tb := tie_b s p
  unfold f_X1_look_b64
  obtain ⟨g1, e1, j1, o1⟩ := h.put (k := 13) (by omega) t
  rw [e1, ob_some, j1.sh, ob_some, j1.2.1.chk, ob_some, X6_tie j1.2.1 k (by omega) (by omega), ob_some]
  obtain ⟨g2, e2, j2, o2⟩ := j1.putZ (v := tie s p) (by omega)
  have y10 : uz (uz x 13 t) 14 (tie s p) 10 = p / per s.sp := x10
  have y12 : uz (uz x 13 t) 14 (tie s p) 12 = lat s.md p := x12
  have y13 : uz (uz x 13 t) 14 (tie s p) 13 = t := rfl
  have y14 : uz (uz x 13 t) 14 (tie s p) 14 = tie s p := rfl
  have yj : ∀ j, j ≠ 13 → j ≠ 14 → uz (uz x 13 t) 14 (tie s p) j = x j := fun j h13 h14 => by rw [uz_ne h14, uz_ne h13]
  generalize uz (uz x 13 t) 14 (tie s p) = y at j2 y10 y12 y13 y14 yj
  rw [e2, ob_some, j2.r1, ob_some, j2.chk, ob_some]
  obtain ⟨g3, e3, j3, o3⟩ := X1_measureHarmony j2 k (i := 0) (z := p) (by decide) (by omega) (by omega)
  rw [show f_X1_measureHarmony a (a + 8) (ii p) g2 = some g3 from e3, ob_some, j3.r2, ob_some, j3.chk, ob_some, il_1, ii_add]
  obtain ⟨g4, e4, j4, o4⟩ := X1_measureHarmony j3 k (i := 1) (z := p + 1) (by decide) (by omega) (by omega)
  rw [show f_X1_measureHarmony a (a + 9) (ii (p + 1)) g3 = some g4 from e4, ob_some, j4.r3, ob_some, j4.sh, ob_some, j4.i10, y10, ob_some, j4.2.1.chk, ob_some, ii_sub, X6_firstPlaceIn j4.2.1 k (by omega) (by omega), ob_some, j4.chk, ob_some]
  obtain ⟨g5, e5, j5, o5⟩ := X1_measureHarmony j4 k (i := 2) (z := (p / per s.sp - 1) * per s.sp) (by decide) (by omega) (by omega)
  rw [show f_X1_measureHarmony a (a + 10) _ g4 = some g5 from e5, ob_some, j5.r4, ob_some, j5.sh, ob_some, j5.i10, y10, ob_some, j5.2.1.chk, ob_some, X6_firstPlaceIn j5.2.1 k (by omega) (by omega), ob_some, j5.chk, ob_some, ii_sub]
  obtain ⟨g6, e6, j6, o6⟩ := X1_measureHarmony j5 k (i := 3) (z := p / per s.sp * per s.sp - 1) (by decide) (by omega) (by omega)
  rw [show f_X1_measureHarmony a (a + 11) _ g5 = some g6 from e6, ob_some, j6.r5, ob_some, j6.sh, ob_some, j6.2.1.m, ob_some, j6.2.1.2.2.1.chk, ob_some, ii_sub, X2_at j6.2.1.2.2.1 (by omega) (by omega), ob_some, j6.i12, y12, ob_some, (show chk g6 (a + 12) 7 = some () from (j6.2.2 4 (by decide)).chk), ob_some]
  obtain ⟨g7, e7, j7, o7⟩ := j6.meas (i := 4) (by decide) (k.mdb (p - 1)) (k.mdb p)
  have c7 : chk g7 (a + 13) 7 = some () := (j7.2.2 5 (by decide)).chk
  rw [show f_X7_measure (a + 12) _ _ g6 = some g7 from e7, ob_some]
  simp (disch := omega) only [j7.r6, j7.sh, j7.2.1.m, j7.2.1.2.2.1.chk, X2_at j7.2.1.2.2.1, c7, ii_add, ii_sub, ii_mul, ii_neg, ii_div, ii_lt, ii_le, ii_eq, ob_some, il_0, il_1, il_2, il_3, il_4, il_5, il_6, il_7, il_8, il_9, il_10, il_11, il_12, il_13, il_14, il_15, il_16, il_17, il_18, il_19, il_20, il_21, il_22, il_23, il_24, il_25, il_26, il_27, il_28, il_29, il_30, il_31, il_32, il_33, il_34, il_35, il_36, il_37, il_38, il_39, il_40, il_41, il_42, il_43, il_44, il_45, il_46, il_47, il_48, il_49, il_50, il_51, il_52, il_53, il_54, il_55, il_56, il_57, il_58, il_59, il_60, il_61, il_62, il_63, il_64, il_65, il_66, il_67, il_68, il_69, il_70, il_71, il_72, il_73, il_74, il_75, il_76, il_77, il_78, il_79, il_80, il_81, il_82, il_83, il_84, il_85, il_86, il_87, il_88, il_89, il_90, il_91, il_92, il_93, il_94, il_95, il_96, il_97, il_98, il_99, il_100, il_101, il_102, il_103, il_104, il_105, il_106, il_107, il_108, il_109, il_110, il_111, il_112, il_113, il_114, il_115, il_116, il_117, il_118, il_119, il_120, il_121, il_122, il_123, il_124, il_125, il_126, il_127, il_128, il_129, il_130, il_131, il_132, il_133, il_134, il_135, il_136, il_137, il_138, il_139, il_140, il_141, il_142, il_143, il_144, il_145, il_146, il_147, il_148, il_149, il_150, il_151, il_152, il_153, il_154, il_155, il_156, il_157, il_158, il_159, il_160, il_161, il_162, il_163, il_164, il_165, il_166, il_167, il_168, il_169, il_170, il_171, il_172, il_173, il_174, il_175, il_176, il_177, il_178, il_179, il_180, il_181, il_182, il_183, il_184, il_185, il_186, il_187, il_188, il_189, il_190, il_191, il_192, il_193, il_194, il_195, il_196, il_197, il_198, il_199, il_200, il_201, il_202, il_203, il_204, il_205, il_206, il_207, il_208, il_209, il_210, il_211, il_212, il_213, il_214, il_215, il_216, il_217, il_218, il_219, il_220, il_221, il_222, il_223, il_224, il_225, il_226, il_227, il_228, il_229, il_230, il_231, il_232, il_233, il_234, il_235, il_236, il_237, il_238, il_239, il_240, il_241, il_242, il_243, il_244, il_245, il_246, il_247, il_248, il_249, il_250, il_251, il_252, il_253, il_254, il_255, il_400, il_480, il_1023, il_2880, il_3000, il_6000, il_m1, il_m8]
  obtain ⟨g8, e8, j8, o8⟩ := j7.meas (i := 5) (by decide) (k.mdb (p - 2)) (k.mdb (p - 1))
  have c8 : chk g8 (a + 14) 7 = some () := (j8.2.2 6 (by decide)).chk
  rw [show f_X7_measure (a + 13) _ _ g7 = some g8 from e8, ob_some]
  simp (disch := omega) only [j8.r7, j8.i12, y12, j8.sh, j8.2.1.m, j8.2.1.2.2.1.chk, X2_at j8.2.1.2.2.1, c8, ii_add, ii_sub, ii_mul, ii_neg, ii_div, ii_lt, ii_le, ii_eq, ob_some, il_0, il_1, il_2, il_3, il_4, il_5, il_6, il_7, il_8, il_9, il_10, il_11, il_12, il_13, il_14, il_15, il_16, il_17, il_18, il_19, il_20, il_21, il_22, il_23, il_24, il_25, il_26, il_27, il_28, il_29, il_30, il_31, il_32, il_33, il_34, il_35, il_36, il_37, il_38, il_39, il_40, il_41, il_42, il_43, il_44, il_45, il_46, il_47, il_48, il_49, il_50, il_51, il_52, il_53, il_54, il_55, il_56, il_57, il_58, il_59, il_60, il_61, il_62, il_63, il_64, il_65, il_66, il_67, il_68, il_69, il_70, il_71, il_72, il_73, il_74, il_75, il_76, il_77, il_78, il_79, il_80, il_81, il_82, il_83, il_84, il_85, il_86, il_87, il_88, il_89, il_90, il_91, il_92, il_93, il_94, il_95, il_96, il_97, il_98, il_99, il_100, il_101, il_102, il_103, il_104, il_105, il_106, il_107, il_108, il_109, il_110, il_111, il_112, il_113, il_114, il_115, il_116, il_117, il_118, il_119, il_120, il_121, il_122, il_123, il_124, il_125, il_126, il_127, il_128, il_129, il_130, il_131, il_132, il_133, il_134, il_135, il_136, il_137, il_138, il_139, il_140, il_141, il_142, il_143, il_144, il_145, il_146, il_147, il_148, il_149, il_150, il_151, il_152, il_153, il_154, il_155, il_156, il_157, il_158, il_159, il_160, il_161, il_162, il_163, il_164, il_165, il_166, il_167, il_168, il_169, il_170, il_171, il_172, il_173, il_174, il_175, il_176, il_177, il_178, il_179, il_180, il_181, il_182, il_183, il_184, il_185, il_186, il_187, il_188, il_189, il_190, il_191, il_192, il_193, il_194, il_195, il_196, il_197, il_198, il_199, il_200, il_201, il_202, il_203, il_204, il_205, il_206, il_207, il_208, il_209, il_210, il_211, il_212, il_213, il_214, il_215, il_216, il_217, il_218, il_219, il_220, il_221, il_222, il_223, il_224, il_225, il_226, il_227, il_228, il_229, il_230, il_231, il_232, il_233, il_234, il_235, il_236, il_237, il_238, il_239, il_240, il_241, il_242, il_243, il_244, il_245, il_246, il_247, il_248, il_249, il_250, il_251, il_252, il_253, il_254, il_255, il_400, il_480, il_1023, il_2880, il_3000, il_6000, il_m1, il_m8]
  obtain ⟨g9, e9, j9, o9⟩ := j8.meas (i := 6) (by decide) (k.mdb p) (k.mdb (p + 1))
  have c9 : chk g9 (a + 15) 7 = some () := (j9.2.2 7 (by decide)).chk
  rw [show f_X7_measure (a + 14) _ _ g8 = some g9 from e9, ob_some]
  simp (disch := omega) only [j9.r8, j9.sh, j9.2.1.g, j9.i10, y10, j9.2.1.2.1.chk, X2_at j9.2.1.2.1, c9, ii_add, ii_sub, ii_mul, ii_neg, ii_div, ii_lt, ii_le, ii_eq, ob_some, il_0, il_1, il_2, il_3, il_4, il_5, il_6, il_7, il_8, il_9, il_10, il_11, il_12, il_13, il_14, il_15, il_16, il_17, il_18, il_19, il_20, il_21, il_22, il_23, il_24, il_25, il_26, il_27, il_28, il_29, il_30, il_31, il_32, il_33, il_34, il_35, il_36, il_37, il_38, il_39, il_40, il_41, il_42, il_43, il_44, il_45, il_46, il_47, il_48, il_49, il_50, il_51, il_52, il_53, il_54, il_55, il_56, il_57, il_58, il_59, il_60, il_61, il_62, il_63, il_64, il_65, il_66, il_67, il_68, il_69, il_70, il_71, il_72, il_73, il_74, il_75, il_76, il_77, il_78, il_79, il_80, il_81, il_82, il_83, il_84, il_85, il_86, il_87, il_88, il_89, il_90, il_91, il_92, il_93, il_94, il_95, il_96, il_97, il_98, il_99, il_100, il_101, il_102, il_103, il_104, il_105, il_106, il_107, il_108, il_109, il_110, il_111, il_112, il_113, il_114, il_115, il_116, il_117, il_118, il_119, il_120, il_121, il_122, il_123, il_124, il_125, il_126, il_127, il_128, il_129, il_130, il_131, il_132, il_133, il_134, il_135, il_136, il_137, il_138, il_139, il_140, il_141, il_142, il_143, il_144, il_145, il_146, il_147, il_148, il_149, il_150, il_151, il_152, il_153, il_154, il_155, il_156, il_157, il_158, il_159, il_160, il_161, il_162, il_163, il_164, il_165, il_166, il_167, il_168, il_169, il_170, il_171, il_172, il_173, il_174, il_175, il_176, il_177, il_178, il_179, il_180, il_181, il_182, il_183, il_184, il_185, il_186, il_187, il_188, il_189, il_190, il_191, il_192, il_193, il_194, il_195, il_196, il_197, il_198, il_199, il_200, il_201, il_202, il_203, il_204, il_205, il_206, il_207, il_208, il_209, il_210, il_211, il_212, il_213, il_214, il_215, il_216, il_217, il_218, il_219, il_220, il_221, il_222, il_223, il_224, il_225, il_226, il_227, il_228, il_229, il_230, il_231, il_232, il_233, il_234, il_235, il_236, il_237, il_238, il_239, il_240, il_241, il_242, il_243, il_244, il_245, il_246, il_247, il_248, il_249, il_250, il_251, il_252, il_253, il_254, il_255, il_400, il_480, il_1023, il_2880, il_3000, il_6000, il_m1, il_m8]
  obtain ⟨g10, e10, j10, o10⟩ := j9.meas (i := 7) (by decide) (k.gvb (p / per s.sp - 1)) (k.gvb (p / per s.sp))
  rw [show f_X7_measure (a + 15) _ _ g9 = some g10 from e10, ob_some]
  refine ⟨g10, y, rfl, j10.cong (fun i hi => ?_), o1.trans (o2.trans (o3.trans (o4.trans (o5.trans (o6.trans (o7.trans (o8.trans (o9.trans o10)))))))), yj, y13, y14⟩
  match i, hi with
  | 0, _ => rfl
  | 1, _ => rfl
  | 2, _ => rfl
  | 3, _ => rfl
  | 4, _ => rfl
  | 5, _ => rfl
  | 6, _ => rfl
  | 7, _ => rfl
theorem X1_look (k : SOK s) {hs : AH} {x : Nat → Int} {sp : Nat → Spn} {p : Int} (h : JuA hs a s x sp) (h0 : 0 ≤ p) (h1 : p ≤ 60) : ∃ hs', f_X1_look a (ii p) hs = some hs' ∧ Lkd hs' a s p (x 15) (x 16) ∧ Out hs hs' a 16 := by
  obtain ⟨b1, b2, b3, b4, b5, b6, b7, b8⟩ := bar_bd (s := s) h0 h1
  have mb := k.mdb p
  unfold f_X1_look
  obtain ⟨g1, e1, j1, o1⟩ := h.put (k := 9) (by omega) p
  rw [e1, ob_some, j1.sh, ob_some, j1.2.1.chk, ob_some, X6_barOf j1.2.1 k (by omega) (by omega), ob_some]
  obtain ⟨g2, e2, j2, o2⟩ := j1.put (k := 10) (by omega) (p / per s.sp)
  rw [e2, ob_some, j2.sh, ob_some, j2.2.1.chk, ob_some, X6_beatOf j2.2.1 k (by omega) (by omega), ob_some]
  obtain ⟨g3, e3, j3, o3⟩ := j2.put (k := 11) (by omega) (p % per s.sp)
  rw [e3, ob_some, j3.sh, ob_some, j3.2.1.m, ob_some, j3.2.1.2.2.1.chk, ob_some, X2_at j3.2.1.2.2.1 (by omega) (by omega), ob_some]
  obtain ⟨g4, e4, j4, o4⟩ := j3.put (k := 12) (by omega) (lat s.md p)
  have i12 : gI g4 a 1 12 = some (ii (lat s.md p)) := j4.i12
  rw [e4, ob_some, i12, ob_some]
  have fin : ∀ t, t = pitN (lat s.md p) → ∃ hs', f_X1_look_b64 a (ii p) a (ii t) g4 = some hs' ∧ Lkd hs' a s p (x 15) (x 16) ∧ Out hs hs' a 16 := by
    intro t ht
    obtain ⟨g5, y, e5, j5, o5, yj, y13, y14⟩ := X1_look_b k (t := t) j4 h0 h1 rfl rfl
    exact ⟨g5, e5, ⟨y, j5, yj 9 (by decide) (by decide), yj 10 (by decide) (by decide), yj 11 (by decide) (by decide), yj 12 (by decide) (by decide), y13.trans ht, y14, yj 15 (by decide) (by decide), yj 16 (by decide) (by decide)⟩, o1.trans (o2.trans (o3.trans (o4.trans o5)))⟩
  simp (disch := omega) only [ii_add, ii_sub, ii_mul, ii_neg, ii_div, ii_lt, ii_le, ii_eq, ob_some, il_0, il_1, il_2, il_3, il_4, il_5, il_6, il_7, il_8, il_9, il_10, il_11, il_12, il_13, il_14, il_15, il_16, il_17, il_18, il_19, il_20, il_21, il_22, il_23, il_24, il_25, il_26, il_27, il_28, il_29, il_30, il_31, il_32, il_33, il_34, il_35, il_36, il_37, il_38, il_39, il_40, il_41, il_42, il_43, il_44, il_45, il_46, il_47, il_48, il_49, il_50, il_51, il_52, il_53, il_54, il_55, il_56, il_57, il_58, il_59, il_60, il_61, il_62, il_63, il_64, il_65, il_66, il_67, il_68, il_69, il_70, il_71, il_72, il_73, il_74, il_75, il_76, il_77, il_78, il_79, il_80, il_81, il_82, il_83, il_84, il_85, il_86, il_87, il_88, il_89, il_90, il_91, il_92, il_93, il_94, il_95, il_96, il_97, il_98, il_99, il_100, il_101, il_102, il_103, il_104, il_105, il_106, il_107, il_108, il_109, il_110, il_111, il_112, il_113, il_114, il_115, il_116, il_117, il_118, il_119, il_120, il_121, il_122, il_123, il_124, il_125, il_126, il_127, il_128, il_129, il_130, il_131, il_132, il_133, il_134, il_135, il_136, il_137, il_138, il_139, il_140, il_141, il_142, il_143, il_144, il_145, il_146, il_147, il_148, il_149, il_150, il_151, il_152, il_153, il_154, il_155, il_156, il_157, il_158, il_159, il_160, il_161, il_162, il_163, il_164, il_165, il_166, il_167, il_168, il_169, il_170, il_171, il_172, il_173, il_174, il_175, il_176, il_177, il_178, il_179, il_180, il_181, il_182, il_183, il_184, il_185, il_186, il_187, il_188, il_189, il_190, il_191, il_192, il_193, il_194, il_195, il_196, il_197, il_198, il_199, il_200, il_201, il_202, il_203, il_204, il_205, il_206, il_207, il_208, il_209, il_210, il_211, il_212, il_213, il_214, il_215, il_216, il_217, il_218, il_219, il_220, il_221, il_222, il_223, il_224, il_225, il_226, il_227, il_228, il_229, il_230, il_231, il_232, il_233, il_234, il_235, il_236, il_237, il_238, il_239, il_240, il_241, il_242, il_243, il_244, il_245, il_246, il_247, il_248, il_249, il_250, il_251, il_252, il_253, il_254, il_255, il_400, il_480, il_1023, il_2880, il_3000, il_6000, il_m1, il_m8]
  by_cases c : lat s.md p = -1
  · rw [if_pos c]
    exact fin 0 (by unfold pitN; rw [if_pos c])
  · rw [if_neg c, X8_pitchOf (by omega) (by omega), ob_some]
    exact fin _ (by unfold pitN; rw [if_neg c])
end LOOK
