/-! ===== the reader of lines ===== -/
def RdA (hs : AH) (a : Nat) (b ln w : List Int) (nm pl : Int) : Prop := hs[a]? = some (.inr (4, [.ref (a + 1), .ref (a + 3), .ref (a + 5), .int (ii nm), .int (ii pl)])) ∧ PgA hs (a + 1) b ∧ LnA hs (a + 3) ln ∧ ArA 0 hs (a + 5) 17 w
/-- a note read at p: its code, and the place behind it, or none and the place of the error -/
def rdNote (b : List Int) (p : Nat) : Option Int × Nat :=
  if letNo (pat b p) < 0 then (none, p)
  else if pat b (p + 1) = 35 then (if pat b (p + 2) < 50 ∨ 54 < pat b (p + 2) then (none, p + 2) else (some (3 * (7 * (pat b (p + 2) - 48) + letNo (pat b p)) + 1 + 1), p + 3))
  else if pat b (p + 1) = 98 then (if pat b (p + 2) < 50 ∨ 54 < pat b (p + 2) then (none, p + 2) else (some (3 * (7 * (pat b (p + 2) - 48) + letNo (pat b p)) + -1 + 1), p + 3))
  else (if pat b (p + 1) < 50 ∨ 54 < pat b (p + 1) then (none, p + 1) else (some (3 * (7 * (pat b (p + 1) - 48) + letNo (pat b p)) + 0 + 1), p + 2))
theorem letNo_bd (c : Int) : -1 ≤ letNo c ∧ letNo c ≤ 6 := by
  unfold letNo
  repeat (first | (split; omega) | omega)
theorem let_2 {z : Int} (h0 : 0 ≤ z) (h1 : z < 128) : f_J0_indexOf_0f7a4 (SBn + 2) (ii z) = some (ii (letNo z)) := by
  have h := (let_tab ⟨z.toNat, by omega⟩).1
  dsimp only at h
  rw [Int.toNat_of_nonneg h0] at h
  exact h
theorem let_53 {z : Int} (h0 : 0 ≤ z) (h1 : z < 128) : f_J0_indexOf_0f7a4 (SBn + 53) (ii z) = some (ii (letNo z)) := by
  have h := (let_tab ⟨z.toNat, by omega⟩).2
  dsimp only at h
  rw [Int.toNat_of_nonneg h0] at h
  exact h
theorem pat_in {b : List Int} {z : Int} (h : pat b z ≠ 0) : 0 ≤ z ∧ z < b.length := by
  unfold pat at h
  by_cases c : 0 ≤ z ∧ z < b.length
  · exact c
  · rw [if_neg c] at h; exact absurd rfl h
section READ
variable {a : Nat} {b w : List Int} {nm : Int}
theorem RdA.o {hs : AH} {ln : List Int} {pl : Int} (h : RdA hs a b ln w nm pl) : hs[a]? = some (.inr (4, [.ref (a + 1), .ref (a + 3), .ref (a + 5), .int (ii nm), .int (ii pl)])) := h.1
theorem RdA.src {hs : AH} {ln : List Int} {pl : Int} (h : RdA hs a b ln w nm pl) : gR hs a 4 0 = some (a + 1) := gR_of h.1 rfl
theorem RdA.lin {hs : AH} {ln : List Int} {pl : Int} (h : RdA hs a b ln w nm pl) : gR hs a 4 1 = some (a + 3) := gR_of h.1 rfl
theorem RdA.wei {hs : AH} {ln : List Int} {pl : Int} (h : RdA hs a b ln w nm pl) : gR hs a 4 2 = some (a + 5) := gR_of h.1 rfl
theorem RdA.nam {hs : AH} {ln : List Int} {pl : Int} (h : RdA hs a b ln w nm pl) : gI hs a 4 3 = some (ii nm) := gI_of h.1 rfl
theorem RdA.pla {hs : AH} {ln : List Int} {pl : Int} (h : RdA hs a b ln w nm pl) : gI hs a 4 4 = some (ii pl) := gI_of h.1 rfl
theorem RdA.chk {hs : AH} {ln : List Int} {pl : Int} (h : RdA hs a b ln w nm pl) : chk hs a 4 = some () := chk_of h.1
theorem RdA.out {hs hs' : AH} {ln : List Int} {pl : Int} {c m : Nat} (h : RdA hs a b ln w nm pl) (o : Out hs hs' c m) (hd : a + 6 ≤ c ∨ c + m ≤ a) : RdA hs' a b ln w nm pl := ⟨o.at h.1 (by omega), h.2.1.out o (by omega), h.2.2.1.out o (by omega), h.2.2.2.out o (by omega)⟩
theorem RdA.place {hs : AH} {ln : List Int} {pl : Int} (h : RdA hs a b ln w nm pl) (z : Int) : ∃ hs', pI hs a 4 4 (ii z) = some hs' ∧ RdA hs' a b ln w nm z ∧ Out hs hs' a 6 := by
  obtain ⟨hs1, e1, a1, o1⟩ := pI_x (k := 4) (ii z) h.1 (Nat.le_of_ble_eq_true rfl)
  exact ⟨hs1, e1, ⟨a1, h.2.1.out o1 (by omega), h.2.2.1.out o1 (by omega), h.2.2.2.out o1 (by omega)⟩, o1.mono (by omega) (by omega)⟩
theorem RdA.line {hs hs' : AH} {ln ln' : List Int} {pl : Int} (h : RdA hs a b ln w nm pl) (hl : LnA hs' (a + 3) ln') (o : Out hs hs' (a + 3) 2) : RdA hs' a b ln' w nm pl ∧ Out hs hs' a 6 :=
  ⟨⟨o.at h.1 (by omega), h.2.1.out o (by omega), hl, h.2.2.2.out o (by omega)⟩, o.mono (by omega) (by omega)⟩
/-- the octave and the note, at the place p -/
theorem X4_note_o {hs : AH} {ln : List Int} {p : Nat} {l t : Int} (k : CH b) (h : RdA hs a b ln w nm p) (hp : p ≤ 400) (hl : 0 ≤ l ∧ l ≤ 6) (ht : -1 ≤ t ∧ t ≤ 1) :
    (pat b p < 50 ∨ 54 < pat b p → f_X4_readNote_b89 a (ii l) (ii t) hs = some (ii 0, hs)) ∧ (¬ (pat b p < 50 ∨ 54 < pat b p) → ∃ hs', f_X4_readNote_b89 a (ii l) (ii t) hs = some (ii 1, hs') ∧ RdA hs' a b (ladd ln (3 * (7 * (pat b p - 48) + l) + t + 1)) w nm (p + 1 : Nat) ∧ Out hs hs' a 6) := by
  have bd := pat_bd k p
  unfold f_X4_readNote_b89
  simp (disch := omega) only [h.src, h.pla, h.2.1.chk, X3_at h.2.1 k, ii_add, ii_sub, ii_mul, ii_neg, ii_div, ii_lt, ii_le, ii_eq, ob_some, il_0, il_1, il_2, il_3, il_4, il_5, il_6, il_7, il_8, il_9, il_10, il_11, il_12, il_13, il_14, il_15, il_16, il_17, il_18, il_19, il_20, il_21, il_22, il_23, il_24, il_25, il_26, il_27, il_28, il_29, il_30, il_31, il_32, il_33, il_34, il_35, il_36, il_37, il_38, il_39, il_40, il_41, il_42, il_43, il_44, il_45, il_46, il_47, il_48, il_49, il_50, il_51, il_52, il_53, il_54, il_55, il_56, il_57, il_58, il_59, il_60, il_61, il_62, il_63, il_64, il_65, il_66, il_67, il_68, il_69, il_70, il_71, il_72, il_73, il_74, il_75, il_76, il_77, il_78, il_79, il_80, il_81, il_82, il_83, il_84, il_85, il_86, il_87, il_88, il_89, il_90, il_91, il_92, il_93, il_94, il_95, il_96, il_97, il_98, il_99, il_100, il_101, il_102, il_103, il_104, il_105, il_106, il_107, il_108, il_109, il_110, il_111, il_112, il_113, il_114, il_115, il_116, il_117, il_118, il_119, il_120, il_121, il_122, il_123, il_124, il_125, il_126, il_127, il_128, il_129, il_130, il_131, il_132, il_133, il_134, il_135, il_136, il_137, il_138, il_139, il_140, il_141, il_142, il_143, il_144, il_145, il_146, il_147, il_148, il_149, il_150, il_151, il_152, il_153, il_154, il_155, il_156, il_157, il_158, il_159, il_160, il_161, il_162, il_163, il_164, il_165, il_166, il_167, il_168, il_169, il_170, il_171, il_172, il_173, il_174, il_175, il_176, il_177, il_178, il_179, il_180, il_181, il_182, il_183, il_184, il_185, il_186, il_187, il_188, il_189, il_190, il_191, il_192, il_193, il_194, il_195, il_196, il_197, il_198, il_199, il_200, il_201, il_202, il_203, il_204, il_205, il_206, il_207, il_208, il_209, il_210, il_211, il_212, il_213, il_214, il_215, il_216, il_217, il_218, il_219, il_220, il_221, il_222, il_223, il_224, il_225, il_226, il_227, il_228, il_229, il_230, il_231, il_232, il_233, il_234, il_235, il_236, il_237, il_238, il_239, il_240, il_241, il_242, il_243, il_244, il_245, il_246, il_247, il_248, il_249, il_250, il_251, il_252, il_253, il_254, il_255, il_400, il_480, il_1023, il_2880, il_3000, il_6000, il_m1, il_m8]
  refine ⟨fun c => ?_, fun c => ?_⟩
  · by_cases d : pat b p - 48 < 2
    · rw [if_pos d]
    · rw [if_neg d, if_neg (show ¬ pat b p - 48 ≤ 6 by omega)]
  · rw [if_neg (show ¬ pat b p - 48 < 2 by omega), if_pos (show pat b p - 48 ≤ 6 by omega)]
    obtain ⟨hs1, e1, h1, o1⟩ := h.place ((p : Int) + 1)
    obtain ⟨hs2, e2, l2, o2⟩ := X2_add (v := 3 * (7 * (pat b p - 48) + l) + t + 1) h1.2.2.1
    obtain ⟨h3, o3⟩ := h1.line l2 o2
    refine ⟨hs2, ?_, h3, o1.trans o3⟩
    rw [e1, ob_some, h1.lin, ob_some, h1.2.2.1.chk, ob_some, e2, ob_some]
theorem X4_note_t {hs : AH} {ln : List Int} {p : Nat} {l t : Int} (k : CH b) (h : RdA hs a b ln w nm p) (hp : p ≤ 390) (hl : 0 ≤ l ∧ l ≤ 6) (ht : t = -1 ∨ t = 1) :
    (pat b (p + 1) < 50 ∨ 54 < pat b (p + 1) → ∃ hs', f_X4_readNote_b74 a (ii l) (ii t) hs = some (ii 0, hs') ∧ RdA hs' a b ln w nm (p + 1 : Nat) ∧ Out hs hs' a 6) ∧ (¬ (pat b (p + 1) < 50 ∨ 54 < pat b (p + 1)) → ∃ hs', f_X4_readNote_b74 a (ii l) (ii t) hs = some (ii 1, hs') ∧ RdA hs' a b (ladd ln (3 * (7 * (pat b (p + 1) - 48) + l) + t + 1)) w nm (p + 2 : Nat) ∧ Out hs hs' a 6) := by
  obtain ⟨hs1, e1, h1, o1⟩ := h.place ((p : Int) + 1)
  have q := X4_note_o (p := p + 1) (l := l) (t := t) k h1 (by omega) hl (by omega)
  unfold f_X4_readNote_b74
  simp (disch := omega) only [h.pla, ii_add, ii_sub, ii_mul, ii_neg, ii_div, ii_lt, ii_le, ii_eq, ob_some, il_0, il_1, il_2, il_3, il_4, il_5, il_6, il_7, il_8, il_9, il_10, il_11, il_12, il_13, il_14, il_15, il_16, il_17, il_18, il_19, il_20, il_21, il_22, il_23, il_24, il_25, il_26, il_27, il_28, il_29, il_30, il_31, il_32, il_33, il_34, il_35, il_36, il_37, il_38, il_39, il_40, il_41, il_42, il_43, il_44, il_45, il_46, il_47, il_48, il_49, il_50, il_51, il_52, il_53, il_54, il_55, il_56, il_57, il_58, il_59, il_60, il_61, il_62, il_63, il_64, il_65, il_66, il_67, il_68, il_69, il_70, il_71, il_72, il_73, il_74, il_75, il_76, il_77, il_78, il_79, il_80, il_81, il_82, il_83, il_84, il_85, il_86, il_87, il_88, il_89, il_90, il_91, il_92, il_93, il_94, il_95, il_96, il_97, il_98, il_99, il_100, il_101, il_102, il_103, il_104, il_105, il_106, il_107, il_108, il_109, il_110, il_111, il_112, il_113, il_114, il_115, il_116, il_117, il_118, il_119, il_120, il_121, il_122, il_123, il_124, il_125, il_126, il_127, il_128, il_129, il_130, il_131, il_132, il_133, il_134, il_135, il_136, il_137, il_138, il_139, il_140, il_141, il_142, il_143, il_144, il_145, il_146, il_147, il_148, il_149, il_150, il_151, il_152, il_153, il_154, il_155, il_156, il_157, il_158, il_159, il_160, il_161, il_162, il_163, il_164, il_165, il_166, il_167, il_168, il_169, il_170, il_171, il_172, il_173, il_174, il_175, il_176, il_177, il_178, il_179, il_180, il_181, il_182, il_183, il_184, il_185, il_186, il_187, il_188, il_189, il_190, il_191, il_192, il_193, il_194, il_195, il_196, il_197, il_198, il_199, il_200, il_201, il_202, il_203, il_204, il_205, il_206, il_207, il_208, il_209, il_210, il_211, il_212, il_213, il_214, il_215, il_216, il_217, il_218, il_219, il_220, il_221, il_222, il_223, il_224, il_225, il_226, il_227, il_228, il_229, il_230, il_231, il_232, il_233, il_234, il_235, il_236, il_237, il_238, il_239, il_240, il_241, il_242, il_243, il_244, il_245, il_246, il_247, il_248, il_249, il_250, il_251, il_252, il_253, il_254, il_255, il_400, il_480, il_1023, il_2880, il_3000, il_6000, il_m1, il_m8]
  rw [if_neg (show ¬ t = 0 by omega), e1, ob_some]
  refine ⟨fun c => ⟨hs1, q.1 c, h1, o1⟩, fun c => ?_⟩
  obtain ⟨hs2, e2, h2, o2⟩ := q.2 c
  exact ⟨hs2, e2, h2, o1.trans o2⟩
theorem X4_readNote {hs : AH} {ln : List Int} {p : Nat} (k : CH b) (h : RdA hs a b ln w nm p) (hp : p ≤ 300) :
    ∃ hs', f_X4_readNote a hs = some (match (rdNote b p).1 with | some _ => ii 1 | none => ii 0, hs') ∧ RdA hs' a b (match (rdNote b p).1 with | some c => ladd ln c | none => ln) w nm (rdNote b p).2 ∧ Out hs hs' a 6 := by
  have bd := pat_bd k p
  have bl := letNo_bd (pat b p)
  have b1 := pat_bd k ((p : Int) + 1)
  unfold f_X4_readNote rdNote
  simp (disch := omega) only [h.src, h.pla, h.2.1.chk, X3_at h.2.1 k, str_chk, let_2, ii_add, ii_sub, ii_mul, ii_neg, ii_div, ii_lt, ii_le, ii_eq, ob_some, il_0, il_1, il_2, il_3, il_4, il_5, il_6, il_7, il_8, il_9, il_10, il_11, il_12, il_13, il_14, il_15, il_16, il_17, il_18, il_19, il_20, il_21, il_22, il_23, il_24, il_25, il_26, il_27, il_28, il_29, il_30, il_31, il_32, il_33, il_34, il_35, il_36, il_37, il_38, il_39, il_40, il_41, il_42, il_43, il_44, il_45, il_46, il_47, il_48, il_49, il_50, il_51, il_52, il_53, il_54, il_55, il_56, il_57, il_58, il_59, il_60, il_61, il_62, il_63, il_64, il_65, il_66, il_67, il_68, il_69, il_70, il_71, il_72, il_73, il_74, il_75, il_76, il_77, il_78, il_79, il_80, il_81, il_82, il_83, il_84, il_85, il_86, il_87, il_88, il_89, il_90, il_91, il_92, il_93, il_94, il_95, il_96, il_97, il_98, il_99, il_100, il_101, il_102, il_103, il_104, il_105, il_106, il_107, il_108, il_109, il_110, il_111, il_112, il_113, il_114, il_115, il_116, il_117, il_118, il_119, il_120, il_121, il_122, il_123, il_124, il_125, il_126, il_127, il_128, il_129, il_130, il_131, il_132, il_133, il_134, il_135, il_136, il_137, il_138, il_139, il_140, il_141, il_142, il_143, il_144, il_145, il_146, il_147, il_148, il_149, il_150, il_151, il_152, il_153, il_154, il_155, il_156, il_157, il_158, il_159, il_160, il_161, il_162, il_163, il_164, il_165, il_166, il_167, il_168, il_169, il_170, il_171, il_172, il_173, il_174, il_175, il_176, il_177, il_178, il_179, il_180, il_181, il_182, il_183, il_184, il_185, il_186, il_187, il_188, il_189, il_190, il_191, il_192, il_193, il_194, il_195, il_196, il_197, il_198, il_199, il_200, il_201, il_202, il_203, il_204, il_205, il_206, il_207, il_208, il_209, il_210, il_211, il_212, il_213, il_214, il_215, il_216, il_217, il_218, il_219, il_220, il_221, il_222, il_223, il_224, il_225, il_226, il_227, il_228, il_229, il_230, il_231, il_232, il_233, il_234, il_235, il_236, il_237, il_238, il_239, il_240, il_241, il_242, il_243, il_244, il_245, il_246, il_247, il_248, il_249, il_250, il_251, il_252, il_253, il_254, il_255, il_400, il_480, il_1023, il_2880, il_3000, il_6000, il_m1, il_m8]
  by_cases c : letNo (pat b p) < 0
  · rw [if_neg (show ¬ 0 ≤ letNo (pat b p) by omega)]
    simp only [if_pos c]
    exact ⟨hs, rfl, h, Out.refl _ _ _⟩
  · rw [if_pos (show 0 ≤ letNo (pat b p) by omega)]
    simp only [if_neg c]
    obtain ⟨hs1, e1, h1, o1⟩ := h.place ((p : Int) + 1)
    rw [e1, ob_some, h1.src, ob_some, h1.pla, ob_some, h1.2.1.chk, ob_some, X3_at h1.2.1 k (by omega) (by omega), ob_some]
    simp (disch := omega) only [h1.src, h1.pla, h1.2.1.chk, X3_at h1.2.1 k, ii_add, ii_sub, ii_mul, ii_neg, ii_div, ii_lt, ii_le, ii_eq, ob_some, il_0, il_1, il_2, il_3, il_4, il_5, il_6, il_7, il_8, il_9, il_10, il_11, il_12, il_13, il_14, il_15, il_16, il_17, il_18, il_19, il_20, il_21, il_22, il_23, il_24, il_25, il_26, il_27, il_28, il_29, il_30, il_31, il_32, il_33, il_34, il_35, il_36, il_37, il_38, il_39, il_40, il_41, il_42, il_43, il_44, il_45, il_46, il_47, il_48, il_49, il_50, il_51, il_52, il_53, il_54, il_55, il_56, il_57, il_58, il_59, il_60, il_61, il_62, il_63, il_64, il_65, il_66, il_67, il_68, il_69, il_70, il_71, il_72, il_73, il_74, il_75, il_76, il_77, il_78, il_79, il_80, il_81, il_82, il_83, il_84, il_85, il_86, il_87, il_88, il_89, il_90, il_91, il_92, il_93, il_94, il_95, il_96, il_97, il_98, il_99, il_100, il_101, il_102, il_103, il_104, il_105, il_106, il_107, il_108, il_109, il_110, il_111, il_112, il_113, il_114, il_115, il_116, il_117, il_118, il_119, il_120, il_121, il_122, il_123, il_124, il_125, il_126, il_127, il_128, il_129, il_130, il_131, il_132, il_133, il_134, il_135, il_136, il_137, il_138, il_139, il_140, il_141, il_142, il_143, il_144, il_145, il_146, il_147, il_148, il_149, il_150, il_151, il_152, il_153, il_154, il_155, il_156, il_157, il_158, il_159, il_160, il_161, il_162, il_163, il_164, il_165, il_166, il_167, il_168, il_169, il_170, il_171, il_172, il_173, il_174, il_175, il_176, il_177, il_178, il_179, il_180, il_181, il_182, il_183, il_184, il_185, il_186, il_187, il_188, il_189, il_190, il_191, il_192, il_193, il_194, il_195, il_196, il_197, il_198, il_199, il_200, il_201, il_202, il_203, il_204, il_205, il_206, il_207, il_208, il_209, il_210, il_211, il_212, il_213, il_214, il_215, il_216, il_217, il_218, il_219, il_220, il_221, il_222, il_223, il_224, il_225, il_226, il_227, il_228, il_229, il_230, il_231, il_232, il_233, il_234, il_235, il_236, il_237, il_238, il_239, il_240, il_241, il_242, il_243, il_244, il_245, il_246, il_247, il_248, il_249, il_250, il_251, il_252, il_253, il_254, il_255, il_400, il_480, il_1023, il_2880, il_3000, il_6000, il_m1, il_m8]
    have h1' : RdA hs1 a b ln w nm (p + 1 : Nat) := h1
    by_cases c1 : pat b ((p : Int) + 1) = 35
    · simp only [if_pos c1]
      have q := X4_note_t (p := p + 1) (l := letNo (pat b p)) (t := 1) k h1' (by omega) (by omega) (Or.inr rfl)
      rw [show ((p + 1 : Nat) : Int) + 1 = (p : Int) + 2 by omega] at q
      by_cases d : pat b ((p : Int) + 2) < 50 ∨ 54 < pat b ((p : Int) + 2)
      · obtain ⟨hs2, e2, h2, o2⟩ := q.1 d
        simp only [if_pos d]
        exact ⟨hs2, e2, h2, o1.trans o2⟩
      · obtain ⟨hs2, e2, h2, o2⟩ := q.2 d
        simp only [if_neg d]
        exact ⟨hs2, e2, h2, o1.trans o2⟩
    · simp only [if_neg c1]
      by_cases c2 : pat b ((p : Int) + 1) = 98
      · simp only [if_pos c2]
        have q := X4_note_t (p := p + 1) (l := letNo (pat b p)) (t := -1) k h1' (by omega) (by omega) (Or.inl rfl)
        rw [show ((p + 1 : Nat) : Int) + 1 = (p : Int) + 2 by omega] at q
        by_cases d : pat b ((p : Int) + 2) < 50 ∨ 54 < pat b ((p : Int) + 2)
        · obtain ⟨hs2, e2, h2, o2⟩ := q.1 d
          simp only [if_pos d]
          exact ⟨hs2, e2, h2, o1.trans o2⟩
        · obtain ⟨hs2, e2, h2, o2⟩ := q.2 d
          simp only [if_neg d]
          exact ⟨hs2, e2, h2, o1.trans o2⟩
      · simp only [if_neg c2]
        have q := X4_note_o (p := p + 1) (l := letNo (pat b p)) (t := 0) k h1' (by omega) (by omega) (by omega)
        rw [show ((p + 1 : Nat) : Int) = (p : Int) + 1 by omega] at q
        unfold f_X4_readNote_b74
        rw [if_pos (show ii 0 = 0 from rfl)]
        by_cases d : pat b ((p : Int) + 1) < 50 ∨ 54 < pat b ((p : Int) + 1)
        · simp only [if_pos d]
          exact ⟨hs1, q.1 d, h1, o1⟩
        · obtain ⟨hs2, e2, h2, o2⟩ := q.2 d
          simp only [if_neg d]
          exact ⟨hs2, e2, h2, o1.trans o2⟩
/-- facts of a note read -/
theorem rdNote_some {p : Nat} {c : Int} (h : (rdNote b p).1 = some c) : 42 ≤ c ∧ c ≤ 146 ∧ p < (rdNote b p).2 ∧ (rdNote b p).2 ≤ b.length := by
  have bl := letNo_bd (pat b p)
  unfold rdNote at h ⊢
  by_cases c0 : letNo (pat b p) < 0
  · rw [if_pos c0] at h; cases h
  · rw [if_neg c0] at h ⊢
    by_cases c1 : pat b ((p : Int) + 1) = 35
    · rw [if_pos c1] at h ⊢
      by_cases d : pat b ((p : Int) + 2) < 50 ∨ 54 < pat b ((p : Int) + 2)
      · rw [if_pos d] at h; cases h
      · rw [if_neg d] at h ⊢
        cases h
        have := pat_in (b := b) (z := (p : Int) + 2) (by omega)
        dsimp only
        omega
    · rw [if_neg c1] at h ⊢
      by_cases c2 : pat b ((p : Int) + 1) = 98
      · rw [if_pos c2] at h ⊢
        by_cases d : pat b ((p : Int) + 2) < 50 ∨ 54 < pat b ((p : Int) + 2)
        · rw [if_pos d] at h; cases h
        · rw [if_neg d] at h ⊢
          cases h
          have := pat_in (b := b) (z := (p : Int) + 2) (by omega)
          dsimp only
          omega
      · rw [if_neg c2] at h ⊢
        by_cases d : pat b ((p : Int) + 1) < 50 ∨ 54 < pat b ((p : Int) + 1)
        · rw [if_pos d] at h; cases h
        · rw [if_neg d] at h ⊢
          cases h
          have := pat_in (b := b) (z := (p : Int) + 1) (by omega)
          dsimp only
          omega
end READ
