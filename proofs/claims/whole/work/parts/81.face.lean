/-! ===== the face: suggested, noteOf ===== -/
def opSuggested (g : List Int) (b : Int) : Int ⊕ Nat := if g.length = 0 then .inr 2 else if 0 ≤ b ∧ b < g.length then .inl (lat g b) else .inr 3
def opNoteOf (c w : Int) : Int ⊕ Nat := if 42 ≤ c ∧ c ≤ 146 then (if w = 0 then .inl (stp c) else if w = 1 then .inl (c % 3 - 1) else if w = 2 then .inl (pit c) else if w = 3 then .inl (stp c % 7) else if w = 4 then .inl (stp c / 7) else .inr 1) else .inr 3
section FACE9
variable {hs : AH} {t : St}
theorem X8_suggested (h : CoA hs t) {b : Int} (b1 : -2147483648 ≤ b) (b2 : b ≤ 2147483647) : f_X8_suggested 0 (ii b) hs = some (cvR (opSuggested t.sug b), hs) := by
  have hg : LnA hs 85 t.sug := h.2.2.2.2.2.1
  have hl := hg.le
  unfold f_X8_suggested opSuggested
  rw [h.chk, ob_some, X8_requireSuggestion h hl]
  by_cases d : t.sug.length = 0
  · rw [if_pos d, if_pos d]; rfl
  · rw [if_neg d, if_neg d, xb_l]
    by_cases e : b < 0
    · rw [if_pos (by rw [il_0, ii_lt (by omega) (by omega) (by omega) (by omega)]; exact e), if_neg (show ¬ (0 ≤ b ∧ b < t.sug.length) by omega)]; rfl
    · rw [if_neg (by rw [il_0, ii_lt (by omega) (by omega) (by omega) (by omega)]; exact e), h.r5, ob_some, hg.chk, ob_some, X2_size hg, ob_some]
      by_cases f : b < t.sug.length
      · rw [if_pos (by rw [ii_lt (by omega) (by omega) (by omega) (by omega)]; exact f), if_pos (show (0 ≤ b ∧ b < t.sug.length) by omega), ob_some, hg.chk, ob_some, X2_at hg b1 b2, ob_some]
        rfl
      · rw [if_neg (by rw [ii_lt (by omega) (by omega) (by omega) (by omega)]; exact f), if_neg (show ¬ (0 ≤ b ∧ b < t.sug.length) by omega)]; rfl
theorem X8_noteOf {c w : Int} (c1 : -2147483648 ≤ c) (c2 : c ≤ 2147483647) (w1 : -2147483648 ≤ w) (w2 : w ≤ 2147483647) : f_X8_noteOf 0 (ii c) (ii w) hs = some (cvR (opNoteOf c w), hs) := by
  unfold f_X8_noteOf f_X8_isCode opNoteOf
  by_cases d : c < 42
  · rw [if_pos (by rw [il_42, ii_lt (by omega) (by omega) (by omega) (by omega)]; exact d), ob_some, if_pos rfl, if_neg (show ¬ (42 ≤ c ∧ c ≤ 146) by omega)]; rfl
  · rw [if_neg (by rw [il_42, ii_lt (by omega) (by omega) (by omega) (by omega)]; exact d)]
    by_cases e : 146 < c
    · rw [if_pos (by rw [il_146, ii_lt (by omega) (by omega) (by omega) (by omega)]; exact e), ob_some, if_pos rfl, if_neg (show ¬ (42 ≤ c ∧ c ≤ 146) by omega)]; rfl
    · have sb := stp_bd (c := c) (by omega)
      have pb := pit_bd (c := c) (by omega)
      rw [if_neg (by rw [il_146, ii_lt (by omega) (by omega) (by omega) (by omega)]; exact e), ob_some, if_neg (by decide), if_pos (show (42 ≤ c ∧ c ≤ 146) by omega), X8_stepOf (by omega) (by omega), X8_alt (by omega) (by omega), X8_pitchOf (by omega) (by omega), ob_some, ob_some, ob_some, ob_some, ob_some, il_7, ii_mod (by omega) (by omega) (by omega) (by omega), ii_div (by omega) (by omega) (by omega) (by omega)]
      simp (disch := omega) only [ii_add, ii_sub, ii_mul, ii_neg, ii_div, ii_lt, ii_le, ii_eq, ob_some, il_0, il_1, il_2, il_3, il_4, il_5, il_6, il_7, il_8, il_9, il_10, il_11, il_12, il_13, il_14, il_15, il_16, il_17, il_18, il_19, il_20, il_21, il_22, il_23, il_24, il_25, il_26, il_27, il_28, il_29, il_30, il_31, il_32, il_33, il_34, il_35, il_36, il_37, il_38, il_39, il_40, il_41, il_42, il_43, il_44, il_45, il_46, il_47, il_48, il_49, il_50, il_51, il_52, il_53, il_54, il_55, il_56, il_57, il_58, il_59, il_60, il_61, il_62, il_63, il_64, il_65, il_66, il_67, il_68, il_69, il_70, il_71, il_72, il_73, il_74, il_75, il_76, il_77, il_78, il_79, il_80, il_81, il_82, il_83, il_84, il_85, il_86, il_87, il_88, il_89, il_90, il_91, il_92, il_93, il_94, il_95, il_96, il_97, il_98, il_99, il_100, il_101, il_102, il_103, il_104, il_105, il_106, il_107, il_108, il_109, il_110, il_111, il_112, il_113, il_114, il_115, il_116, il_117, il_118, il_119, il_120, il_121, il_122, il_123, il_124, il_125, il_126, il_127, il_128, il_129, il_130, il_131, il_132, il_133, il_134, il_135, il_136, il_137, il_138, il_139, il_140, il_141, il_142, il_143, il_144, il_145, il_146, il_147, il_148, il_149, il_150, il_151, il_152, il_153, il_154, il_155, il_156, il_157, il_158, il_159, il_160, il_161, il_162, il_163, il_164, il_165, il_166, il_167, il_168, il_169, il_170, il_171, il_172, il_173, il_174, il_175, il_176, il_177, il_178, il_179, il_180, il_181, il_182, il_183, il_184, il_185, il_186, il_187, il_188, il_189, il_190, il_191, il_192, il_193, il_194, il_195, il_196, il_197, il_198, il_199, il_200, il_201, il_202, il_203, il_204, il_205, il_206, il_207, il_208, il_209, il_210, il_211, il_212, il_213, il_214, il_215, il_216, il_217, il_218, il_219, il_220, il_221, il_222, il_223, il_224, il_225, il_226, il_227, il_228, il_229, il_230, il_231, il_232, il_233, il_234, il_235, il_236, il_237, il_238, il_239, il_240, il_241, il_242, il_243, il_244, il_245, il_246, il_247, il_248, il_249, il_250, il_251, il_252, il_253, il_254, il_255, il_400, il_480, il_1023, il_2880, il_3000, il_6000, il_m1, il_m8]
      by_cases w0 : w = 0
      · rw [if_pos w0, if_pos w0]; rfl
      · rw [if_neg w0, if_neg w0]
        by_cases w0 : w = 1
        · rw [if_pos w0, if_pos w0]; rfl
        · rw [if_neg w0, if_neg w0]
          by_cases w0 : w = 2
          · rw [if_pos w0, if_pos w0]; rfl
          · rw [if_neg w0, if_neg w0]
            by_cases w0 : w = 3
            · rw [if_pos w0, if_pos w0]; rfl
            · rw [if_neg w0, if_neg w0]
              by_cases w0 : w = 4
              · rw [if_pos w0, if_pos w0]; rfl
              · rw [if_neg w0, if_neg w0]; rfl
end FACE9
