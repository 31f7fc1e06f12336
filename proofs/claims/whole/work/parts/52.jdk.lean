/-! ===== the library's small methods ===== -/
theorem fm_tab : ∀ a : Fin 128, f_J9_floorMod_7cf53 (ii a.1) 6 = some (ii ((a.1 % 6 : Nat) : Int)) ∧ f_J9_floorMod_7cf53 (ii a.1) 7 = some (ii ((a.1 % 7 : Nat) : Int)) ∧ f_J9_floorMod_7cf53 (ii a.1) 10 = some (ii ((a.1 % 10 : Nat) : Int)) := by decide +kernel
theorem fm_6 {z : Int} (h0 : 0 ≤ z) (h1 : z < 128) : f_J9_floorMod_7cf53 (ii z) 6 = some (ii (z % 6)) := by
  have h := (fm_tab ⟨z.toNat, by omega⟩).1
  dsimp only at h
  rw [Int.natCast_emod, Int.toNat_of_nonneg h0] at h
  exact h
theorem fm_7 {z : Int} (h0 : 0 ≤ z) (h1 : z < 128) : f_J9_floorMod_7cf53 (ii z) 7 = some (ii (z % 7)) := by
  have h := (fm_tab ⟨z.toNat, by omega⟩).2.1
  dsimp only at h
  rw [Int.natCast_emod, Int.toNat_of_nonneg h0] at h
  exact h
theorem fm_10 {z : Int} (h0 : 0 ≤ z) (h1 : z < 128) : f_J9_floorMod_7cf53 (ii z) 10 = some (ii (z % 10)) := by
  have h := (fm_tab ⟨z.toNat, by omega⟩).2.2
  dsimp only at h
  rw [Int.natCast_emod, Int.toNat_of_nonneg h0] at h
  exact h
def sgn (a b : Int) : Int := if a < b then -1 else if a = b then 0 else 1
theorem cmp_ii {a b : Int} (h1 : -2147483648 ≤ a) (h2 : a ≤ 2147483647) (h3 : -2147483648 ≤ b) (h4 : b ≤ 2147483647) : f_J6_compare_7cf53 (ii a) (ii b) = some (ii (sgn a b)) := by
  unfold f_J6_compare_7cf53 sgn
  simp (disch := omega) only [ii_add, ii_sub, ii_mul, ii_neg, ii_div, ii_lt, ii_le, ii_eq, ob_some, il_0, il_1, il_2, il_3, il_4, il_5, il_6, il_7, il_8, il_9, il_10, il_11, il_12, il_13, il_14, il_15, il_16, il_17, il_18, il_19, il_20, il_21, il_22, il_23, il_24, il_25, il_26, il_27, il_28, il_29, il_30, il_31, il_32, il_33, il_34, il_35, il_36, il_37, il_38, il_39, il_40, il_41, il_42, il_43, il_44, il_45, il_46, il_47, il_48, il_49, il_50, il_51, il_52, il_53, il_54, il_55, il_56, il_57, il_58, il_59, il_60, il_61, il_62, il_63, il_64, il_65, il_66, il_67, il_68, il_69, il_70, il_71, il_72, il_73, il_74, il_75, il_76, il_77, il_78, il_79, il_80, il_81, il_82, il_83, il_84, il_85, il_86, il_87, il_88, il_89, il_90, il_91, il_92, il_93, il_94, il_95, il_96, il_97, il_98, il_99, il_100, il_101, il_102, il_103, il_104, il_105, il_106, il_107, il_108, il_109, il_110, il_111, il_112, il_113, il_114, il_115, il_116, il_117, il_118, il_119, il_120, il_121, il_122, il_123, il_124, il_125, il_126, il_127, il_128, il_129, il_130, il_131, il_132, il_133, il_134, il_135, il_136, il_137, il_138, il_139, il_140, il_141, il_142, il_143, il_144, il_145, il_146, il_147, il_148, il_149, il_150, il_151, il_152, il_153, il_154, il_155, il_156, il_157, il_158, il_159, il_160, il_161, il_162, il_163, il_164, il_165, il_166, il_167, il_168, il_169, il_170, il_171, il_172, il_173, il_174, il_175, il_176, il_177, il_178, il_179, il_180, il_181, il_182, il_183, il_184, il_185, il_186, il_187, il_188, il_189, il_190, il_191, il_192, il_193, il_194, il_195, il_196, il_197, il_198, il_199, il_200, il_201, il_202, il_203, il_204, il_205, il_206, il_207, il_208, il_209, il_210, il_211, il_212, il_213, il_214, il_215, il_216, il_217, il_218, il_219, il_220, il_221, il_222, il_223, il_224, il_225, il_226, il_227, il_228, il_229, il_230, il_231, il_232, il_233, il_234, il_235, il_236, il_237, il_238, il_239, il_240, il_241, il_242, il_243, il_244, il_245, il_246, il_247, il_248, il_249, il_250, il_251, il_252, il_253, il_254, il_255, il_400, il_480, il_1023, il_2880, il_3000, il_6000, il_m1, il_m8]
  by_cases c : b ≤ a
  · rw [if_pos c, if_neg (show ¬ a < b by omega)]
    by_cases d : a = b
    · rw [if_pos d, if_pos d]
    · rw [if_neg d, if_neg d]
  · rw [if_neg c, if_pos (show a < b by omega)]
/-- the bytes of the text with this number -/
def tx (i : Nat) : List Int := match strTab[i]? with
  | some q => q.2.2.2.map Int32.toInt
  | none => []
theorem len_tab : ∀ i : Fin 55, f_J0_length_8abf5 (SBn + i.1) = some (ii (tx i.1).length) ∧ chkS (SBn + i.1) = some () ∧ (tx i.1).length ≤ 110 := by decide +kernel
theorem chr_tab : ∀ i : Fin 55, ∀ k, k < (tx i.1).length → f_J0_charAt_5068e (SBn + i.1) (ii k) = some (ii (lg (tx i.1) k)) := by decide +kernel
theorem tx_tab : ∀ i : Fin 55, ∀ x ∈ tx i.1, 32 ≤ x ∧ x ≤ 126 := by decide +kernel
theorem str_len {i : Nat} (h : i < 55) : f_J0_length_8abf5 (SBn + i) = some (ii (tx i).length) := (len_tab ⟨i, h⟩).1
theorem str_chk {i : Nat} (h : i < 55) : chkS (SBn + i) = some () := (len_tab ⟨i, h⟩).2.1
theorem str_le {i : Nat} (h : i < 55) : (tx i).length ≤ 110 := (len_tab ⟨i, h⟩).2.2
theorem str_chr {i : Nat} (h : i < 55) {z : Int} (h0 : 0 ≤ z) (h1 : z < (tx i).length) : f_J0_charAt_5068e (SBn + i) (ii z) = some (ii (lg (tx i) z.toNat)) := by
  have := chr_tab ⟨i, h⟩ z.toNat (by show z.toNat < (tx i).length; omega)
  rw [Int.toNat_of_nonneg h0] at this
  exact this
/-- where a sign stands among the letters of the notes; -1: nowhere -/
def letNo (c : Int) : Int := if c = 99 then 0 else if c = 100 then 1 else if c = 101 then 2 else if c = 102 then 3 else if c = 103 then 4 else if c = 97 then 5 else if c = 98 then 6 else -1
theorem let_tab : ∀ c : Fin 128, f_J0_indexOf_0f7a4 (SBn + 2) (ii c.1) = some (ii (letNo c.1)) ∧ f_J0_indexOf_0f7a4 (SBn + 53) (ii c.1) = some (ii (letNo c.1)) := by decide +kernel
