/-! ===== a sheet: the given codes, the made ones, species, below, the three settings, the weights (the first of the seventeen is none) ===== -/
abbrev Sh : Type := List Int × List Int × Int × Int × List Int × List Int
abbrev Sh.gv (s : Sh) : List Int := s.1
abbrev Sh.md (s : Sh) : List Int := s.2.1
abbrev Sh.sp (s : Sh) : Int := s.2.2.1
abbrev Sh.bl (s : Sh) : Int := s.2.2.2.1
abbrev Sh.st (s : Sh) : List Int := s.2.2.2.2.1
abbrev Sh.wt (s : Sh) : List Int := s.2.2.2.2.2
def SOK (s : Sh) : Prop := s.st.length = 3 ∧ s.wt.length = 17 ∧ lg s.wt 0 = 0 ∧ (1 ≤ s.sp ∧ s.sp ≤ 4) ∧ (s.bl = 0 ∨ s.bl = 1) ∧ (∀ x ∈ s.st, 0 ≤ x ∧ x ≤ 100) ∧ (∀ x ∈ s.wt, 0 ≤ x ∧ x ≤ 9) ∧ s.gv.length ≤ 12 ∧ (∀ x ∈ s.gv, 42 ≤ x ∧ x ≤ 146) ∧ s.md.length ≤ 45 ∧ (∀ x ∈ s.md, x = -1 ∨ (42 ≤ x ∧ x ≤ 146)) ∧ lg s.st 0 ≤ lg s.st 1
def ShA (hs : AH) (a : Nat) (s : Sh) : Prop := hs[a]? = some (.inr (6, [.ref (a + 1), .ref (a + 3), .int (ii s.sp), .int (ii s.bl), .ref (a + 5), .ref (a + 6)])) ∧ LnA hs (a + 1) s.gv ∧ LnA hs (a + 3) s.md ∧ ArA 0 hs (a + 5) 3 s.st ∧ ArA 0 hs (a + 6) 17 s.wt
theorem ShA.out {hs hs' : AH} {a b m : Nat} {s : Sh} (h : ShA hs a s) (o : Out hs hs' b m) (hd : a + 7 ≤ b ∨ b + m ≤ a) : ShA hs' a s := ⟨o.at h.1 (by omega), h.2.1.out o (by omega), h.2.2.1.out o (by omega), h.2.2.2.1.out o (by omega), h.2.2.2.2.out o (by omega)⟩
theorem ShA.chk {hs : AH} {a : Nat} {s : Sh} (h : ShA hs a s) : chk hs a 6 = some () := chk_of h.1
theorem ShA.g {hs : AH} {a : Nat} {s : Sh} (h : ShA hs a s) : gR hs a 6 0 = some (a + 1) := gR_of h.1 rfl
theorem ShA.m {hs : AH} {a : Nat} {s : Sh} (h : ShA hs a s) : gR hs a 6 1 = some (a + 3) := gR_of h.1 rfl
theorem ShA.sp {hs : AH} {a : Nat} {s : Sh} (h : ShA hs a s) : gI hs a 6 2 = some (ii s.sp) := gI_of h.1 rfl
theorem ShA.bl {hs : AH} {a : Nat} {s : Sh} (h : ShA hs a s) : gI hs a 6 3 = some (ii s.bl) := gI_of h.1 rfl
theorem ShA.st {hs : AH} {a : Nat} {s : Sh} (h : ShA hs a s) : gR hs a 6 4 = some (a + 5) := gR_of h.1 rfl
theorem ShA.wt {hs : AH} {a : Nat} {s : Sh} (h : ShA hs a s) : gR hs a 6 5 = some (a + 6) := gR_of h.1 rfl
theorem lg_bd {l : List Int} {p q : Int} (h : ∀ x ∈ l, p ≤ x ∧ x ≤ q) {j : Nat} (hj : j < l.length) : p ≤ lg l j ∧ lg l j ≤ q := h _ (lg_mem hj)
theorem SOK.stb {s : Sh} (k : SOK s) (j : Nat) : -1 ≤ lg s.st j ∧ lg s.st j ≤ 100 := by
  by_cases h : j < s.st.length
  · have := lg_bd k.2.2.2.2.2.1 h; omega
  · rw [lg_out (by omega)]; omega
theorem SOK.wtb {s : Sh} (k : SOK s) (j : Nat) : -1 ≤ lg s.wt j ∧ lg s.wt j ≤ 9 := by
  by_cases h : j < s.wt.length
  · have := lg_bd k.2.2.2.2.2.2.1 h; omega
  · rw [lg_out (by omega)]; omega
theorem SOK.spb {s : Sh} (k : SOK s) : 1 ≤ s.sp ∧ s.sp ≤ 4 := k.2.2.2.1
theorem SOK.blb {s : Sh} (k : SOK s) : s.bl = 0 ∨ s.bl = 1 := k.2.2.2.2.1
theorem SOK.gl {s : Sh} (k : SOK s) : s.gv.length ≤ 12 := k.2.2.2.2.2.2.2.1
theorem SOK.ml {s : Sh} (k : SOK s) : s.md.length ≤ 45 := k.2.2.2.2.2.2.2.2.2.1
theorem SOK.gvb {s : Sh} (k : SOK s) (z : Int) : lat s.gv z = -1 ∨ (42 ≤ lat s.gv z ∧ lat s.gv z ≤ 146) := by
  by_cases h : 0 ≤ z
  · by_cases h2 : z.toNat < s.gv.length
    · rw [lat_in h]; exact Or.inr (k.2.2.2.2.2.2.2.2.1 _ (lg_mem h2))
    · rw [lat_out (by omega)]; exact Or.inl rfl
  · rw [lat_neg (by omega)]; exact Or.inl rfl
theorem SOK.mdb {s : Sh} (k : SOK s) (z : Int) : lat s.md z = -1 ∨ (42 ≤ lat s.md z ∧ lat s.md z ≤ 146) := by
  by_cases h : 0 ≤ z
  · by_cases h2 : z.toNat < s.md.length
    · rw [lat_in h]; exact k.2.2.2.2.2.2.2.2.2.2.1 _ (lg_mem h2)
    · rw [lat_out (by omega)]; exact Or.inl rfl
  · rw [lat_neg (by omega)]; exact Or.inl rfl
theorem SOK.lohi {s : Sh} (k : SOK s) : lg s.st 0 ≤ lg s.st 1 := k.2.2.2.2.2.2.2.2.2.2.2
def bits (sp : Int) : Int := if sp = 1 then 0 else if sp = 3 then 2 else 1
def per (sp : Int) : Int := if sp = 1 then 1 else if sp = 3 then 4 else 2
theorem per_3 (sp : Int) : per sp = 1 ∨ per sp = 2 ∨ per sp = 4 := by
  unfold per
  by_cases h : sp = 1
  · rw [if_pos h]; exact Or.inl rfl
  · rw [if_neg h]
    by_cases h : sp = 3
    · rw [if_pos h]; exact Or.inr (Or.inr rfl)
    · rw [if_neg h]; exact Or.inr (Or.inl rfl)
theorem sh_tab : ∀ z : Fin 256, (ii (z.1 - 64) >>> (ii 0 &&& 31) = ii (((z.1 : Int) - 64) / 1) ∧ ii (z.1 - 64) >>> (ii 1 &&& 31) = ii (((z.1 : Int) - 64) / 2) ∧ ii (z.1 - 64) >>> (ii 2 &&& 31) = ii (((z.1 : Int) - 64) / 4)) ∧
   (ii (z.1 - 64) <<< (ii 0 &&& 31) = ii (((z.1 : Int) - 64) * 1) ∧ ii (z.1 - 64) <<< (ii 1 &&& 31) = ii (((z.1 : Int) - 64) * 2) ∧ ii (z.1 - 64) <<< (ii 2 &&& 31) = ii (((z.1 : Int) - 64) * 4)) ∧
   (ii (z.1 - 64) &&& ((1 <<< (ii 0 &&& 31)) - 1) = ii (((z.1 : Int) - 64) % 1) ∧ ii (z.1 - 64) &&& ((1 <<< (ii 1 &&& 31)) - 1) = ii (((z.1 : Int) - 64) % 2) ∧ ii (z.1 - 64) &&& ((1 <<< (ii 2 &&& 31)) - 1) = ii (((z.1 : Int) - 64) % 4)) := by decide +kernel
theorem bits_per {sp : Int} {P : Int → Int → Prop} (h0 : P 0 1) (h1 : P 1 2) (h2 : P 2 4) : P (bits sp) (per sp) := by
  unfold bits per
  by_cases h : sp = 1
  · rw [if_pos h, if_pos h]; exact h0
  · rw [if_neg h, if_neg h]
    by_cases h : sp = 3
    · rw [if_pos h, if_pos h]; exact h2
    · rw [if_neg h, if_neg h]; exact h1
theorem sh_at {z : Int} (h0 : -64 ≤ z) (h1 : z < 192) : ∃ k : Fin 256, (k.1 : Int) - 64 = z := ⟨⟨(z + 64).toNat, by omega⟩, by show ((z + 64).toNat : Int) - 64 = z; omega⟩
theorem sh_r {z sp : Int} (h0 : -64 ≤ z) (h1 : z < 192) : ii z >>> (ii (bits sp) &&& 31) = ii (z / per sp) := by
  obtain ⟨k, rfl⟩ := sh_at h0 h1
  have t := (sh_tab k).1
  exact bits_per (P := fun b p => ii ((k.1 : Int) - 64) >>> (ii b &&& 31) = ii (((k.1 : Int) - 64) / p)) t.1 t.2.1 t.2.2
theorem sh_l {z sp : Int} (h0 : -64 ≤ z) (h1 : z < 192) : ii z <<< (ii (bits sp) &&& 31) = ii (z * per sp) := by
  obtain ⟨k, rfl⟩ := sh_at h0 h1
  have t := (sh_tab k).2.1
  exact bits_per (P := fun b p => ii ((k.1 : Int) - 64) <<< (ii b &&& 31) = ii (((k.1 : Int) - 64) * p)) t.1 t.2.1 t.2.2
theorem sh_m {z sp : Int} (h0 : -64 ≤ z) (h1 : z < 192) : ii z &&& ((1 <<< (ii (bits sp) &&& 31)) - 1) = ii (z % per sp) := by
  obtain ⟨k, rfl⟩ := sh_at h0 h1
  have t := (sh_tab k).2.2
  exact bits_per (P := fun b p => ii ((k.1 : Int) - 64) &&& ((1 <<< (ii b &&& 31)) - 1) = ii (((k.1 : Int) - 64) % p)) t.1 t.2.1 t.2.2
section SHEET
variable {hs : AH} {a : Nat} {s : Sh}
theorem X6_species (h : ShA hs a s) : f_X6_species a hs = some (ii s.sp) := by unfold f_X6_species; rw [h.sp]; rfl
theorem X6_isBelow (h : ShA hs a s) (k : SOK s) : f_X6_isBelow a hs = some (ii s.bl) := by
  unfold f_X6_isBelow; rw [h.bl, ob_some]
  rcases k.blb with e | e <;> rw [e] <;> rfl
theorem X6_beatBits (h : ShA hs a s) (k : SOK s) : f_X6_beatBits a hs = some (ii (bits s.sp)) := by
  have := k.spb
  unfold f_X6_beatBits bits
  simp (disch := omega) only [h.sp, ii_add, ii_sub, ii_mul, ii_neg, ii_div, ii_lt, ii_le, ii_eq, ob_some, il_0, il_1, il_2, il_3, il_4, il_5, il_6, il_7, il_8, il_9, il_10, il_11, il_12, il_13, il_14, il_15, il_16, il_17, il_18, il_19, il_20, il_21, il_22, il_23, il_24, il_25, il_26, il_27, il_28, il_29, il_30, il_31, il_32, il_33, il_34, il_35, il_36, il_37, il_38, il_39, il_40, il_41, il_42, il_43, il_44, il_45, il_46, il_47, il_48, il_49, il_50, il_51, il_52, il_53, il_54, il_55, il_56, il_57, il_58, il_59, il_60, il_61, il_62, il_63, il_64, il_65, il_66, il_67, il_68, il_69, il_70, il_71, il_72, il_73, il_74, il_75, il_76, il_77, il_78, il_79, il_80, il_81, il_82, il_83, il_84, il_85, il_86, il_87, il_88, il_89, il_90, il_91, il_92, il_93, il_94, il_95, il_96, il_97, il_98, il_99, il_100, il_101, il_102, il_103, il_104, il_105, il_106, il_107, il_108, il_109, il_110, il_111, il_112, il_113, il_114, il_115, il_116, il_117, il_118, il_119, il_120, il_121, il_122, il_123, il_124, il_125, il_126, il_127, il_128, il_129, il_130, il_131, il_132, il_133, il_134, il_135, il_136, il_137, il_138, il_139, il_140, il_141, il_142, il_143, il_144, il_145, il_146, il_147, il_148, il_149, il_150, il_151, il_152, il_153, il_154, il_155, il_156, il_157, il_158, il_159, il_160, il_161, il_162, il_163, il_164, il_165, il_166, il_167, il_168, il_169, il_170, il_171, il_172, il_173, il_174, il_175, il_176, il_177, il_178, il_179, il_180, il_181, il_182, il_183, il_184, il_185, il_186, il_187, il_188, il_189, il_190, il_191, il_192, il_193, il_194, il_195, il_196, il_197, il_198, il_199, il_200, il_201, il_202, il_203, il_204, il_205, il_206, il_207, il_208, il_209, il_210, il_211, il_212, il_213, il_214, il_215, il_216, il_217, il_218, il_219, il_220, il_221, il_222, il_223, il_224, il_225, il_226, il_227, il_228, il_229, il_230, il_231, il_232, il_233, il_234, il_235, il_236, il_237, il_238, il_239, il_240, il_241, il_242, il_243, il_244, il_245, il_246, il_247, il_248, il_249, il_250, il_251, il_252, il_253, il_254, il_255, il_400, il_480, il_1023, il_2880, il_3000, il_6000, il_m1, il_m8]
  by_cases c : s.sp = 1
  · rw [if_pos c, if_pos c]
  · rw [if_neg c, if_neg c]
    by_cases d : s.sp = 3
    · rw [if_pos d, if_pos d]
    · rw [if_neg d, if_neg d]
theorem X6_barOf (h : ShA hs a s) (k : SOK s) {z : Int} (h0 : -64 ≤ z) (h1 : z < 192) : f_X6_barOf a (ii z) hs = some (ii (z / per s.sp)) := by
  unfold f_X6_barOf; rw [h.chk, ob_some, X6_beatBits h k, ob_some, sh_r h0 h1]
theorem X6_beatOf (h : ShA hs a s) (k : SOK s) {z : Int} (h0 : -64 ≤ z) (h1 : z < 192) : f_X6_beatOf a (ii z) hs = some (ii (z % per s.sp)) := by
  unfold f_X6_beatOf; rw [h.chk, ob_some, X6_beatBits h k, ob_some, sh_m h0 h1]
theorem X6_firstPlaceIn (h : ShA hs a s) (k : SOK s) {z : Int} (h0 : -64 ≤ z) (h1 : z < 192) : f_X6_firstPlaceIn a (ii z) hs = some (ii (z * per s.sp)) := by
  unfold f_X6_firstPlaceIn; rw [h.chk, ob_some, X6_beatBits h k, ob_some, sh_l h0 h1]
theorem X6_settingOf (h : ShA hs a s) (k : SOK s) {z : Int} (h0 : 0 ≤ z) (h1 : z < 3) : f_X6_settingOf a (ii z) hs = some (ii (lg s.st z.toNat)) := by
  have := k.1
  unfold f_X6_settingOf
  simp (disch := omega) only [h.st, h.2.2.2.1.get, ii_add, ii_sub, ii_mul, ii_neg, ii_div, ii_lt, ii_le, ii_eq, ob_some, il_0, il_1, il_2, il_3, il_4, il_5, il_6, il_7, il_8, il_9, il_10, il_11, il_12, il_13, il_14, il_15, il_16, il_17, il_18, il_19, il_20, il_21, il_22, il_23, il_24, il_25, il_26, il_27, il_28, il_29, il_30, il_31, il_32, il_33, il_34, il_35, il_36, il_37, il_38, il_39, il_40, il_41, il_42, il_43, il_44, il_45, il_46, il_47, il_48, il_49, il_50, il_51, il_52, il_53, il_54, il_55, il_56, il_57, il_58, il_59, il_60, il_61, il_62, il_63, il_64, il_65, il_66, il_67, il_68, il_69, il_70, il_71, il_72, il_73, il_74, il_75, il_76, il_77, il_78, il_79, il_80, il_81, il_82, il_83, il_84, il_85, il_86, il_87, il_88, il_89, il_90, il_91, il_92, il_93, il_94, il_95, il_96, il_97, il_98, il_99, il_100, il_101, il_102, il_103, il_104, il_105, il_106, il_107, il_108, il_109, il_110, il_111, il_112, il_113, il_114, il_115, il_116, il_117, il_118, il_119, il_120, il_121, il_122, il_123, il_124, il_125, il_126, il_127, il_128, il_129, il_130, il_131, il_132, il_133, il_134, il_135, il_136, il_137, il_138, il_139, il_140, il_141, il_142, il_143, il_144, il_145, il_146, il_147, il_148, il_149, il_150, il_151, il_152, il_153, il_154, il_155, il_156, il_157, il_158, il_159, il_160, il_161, il_162, il_163, il_164, il_165, il_166, il_167, il_168, il_169, il_170, il_171, il_172, il_173, il_174, il_175, il_176, il_177, il_178, il_179, il_180, il_181, il_182, il_183, il_184, il_185, il_186, il_187, il_188, il_189, il_190, il_191, il_192, il_193, il_194, il_195, il_196, il_197, il_198, il_199, il_200, il_201, il_202, il_203, il_204, il_205, il_206, il_207, il_208, il_209, il_210, il_211, il_212, il_213, il_214, il_215, il_216, il_217, il_218, il_219, il_220, il_221, il_222, il_223, il_224, il_225, il_226, il_227, il_228, il_229, il_230, il_231, il_232, il_233, il_234, il_235, il_236, il_237, il_238, il_239, il_240, il_241, il_242, il_243, il_244, il_245, il_246, il_247, il_248, il_249, il_250, il_251, il_252, il_253, il_254, il_255, il_400, il_480, il_1023, il_2880, il_3000, il_6000, il_m1, il_m8]
  rw [if_neg (show ¬ z < 0 by omega), if_neg (show ¬ 3 ≤ z by omega)]
theorem X6_weightOf (h : ShA hs a s) (k : SOK s) {z : Int} (h0 : 1 ≤ z) (h1 : z ≤ 16) : f_X6_weightOf a (ii z) hs = some (ii (lg s.wt z.toNat)) := by
  have := k.2.1
  unfold f_X6_weightOf
  simp (disch := omega) only [h.wt, h.2.2.2.2.get, ii_add, ii_sub, ii_mul, ii_neg, ii_div, ii_lt, ii_le, ii_eq, ob_some, il_0, il_1, il_2, il_3, il_4, il_5, il_6, il_7, il_8, il_9, il_10, il_11, il_12, il_13, il_14, il_15, il_16, il_17, il_18, il_19, il_20, il_21, il_22, il_23, il_24, il_25, il_26, il_27, il_28, il_29, il_30, il_31, il_32, il_33, il_34, il_35, il_36, il_37, il_38, il_39, il_40, il_41, il_42, il_43, il_44, il_45, il_46, il_47, il_48, il_49, il_50, il_51, il_52, il_53, il_54, il_55, il_56, il_57, il_58, il_59, il_60, il_61, il_62, il_63, il_64, il_65, il_66, il_67, il_68, il_69, il_70, il_71, il_72, il_73, il_74, il_75, il_76, il_77, il_78, il_79, il_80, il_81, il_82, il_83, il_84, il_85, il_86, il_87, il_88, il_89, il_90, il_91, il_92, il_93, il_94, il_95, il_96, il_97, il_98, il_99, il_100, il_101, il_102, il_103, il_104, il_105, il_106, il_107, il_108, il_109, il_110, il_111, il_112, il_113, il_114, il_115, il_116, il_117, il_118, il_119, il_120, il_121, il_122, il_123, il_124, il_125, il_126, il_127, il_128, il_129, il_130, il_131, il_132, il_133, il_134, il_135, il_136, il_137, il_138, il_139, il_140, il_141, il_142, il_143, il_144, il_145, il_146, il_147, il_148, il_149, il_150, il_151, il_152, il_153, il_154, il_155, il_156, il_157, il_158, il_159, il_160, il_161, il_162, il_163, il_164, il_165, il_166, il_167, il_168, il_169, il_170, il_171, il_172, il_173, il_174, il_175, il_176, il_177, il_178, il_179, il_180, il_181, il_182, il_183, il_184, il_185, il_186, il_187, il_188, il_189, il_190, il_191, il_192, il_193, il_194, il_195, il_196, il_197, il_198, il_199, il_200, il_201, il_202, il_203, il_204, il_205, il_206, il_207, il_208, il_209, il_210, il_211, il_212, il_213, il_214, il_215, il_216, il_217, il_218, il_219, il_220, il_221, il_222, il_223, il_224, il_225, il_226, il_227, il_228, il_229, il_230, il_231, il_232, il_233, il_234, il_235, il_236, il_237, il_238, il_239, il_240, il_241, il_242, il_243, il_244, il_245, il_246, il_247, il_248, il_249, il_250, il_251, il_252, il_253, il_254, il_255, il_400, il_480, il_1023, il_2880, il_3000, il_6000, il_m1, il_m8]
  rw [if_neg (show ¬ z < 1 by omega), if_neg (show ¬ 16 < z by omega)]
def allowsP (s : Sh) (p : Int) : Prop := lg s.st 0 ≤ p ∧ p ≤ lg s.st 1
theorem X6_allowsPitch (h : ShA hs a s) (k : SOK s) {z : Int} (h0 : -1000 ≤ z) (h1 : z ≤ 1000) : (f_X6_allowsPitch a (ii z) hs = some (ii 1) ∧ allowsP s z) ∨ (f_X6_allowsPitch a (ii z) hs = some (ii 0) ∧ ¬ allowsP s z) := by
  have := k.1
  have b0 := k.stb 0
  have b1 := k.stb 1
  have g0 : aN 0 hs (a + 5) (ii 0) = some (ii (lg s.st 0)) := h.2.2.2.1.get (by omega) (by omega) (by omega)
  have g1 : aN 0 hs (a + 5) (ii 1) = some (ii (lg s.st 1)) := h.2.2.2.1.get (by omega) (by omega) (by omega)
  unfold f_X6_allowsPitch allowsP
  simp (disch := omega) only [h.st, g0, g1, ii_add, ii_sub, ii_mul, ii_neg, ii_div, ii_lt, ii_le, ii_eq, ob_some, il_0, il_1, il_2, il_3, il_4, il_5, il_6, il_7, il_8, il_9, il_10, il_11, il_12, il_13, il_14, il_15, il_16, il_17, il_18, il_19, il_20, il_21, il_22, il_23, il_24, il_25, il_26, il_27, il_28, il_29, il_30, il_31, il_32, il_33, il_34, il_35, il_36, il_37, il_38, il_39, il_40, il_41, il_42, il_43, il_44, il_45, il_46, il_47, il_48, il_49, il_50, il_51, il_52, il_53, il_54, il_55, il_56, il_57, il_58, il_59, il_60, il_61, il_62, il_63, il_64, il_65, il_66, il_67, il_68, il_69, il_70, il_71, il_72, il_73, il_74, il_75, il_76, il_77, il_78, il_79, il_80, il_81, il_82, il_83, il_84, il_85, il_86, il_87, il_88, il_89, il_90, il_91, il_92, il_93, il_94, il_95, il_96, il_97, il_98, il_99, il_100, il_101, il_102, il_103, il_104, il_105, il_106, il_107, il_108, il_109, il_110, il_111, il_112, il_113, il_114, il_115, il_116, il_117, il_118, il_119, il_120, il_121, il_122, il_123, il_124, il_125, il_126, il_127, il_128, il_129, il_130, il_131, il_132, il_133, il_134, il_135, il_136, il_137, il_138, il_139, il_140, il_141, il_142, il_143, il_144, il_145, il_146, il_147, il_148, il_149, il_150, il_151, il_152, il_153, il_154, il_155, il_156, il_157, il_158, il_159, il_160, il_161, il_162, il_163, il_164, il_165, il_166, il_167, il_168, il_169, il_170, il_171, il_172, il_173, il_174, il_175, il_176, il_177, il_178, il_179, il_180, il_181, il_182, il_183, il_184, il_185, il_186, il_187, il_188, il_189, il_190, il_191, il_192, il_193, il_194, il_195, il_196, il_197, il_198, il_199, il_200, il_201, il_202, il_203, il_204, il_205, il_206, il_207, il_208, il_209, il_210, il_211, il_212, il_213, il_214, il_215, il_216, il_217, il_218, il_219, il_220, il_221, il_222, il_223, il_224, il_225, il_226, il_227, il_228, il_229, il_230, il_231, il_232, il_233, il_234, il_235, il_236, il_237, il_238, il_239, il_240, il_241, il_242, il_243, il_244, il_245, il_246, il_247, il_248, il_249, il_250, il_251, il_252, il_253, il_254, il_255, il_400, il_480, il_1023, il_2880, il_3000, il_6000, il_m1, il_m8]
  by_cases c : z < lg s.st 0
  · rw [if_pos c]; exact Or.inr ⟨rfl, by omega⟩
  · rw [if_neg c]
    by_cases d : lg s.st 1 < z
    · rw [if_pos d]; exact Or.inr ⟨rfl, by omega⟩
    · rw [if_neg d]; exact Or.inl ⟨rfl, by omega⟩
def tied (s : Sh) (p : Int) : Prop := s.sp = 4 ∧ 0 < p ∧ p % 2 = 0 ∧ lat s.md p ≠ -1 ∧ lat s.md p = lat s.md (p - 1)
theorem X6_isTied (h : ShA hs a s) (k : SOK s) {z : Int} (h0 : -64 ≤ z) (h1 : z < 192) : (f_X6_isTied a (ii z) hs = some (ii 1) ∧ tied s z) ∨ (f_X6_isTied a (ii z) hs = some (ii 0) ∧ ¬ tied s z) := by
  have := k.spb
  have b1 := k.mdb z
  have b2 := k.mdb (z - 1)
  have b3 := per_3 s.sp
  have b4 : 0 ≤ z % per s.sp ∧ z % per s.sp < 4 := by rcases b3 with e | e | e <;> rw [e] <;> omega
  unfold f_X6_isTied tied
  simp (disch := omega) only [h.sp, h.m, h.2.2.1.chk, h.chk, X6_beatOf h k, X2_at h.2.2.1, ii_add, ii_sub, ii_mul, ii_neg, ii_div, ii_lt, ii_le, ii_eq, ob_some, il_0, il_1, il_2, il_3, il_4, il_5, il_6, il_7, il_8, il_9, il_10, il_11, il_12, il_13, il_14, il_15, il_16, il_17, il_18, il_19, il_20, il_21, il_22, il_23, il_24, il_25, il_26, il_27, il_28, il_29, il_30, il_31, il_32, il_33, il_34, il_35, il_36, il_37, il_38, il_39, il_40, il_41, il_42, il_43, il_44, il_45, il_46, il_47, il_48, il_49, il_50, il_51, il_52, il_53, il_54, il_55, il_56, il_57, il_58, il_59, il_60, il_61, il_62, il_63, il_64, il_65, il_66, il_67, il_68, il_69, il_70, il_71, il_72, il_73, il_74, il_75, il_76, il_77, il_78, il_79, il_80, il_81, il_82, il_83, il_84, il_85, il_86, il_87, il_88, il_89, il_90, il_91, il_92, il_93, il_94, il_95, il_96, il_97, il_98, il_99, il_100, il_101, il_102, il_103, il_104, il_105, il_106, il_107, il_108, il_109, il_110, il_111, il_112, il_113, il_114, il_115, il_116, il_117, il_118, il_119, il_120, il_121, il_122, il_123, il_124, il_125, il_126, il_127, il_128, il_129, il_130, il_131, il_132, il_133, il_134, il_135, il_136, il_137, il_138, il_139, il_140, il_141, il_142, il_143, il_144, il_145, il_146, il_147, il_148, il_149, il_150, il_151, il_152, il_153, il_154, il_155, il_156, il_157, il_158, il_159, il_160, il_161, il_162, il_163, il_164, il_165, il_166, il_167, il_168, il_169, il_170, il_171, il_172, il_173, il_174, il_175, il_176, il_177, il_178, il_179, il_180, il_181, il_182, il_183, il_184, il_185, il_186, il_187, il_188, il_189, il_190, il_191, il_192, il_193, il_194, il_195, il_196, il_197, il_198, il_199, il_200, il_201, il_202, il_203, il_204, il_205, il_206, il_207, il_208, il_209, il_210, il_211, il_212, il_213, il_214, il_215, il_216, il_217, il_218, il_219, il_220, il_221, il_222, il_223, il_224, il_225, il_226, il_227, il_228, il_229, il_230, il_231, il_232, il_233, il_234, il_235, il_236, il_237, il_238, il_239, il_240, il_241, il_242, il_243, il_244, il_245, il_246, il_247, il_248, il_249, il_250, il_251, il_252, il_253, il_254, il_255, il_400, il_480, il_1023, il_2880, il_3000, il_6000, il_m1, il_m8]
  by_cases c : s.sp = 4
  · rw [if_pos c]
    have e2 : per s.sp = 2 := by rw [c]; rfl
    rw [e2]
    by_cases d : z ≤ 0
    · rw [if_pos d]; exact Or.inr ⟨rfl, by omega⟩
    · rw [if_neg d]
      by_cases e : z % 2 = 0
      · rw [if_pos e]
        by_cases f : lat s.md z = -1
        · rw [if_pos f]; exact Or.inr ⟨rfl, by omega⟩
        · rw [if_neg f]
          by_cases g : lat s.md z = lat s.md (z - 1)
          · rw [if_pos g]; exact Or.inl ⟨rfl, by omega⟩
          · rw [if_neg g]; exact Or.inr ⟨rfl, by omega⟩
      · rw [if_neg e]; exact Or.inr ⟨rfl, by omega⟩
  · rw [if_neg c]; exact Or.inr ⟨rfl, by omega⟩
end SHEET
