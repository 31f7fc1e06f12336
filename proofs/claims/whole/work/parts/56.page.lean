/-! ===== a page of signs ===== -/
theorem ch_tab : ∀ x : Fin 128, vp_nar .char (ii x.1) = ii x.1 ∧ i2c (ii x.1) = ii x.1 := by decide +kernel
theorem nar_ch {z : Int} (h0 : 0 ≤ z) (h1 : z < 128) : vp_nar .char (ii z) = ii z := by
  have h := (ch_tab ⟨z.toNat, by omega⟩).1
  dsimp only at h
  rw [Int.toNat_of_nonneg h0] at h
  exact h
theorem i2c_ch {z : Int} (h0 : 0 ≤ z) (h1 : z < 128) : i2c (ii z) = ii z := by
  have h := (ch_tab ⟨z.toNat, by omega⟩).2
  dsimp only at h
  rw [Int.toNat_of_nonneg h0] at h
  exact h
def CH (l : List Int) : Prop := ∀ x ∈ l, 0 ≤ x ∧ x < 128
def PgA (hs : AH) (a : Nat) (l : List Int) : Prop := hs[a]? = some (.inr (3, [.ref (a + 1), .int (ii l.length)])) ∧ ArA 1 hs (a + 1) 180 l
theorem PgA.gI {hs : AH} {a : Nat} {l : List Int} (h : PgA hs a l) : gI hs a 3 1 = some (ii l.length) := gI_of h.1 rfl
theorem PgA.gR {hs : AH} {a : Nat} {l : List Int} (h : PgA hs a l) : gR hs a 3 0 = some (a + 1) := gR_of h.1 rfl
theorem PgA.chk {hs : AH} {a : Nat} {l : List Int} (h : PgA hs a l) : chk hs a 3 = some () := chk_of h.1
theorem PgA.le {hs : AH} {a : Nat} {l : List Int} (h : PgA hs a l) : l.length ≤ 180 := h.2.1
theorem PgA.out {hs hs' : AH} {a b m : Nat} {l : List Int} (h : PgA hs a l) (o : Out hs hs' b m) (hd : a + 2 ≤ b ∨ b + m ≤ a) : PgA hs' a l := ⟨o.at h.1 (by omega), h.2.out o (by omega)⟩
def pat (l : List Int) (z : Int) : Int := if 0 ≤ z ∧ z < l.length then lg l z.toNat else 0
theorem pat_bd {l : List Int} (h : CH l) (z : Int) : 0 ≤ pat l z ∧ pat l z < 128 := by
  unfold pat
  by_cases c : 0 ≤ z ∧ z < l.length
  · rw [if_pos c]; exact h _ (lg_mem (by omega))
  · rw [if_neg c]; omega
section PAGE
variable {hs : AH} {a : Nat} {l : List Int}
theorem X3_size (h : PgA hs a l) : f_X3_size a hs = some (ii l.length) := by unfold f_X3_size; rw [h.gI]; rfl
theorem X3_at (h : PgA hs a l) (k : CH l) {z : Int} (h1 : -2147483648 ≤ z) (h2 : z ≤ 2147483647) : f_X3_at a (ii z) hs = some (ii (pat l z)) := by
  have hn := h.le
  unfold f_X3_at pat
  simp (disch := omega) only [h.gI, h.gR, ii_add, ii_sub, ii_mul, ii_neg, ii_div, ii_lt, ii_le, ii_eq, ob_some, il_0, il_1, il_2, il_3, il_4, il_5, il_6, il_7, il_8, il_9, il_10, il_11, il_12, il_13, il_14, il_15, il_16, il_17, il_18, il_19, il_20, il_21, il_22, il_23, il_24, il_25, il_26, il_27, il_28, il_29, il_30, il_31, il_32, il_33, il_34, il_35, il_36, il_37, il_38, il_39, il_40, il_41, il_42, il_43, il_44, il_45, il_46, il_47, il_48, il_49, il_50, il_51, il_52, il_53, il_54, il_55, il_56, il_57, il_58, il_59, il_60, il_61, il_62, il_63, il_64, il_65, il_66, il_67, il_68, il_69, il_70, il_71, il_72, il_73, il_74, il_75, il_76, il_77, il_78, il_79, il_80, il_81, il_82, il_83, il_84, il_85, il_86, il_87, il_88, il_89, il_90, il_91, il_92, il_93, il_94, il_95, il_96, il_97, il_98, il_99, il_100, il_101, il_102, il_103, il_104, il_105, il_106, il_107, il_108, il_109, il_110, il_111, il_112, il_113, il_114, il_115, il_116, il_117, il_118, il_119, il_120, il_121, il_122, il_123, il_124, il_125, il_126, il_127, il_128, il_129, il_130, il_131, il_132, il_133, il_134, il_135, il_136, il_137, il_138, il_139, il_140, il_141, il_142, il_143, il_144, il_145, il_146, il_147, il_148, il_149, il_150, il_151, il_152, il_153, il_154, il_155, il_156, il_157, il_158, il_159, il_160, il_161, il_162, il_163, il_164, il_165, il_166, il_167, il_168, il_169, il_170, il_171, il_172, il_173, il_174, il_175, il_176, il_177, il_178, il_179, il_180, il_181, il_182, il_183, il_184, il_185, il_186, il_187, il_188, il_189, il_190, il_191, il_192, il_193, il_194, il_195, il_196, il_197, il_198, il_199, il_200, il_201, il_202, il_203, il_204, il_205, il_206, il_207, il_208, il_209, il_210, il_211, il_212, il_213, il_214, il_215, il_216, il_217, il_218, il_219, il_220, il_221, il_222, il_223, il_224, il_225, il_226, il_227, il_228, il_229, il_230, il_231, il_232, il_233, il_234, il_235, il_236, il_237, il_238, il_239, il_240, il_241, il_242, il_243, il_244, il_245, il_246, il_247, il_248, il_249, il_250, il_251, il_252, il_253, il_254, il_255, il_400, il_480, il_1023, il_2880, il_3000, il_6000, il_m1, il_m8]
  by_cases c1 : z < 0
  · rw [if_pos c1, if_neg (show ¬ (0 ≤ z ∧ z < l.length) by omega)]
  · rw [if_neg c1]
    by_cases c2 : (l.length : Int) ≤ z
    · rw [if_pos c2, if_neg (show ¬ (0 ≤ z ∧ z < l.length) by omega)]
    · have b := lg_bd (p := 0) (q := 127) (fun x hx => by have := k x hx; omega) (show z.toNat < l.length by omega)
      rw [if_neg c2, if_neg (show ¬ 180 ≤ z by omega), if_pos (show 0 ≤ z ∧ z < l.length by omega), h.2.get (by omega) (by omega) (by decide), ob_some, nar_ch (by omega) (by omega)]
theorem X3_clear (h : PgA hs a l) : ∃ hs', f_X3_clear a hs = some hs' ∧ PgA hs' a [] ∧ Out hs hs' a 2 := by
  obtain ⟨hs1, e1, a1, o1⟩ := pI_x (k := 1) (ii 0) h.1 (Nat.le_of_ble_eq_true rfl)
  exact ⟨hs1, by unfold f_X3_clear; rw [il_0, e1]; rfl, ⟨a1, (h.2.sub 0).out o1 (by omega)⟩, o1.mono (by omega) (by omega)⟩
def padd (l : List Int) (v : Int) : List Int := if l.length < 180 then l ++ [v] else l
theorem X3_put (h : PgA hs a l) {v : Int} (h0 : 0 ≤ v) (h1 : v < 128) : ∃ hs', f_X3_put a (ii v) hs = some hs' ∧ PgA hs' a (padd l v) ∧ Out hs hs' a 2 := by
  have hn := h.le
  unfold f_X3_put padd
  rw [nar_ch h0 h1]
  simp (disch := omega) only [h.gI, h.gR, ii_add, ii_sub, ii_mul, ii_neg, ii_div, ii_lt, ii_le, ii_eq, ob_some, il_0, il_1, il_2, il_3, il_4, il_5, il_6, il_7, il_8, il_9, il_10, il_11, il_12, il_13, il_14, il_15, il_16, il_17, il_18, il_19, il_20, il_21, il_22, il_23, il_24, il_25, il_26, il_27, il_28, il_29, il_30, il_31, il_32, il_33, il_34, il_35, il_36, il_37, il_38, il_39, il_40, il_41, il_42, il_43, il_44, il_45, il_46, il_47, il_48, il_49, il_50, il_51, il_52, il_53, il_54, il_55, il_56, il_57, il_58, il_59, il_60, il_61, il_62, il_63, il_64, il_65, il_66, il_67, il_68, il_69, il_70, il_71, il_72, il_73, il_74, il_75, il_76, il_77, il_78, il_79, il_80, il_81, il_82, il_83, il_84, il_85, il_86, il_87, il_88, il_89, il_90, il_91, il_92, il_93, il_94, il_95, il_96, il_97, il_98, il_99, il_100, il_101, il_102, il_103, il_104, il_105, il_106, il_107, il_108, il_109, il_110, il_111, il_112, il_113, il_114, il_115, il_116, il_117, il_118, il_119, il_120, il_121, il_122, il_123, il_124, il_125, il_126, il_127, il_128, il_129, il_130, il_131, il_132, il_133, il_134, il_135, il_136, il_137, il_138, il_139, il_140, il_141, il_142, il_143, il_144, il_145, il_146, il_147, il_148, il_149, il_150, il_151, il_152, il_153, il_154, il_155, il_156, il_157, il_158, il_159, il_160, il_161, il_162, il_163, il_164, il_165, il_166, il_167, il_168, il_169, il_170, il_171, il_172, il_173, il_174, il_175, il_176, il_177, il_178, il_179, il_180, il_181, il_182, il_183, il_184, il_185, il_186, il_187, il_188, il_189, il_190, il_191, il_192, il_193, il_194, il_195, il_196, il_197, il_198, il_199, il_200, il_201, il_202, il_203, il_204, il_205, il_206, il_207, il_208, il_209, il_210, il_211, il_212, il_213, il_214, il_215, il_216, il_217, il_218, il_219, il_220, il_221, il_222, il_223, il_224, il_225, il_226, il_227, il_228, il_229, il_230, il_231, il_232, il_233, il_234, il_235, il_236, il_237, il_238, il_239, il_240, il_241, il_242, il_243, il_244, il_245, il_246, il_247, il_248, il_249, il_250, il_251, il_252, il_253, il_254, il_255, il_400, il_480, il_1023, il_2880, il_3000, il_6000, il_m1, il_m8]
  rw [if_neg (show ¬ (l.length : Int) < 0 by omega)]
  by_cases c2 : l.length < 180
  · rw [if_neg (show ¬ (180 : Int) ≤ l.length by omega), if_pos c2]
    obtain ⟨hs1, e1, l1, o1⟩ := h.2.push v c2 (by decide)
    have h0 := o1.at h.1 (by omega)
    obtain ⟨hs2, e2, a2, o2⟩ := pI_x (k := 1) (ii ((l.length : Int) + 1)) h0 (Nat.le_of_ble_eq_true rfl)
    refine ⟨hs2, ?_, ⟨by rw [a2, List.length_append]; rfl, l1.out o2 (by omega)⟩, (o1.mono (by omega) (by omega)).trans (o2.mono (by omega) (by omega))⟩
    rw [e1, ob_some, gI_of h0 rfl, ob_some, ii_add, e2, ob_some]
  · rw [if_pos (show (180 : Int) ≤ l.length by omega), if_neg c2]
    exact ⟨hs, rfl, h, Out.refl _ _ _⟩
def padds (l w : List Int) : List Int := w.foldl padd l
theorem padds_nil (l : List Int) : padds l [] = l := rfl
theorem padds_app (l v w : List Int) : padds l (v ++ w) = padds (padds l v) w := List.foldl_append ..
theorem padds_one (l : List Int) (x : Int) : padds l [x] = padd l x := rfl
theorem padds_eq : ∀ (w l : List Int), l.length + w.length ≤ 180 → padds l w = l ++ w
  | [], l, _ => (List.append_nil l).symm
  | x :: w, l, h => by
    have h1 : padd l x = l ++ [x] := if_pos (by simp at h; omega)
    show padds (padd l x) w = _
    rw [h1, padds_eq w (l ++ [x]) (by simp at h ⊢; omega), List.append_assoc]
    rfl
theorem X3_word_loop {i : Nat} (hi : i < 55) : ∀ (d n k : Nat) (hs : AH) (l : List Int), d < n → k + d = (tx i).length → PgA hs a l → ∃ hs', f_X3_putWord_b2 n a (SBn + i) (ii k) hs = some hs' ∧ PgA hs' a (padds l ((tx i).drop k)) ∧ Out hs hs' a 2 := by
  have hle := str_le hi
  intro d
  induction d with
  | zero =>
    intro n k hs l hn hk h
    obtain ⟨n, rfl⟩ : ∃ z, n = z + 1 := ⟨n - 1, by omega⟩
    unfold f_X3_putWord_b2
    rw [str_chk hi, ob_some, str_len hi, ob_some]
    simp (disch := omega) only [ii_add, ii_sub, ii_mul, ii_neg, ii_div, ii_lt, ii_le, ii_eq, ob_some, il_0, il_1, il_2, il_3, il_4, il_5, il_6, il_7, il_8, il_9, il_10, il_11, il_12, il_13, il_14, il_15, il_16, il_17, il_18, il_19, il_20, il_21, il_22, il_23, il_24, il_25, il_26, il_27, il_28, il_29, il_30, il_31, il_32, il_33, il_34, il_35, il_36, il_37, il_38, il_39, il_40, il_41, il_42, il_43, il_44, il_45, il_46, il_47, il_48, il_49, il_50, il_51, il_52, il_53, il_54, il_55, il_56, il_57, il_58, il_59, il_60, il_61, il_62, il_63, il_64, il_65, il_66, il_67, il_68, il_69, il_70, il_71, il_72, il_73, il_74, il_75, il_76, il_77, il_78, il_79, il_80, il_81, il_82, il_83, il_84, il_85, il_86, il_87, il_88, il_89, il_90, il_91, il_92, il_93, il_94, il_95, il_96, il_97, il_98, il_99, il_100, il_101, il_102, il_103, il_104, il_105, il_106, il_107, il_108, il_109, il_110, il_111, il_112, il_113, il_114, il_115, il_116, il_117, il_118, il_119, il_120, il_121, il_122, il_123, il_124, il_125, il_126, il_127, il_128, il_129, il_130, il_131, il_132, il_133, il_134, il_135, il_136, il_137, il_138, il_139, il_140, il_141, il_142, il_143, il_144, il_145, il_146, il_147, il_148, il_149, il_150, il_151, il_152, il_153, il_154, il_155, il_156, il_157, il_158, il_159, il_160, il_161, il_162, il_163, il_164, il_165, il_166, il_167, il_168, il_169, il_170, il_171, il_172, il_173, il_174, il_175, il_176, il_177, il_178, il_179, il_180, il_181, il_182, il_183, il_184, il_185, il_186, il_187, il_188, il_189, il_190, il_191, il_192, il_193, il_194, il_195, il_196, il_197, il_198, il_199, il_200, il_201, il_202, il_203, il_204, il_205, il_206, il_207, il_208, il_209, il_210, il_211, il_212, il_213, il_214, il_215, il_216, il_217, il_218, il_219, il_220, il_221, il_222, il_223, il_224, il_225, il_226, il_227, il_228, il_229, il_230, il_231, il_232, il_233, il_234, il_235, il_236, il_237, il_238, il_239, il_240, il_241, il_242, il_243, il_244, il_245, il_246, il_247, il_248, il_249, il_250, il_251, il_252, il_253, il_254, il_255, il_400, il_480, il_1023, il_2880, il_3000, il_6000, il_m1, il_m8]
    rw [if_pos (show ((tx i).length : Int) ≤ k by omega), List.drop_of_length_le (by omega)]
    exact ⟨hs, rfl, h, Out.refl _ _ _⟩
  | succ d ih =>
    intro n k hs l hn hk h
    obtain ⟨n, rfl⟩ : ∃ z, n = z + 1 := ⟨n - 1, by omega⟩
    unfold f_X3_putWord_b2
    rw [str_chk hi, ob_some, str_len hi, ob_some]
    simp (disch := omega) only [str_chr hi, h.chk, ii_add, ii_sub, ii_mul, ii_neg, ii_div, ii_lt, ii_le, ii_eq, ob_some, il_0, il_1, il_2, il_3, il_4, il_5, il_6, il_7, il_8, il_9, il_10, il_11, il_12, il_13, il_14, il_15, il_16, il_17, il_18, il_19, il_20, il_21, il_22, il_23, il_24, il_25, il_26, il_27, il_28, il_29, il_30, il_31, il_32, il_33, il_34, il_35, il_36, il_37, il_38, il_39, il_40, il_41, il_42, il_43, il_44, il_45, il_46, il_47, il_48, il_49, il_50, il_51, il_52, il_53, il_54, il_55, il_56, il_57, il_58, il_59, il_60, il_61, il_62, il_63, il_64, il_65, il_66, il_67, il_68, il_69, il_70, il_71, il_72, il_73, il_74, il_75, il_76, il_77, il_78, il_79, il_80, il_81, il_82, il_83, il_84, il_85, il_86, il_87, il_88, il_89, il_90, il_91, il_92, il_93, il_94, il_95, il_96, il_97, il_98, il_99, il_100, il_101, il_102, il_103, il_104, il_105, il_106, il_107, il_108, il_109, il_110, il_111, il_112, il_113, il_114, il_115, il_116, il_117, il_118, il_119, il_120, il_121, il_122, il_123, il_124, il_125, il_126, il_127, il_128, il_129, il_130, il_131, il_132, il_133, il_134, il_135, il_136, il_137, il_138, il_139, il_140, il_141, il_142, il_143, il_144, il_145, il_146, il_147, il_148, il_149, il_150, il_151, il_152, il_153, il_154, il_155, il_156, il_157, il_158, il_159, il_160, il_161, il_162, il_163, il_164, il_165, il_166, il_167, il_168, il_169, il_170, il_171, il_172, il_173, il_174, il_175, il_176, il_177, il_178, il_179, il_180, il_181, il_182, il_183, il_184, il_185, il_186, il_187, il_188, il_189, il_190, il_191, il_192, il_193, il_194, il_195, il_196, il_197, il_198, il_199, il_200, il_201, il_202, il_203, il_204, il_205, il_206, il_207, il_208, il_209, il_210, il_211, il_212, il_213, il_214, il_215, il_216, il_217, il_218, il_219, il_220, il_221, il_222, il_223, il_224, il_225, il_226, il_227, il_228, il_229, il_230, il_231, il_232, il_233, il_234, il_235, il_236, il_237, il_238, il_239, il_240, il_241, il_242, il_243, il_244, il_245, il_246, il_247, il_248, il_249, il_250, il_251, il_252, il_253, il_254, il_255, il_400, il_480, il_1023, il_2880, il_3000, il_6000, il_m1, il_m8]
    rw [if_neg (show ¬ ((tx i).length : Int) ≤ k by omega)]
    have b : 32 ≤ lg (tx i) k ∧ lg (tx i) k ≤ 126 := tx_tab ⟨i, hi⟩ _ (lg_mem (l := tx i) (by omega))
    rw [Int.toNat_natCast]
    obtain ⟨hs1, e1, l1, o1⟩ := X3_put h (v := lg (tx i) k) (by omega) (by omega)
    obtain ⟨hs2, e2, l2, o2⟩ := ih n (k + 1) hs1 _ (by omega) (by omega) l1
    refine ⟨hs2, by rw [e1, ob_some, ← e2]; rfl, ?_, o1.trans o2⟩
    have : (tx i).drop k = lg (tx i) k :: (tx i).drop (k + 1) := by
      rw [List.drop_eq_getElem_cons (by omega)]
      congr 1
      unfold lg
      rw [List.getElem?_eq_getElem (by omega)]
      rfl
    rw [this]
    exact l2
theorem X3_putWord (h : PgA hs a l) {i : Nat} (hi : i < 55) : ∃ hs', f_X3_putWord a (SBn + i) hs = some hs' ∧ PgA hs' a (padds l (tx i)) ∧ Out hs hs' a 2 := by
  have := str_le hi
  unfold f_X3_putWord
  exact X3_word_loop hi (tx i).length FUEL 0 hs l (by unfold FUEL; omega) (by omega) h
def numTx (v : Int) : List Int := if v < 10 then [48 + v % 10] else [48 + v / 10 % 10, 48 + v % 10]
theorem X3_putNumber (h : PgA hs a l) {v : Int} (h0 : 0 ≤ v) (h1 : v < 128) : ∃ hs', f_X3_putNumber a (ii v) hs = some hs' ∧ PgA hs' a (padds l (numTx v)) ∧ Out hs hs' a 2 := by
  unfold f_X3_putNumber numTx
  by_cases c : v < 10
  · obtain ⟨hs1, e1, l1, o1⟩ := X3_put h (v := 48 + v % 10) (by omega) (by omega)
    rw [if_pos c, if_pos (by rw [il_10, ii_lt (by omega) (by omega) (by omega) (by omega)]; exact c), fm_10 h0 h1, ob_some, h.chk, ob_some, il_48, ii_add, i2c_ch (by omega) (by omega), e1]
    exact ⟨hs1, rfl, l1, o1⟩
  · obtain ⟨hs1, e1, l1, o1⟩ := X3_put h (v := 48 + v / 10 % 10) (by omega) (by omega)
    obtain ⟨hs2, e2, l2, o2⟩ := X3_put l1 (v := 48 + v % 10) (by omega) (by omega)
    rw [if_neg c, if_neg (by rw [il_10, ii_lt (by omega) (by omega) (by omega) (by omega)]; exact c), fm_10 h0 h1, h.chk, ob_some, il_10, ii_div h0 (by omega) (by omega) (by omega), ii_mod (by omega) (by omega) (by omega) (by omega), il_48, ii_add, i2c_ch (by omega) (by omega), e1, ob_some, ob_some, l1.chk, ob_some, ii_add, i2c_ch (by omega) (by omega), e2]
    exact ⟨hs2, rfl, l2, o1.trans o2⟩
/-- the text of a note -/
def altTx (a : Int) : List Int := if a = 0 then [] else if a ≤ 0 then [98] else [35]
def noteTx (c : Int) : List Int := if c = -1 then [45] else lg (tx 16) (c / 3 % 7).toNat :: (altTx (c % 3 - 1) ++ [48 + c / 3 / 7])
theorem noteTx_len (c : Int) : (noteTx c).length ≤ 3 := by
  unfold noteTx altTx
  by_cases h : c = -1
  · rw [if_pos h]; decide
  · rw [if_neg h]
    by_cases h1 : c % 3 - 1 = 0
    · rw [if_pos h1]; simp
    · rw [if_neg h1]
      by_cases h2 : c % 3 - 1 ≤ 0
      · rw [if_pos h2]; simp
      · rw [if_neg h2]; simp
theorem tx16 : (tx 16).length = 7 := by decide +kernel
theorem X3_putNote (h : PgA hs a l) {c : Int} (hc : c = -1 ∨ (42 ≤ c ∧ c ≤ 146)) : ∃ hs', f_X3_putNote a (ii c) hs = some hs' ∧ PgA hs' a (padds l (noteTx c)) ∧ Out hs hs' a 2 := by
  unfold f_X3_putNote noteTx
  by_cases hm : c = -1
  · subst hm
    obtain ⟨hs1, e1, l1, o1⟩ := X3_put h (v := 45) (by omega) (by omega)
    rw [if_pos (show ii (-1) = -1 from rfl), if_pos (show (-1 : Int) = -1 from rfl), h.chk, ob_some, il_45, e1]
    exact ⟨hs1, rfl, l1, o1⟩
  · have hc : 42 ≤ c ∧ c ≤ 146 := by omega
    have t16 := tx16
    have b : 32 ≤ lg (tx 16) (c / 3 % 7).toNat ∧ lg (tx 16) (c / 3 % 7).toNat ≤ 126 := tx_tab ⟨16, by decide⟩ _ (lg_mem (show (c / 3 % 7).toNat < (tx 16).length by omega))
    obtain ⟨hs1, e1, l1, o1⟩ := X3_put h (v := lg (tx 16) (c / 3 % 7).toNat) (by omega) (by omega)
    have hk : f_X8_stepOf (ii c) = some (ii (c / 3)) := by unfold f_X8_stepOf; rw [il_3, ii_div (by omega) (by omega) (by omega) (by omega)]
    have ha : f_X8_alterationOf (ii c) = some (ii (c % 3 - 1)) := by unfold f_X8_alterationOf; rw [il_3, ii_mod (by omega) (by omega) (by omega) (by omega), il_1, ii_sub]
    rw [if_neg hm, if_neg (by rw [il_m1, ii_eq (by omega) (by omega) (by omega) (by omega)]; exact hm), hk, ob_some, fm_7 (by omega) (by omega), ob_some, str_chk (by decide), ob_some, str_chr (by decide) (by omega) (by omega), ob_some, h.chk, ob_some, e1, ob_some, ha, ob_some]
    unfold altTx
    simp (disch := omega) only [l1.chk, i2c_ch, ii_add, ii_sub, ii_mul, ii_neg, ii_div, ii_lt, ii_le, ii_eq, ob_some, il_0, il_1, il_2, il_3, il_4, il_5, il_6, il_7, il_8, il_9, il_10, il_11, il_12, il_13, il_14, il_15, il_16, il_17, il_18, il_19, il_20, il_21, il_22, il_23, il_24, il_25, il_26, il_27, il_28, il_29, il_30, il_31, il_32, il_33, il_34, il_35, il_36, il_37, il_38, il_39, il_40, il_41, il_42, il_43, il_44, il_45, il_46, il_47, il_48, il_49, il_50, il_51, il_52, il_53, il_54, il_55, il_56, il_57, il_58, il_59, il_60, il_61, il_62, il_63, il_64, il_65, il_66, il_67, il_68, il_69, il_70, il_71, il_72, il_73, il_74, il_75, il_76, il_77, il_78, il_79, il_80, il_81, il_82, il_83, il_84, il_85, il_86, il_87, il_88, il_89, il_90, il_91, il_92, il_93, il_94, il_95, il_96, il_97, il_98, il_99, il_100, il_101, il_102, il_103, il_104, il_105, il_106, il_107, il_108, il_109, il_110, il_111, il_112, il_113, il_114, il_115, il_116, il_117, il_118, il_119, il_120, il_121, il_122, il_123, il_124, il_125, il_126, il_127, il_128, il_129, il_130, il_131, il_132, il_133, il_134, il_135, il_136, il_137, il_138, il_139, il_140, il_141, il_142, il_143, il_144, il_145, il_146, il_147, il_148, il_149, il_150, il_151, il_152, il_153, il_154, il_155, il_156, il_157, il_158, il_159, il_160, il_161, il_162, il_163, il_164, il_165, il_166, il_167, il_168, il_169, il_170, il_171, il_172, il_173, il_174, il_175, il_176, il_177, il_178, il_179, il_180, il_181, il_182, il_183, il_184, il_185, il_186, il_187, il_188, il_189, il_190, il_191, il_192, il_193, il_194, il_195, il_196, il_197, il_198, il_199, il_200, il_201, il_202, il_203, il_204, il_205, il_206, il_207, il_208, il_209, il_210, il_211, il_212, il_213, il_214, il_215, il_216, il_217, il_218, il_219, il_220, il_221, il_222, il_223, il_224, il_225, il_226, il_227, il_228, il_229, il_230, il_231, il_232, il_233, il_234, il_235, il_236, il_237, il_238, il_239, il_240, il_241, il_242, il_243, il_244, il_245, il_246, il_247, il_248, il_249, il_250, il_251, il_252, il_253, il_254, il_255, il_400, il_480, il_1023, il_2880, il_3000, il_6000, il_m1, il_m8]
    by_cases h1 : c % 3 - 1 = 0
    · rw [if_pos h1, if_pos h1]
      obtain ⟨hs2, e2, l2, o2⟩ := X3_put l1 (v := 48 + c / 3 / 7) (by omega) (by omega)
      rw [e2]
      exact ⟨hs2, rfl, l2, o1.trans o2⟩
    · rw [if_neg h1, if_neg h1]
      by_cases h2 : c % 3 - 1 ≤ 0
      · rw [if_pos h2, if_pos h2]
        obtain ⟨hs2, e2, l2, o2⟩ := X3_put l1 (v := 98) (by omega) (by omega)
        obtain ⟨hs3, e3, l3, o3⟩ := X3_put l2 (v := 48 + c / 3 / 7) (by omega) (by omega)
        unfold f_X3_putNote_b54
        simp (disch := omega) only [l1.chk, i2c_ch, e2, l2.chk, e3, ii_add, ii_sub, ii_mul, ii_neg, ii_div, ii_lt, ii_le, ii_eq, ob_some, il_0, il_1, il_2, il_3, il_4, il_5, il_6, il_7, il_8, il_9, il_10, il_11, il_12, il_13, il_14, il_15, il_16, il_17, il_18, il_19, il_20, il_21, il_22, il_23, il_24, il_25, il_26, il_27, il_28, il_29, il_30, il_31, il_32, il_33, il_34, il_35, il_36, il_37, il_38, il_39, il_40, il_41, il_42, il_43, il_44, il_45, il_46, il_47, il_48, il_49, il_50, il_51, il_52, il_53, il_54, il_55, il_56, il_57, il_58, il_59, il_60, il_61, il_62, il_63, il_64, il_65, il_66, il_67, il_68, il_69, il_70, il_71, il_72, il_73, il_74, il_75, il_76, il_77, il_78, il_79, il_80, il_81, il_82, il_83, il_84, il_85, il_86, il_87, il_88, il_89, il_90, il_91, il_92, il_93, il_94, il_95, il_96, il_97, il_98, il_99, il_100, il_101, il_102, il_103, il_104, il_105, il_106, il_107, il_108, il_109, il_110, il_111, il_112, il_113, il_114, il_115, il_116, il_117, il_118, il_119, il_120, il_121, il_122, il_123, il_124, il_125, il_126, il_127, il_128, il_129, il_130, il_131, il_132, il_133, il_134, il_135, il_136, il_137, il_138, il_139, il_140, il_141, il_142, il_143, il_144, il_145, il_146, il_147, il_148, il_149, il_150, il_151, il_152, il_153, il_154, il_155, il_156, il_157, il_158, il_159, il_160, il_161, il_162, il_163, il_164, il_165, il_166, il_167, il_168, il_169, il_170, il_171, il_172, il_173, il_174, il_175, il_176, il_177, il_178, il_179, il_180, il_181, il_182, il_183, il_184, il_185, il_186, il_187, il_188, il_189, il_190, il_191, il_192, il_193, il_194, il_195, il_196, il_197, il_198, il_199, il_200, il_201, il_202, il_203, il_204, il_205, il_206, il_207, il_208, il_209, il_210, il_211, il_212, il_213, il_214, il_215, il_216, il_217, il_218, il_219, il_220, il_221, il_222, il_223, il_224, il_225, il_226, il_227, il_228, il_229, il_230, il_231, il_232, il_233, il_234, il_235, il_236, il_237, il_238, il_239, il_240, il_241, il_242, il_243, il_244, il_245, il_246, il_247, il_248, il_249, il_250, il_251, il_252, il_253, il_254, il_255, il_400, il_480, il_1023, il_2880, il_3000, il_6000, il_m1, il_m8]
        exact ⟨hs3, rfl, l3, o1.trans (o2.trans o3)⟩
      · rw [if_neg h2, if_neg h2]
        obtain ⟨hs2, e2, l2, o2⟩ := X3_put l1 (v := 35) (by omega) (by omega)
        obtain ⟨hs3, e3, l3, o3⟩ := X3_put l2 (v := 48 + c / 3 / 7) (by omega) (by omega)
        unfold f_X3_putNote_b54
        simp (disch := omega) only [l1.chk, i2c_ch, e2, l2.chk, e3, ii_add, ii_sub, ii_mul, ii_neg, ii_div, ii_lt, ii_le, ii_eq, ob_some, il_0, il_1, il_2, il_3, il_4, il_5, il_6, il_7, il_8, il_9, il_10, il_11, il_12, il_13, il_14, il_15, il_16, il_17, il_18, il_19, il_20, il_21, il_22, il_23, il_24, il_25, il_26, il_27, il_28, il_29, il_30, il_31, il_32, il_33, il_34, il_35, il_36, il_37, il_38, il_39, il_40, il_41, il_42, il_43, il_44, il_45, il_46, il_47, il_48, il_49, il_50, il_51, il_52, il_53, il_54, il_55, il_56, il_57, il_58, il_59, il_60, il_61, il_62, il_63, il_64, il_65, il_66, il_67, il_68, il_69, il_70, il_71, il_72, il_73, il_74, il_75, il_76, il_77, il_78, il_79, il_80, il_81, il_82, il_83, il_84, il_85, il_86, il_87, il_88, il_89, il_90, il_91, il_92, il_93, il_94, il_95, il_96, il_97, il_98, il_99, il_100, il_101, il_102, il_103, il_104, il_105, il_106, il_107, il_108, il_109, il_110, il_111, il_112, il_113, il_114, il_115, il_116, il_117, il_118, il_119, il_120, il_121, il_122, il_123, il_124, il_125, il_126, il_127, il_128, il_129, il_130, il_131, il_132, il_133, il_134, il_135, il_136, il_137, il_138, il_139, il_140, il_141, il_142, il_143, il_144, il_145, il_146, il_147, il_148, il_149, il_150, il_151, il_152, il_153, il_154, il_155, il_156, il_157, il_158, il_159, il_160, il_161, il_162, il_163, il_164, il_165, il_166, il_167, il_168, il_169, il_170, il_171, il_172, il_173, il_174, il_175, il_176, il_177, il_178, il_179, il_180, il_181, il_182, il_183, il_184, il_185, il_186, il_187, il_188, il_189, il_190, il_191, il_192, il_193, il_194, il_195, il_196, il_197, il_198, il_199, il_200, il_201, il_202, il_203, il_204, il_205, il_206, il_207, il_208, il_209, il_210, il_211, il_212, il_213, il_214, il_215, il_216, il_217, il_218, il_219, il_220, il_221, il_222, il_223, il_224, il_225, il_226, il_227, il_228, il_229, il_230, il_231, il_232, il_233, il_234, il_235, il_236, il_237, il_238, il_239, il_240, il_241, il_242, il_243, il_244, il_245, il_246, il_247, il_248, il_249, il_250, il_251, il_252, il_253, il_254, il_255, il_400, il_480, il_1023, il_2880, il_3000, il_6000, il_m1, il_m8]
        exact ⟨hs3, rfl, l3, o1.trans (o2.trans o3)⟩
/-- the text of the first k notes of a line -/
def lineTx (c : List Int) : Nat → List Int
  | 0 => []
  | k + 1 => lineTx c k ++ ((if k = 0 then [] else [44]) ++ noteTx (lg c k))
theorem lineTx_len (c : List Int) : ∀ k, (lineTx c k).length ≤ 4 * k
  | 0 => Nat.le_refl _
  | k + 1 => by
    have h1 := lineTx_len c k
    have h2 := noteTx_len (lg c k)
    unfold lineTx
    rw [List.length_append, List.length_append]
    by_cases h : k = 0
    · rw [if_pos h]; simp; omega
    · rw [if_neg h]; simp; omega
theorem X3_line_loop {b : Nat} {c : List Int} (hab : a + 2 ≤ b ∨ b + 2 ≤ a) (hc : ∀ x ∈ c, x = -1 ∨ (42 ≤ x ∧ x ≤ 146)) : ∀ (d n k : Nat) (hs : AH), d < n → k + d = c.length → LnA hs b c → PgA hs a (lineTx c k) → ∃ hs', f_X3_putLine_b2 n a b (ii k) hs = some hs' ∧ PgA hs' a (lineTx c c.length) ∧ Out hs hs' a 2 := by
  intro d
  induction d with
  | zero =>
    intro n k hs hn hk hb h
    obtain ⟨n, rfl⟩ : ∃ z, n = z + 1 := ⟨n - 1, by omega⟩
    have := hb.le
    unfold f_X3_putLine_b2
    simp (disch := omega) only [hb.chk, X2_size hb, ii_add, ii_sub, ii_mul, ii_neg, ii_div, ii_lt, ii_le, ii_eq, ob_some, il_0, il_1, il_2, il_3, il_4, il_5, il_6, il_7, il_8, il_9, il_10, il_11, il_12, il_13, il_14, il_15, il_16, il_17, il_18, il_19, il_20, il_21, il_22, il_23, il_24, il_25, il_26, il_27, il_28, il_29, il_30, il_31, il_32, il_33, il_34, il_35, il_36, il_37, il_38, il_39, il_40, il_41, il_42, il_43, il_44, il_45, il_46, il_47, il_48, il_49, il_50, il_51, il_52, il_53, il_54, il_55, il_56, il_57, il_58, il_59, il_60, il_61, il_62, il_63, il_64, il_65, il_66, il_67, il_68, il_69, il_70, il_71, il_72, il_73, il_74, il_75, il_76, il_77, il_78, il_79, il_80, il_81, il_82, il_83, il_84, il_85, il_86, il_87, il_88, il_89, il_90, il_91, il_92, il_93, il_94, il_95, il_96, il_97, il_98, il_99, il_100, il_101, il_102, il_103, il_104, il_105, il_106, il_107, il_108, il_109, il_110, il_111, il_112, il_113, il_114, il_115, il_116, il_117, il_118, il_119, il_120, il_121, il_122, il_123, il_124, il_125, il_126, il_127, il_128, il_129, il_130, il_131, il_132, il_133, il_134, il_135, il_136, il_137, il_138, il_139, il_140, il_141, il_142, il_143, il_144, il_145, il_146, il_147, il_148, il_149, il_150, il_151, il_152, il_153, il_154, il_155, il_156, il_157, il_158, il_159, il_160, il_161, il_162, il_163, il_164, il_165, il_166, il_167, il_168, il_169, il_170, il_171, il_172, il_173, il_174, il_175, il_176, il_177, il_178, il_179, il_180, il_181, il_182, il_183, il_184, il_185, il_186, il_187, il_188, il_189, il_190, il_191, il_192, il_193, il_194, il_195, il_196, il_197, il_198, il_199, il_200, il_201, il_202, il_203, il_204, il_205, il_206, il_207, il_208, il_209, il_210, il_211, il_212, il_213, il_214, il_215, il_216, il_217, il_218, il_219, il_220, il_221, il_222, il_223, il_224, il_225, il_226, il_227, il_228, il_229, il_230, il_231, il_232, il_233, il_234, il_235, il_236, il_237, il_238, il_239, il_240, il_241, il_242, il_243, il_244, il_245, il_246, il_247, il_248, il_249, il_250, il_251, il_252, il_253, il_254, il_255, il_400, il_480, il_1023, il_2880, il_3000, il_6000, il_m1, il_m8]
    rw [if_pos (show (c.length : Int) ≤ k by omega)]
    obtain rfl : k = c.length := by omega
    exact ⟨hs, rfl, h, Out.refl _ _ _⟩
  | succ d ih =>
    intro n k hs hn hk hb h
    obtain ⟨n, rfl⟩ : ∃ z, n = z + 1 := ⟨n - 1, by omega⟩
    have := hb.le
    have hck := hc _ (lg_mem (show k < c.length by omega))
    have l0 := lineTx_len c k
    have l9 := noteTx_len (lg c k)
    unfold f_X3_putLine_b2
    simp (disch := omega) only [hb.chk, X2_size hb, h.chk, X2_at hb, ii_add, ii_sub, ii_mul, ii_neg, ii_div, ii_lt, ii_le, ii_eq, ob_some, il_0, il_1, il_2, il_3, il_4, il_5, il_6, il_7, il_8, il_9, il_10, il_11, il_12, il_13, il_14, il_15, il_16, il_17, il_18, il_19, il_20, il_21, il_22, il_23, il_24, il_25, il_26, il_27, il_28, il_29, il_30, il_31, il_32, il_33, il_34, il_35, il_36, il_37, il_38, il_39, il_40, il_41, il_42, il_43, il_44, il_45, il_46, il_47, il_48, il_49, il_50, il_51, il_52, il_53, il_54, il_55, il_56, il_57, il_58, il_59, il_60, il_61, il_62, il_63, il_64, il_65, il_66, il_67, il_68, il_69, il_70, il_71, il_72, il_73, il_74, il_75, il_76, il_77, il_78, il_79, il_80, il_81, il_82, il_83, il_84, il_85, il_86, il_87, il_88, il_89, il_90, il_91, il_92, il_93, il_94, il_95, il_96, il_97, il_98, il_99, il_100, il_101, il_102, il_103, il_104, il_105, il_106, il_107, il_108, il_109, il_110, il_111, il_112, il_113, il_114, il_115, il_116, il_117, il_118, il_119, il_120, il_121, il_122, il_123, il_124, il_125, il_126, il_127, il_128, il_129, il_130, il_131, il_132, il_133, il_134, il_135, il_136, il_137, il_138, il_139, il_140, il_141, il_142, il_143, il_144, il_145, il_146, il_147, il_148, il_149, il_150, il_151, il_152, il_153, il_154, il_155, il_156, il_157, il_158, il_159, il_160, il_161, il_162, il_163, il_164, il_165, il_166, il_167, il_168, il_169, il_170, il_171, il_172, il_173, il_174, il_175, il_176, il_177, il_178, il_179, il_180, il_181, il_182, il_183, il_184, il_185, il_186, il_187, il_188, il_189, il_190, il_191, il_192, il_193, il_194, il_195, il_196, il_197, il_198, il_199, il_200, il_201, il_202, il_203, il_204, il_205, il_206, il_207, il_208, il_209, il_210, il_211, il_212, il_213, il_214, il_215, il_216, il_217, il_218, il_219, il_220, il_221, il_222, il_223, il_224, il_225, il_226, il_227, il_228, il_229, il_230, il_231, il_232, il_233, il_234, il_235, il_236, il_237, il_238, il_239, il_240, il_241, il_242, il_243, il_244, il_245, il_246, il_247, il_248, il_249, il_250, il_251, il_252, il_253, il_254, il_255, il_400, il_480, il_1023, il_2880, il_3000, il_6000, il_m1, il_m8]
    rw [if_neg (show ¬ (c.length : Int) ≤ k by omega), lat_nat]
    by_cases h0 : k = 0
    · subst h0
      rw [if_pos (show ((0 : Nat) : Int) ≤ 0 by omega)]
      obtain ⟨hs1, e1, l1, o1⟩ := X3_putNote h hck
      rw [padds_eq _ _ (by omega)] at l1
      obtain ⟨hs2, e2, l2, o2⟩ := ih n 1 hs1 (by omega) (by omega) (hb.out o1 (by omega)) l1
      refine ⟨hs2, by rw [e1, ob_some, ← e2]; rfl, l2, o1.trans o2⟩
    · rw [if_neg (show ¬ (k : Int) ≤ 0 by omega)]
      obtain ⟨hs1, e1, l1, o1⟩ := X3_put h (v := 44) (by omega) (by omega)
      have b1 := hb.out o1 (by omega)
      obtain ⟨hs2, e2, l2, o2⟩ := X3_putNote l1 hck
      have he : padds (padd (lineTx c k) 44) (noteTx (lg c k)) = lineTx c (k + 1) := by
        rw [← padds_one, ← padds_app, padds_eq _ _ (by simp; omega)]
        show _ = lineTx c k ++ ((if k = 0 then [] else [44]) ++ noteTx (lg c k))
        rw [if_neg h0]
      rw [he] at l2
      obtain ⟨hs3, e3, l3, o3⟩ := ih n (k + 1) hs2 (by omega) (by omega) (b1.out o2 (by omega)) l2
      refine ⟨hs3, ?_, l3, o1.trans (o2.trans o3)⟩
      rw [e1, ob_some, b1.chk, ob_some, X2_at b1 (by omega) (by omega), ob_some, l1.chk, ob_some, lat_nat, e2, ob_some, ← e3]
      rfl
theorem X3_putLine {b : Nat} {c : List Int} (hab : a + 2 ≤ b ∨ b + 2 ≤ a) (hc : ∀ x ∈ c, x = -1 ∨ (42 ≤ x ∧ x ≤ 146)) (hb : LnA hs b c) (h : PgA hs a []) : ∃ hs', f_X3_putLine a b hs = some hs' ∧ PgA hs' a (lineTx c c.length) ∧ Out hs hs' a 2 := by
  have := hb.le
  unfold f_X3_putLine
  exact X3_line_loop hab hc c.length FUEL 0 hs (by unfold FUEL; omega) (by omega) hb h
end PAGE
