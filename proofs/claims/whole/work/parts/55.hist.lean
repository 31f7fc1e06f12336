/-! ===== a sheet copied; the ring of sheets ===== -/
theorem pI_x {hs : AH} {a ci k : Nat} {fs : List Value} (x : Int32) (h : hs[a]? = some (.inr (ci, fs))) (hk : k < fs.length) : ∃ hs', pI hs a ci k x = some hs' ∧ hs'[a]? = some (.inr (ci, fs.set k (.int x))) ∧ Out hs hs' a 1 := ⟨_, pI_of x h hk, set_at h, Out.set _ _ _⟩
theorem pZ_x {hs : AH} {a ci k : Nat} {fs : List Value} {x : Int} (h : hs[a]? = some (.inr (ci, fs))) (hk : k < fs.length) (hx : x = 0 ∨ x = 1) : ∃ hs', pZ hs a ci k (ii x) = some hs' ∧ hs'[a]? = some (.inr (ci, fs.set k (.int (ii x)))) ∧ Out hs hs' a 1 := ⟨_, pZ_of h hk hx, set_at h, Out.set _ _ _⟩
section COPY
variable {a b : Nat} {t : Sh} {u v : Value}
theorem X6_copy_w : ∀ (d n k : Nat) (hs : AH) (x : List Int), d < n → k + d = 17 → a + 7 ≤ b ∨ b + 7 ≤ a → hs[a]? = some (.inr (6, [.ref (a + 1), .ref (a + 3), u, v, .ref (a + 5), .ref (a + 6)])) → ShA hs b t → t.wt.length = 17 → x.length = 17 → ArA 0 hs (a + 6) 17 (t.wt.take k ++ x.drop k) →
    ∃ hs', f_X6_copyFrom_b65 n a b (ii k) hs = some hs' ∧ ArA 0 hs' (a + 6) 17 t.wt ∧ Out hs hs' (a + 6) 1 := by
  intro d
  induction d with
  | zero =>
    intro n k hs x hn hk hab ga hb hw hx ha
    obtain ⟨n, rfl⟩ : ∃ z, n = z + 1 := ⟨n - 1, by omega⟩
    obtain rfl : k = 17 := by omega
    unfold f_X6_copyFrom_b65
    simp (disch := omega) only [ii_add, ii_sub, ii_mul, ii_neg, ii_div, ii_lt, ii_le, ii_eq, ob_some, il_0, il_1, il_2, il_3, il_4, il_5, il_6, il_7, il_8, il_9, il_10, il_11, il_12, il_13, il_14, il_15, il_16, il_17, il_18, il_19, il_20, il_21, il_22, il_23, il_24, il_25, il_26, il_27, il_28, il_29, il_30, il_31, il_32, il_33, il_34, il_35, il_36, il_37, il_38, il_39, il_40, il_41, il_42, il_43, il_44, il_45, il_46, il_47, il_48, il_49, il_50, il_51, il_52, il_53, il_54, il_55, il_56, il_57, il_58, il_59, il_60, il_61, il_62, il_63, il_64, il_65, il_66, il_67, il_68, il_69, il_70, il_71, il_72, il_73, il_74, il_75, il_76, il_77, il_78, il_79, il_80, il_81, il_82, il_83, il_84, il_85, il_86, il_87, il_88, il_89, il_90, il_91, il_92, il_93, il_94, il_95, il_96, il_97, il_98, il_99, il_100, il_101, il_102, il_103, il_104, il_105, il_106, il_107, il_108, il_109, il_110, il_111, il_112, il_113, il_114, il_115, il_116, il_117, il_118, il_119, il_120, il_121, il_122, il_123, il_124, il_125, il_126, il_127, il_128, il_129, il_130, il_131, il_132, il_133, il_134, il_135, il_136, il_137, il_138, il_139, il_140, il_141, il_142, il_143, il_144, il_145, il_146, il_147, il_148, il_149, il_150, il_151, il_152, il_153, il_154, il_155, il_156, il_157, il_158, il_159, il_160, il_161, il_162, il_163, il_164, il_165, il_166, il_167, il_168, il_169, il_170, il_171, il_172, il_173, il_174, il_175, il_176, il_177, il_178, il_179, il_180, il_181, il_182, il_183, il_184, il_185, il_186, il_187, il_188, il_189, il_190, il_191, il_192, il_193, il_194, il_195, il_196, il_197, il_198, il_199, il_200, il_201, il_202, il_203, il_204, il_205, il_206, il_207, il_208, il_209, il_210, il_211, il_212, il_213, il_214, il_215, il_216, il_217, il_218, il_219, il_220, il_221, il_222, il_223, il_224, il_225, il_226, il_227, il_228, il_229, il_230, il_231, il_232, il_233, il_234, il_235, il_236, il_237, il_238, il_239, il_240, il_241, il_242, il_243, il_244, il_245, il_246, il_247, il_248, il_249, il_250, il_251, il_252, il_253, il_254, il_255, il_400, il_480, il_1023, il_2880, il_3000, il_6000, il_m1, il_m8]
    rw [List.take_of_length_le (by omega), List.drop_of_length_le (by omega), List.append_nil] at ha
    exact ⟨hs, rfl, ha, Out.refl _ _ _⟩
  | succ d ih =>
    intro n k hs x hn hk hab ga hb hw hx ha
    obtain ⟨n, rfl⟩ : ∃ z, n = z + 1 := ⟨n - 1, by omega⟩
    have g : gR hs a 6 5 = some (a + 6) := gR_of ga rfl
    unfold f_X6_copyFrom_b65
    simp (disch := omega) only [g, hb.wt, hb.2.2.2.2.get, ii_add, ii_sub, ii_mul, ii_neg, ii_div, ii_lt, ii_le, ii_eq, ob_some, il_0, il_1, il_2, il_3, il_4, il_5, il_6, il_7, il_8, il_9, il_10, il_11, il_12, il_13, il_14, il_15, il_16, il_17, il_18, il_19, il_20, il_21, il_22, il_23, il_24, il_25, il_26, il_27, il_28, il_29, il_30, il_31, il_32, il_33, il_34, il_35, il_36, il_37, il_38, il_39, il_40, il_41, il_42, il_43, il_44, il_45, il_46, il_47, il_48, il_49, il_50, il_51, il_52, il_53, il_54, il_55, il_56, il_57, il_58, il_59, il_60, il_61, il_62, il_63, il_64, il_65, il_66, il_67, il_68, il_69, il_70, il_71, il_72, il_73, il_74, il_75, il_76, il_77, il_78, il_79, il_80, il_81, il_82, il_83, il_84, il_85, il_86, il_87, il_88, il_89, il_90, il_91, il_92, il_93, il_94, il_95, il_96, il_97, il_98, il_99, il_100, il_101, il_102, il_103, il_104, il_105, il_106, il_107, il_108, il_109, il_110, il_111, il_112, il_113, il_114, il_115, il_116, il_117, il_118, il_119, il_120, il_121, il_122, il_123, il_124, il_125, il_126, il_127, il_128, il_129, il_130, il_131, il_132, il_133, il_134, il_135, il_136, il_137, il_138, il_139, il_140, il_141, il_142, il_143, il_144, il_145, il_146, il_147, il_148, il_149, il_150, il_151, il_152, il_153, il_154, il_155, il_156, il_157, il_158, il_159, il_160, il_161, il_162, il_163, il_164, il_165, il_166, il_167, il_168, il_169, il_170, il_171, il_172, il_173, il_174, il_175, il_176, il_177, il_178, il_179, il_180, il_181, il_182, il_183, il_184, il_185, il_186, il_187, il_188, il_189, il_190, il_191, il_192, il_193, il_194, il_195, il_196, il_197, il_198, il_199, il_200, il_201, il_202, il_203, il_204, il_205, il_206, il_207, il_208, il_209, il_210, il_211, il_212, il_213, il_214, il_215, il_216, il_217, il_218, il_219, il_220, il_221, il_222, il_223, il_224, il_225, il_226, il_227, il_228, il_229, il_230, il_231, il_232, il_233, il_234, il_235, il_236, il_237, il_238, il_239, il_240, il_241, il_242, il_243, il_244, il_245, il_246, il_247, il_248, il_249, il_250, il_251, il_252, il_253, il_254, il_255, il_400, il_480, il_1023, il_2880, il_3000, il_6000, il_m1, il_m8]
    rw [if_neg (show ¬ (16 : Int) < k by omega)]
    have hl := len_cpy (x := x) (y := t.wt) (k := k) (by omega) (by omega)
    obtain ⟨hs1, e1, l1, o1⟩ := ha.put (z := k) (lg t.wt ((k : Int).toNat)) (by omega) (by omega) (by decide)
    rw [Int.toNat_natCast, cpy_step (by omega) (by omega)] at l1
    rw [e1, ob_some]
    obtain ⟨hs2, e2, l2, o2⟩ := ih n (k + 1) hs1 x (by omega) (by omega) hab (o1.at ga (by omega)) (hb.out o1 (by omega)) hw hx l1
    exact ⟨hs2, by rw [← e2]; rfl, l2, o1.trans o2⟩
theorem X6_copy_s : ∀ (d n k : Nat) (hs : AH) (x y : List Int), d < n → k + d = 3 → a + 7 ≤ b ∨ b + 7 ≤ a → hs[a]? = some (.inr (6, [.ref (a + 1), .ref (a + 3), u, v, .ref (a + 5), .ref (a + 6)])) → ShA hs b t → t.st.length = 3 → x.length = 3 → ArA 0 hs (a + 5) 3 (t.st.take k ++ x.drop k) → t.wt.length = 17 → y.length = 17 → lg y 0 = lg t.wt 0 → ArA 0 hs (a + 6) 17 y →
    ∃ hs', f_X6_copyFrom_b40 n a b (ii k) hs = some hs' ∧ ArA 0 hs' (a + 5) 3 t.st ∧ ArA 0 hs' (a + 6) 17 t.wt ∧ Out hs hs' (a + 5) 2 := by
  intro d
  induction d with
  | zero =>
    intro n k hs x y hn hk hab ga hb hw hx ha hw2 hy h0 hay
    obtain ⟨n, rfl⟩ : ∃ z, n = z + 1 := ⟨n - 1, by omega⟩
    obtain rfl : k = 3 := by omega
    unfold f_X6_copyFrom_b40
    simp (disch := omega) only [ii_add, ii_sub, ii_mul, ii_neg, ii_div, ii_lt, ii_le, ii_eq, ob_some, il_0, il_1, il_2, il_3, il_4, il_5, il_6, il_7, il_8, il_9, il_10, il_11, il_12, il_13, il_14, il_15, il_16, il_17, il_18, il_19, il_20, il_21, il_22, il_23, il_24, il_25, il_26, il_27, il_28, il_29, il_30, il_31, il_32, il_33, il_34, il_35, il_36, il_37, il_38, il_39, il_40, il_41, il_42, il_43, il_44, il_45, il_46, il_47, il_48, il_49, il_50, il_51, il_52, il_53, il_54, il_55, il_56, il_57, il_58, il_59, il_60, il_61, il_62, il_63, il_64, il_65, il_66, il_67, il_68, il_69, il_70, il_71, il_72, il_73, il_74, il_75, il_76, il_77, il_78, il_79, il_80, il_81, il_82, il_83, il_84, il_85, il_86, il_87, il_88, il_89, il_90, il_91, il_92, il_93, il_94, il_95, il_96, il_97, il_98, il_99, il_100, il_101, il_102, il_103, il_104, il_105, il_106, il_107, il_108, il_109, il_110, il_111, il_112, il_113, il_114, il_115, il_116, il_117, il_118, il_119, il_120, il_121, il_122, il_123, il_124, il_125, il_126, il_127, il_128, il_129, il_130, il_131, il_132, il_133, il_134, il_135, il_136, il_137, il_138, il_139, il_140, il_141, il_142, il_143, il_144, il_145, il_146, il_147, il_148, il_149, il_150, il_151, il_152, il_153, il_154, il_155, il_156, il_157, il_158, il_159, il_160, il_161, il_162, il_163, il_164, il_165, il_166, il_167, il_168, il_169, il_170, il_171, il_172, il_173, il_174, il_175, il_176, il_177, il_178, il_179, il_180, il_181, il_182, il_183, il_184, il_185, il_186, il_187, il_188, il_189, il_190, il_191, il_192, il_193, il_194, il_195, il_196, il_197, il_198, il_199, il_200, il_201, il_202, il_203, il_204, il_205, il_206, il_207, il_208, il_209, il_210, il_211, il_212, il_213, il_214, il_215, il_216, il_217, il_218, il_219, il_220, il_221, il_222, il_223, il_224, il_225, il_226, il_227, il_228, il_229, il_230, il_231, il_232, il_233, il_234, il_235, il_236, il_237, il_238, il_239, il_240, il_241, il_242, il_243, il_244, il_245, il_246, il_247, il_248, il_249, il_250, il_251, il_252, il_253, il_254, il_255, il_400, il_480, il_1023, il_2880, il_3000, il_6000, il_m1, il_m8]
    rw [List.take_of_length_le (by omega), List.drop_of_length_le (by omega), List.append_nil] at ha
    rw [cpy_one (x := y) (y := t.wt) (by omega) h0 (by omega)] at hay
    obtain ⟨hs1, e1, l1, o1⟩ := X6_copy_w 16 FUEL 1 hs y (by unfold FUEL; omega) rfl hab ga hb hw2 hy hay
    exact ⟨hs1, by rw [if_pos (show (3 : Int) ≤ ((3 : Nat) : Int) by omega)]; exact e1, ha.out o1 (by omega), l1, o1.mono (by omega) (by omega)⟩
  | succ d ih =>
    intro n k hs x y hn hk hab ga hb hw hx ha hw2 hy h0 hay
    obtain ⟨n, rfl⟩ : ∃ z, n = z + 1 := ⟨n - 1, by omega⟩
    have g : gR hs a 6 4 = some (a + 5) := gR_of ga rfl
    unfold f_X6_copyFrom_b40
    simp (disch := omega) only [g, hb.st, hb.2.2.2.1.get, ii_add, ii_sub, ii_mul, ii_neg, ii_div, ii_lt, ii_le, ii_eq, ob_some, il_0, il_1, il_2, il_3, il_4, il_5, il_6, il_7, il_8, il_9, il_10, il_11, il_12, il_13, il_14, il_15, il_16, il_17, il_18, il_19, il_20, il_21, il_22, il_23, il_24, il_25, il_26, il_27, il_28, il_29, il_30, il_31, il_32, il_33, il_34, il_35, il_36, il_37, il_38, il_39, il_40, il_41, il_42, il_43, il_44, il_45, il_46, il_47, il_48, il_49, il_50, il_51, il_52, il_53, il_54, il_55, il_56, il_57, il_58, il_59, il_60, il_61, il_62, il_63, il_64, il_65, il_66, il_67, il_68, il_69, il_70, il_71, il_72, il_73, il_74, il_75, il_76, il_77, il_78, il_79, il_80, il_81, il_82, il_83, il_84, il_85, il_86, il_87, il_88, il_89, il_90, il_91, il_92, il_93, il_94, il_95, il_96, il_97, il_98, il_99, il_100, il_101, il_102, il_103, il_104, il_105, il_106, il_107, il_108, il_109, il_110, il_111, il_112, il_113, il_114, il_115, il_116, il_117, il_118, il_119, il_120, il_121, il_122, il_123, il_124, il_125, il_126, il_127, il_128, il_129, il_130, il_131, il_132, il_133, il_134, il_135, il_136, il_137, il_138, il_139, il_140, il_141, il_142, il_143, il_144, il_145, il_146, il_147, il_148, il_149, il_150, il_151, il_152, il_153, il_154, il_155, il_156, il_157, il_158, il_159, il_160, il_161, il_162, il_163, il_164, il_165, il_166, il_167, il_168, il_169, il_170, il_171, il_172, il_173, il_174, il_175, il_176, il_177, il_178, il_179, il_180, il_181, il_182, il_183, il_184, il_185, il_186, il_187, il_188, il_189, il_190, il_191, il_192, il_193, il_194, il_195, il_196, il_197, il_198, il_199, il_200, il_201, il_202, il_203, il_204, il_205, il_206, il_207, il_208, il_209, il_210, il_211, il_212, il_213, il_214, il_215, il_216, il_217, il_218, il_219, il_220, il_221, il_222, il_223, il_224, il_225, il_226, il_227, il_228, il_229, il_230, il_231, il_232, il_233, il_234, il_235, il_236, il_237, il_238, il_239, il_240, il_241, il_242, il_243, il_244, il_245, il_246, il_247, il_248, il_249, il_250, il_251, il_252, il_253, il_254, il_255, il_400, il_480, il_1023, il_2880, il_3000, il_6000, il_m1, il_m8]
    rw [if_neg (show ¬ (3 : Int) ≤ k by omega)]
    have hl := len_cpy (x := x) (y := t.st) (k := k) (by omega) (by omega)
    obtain ⟨hs1, e1, l1, o1⟩ := ha.put (z := k) (lg t.st ((k : Int).toNat)) (by omega) (by omega) (by decide)
    rw [Int.toNat_natCast, cpy_step (by omega) (by omega)] at l1
    rw [e1, ob_some]
    obtain ⟨hs2, e2, l2, l3, o2⟩ := ih n (k + 1) hs1 x y (by omega) (by omega) hab (o1.at ga (by omega)) (hb.out o1 (by omega)) hw hx l1 hw2 hy h0 (hay.out o1 (by omega))
    exact ⟨hs2, by rw [← e2]; rfl, l2, l3, (o1.mono (by omega) (by omega)).trans o2⟩
theorem X6_copyFrom {hs : AH} {s : Sh} (hab : a + 7 ≤ b ∨ b + 7 ≤ a) (ha : ShA hs a s) (ka : SOK s) (hb : ShA hs b t) (kb : SOK t) : ∃ hs', f_X6_copyFrom a b hs = some hs' ∧ ShA hs' a t ∧ Out hs hs' a 7 := by
  unfold f_X6_copyFrom
  rw [ha.g, ob_some, hb.g, ob_some, ha.2.1.chk, ob_some]
  obtain ⟨h1, e1, l1, o1⟩ := X2_copyFrom (a := a + 1) (b := b + 1) (by omega) ha.2.1 hb.2.1
  rw [e1, ob_some]
  have a1 := o1.at ha.1 (by omega)
  have b1 := hb.out o1 (by omega)
  have m1 := ha.2.2.1.out o1 (by omega)
  rw [gR_of (x := a + 3) a1 rfl, ob_some, b1.m, ob_some, m1.chk, ob_some]
  obtain ⟨h2, e2, l2, o2⟩ := X2_copyFrom (a := a + 3) (b := b + 3) (by omega) m1 b1.2.2.1
  rw [e2, ob_some]
  have a2 := o2.at a1 (by omega)
  have b2 := b1.out o2 (by omega)
  obtain ⟨h3, e3, a3, o3⟩ := pI_x (k := 2) (ii t.sp) a2 (Nat.le_of_ble_eq_true rfl)
  rw [b2.sp, ob_some, e3, ob_some]
  have b3 := b2.out o3 (by omega)
  obtain ⟨h4, e4, a4, o4⟩ := pZ_x (k := 3) a3 (Nat.le_of_ble_eq_true rfl) kb.blb
  rw [b3.bl, ob_some, e4, ob_some]
  have b4 := b3.out o4 (by omega)
  have w4 := (((ha.2.2.2.2.out o1 (by omega)).out o2 (by omega)).out o3 (by omega)).out o4 (by omega)
  have s4 := (((ha.2.2.2.1.out o1 (by omega)).out o2 (by omega)).out o3 (by omega)).out o4 (by omega)
  obtain ⟨h5, e5, l5, l6, o5⟩ := X6_copy_s (a := a) (b := b) (t := t) 3 FUEL 0 h4 s.st s.wt (by unfold FUEL; omega) rfl hab a4 b4 kb.1 ka.1 s4 kb.2.1 ka.2.1 (by rw [ka.2.2.1, kb.2.2.1]) w4
  have q : Out h2 h5 a 7 := (o3.mono (by omega) (by omega)).trans ((o4.mono (by omega) (by omega)).trans (o5.mono (by omega) (by omega)))
  refine ⟨h5, e5, ⟨o5.at a4 (by omega), ?_, ?_, l5, l6⟩, (o1.mono (by omega) (by omega)).trans ((o2.mono (by omega) (by omega)).trans q)⟩
  · exact (((l1.out o2 (by omega)).out o3 (by omega)).out o4 (by omega)).out o5 (by omega)
  · exact ((l2.out o3 (by omega)).out o4 (by omega)).out o5 (by omega)
end COPY
def rp (f : Nat → Sh) (j : Nat) (s : Sh) (i : Nat) : Sh := if i = j then s else f i
theorem rp_eq (f : Nat → Sh) (j : Nat) (s : Sh) : rp f j s j = s := if_pos rfl
theorem rp_ne {f : Nat → Sh} {i j : Nat} {s : Sh} (h : i ≠ j) : rp f j s i = f i := if_neg h
/-- the ring at a: the oldest sheet's place, how many; the list of what is kept, the oldest first -/
def HiA (hs : AH) (a : Nat) (l : List Sh) : Prop := l.length ≤ 6 ∧ ∃ (o : Nat) (f : Nat → Sh), o < 6 ∧ hs[a]? = some (.inr (0, [.ref (a + 1), .int (ii o), .int (ii l.length)])) ∧ (∃ g, hs[a + 1]? = some (.inl (3, 6, .inr (.inr (.inr (.inr g))))) ∧ ∀ j, j < 6 → g j = some (a + 2 + 7 * j)) ∧ (∀ j, j < 6 → ShA hs (a + 2 + 7 * j) (f j) ∧ SOK (f j)) ∧ ∀ j, j < l.length → l[j]? = some (f ((o + j) % 6))
theorem HiA.out {hs hs' : AH} {a b m : Nat} {l : List Sh} (h : HiA hs a l) (w : Out hs hs' b m) (hd : a + 44 ≤ b ∨ b + m ≤ a) : HiA hs' a l := by
  obtain ⟨hl, o, f, ho, h1, ⟨g, h2, h3⟩, h4, h5⟩ := h
  exact ⟨hl, o, f, ho, w.at h1 (by omega), ⟨g, w.at h2 (by omega), h3⟩, fun j hj => ⟨(h4 j hj).1.out w (by omega), (h4 j hj).2⟩, h5⟩
theorem aQ_of {hs : AH} {a n x : Nat} {f : Nat → Option Nat} {z : Int} (h : hs[a]? = some (.inl (3, n, .inr (.inr (.inr (.inr f)))))) (h0 : 0 ≤ z) (h1 : z < n) (hn : n ≤ 2147483647) (hf : f z.toNat = some x) : aQ hs a (ii z) = some x := by
  unfold aQ; rw [h]; show (if 3 = 3 ∧ 0 ≤ ii z ∧ (ii z).toNatClampNeg < n then _ else _) = _
  rw [if_pos ⟨rfl, by rw [il_0, ii_le (by omega) (by omega) (by omega) (by omega)]; exact h0, by rw [ii_nat (by omega) (by omega)]; omega⟩, ii_nat (by omega) (by omega), hf]
theorem X0_sheetAt {hs : AH} {a o n : Nat} {g : Nat → Option Nat} {z : Int} (h1 : hs[a]? = some (.inr (0, [.ref (a + 1), .int (ii o), .int (ii n)]))) (h2 : hs[a + 1]? = some (.inl (3, 6, .inr (.inr (.inr (.inr g)))))) (h3 : ∀ j, j < 6 → g j = some (a + 2 + 7 * j)) (ho : o < 6) (z0 : 0 ≤ z) (z1 : z < 7) : f_X0_sheetAt a (ii z) hs = some (a + 2 + 7 * ((o + z.toNat) % 6)) := by
  unfold f_X0_sheetAt
  rw [gR_of h1 rfl, ob_some, gI_of (x := ii o) h1 rfl, ob_some, ii_add, fm_6 (by omega) (by omega), ob_some, aQ_of h2 (by omega) (by omega) (by decide) (h3 _ (by omega)), ob_some]
  congr 4
  omega
theorem X0_size {hs : AH} {a : Nat} {l : List Sh} (h : HiA hs a l) : f_X0_size a hs = some (ii l.length) := by
  obtain ⟨hl, o, f, ho, h1, -⟩ := h
  unfold f_X0_size
  rw [gI_of (x := ii l.length) h1 rfl]; rfl
theorem X0_keep {hs : AH} {a b : Nat} {l : List Sh} {s : Sh} (h : HiA hs a l) (hb : ShA hs b s) (kb : SOK s) (hab : a + 44 ≤ b ∨ b + 7 ≤ a) : ∃ hs', f_X0_keep a b hs = some hs' ∧ HiA hs' a ((if l.length = 6 then l.tail else l) ++ [s]) ∧ Out hs hs' a 44 := by
  obtain ⟨hl, o, f, ho, h1, ⟨g, h2, h3⟩, h4, h5⟩ := h
  have hi : gI hs a 0 2 = some (ii l.length) := gI_of h1 rfl
  unfold f_X0_keep
  rw [hi, ob_some, chk_of h1, ob_some, X0_sheetAt h1 h2 h3 ho (by omega) (by omega), ob_some, Int.toNat_natCast]
  generalize hj : (o + l.length) % 6 = j
  have hj6 : j < 6 := by omega
  rw [(h4 j hj6).1.chk, ob_some]
  obtain ⟨hs1, e1, l1, o1⟩ := X6_copyFrom (a := a + 2 + 7 * j) (b := b) (by omega) (h4 j hj6).1 (h4 j hj6).2 hb kb
  rw [e1, ob_some]
  have a1 := o1.at h1 (by omega)
  have c1 := o1.at h2 (by omega)
  have s1 : ∀ i, i < 6 → ShA hs1 (a + 2 + 7 * i) (rp f j s i) ∧ SOK (rp f j s i) := by
    intro i hi
    by_cases e : i = j
    · subst e; rw [rp_eq]; exact ⟨l1, kb⟩
    · rw [rp_ne e]; exact ⟨(h4 i hi).1.out o1 (by omega), (h4 i hi).2⟩
  have hi1 : gI hs1 a 0 2 = some (ii l.length) := gI_of a1 rfl
  have ho1 : gI hs1 a 0 1 = some (ii o) := gI_of a1 rfl
  simp (disch := omega) only [hi1, ho1, ii_add, ii_sub, ii_mul, ii_neg, ii_div, ii_lt, ii_le, ii_eq, ob_some, il_0, il_1, il_2, il_3, il_4, il_5, il_6, il_7, il_8, il_9, il_10, il_11, il_12, il_13, il_14, il_15, il_16, il_17, il_18, il_19, il_20, il_21, il_22, il_23, il_24, il_25, il_26, il_27, il_28, il_29, il_30, il_31, il_32, il_33, il_34, il_35, il_36, il_37, il_38, il_39, il_40, il_41, il_42, il_43, il_44, il_45, il_46, il_47, il_48, il_49, il_50, il_51, il_52, il_53, il_54, il_55, il_56, il_57, il_58, il_59, il_60, il_61, il_62, il_63, il_64, il_65, il_66, il_67, il_68, il_69, il_70, il_71, il_72, il_73, il_74, il_75, il_76, il_77, il_78, il_79, il_80, il_81, il_82, il_83, il_84, il_85, il_86, il_87, il_88, il_89, il_90, il_91, il_92, il_93, il_94, il_95, il_96, il_97, il_98, il_99, il_100, il_101, il_102, il_103, il_104, il_105, il_106, il_107, il_108, il_109, il_110, il_111, il_112, il_113, il_114, il_115, il_116, il_117, il_118, il_119, il_120, il_121, il_122, il_123, il_124, il_125, il_126, il_127, il_128, il_129, il_130, il_131, il_132, il_133, il_134, il_135, il_136, il_137, il_138, il_139, il_140, il_141, il_142, il_143, il_144, il_145, il_146, il_147, il_148, il_149, il_150, il_151, il_152, il_153, il_154, il_155, il_156, il_157, il_158, il_159, il_160, il_161, il_162, il_163, il_164, il_165, il_166, il_167, il_168, il_169, il_170, il_171, il_172, il_173, il_174, il_175, il_176, il_177, il_178, il_179, il_180, il_181, il_182, il_183, il_184, il_185, il_186, il_187, il_188, il_189, il_190, il_191, il_192, il_193, il_194, il_195, il_196, il_197, il_198, il_199, il_200, il_201, il_202, il_203, il_204, il_205, il_206, il_207, il_208, il_209, il_210, il_211, il_212, il_213, il_214, il_215, il_216, il_217, il_218, il_219, il_220, il_221, il_222, il_223, il_224, il_225, il_226, il_227, il_228, il_229, il_230, il_231, il_232, il_233, il_234, il_235, il_236, il_237, il_238, il_239, il_240, il_241, il_242, il_243, il_244, il_245, il_246, il_247, il_248, il_249, il_250, il_251, il_252, il_253, il_254, il_255, il_400, il_480, il_1023, il_2880, il_3000, il_6000, il_m1, il_m8]
  by_cases c : 6 ≤ l.length
  · rw [if_pos (show (6 : Int) ≤ l.length by omega), if_pos (show l.length = 6 by omega), show ii 6 = 6 from rfl, fm_6 (by omega) (by omega), ob_some]
    obtain ⟨hs2, e2, a2, o2⟩ := pI_x (k := 1) (ii (((o : Int) + 1) % 6)) a1 (Nat.le_of_ble_eq_true rfl)
    rw [e2, ob_some]
    have hlen : (l.tail ++ [s]).length = l.length := by rw [List.length_append, List.length_tail]; simp; omega
    refine ⟨hs2, rfl, ⟨by omega, (o + 1) % 6, rp f j s, by omega, ?_, ⟨g, o2.at c1 (by omega), h3⟩, fun i hi => ⟨(s1 i hi).1.out o2 (by omega), (s1 i hi).2⟩, fun i hi => ?_⟩, (o1.mono (by omega) (by omega)).trans (o2.mono (by omega) (by omega))⟩
    · rw [a2, hlen]
      rfl
    · rw [hlen] at hi
      by_cases e : i = l.length - 1
      · rw [List.getElem?_append_right (by rw [List.length_tail]; omega), List.length_tail, show i - (l.length - 1) = 0 by omega, show ((o + 1) % 6 + i) % 6 = j by omega, rp_eq]; rfl
      · rw [List.getElem?_append_left (by rw [List.length_tail]; omega), List.getElem?_tail, h5 (i + 1) (by omega), rp_ne (by omega), show (o + (i + 1)) % 6 = ((o + 1) % 6 + i) % 6 by omega]
  · rw [if_neg (show ¬ (6 : Int) ≤ l.length by omega), if_neg (show ¬ l.length = 6 by omega)]
    obtain ⟨hs2, e2, a2, o2⟩ := pI_x (k := 2) (ii ((l.length : Int) + 1)) a1 (Nat.le_of_ble_eq_true rfl)
    rw [e2, ob_some]
    have hlen : (l ++ [s]).length = l.length + 1 := by rw [List.length_append]; rfl
    refine ⟨hs2, rfl, ⟨by omega, o, rp f j s, ho, ?_, ⟨g, o2.at c1 (by omega), h3⟩, fun i hi => ⟨(s1 i hi).1.out o2 (by omega), (s1 i hi).2⟩, fun i hi => ?_⟩, (o1.mono (by omega) (by omega)).trans (o2.mono (by omega) (by omega))⟩
    · rw [a2, hlen]
      rfl
    · rw [hlen] at hi
      by_cases e : i = l.length
      · rw [List.getElem?_append_right (by omega), show i - l.length = 0 by omega, show (o + i) % 6 = j by omega, rp_eq]; rfl
      · rw [List.getElem?_append_left (by omega), h5 i (by omega), rp_ne (by omega)]
theorem X0_takeBack {hs : AH} {a b : Nat} {l : List Sh} {s t : Sh} (h : HiA hs a (l ++ [t])) (hb : ShA hs b s) (kb : SOK s) (hab : a + 44 ≤ b ∨ b + 7 ≤ a) : ∃ hs', f_X0_takeBack a b hs = some hs' ∧ HiA hs' a l ∧ ShA hs' b t ∧ SOK t ∧ (∀ k, (k < a ∨ a + 44 ≤ k) → (k < b ∨ b + 7 ≤ k) → hs'[k]? = hs[k]?) := by
  obtain ⟨hl, o, f, ho, h1, ⟨g, h2, h3⟩, h4, h5⟩ := h
  have hlen : (l ++ [t]).length = l.length + 1 := by rw [List.length_append]; rfl
  rw [hlen] at hl h1 h5
  have hi : gI hs a 0 2 = some (ii ((l.length + 1 : Nat) : Int)) := gI_of h1 rfl
  unfold f_X0_takeBack
  simp (disch := omega) only [hi, ii_add, ii_sub, ii_mul, ii_neg, ii_div, ii_lt, ii_le, ii_eq, ob_some, il_0, il_1, il_2, il_3, il_4, il_5, il_6, il_7, il_8, il_9, il_10, il_11, il_12, il_13, il_14, il_15, il_16, il_17, il_18, il_19, il_20, il_21, il_22, il_23, il_24, il_25, il_26, il_27, il_28, il_29, il_30, il_31, il_32, il_33, il_34, il_35, il_36, il_37, il_38, il_39, il_40, il_41, il_42, il_43, il_44, il_45, il_46, il_47, il_48, il_49, il_50, il_51, il_52, il_53, il_54, il_55, il_56, il_57, il_58, il_59, il_60, il_61, il_62, il_63, il_64, il_65, il_66, il_67, il_68, il_69, il_70, il_71, il_72, il_73, il_74, il_75, il_76, il_77, il_78, il_79, il_80, il_81, il_82, il_83, il_84, il_85, il_86, il_87, il_88, il_89, il_90, il_91, il_92, il_93, il_94, il_95, il_96, il_97, il_98, il_99, il_100, il_101, il_102, il_103, il_104, il_105, il_106, il_107, il_108, il_109, il_110, il_111, il_112, il_113, il_114, il_115, il_116, il_117, il_118, il_119, il_120, il_121, il_122, il_123, il_124, il_125, il_126, il_127, il_128, il_129, il_130, il_131, il_132, il_133, il_134, il_135, il_136, il_137, il_138, il_139, il_140, il_141, il_142, il_143, il_144, il_145, il_146, il_147, il_148, il_149, il_150, il_151, il_152, il_153, il_154, il_155, il_156, il_157, il_158, il_159, il_160, il_161, il_162, il_163, il_164, il_165, il_166, il_167, il_168, il_169, il_170, il_171, il_172, il_173, il_174, il_175, il_176, il_177, il_178, il_179, il_180, il_181, il_182, il_183, il_184, il_185, il_186, il_187, il_188, il_189, il_190, il_191, il_192, il_193, il_194, il_195, il_196, il_197, il_198, il_199, il_200, il_201, il_202, il_203, il_204, il_205, il_206, il_207, il_208, il_209, il_210, il_211, il_212, il_213, il_214, il_215, il_216, il_217, il_218, il_219, il_220, il_221, il_222, il_223, il_224, il_225, il_226, il_227, il_228, il_229, il_230, il_231, il_232, il_233, il_234, il_235, il_236, il_237, il_238, il_239, il_240, il_241, il_242, il_243, il_244, il_245, il_246, il_247, il_248, il_249, il_250, il_251, il_252, il_253, il_254, il_255, il_400, il_480, il_1023, il_2880, il_3000, il_6000, il_m1, il_m8]
  rw [if_neg (show ¬ ((l.length + 1 : Nat) : Int) ≤ 0 by omega), show ((l.length + 1 : Nat) : Int) - 1 = (l.length : Int) by omega]
  obtain ⟨hs1, e1, a1, o1⟩ := pI_x (k := 2) (ii (l.length : Int)) h1 (Nat.le_of_ble_eq_true rfl)
  rw [e1, ob_some]
  have b1 := hb.out o1 (by omega)
  have c1 := o1.at h2 (by omega)
  have hi1 : gI hs1 a 0 2 = some (ii l.length) := gI_of a1 rfl
  rw [hi1, ob_some, chk_of a1, ob_some, X0_sheetAt a1 c1 h3 ho (by omega) (by omega), ob_some, Int.toNat_natCast, b1.chk, ob_some]
  have ht : f ((o + l.length) % 6) = t := by
    have := h5 l.length (by omega)
    rw [List.getElem?_append_right (Nat.le_refl _), Nat.sub_self] at this
    exact (Option.some.inj this).symm
  have hj6 : (o + l.length) % 6 < 6 := by omega
  have t1 := (h4 _ hj6).1.out o1 (by omega)
  have kt := (h4 _ hj6).2
  rw [ht] at t1 kt
  obtain ⟨hs2, e2, l2, o2⟩ := X6_copyFrom (a := b) (b := a + 2 + 7 * ((o + l.length) % 6)) (by omega) b1 kb t1 kt
  refine ⟨hs2, by rw [e2]; rfl, ⟨by omega, o, f, ho, o2.at a1 (by omega), ⟨g, o2.at c1 (by omega), h3⟩, fun j hj => ⟨((h4 j hj).1.out o1 (by omega)).out o2 (by omega), (h4 j hj).2⟩, fun j hj => ?_⟩, l2, kt, fun k k1 k2 => (o2 k k2).trans (o1 k (by omega))⟩
  have := h5 j (by omega)
  rw [List.getElem?_append_left hj] at this
  exact this
