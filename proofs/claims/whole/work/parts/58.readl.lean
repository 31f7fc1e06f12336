/-! ===== the reader: whole lines ===== -/
def rdMore (b : List Int) (most : Nat) : Nat → List Int → Nat → Option (List Int) × Nat
  | 0, _, p => (none, p)
  | f + 1, l, p => if b.length ≤ p then (some l, p) else if pat b p = 44 ∧ l.length < most then (match (rdNote b (p + 1)).1 with
      | none => (none, (rdNote b (p + 1)).2)
      | some c => rdMore b most f (l ++ [c]) (rdNote b (p + 1)).2) else (none, p)
def rdEnd (least : Nat) (r : Option (List Int) × Nat) : Option (List Int) × Nat := match r.1 with
  | some l => if l.length < least then (none, r.2) else r
  | none => r
def rdLine (b : List Int) (rest : Int) (least most : Nat) : Option (List Int) × Nat :=
  rdEnd least (if ¬ rest = 0 ∧ pat b 0 = 45 then rdMore b most 181 [-1] 1 else match (rdNote b 0).1 with
    | none => (none, (rdNote b 0).2)
    | some c => rdMore b most 181 [c] (rdNote b 0).2)
/-- the number that tells how reading went -/
def rdErr (r : Option (List Int) × Nat) : Int := match r.1 with
  | some _ => -1
  | none => r.2
/-- the line that stands behind a reading that went well -/
def rdGot (r : Option (List Int) × Nat) (l : List Int) : Prop := ∀ x, r.1 = some x → l = x
theorem lat0 (b : List Int) : pat b 0 = pat b ((0 : Nat) : Int) := rfl
section READL
variable {a : Nat} {b w : List Int} {nm : Int}
theorem X4_line_end {hs : AH} {l : List Int} {p least most : Nat} (k : CH b) (h : RdA hs a b l w nm p) (hp : p ≤ b.length) (hle : least ≤ 45) {r : Option (List Int) × Nat} (hr : (b.length ≤ p → r = (some l, p)) ∧ (p < b.length → r = (none, p))) : f_X4_readLine_b141 a (ii least) hs = some (ii (rdErr (rdEnd least r)), hs) ∧ rdGot (rdEnd least r) l := by
  have hb := h.2.1.le
  have hl := h.2.2.1.le
  unfold f_X4_readLine_b141
  simp (disch := omega) only [h.pla, h.src, h.2.1.chk, X3_size h.2.1, h.lin, h.2.2.1.chk, X2_size h.2.2.1, ii_add, ii_sub, ii_mul, ii_neg, ii_div, ii_lt, ii_le, ii_eq, ob_some, il_0, il_1, il_2, il_3, il_4, il_5, il_6, il_7, il_8, il_9, il_10, il_11, il_12, il_13, il_14, il_15, il_16, il_17, il_18, il_19, il_20, il_21, il_22, il_23, il_24, il_25, il_26, il_27, il_28, il_29, il_30, il_31, il_32, il_33, il_34, il_35, il_36, il_37, il_38, il_39, il_40, il_41, il_42, il_43, il_44, il_45, il_46, il_47, il_48, il_49, il_50, il_51, il_52, il_53, il_54, il_55, il_56, il_57, il_58, il_59, il_60, il_61, il_62, il_63, il_64, il_65, il_66, il_67, il_68, il_69, il_70, il_71, il_72, il_73, il_74, il_75, il_76, il_77, il_78, il_79, il_80, il_81, il_82, il_83, il_84, il_85, il_86, il_87, il_88, il_89, il_90, il_91, il_92, il_93, il_94, il_95, il_96, il_97, il_98, il_99, il_100, il_101, il_102, il_103, il_104, il_105, il_106, il_107, il_108, il_109, il_110, il_111, il_112, il_113, il_114, il_115, il_116, il_117, il_118, il_119, il_120, il_121, il_122, il_123, il_124, il_125, il_126, il_127, il_128, il_129, il_130, il_131, il_132, il_133, il_134, il_135, il_136, il_137, il_138, il_139, il_140, il_141, il_142, il_143, il_144, il_145, il_146, il_147, il_148, il_149, il_150, il_151, il_152, il_153, il_154, il_155, il_156, il_157, il_158, il_159, il_160, il_161, il_162, il_163, il_164, il_165, il_166, il_167, il_168, il_169, il_170, il_171, il_172, il_173, il_174, il_175, il_176, il_177, il_178, il_179, il_180, il_181, il_182, il_183, il_184, il_185, il_186, il_187, il_188, il_189, il_190, il_191, il_192, il_193, il_194, il_195, il_196, il_197, il_198, il_199, il_200, il_201, il_202, il_203, il_204, il_205, il_206, il_207, il_208, il_209, il_210, il_211, il_212, il_213, il_214, il_215, il_216, il_217, il_218, il_219, il_220, il_221, il_222, il_223, il_224, il_225, il_226, il_227, il_228, il_229, il_230, il_231, il_232, il_233, il_234, il_235, il_236, il_237, il_238, il_239, il_240, il_241, il_242, il_243, il_244, il_245, il_246, il_247, il_248, il_249, il_250, il_251, il_252, il_253, il_254, il_255, il_400, il_480, il_1023, il_2880, il_3000, il_6000, il_m1, il_m8]
  by_cases c : b.length ≤ p
  · rw [hr.1 c, if_pos (show (p : Int) = b.length by omega)]
    unfold rdEnd
    by_cases d : l.length < least
    · simp only [if_pos d, if_pos (show (l.length : Int) < least by omega)]
      exact ⟨rfl, fun x hx => by cases hx⟩
    · simp only [if_neg d, if_neg (show ¬ (l.length : Int) < least by omega)]
      exact ⟨rfl, fun x hx => by cases hx; rfl⟩
  · rw [hr.2 (by omega), if_neg (show ¬ (p : Int) = b.length by omega)]
    exact ⟨rfl, fun x hx => by cases hx⟩
theorem X4_line_loop {least most : Nat} (k : CH b) (hle : least ≤ 45) (hmo : most ≤ 45) : ∀ (f n i : Nat) (hs : AH) (l : List Int) (p : Nat), b.length - p < f → f ≤ n → i + 1 = l.length → l.length ≤ 45 → (l.length ≤ most ∨ i = 0) → p ≤ b.length → RdA hs a b l w nm p →
    ∃ hs' l' p', f_X4_readLine_b60 n a (ii least) (ii most) (ii i) hs = some (ii (rdErr (rdEnd least (rdMore b most f l p))), hs') ∧ RdA hs' a b l' w nm p' ∧ rdGot (rdEnd least (rdMore b most f l p)) l' ∧ Out hs hs' a 6 := by
  intro f
  induction f with
  | zero => intro n i hs l p hf; omega
  | succ f ih =>
    intro n i hs l p hf hn hi h45 hmo2 hp h
    obtain ⟨n, rfl⟩ : ∃ z, n = z + 1 := ⟨n - 1, by omega⟩
    have hb := h.2.1.le
    unfold f_X4_readLine_b60
    simp (disch := omega) only [h.pla, h.src, h.2.1.chk, X3_size h.2.1, X3_at h.2.1 k, h.lin, h.2.2.1.chk, X2_size h.2.2.1, ii_add, ii_sub, ii_mul, ii_neg, ii_div, ii_lt, ii_le, ii_eq, ob_some, il_0, il_1, il_2, il_3, il_4, il_5, il_6, il_7, il_8, il_9, il_10, il_11, il_12, il_13, il_14, il_15, il_16, il_17, il_18, il_19, il_20, il_21, il_22, il_23, il_24, il_25, il_26, il_27, il_28, il_29, il_30, il_31, il_32, il_33, il_34, il_35, il_36, il_37, il_38, il_39, il_40, il_41, il_42, il_43, il_44, il_45, il_46, il_47, il_48, il_49, il_50, il_51, il_52, il_53, il_54, il_55, il_56, il_57, il_58, il_59, il_60, il_61, il_62, il_63, il_64, il_65, il_66, il_67, il_68, il_69, il_70, il_71, il_72, il_73, il_74, il_75, il_76, il_77, il_78, il_79, il_80, il_81, il_82, il_83, il_84, il_85, il_86, il_87, il_88, il_89, il_90, il_91, il_92, il_93, il_94, il_95, il_96, il_97, il_98, il_99, il_100, il_101, il_102, il_103, il_104, il_105, il_106, il_107, il_108, il_109, il_110, il_111, il_112, il_113, il_114, il_115, il_116, il_117, il_118, il_119, il_120, il_121, il_122, il_123, il_124, il_125, il_126, il_127, il_128, il_129, il_130, il_131, il_132, il_133, il_134, il_135, il_136, il_137, il_138, il_139, il_140, il_141, il_142, il_143, il_144, il_145, il_146, il_147, il_148, il_149, il_150, il_151, il_152, il_153, il_154, il_155, il_156, il_157, il_158, il_159, il_160, il_161, il_162, il_163, il_164, il_165, il_166, il_167, il_168, il_169, il_170, il_171, il_172, il_173, il_174, il_175, il_176, il_177, il_178, il_179, il_180, il_181, il_182, il_183, il_184, il_185, il_186, il_187, il_188, il_189, il_190, il_191, il_192, il_193, il_194, il_195, il_196, il_197, il_198, il_199, il_200, il_201, il_202, il_203, il_204, il_205, il_206, il_207, il_208, il_209, il_210, il_211, il_212, il_213, il_214, il_215, il_216, il_217, il_218, il_219, il_220, il_221, il_222, il_223, il_224, il_225, il_226, il_227, il_228, il_229, il_230, il_231, il_232, il_233, il_234, il_235, il_236, il_237, il_238, il_239, il_240, il_241, il_242, il_243, il_244, il_245, il_246, il_247, il_248, il_249, il_250, il_251, il_252, il_253, il_254, il_255, il_400, il_480, il_1023, il_2880, il_3000, il_6000, il_m1, il_m8]
    rw [if_neg (show ¬ (45 : Int) ≤ i by omega)]
    by_cases c : b.length ≤ p
    · rw [if_pos (show (b.length : Int) ≤ p by omega)]
      have he : rdMore b most (f + 1) l p = (some l, p) := if_pos c
      obtain ⟨q1, q2⟩ := X4_line_end (most := most) k h hp hle (r := (some l, p)) ⟨fun _ => rfl, fun z => by omega⟩
      rw [he]
      exact ⟨hs, l, p, q1, h, q2, Out.refl _ _ _⟩
    · rw [if_neg (show ¬ (b.length : Int) ≤ p by omega)]
      have bd := pat_bd k p
      simp (disch := omega) only [ii_add, ii_sub, ii_mul, ii_neg, ii_div, ii_lt, ii_le, ii_eq, ob_some, il_0, il_1, il_2, il_3, il_4, il_5, il_6, il_7, il_8, il_9, il_10, il_11, il_12, il_13, il_14, il_15, il_16, il_17, il_18, il_19, il_20, il_21, il_22, il_23, il_24, il_25, il_26, il_27, il_28, il_29, il_30, il_31, il_32, il_33, il_34, il_35, il_36, il_37, il_38, il_39, il_40, il_41, il_42, il_43, il_44, il_45, il_46, il_47, il_48, il_49, il_50, il_51, il_52, il_53, il_54, il_55, il_56, il_57, il_58, il_59, il_60, il_61, il_62, il_63, il_64, il_65, il_66, il_67, il_68, il_69, il_70, il_71, il_72, il_73, il_74, il_75, il_76, il_77, il_78, il_79, il_80, il_81, il_82, il_83, il_84, il_85, il_86, il_87, il_88, il_89, il_90, il_91, il_92, il_93, il_94, il_95, il_96, il_97, il_98, il_99, il_100, il_101, il_102, il_103, il_104, il_105, il_106, il_107, il_108, il_109, il_110, il_111, il_112, il_113, il_114, il_115, il_116, il_117, il_118, il_119, il_120, il_121, il_122, il_123, il_124, il_125, il_126, il_127, il_128, il_129, il_130, il_131, il_132, il_133, il_134, il_135, il_136, il_137, il_138, il_139, il_140, il_141, il_142, il_143, il_144, il_145, il_146, il_147, il_148, il_149, il_150, il_151, il_152, il_153, il_154, il_155, il_156, il_157, il_158, il_159, il_160, il_161, il_162, il_163, il_164, il_165, il_166, il_167, il_168, il_169, il_170, il_171, il_172, il_173, il_174, il_175, il_176, il_177, il_178, il_179, il_180, il_181, il_182, il_183, il_184, il_185, il_186, il_187, il_188, il_189, il_190, il_191, il_192, il_193, il_194, il_195, il_196, il_197, il_198, il_199, il_200, il_201, il_202, il_203, il_204, il_205, il_206, il_207, il_208, il_209, il_210, il_211, il_212, il_213, il_214, il_215, il_216, il_217, il_218, il_219, il_220, il_221, il_222, il_223, il_224, il_225, il_226, il_227, il_228, il_229, il_230, il_231, il_232, il_233, il_234, il_235, il_236, il_237, il_238, il_239, il_240, il_241, il_242, il_243, il_244, il_245, il_246, il_247, il_248, il_249, il_250, il_251, il_252, il_253, il_254, il_255, il_400, il_480, il_1023, il_2880, il_3000, il_6000, il_m1, il_m8]
      by_cases d : pat b p = 44 ∧ l.length < most
      · have he : rdMore b most (f + 1) l p = (match (rdNote b (p + 1)).1 with
          | none => (none, (rdNote b (p + 1)).2)
          | some c => rdMore b most f (l ++ [c]) (rdNote b (p + 1)).2) := by
          show (if b.length ≤ p then _ else if pat b p = 44 ∧ l.length < most then _ else _) = _
          rw [if_neg c, if_pos d]
        rw [he, if_pos d.1, if_pos (show (l.length : Int) < most by omega)]
        obtain ⟨hs1, e1, h1, o1⟩ := h.place ((p : Int) + 1)
        have h1' : RdA hs1 a b l w nm (p + 1 : Nat) := h1
        obtain ⟨hs2, e2, h2, o2⟩ := X4_readNote k h1' (by omega)
        rw [e1, ob_some, h1.chk, ob_some, e2, ob_some]
        cases hc : (rdNote b (p + 1)).1 with
        | none =>
          rw [hc] at h2
          dsimp only at h2 ⊢
          rw [if_pos (show ii 0 = ii 0 from rfl), h2.pla, ob_some]
          exact ⟨hs2, l, _, rfl, h2, (fun x hx => by cases hx), o1.trans o2⟩
        | some x =>
          rw [hc] at h2
          have hx := rdNote_some hc
          dsimp only at h2 ⊢
          rw [if_neg (show ¬ ii 1 = ii 0 by decide +kernel)]
          have hadd : ladd l x = l ++ [x] := if_pos (by omega)
          rw [hadd] at h2
          obtain ⟨hs3, l3, p3, e3, h3, g3, o3⟩ := ih n (i + 1) hs2 (l ++ [x]) (rdNote b (p + 1)).2 (by omega) (by omega) (by simp; omega) (by simp; omega) (Or.inl (by simp; omega)) (by omega) h2
          exact ⟨hs3, l3, p3, by rw [← e3]; rfl, h3, g3, o1.trans (o2.trans o3)⟩
      · have he : rdMore b most (f + 1) l p = (none, p) := by
          show (if b.length ≤ p then _ else if pat b p = 44 ∧ l.length < most then _ else _) = _
          rw [if_neg c, if_neg d]
        rw [he]
        refine ⟨hs, l, p, ?_, h, (fun x hx => by cases hx), Out.refl _ _ _⟩
        by_cases e : pat b p = 44
        · rw [if_pos e, if_neg (show ¬ (l.length : Int) < most by omega)]
          rfl
        · rw [if_neg e]
          rfl
theorem X4_readLine {hs : AH} {l : List Int} {pl rest : Int} {least most : Nat} (k : CH b) (h : RdA hs a b l w nm pl) (hr : rest = 0 ∨ rest = 1) (hle : least ≤ 45) (hmo : most ≤ 45) :
    ∃ hs' l' p', f_X4_readLine a (ii rest) (ii least) (ii most) hs = some (ii (rdErr (rdLine b rest least most)), hs') ∧ RdA hs' a b l' w nm p' ∧ rdGot (rdLine b rest least most) l' ∧ Out hs hs' a 6 := by
  have hb := h.2.1.le
  unfold f_X4_readLine rdLine
  obtain ⟨hs1, e1, h1, o1⟩ := h.place 0
  obtain ⟨hs2, e2, l2, o2⟩ := X2_clear h1.2.2.1
  obtain ⟨h2, o2⟩ := h1.line l2 o2
  have h2' : RdA hs2 a b [] w nm (0 : Nat) := h2
  rw [il_0, e1, ob_some, h1.lin, ob_some, h1.2.2.1.chk, ob_some, e2, ob_some]
  have note : ∃ hs' l' p', ((chk hs2 a 4).bind fun _ => (f_X4_readNote a hs2).bind fun q => if q.1 = ii 0 then (gI q.2 a 4 4).bind fun x => some (x, q.2) else f_X4_readLine_b60 FUEL a (ii least) (ii most) (ii 0) q.2) = some (ii (rdErr (rdEnd least (match (rdNote b 0).1 with
      | none => (none, (rdNote b 0).2)
      | some c => rdMore b most 181 [c] (rdNote b 0).2))), hs') ∧ RdA hs' a b l' w nm p' ∧ rdGot (rdEnd least (match (rdNote b 0).1 with
      | none => (none, (rdNote b 0).2)
      | some c => rdMore b most 181 [c] (rdNote b 0).2)) l' ∧ Out hs2 hs' a 6 := by
    obtain ⟨hs3, e3, h3, o3⟩ := X4_readNote k h2' (by omega)
    rw [h2.chk, ob_some, e3, ob_some]
    cases hc : (rdNote b 0).1 with
    | none =>
      rw [hc] at h3
      dsimp only at h3 ⊢
      rw [if_pos rfl, h3.pla, ob_some]
      exact ⟨hs3, _, _, rfl, h3, (fun x hx => by cases hx), o3⟩
    | some x =>
      rw [hc] at h3
      have hx := rdNote_some hc
      dsimp only at h3 ⊢
      rw [if_neg (show ¬ ii 1 = ii 0 by decide +kernel)]
      obtain ⟨hs4, l4, p4, e4, h4, g4, o4⟩ := X4_line_loop k hle hmo 181 FUEL 0 hs3 [x] (rdNote b 0).2 (by omega) (by unfold FUEL; omega) rfl (Nat.le_of_ble_eq_true rfl) (Or.inr rfl) (by omega) h3
      exact ⟨hs4, l4, p4, e4, h4, g4, o3.trans o4⟩
  rcases hr with rfl | rfl
  · rw [if_pos rfl, if_neg (fun z => z.1 rfl)]
    obtain ⟨hs3, l3, p3, e3, h3, g3, o3⟩ := note
    exact ⟨hs3, l3, p3, e3, h3, g3, o1.trans (o2.trans o3)⟩
  · have bd := pat_bd k 0
    rw [if_neg (show ¬ ii 1 = ii 0 by decide +kernel), h2.src, ob_some, h2.2.1.chk, ob_some, X3_at h2.2.1 k (by omega) (by omega), ob_some]
    simp (disch := omega) only [ii_add, ii_sub, ii_mul, ii_neg, ii_div, ii_lt, ii_le, ii_eq, ob_some, il_0, il_1, il_2, il_3, il_4, il_5, il_6, il_7, il_8, il_9, il_10, il_11, il_12, il_13, il_14, il_15, il_16, il_17, il_18, il_19, il_20, il_21, il_22, il_23, il_24, il_25, il_26, il_27, il_28, il_29, il_30, il_31, il_32, il_33, il_34, il_35, il_36, il_37, il_38, il_39, il_40, il_41, il_42, il_43, il_44, il_45, il_46, il_47, il_48, il_49, il_50, il_51, il_52, il_53, il_54, il_55, il_56, il_57, il_58, il_59, il_60, il_61, il_62, il_63, il_64, il_65, il_66, il_67, il_68, il_69, il_70, il_71, il_72, il_73, il_74, il_75, il_76, il_77, il_78, il_79, il_80, il_81, il_82, il_83, il_84, il_85, il_86, il_87, il_88, il_89, il_90, il_91, il_92, il_93, il_94, il_95, il_96, il_97, il_98, il_99, il_100, il_101, il_102, il_103, il_104, il_105, il_106, il_107, il_108, il_109, il_110, il_111, il_112, il_113, il_114, il_115, il_116, il_117, il_118, il_119, il_120, il_121, il_122, il_123, il_124, il_125, il_126, il_127, il_128, il_129, il_130, il_131, il_132, il_133, il_134, il_135, il_136, il_137, il_138, il_139, il_140, il_141, il_142, il_143, il_144, il_145, il_146, il_147, il_148, il_149, il_150, il_151, il_152, il_153, il_154, il_155, il_156, il_157, il_158, il_159, il_160, il_161, il_162, il_163, il_164, il_165, il_166, il_167, il_168, il_169, il_170, il_171, il_172, il_173, il_174, il_175, il_176, il_177, il_178, il_179, il_180, il_181, il_182, il_183, il_184, il_185, il_186, il_187, il_188, il_189, il_190, il_191, il_192, il_193, il_194, il_195, il_196, il_197, il_198, il_199, il_200, il_201, il_202, il_203, il_204, il_205, il_206, il_207, il_208, il_209, il_210, il_211, il_212, il_213, il_214, il_215, il_216, il_217, il_218, il_219, il_220, il_221, il_222, il_223, il_224, il_225, il_226, il_227, il_228, il_229, il_230, il_231, il_232, il_233, il_234, il_235, il_236, il_237, il_238, il_239, il_240, il_241, il_242, il_243, il_244, il_245, il_246, il_247, il_248, il_249, il_250, il_251, il_252, il_253, il_254, il_255, il_400, il_480, il_1023, il_2880, il_3000, il_6000, il_m1, il_m8]
    by_cases c : pat b 0 = 45
    · rw [if_pos c, if_pos ⟨by decide, c⟩, h2.lin, ob_some, h2.2.2.1.chk, ob_some]
      obtain ⟨hs3, e3, l3, o3⟩ := X2_add (v := -1) h2.2.2.1
      obtain ⟨h3, o3⟩ := h2.line l3 o3
      obtain ⟨hs4, e4, h4, o4⟩ := h3.place 1
      have hin := pat_in (b := b) (z := 0) (by omega)
      obtain ⟨hs5, l5, p5, e5, h5, g5, o5⟩ := X4_line_loop k hle hmo 181 FUEL 0 hs4 [-1] 1 (by omega) (by unfold FUEL; omega) rfl (by decide) (Or.inr rfl) (by omega) h4
      refine ⟨hs5, l5, p5, ?_, h5, g5, o1.trans (o2.trans (o3.trans (o4.trans o5)))⟩
      rw [e3, ob_some, e4, ob_some, ← e5]
      rfl
    · rw [if_neg c, if_neg (fun z => c z.2)]
      obtain ⟨hs3, l3, p3, e3, h3, g3, o3⟩ := note
      exact ⟨hs3, l3, p3, e3, h3, g3, o1.trans (o2.trans o3)⟩
/-- a line read has its notes in range, at least and at most so many, and a rest at most at its begin -/
theorem rdMore_ok {most : Nat} : ∀ (f : Nat) (l : List Int) (p : Nat) (x : List Int), (rdMore b most f l p).1 = some x → (∀ j, j < l.length → lg l j = -1 ∧ j = 0 ∨ (42 ≤ lg l j ∧ lg l j ≤ 146)) → 1 ≤ l.length → (l.length ≤ most ∨ l.length = 1) → (∀ j, j < x.length → lg x j = -1 ∧ j = 0 ∧ lg l 0 = -1 ∨ (42 ≤ lg x j ∧ lg x j ≤ 146)) ∧ 1 ≤ x.length ∧ (x.length ≤ most ∨ x.length = 1)
  | 0, l, p, x, h, _, _, _ => by cases h
  | f + 1, l, p, x, h, hl, h1, hm => by
    unfold rdMore at h
    by_cases c : b.length ≤ p
    · rw [if_pos c] at h
      cases h
      exact ⟨fun j hj => (hl j hj).elim (fun z => Or.inl ⟨z.1, z.2, by rw [z.2] at z; exact z.1⟩) Or.inr, h1, hm⟩
    · rw [if_neg c] at h
      by_cases d : pat b p = 44 ∧ l.length < most
      · rw [if_pos d] at h
        cases hc : (rdNote b (p + 1)).1 with
        | none => rw [hc] at h; cases h
        | some y =>
          rw [hc] at h
          have hy := rdNote_some hc
          have := rdMore_ok f (l ++ [y]) _ x h (fun j hj => by
            rw [List.length_append] at hj
            simp at hj
            by_cases e : j = l.length
            · rw [e, lg_push]; exact Or.inr ⟨hy.1, hy.2.1⟩
            · rw [lg_push_lt (by omega)]; exact hl j (by omega)) (by simp) (Or.inl (by simp; omega))
          refine ⟨fun j hj => ?_, this.2⟩
          rcases this.1 j hj with z | z
          · rw [lg_push_lt (by omega)] at z; exact Or.inl z
          · exact Or.inr z
      · rw [if_neg d] at h; cases h
end READL
