/-! ===== cells read and written, by what they hold ===== -/
def lg (l : List Int) (j : Nat) : Int := (l[j]?).getD (-1)
def lat (l : List Int) (z : Int) : Int := if 0 ≤ z then lg l z.toNat else -1
theorem lg_out {l : List Int} {j : Nat} (h : l.length ≤ j) : lg l j = -1 := by unfold lg; rw [List.getElem?_eq_none h]; rfl
theorem lg_push_lt {l : List Int} {j : Nat} {v : Int} (h : j < l.length) : lg (l ++ [v]) j = lg l j := by unfold lg; rw [List.getElem?_append_left h]
theorem lg_push {l : List Int} {v : Int} : lg (l ++ [v]) l.length = v := by unfold lg; rw [List.getElem?_append_right (Nat.le_refl _), Nat.sub_self]; rfl
theorem lg_set {l : List Int} {k : Nat} {v : Int} (h : k < l.length) : lg (l.set k v) k = v := by unfold lg; rw [List.getElem?_set_self h]; rfl
theorem lg_set_ne {l : List Int} {k j : Nat} {v : Int} (h : j ≠ k) : lg (l.set k v) j = lg l j := by unfold lg; rw [List.getElem?_set_ne (Ne.symm h)]
theorem lg_take {l : List Int} {k j : Nat} (h : j < k) : lg (l.take k) j = lg l j := by unfold lg; rw [List.getElem?_take, if_pos h]
theorem lg_mem {l : List Int} {j : Nat} (h : j < l.length) : lg l j ∈ l := by unfold lg; rw [List.getElem?_eq_getElem h]; exact List.getElem_mem h
theorem lg_ext {l l' : List Int} (h : l.length = l'.length) (h2 : ∀ j, j < l.length → lg l j = lg l' j) : l = l' := by
  refine List.ext_getElem h (fun j h1 h3 => ?_)
  have := h2 j h1
  unfold lg at this
  rw [List.getElem?_eq_getElem h1, List.getElem?_eq_getElem h3] at this
  exact this
theorem lat_nat (l : List Int) (j : Nat) : lat l j = lg l j := by unfold lat; rw [if_pos (by omega)]; rfl
theorem lat_neg {l : List Int} {z : Int} (h : z < 0) : lat l z = -1 := if_neg (by omega)
theorem lat_out {l : List Int} {z : Int} (h : (l.length : Int) ≤ z) : lat l z = -1 := by unfold lat; rw [if_pos (by omega)]; exact lg_out (by omega)
theorem lat_in {l : List Int} {z : Int} (h : 0 ≤ z) : lat l z = lg l z.toNat := if_pos h
/-- the first cells of an array hold the list -/
def Fits (f : Nat → Int32) (l : List Int) : Prop := ∀ j, j < l.length → f j = ii (lg l j)
theorem Fits.nil (f : Nat → Int32) : Fits f [] := fun j h => absurd h (Nat.not_lt_zero j)
theorem Fits.push {f : Nat → Int32} {l : List Int} {v : Int} (h : Fits f l) : Fits (upd f l.length (ii v)) (l ++ [v]) := by
  intro j hj
  rw [List.length_append] at hj
  unfold upd
  by_cases e : j = l.length
  · rw [if_pos e, e, lg_push]
  · have : j < l.length := by simp at hj; omega
    rw [if_neg e, lg_push_lt this]; exact h j this
theorem Fits.set {f : Nat → Int32} {l : List Int} {k : Nat} {v : Int} (h : Fits f l) (hk : k < l.length) : Fits (upd f k (ii v)) (l.set k v) := by
  intro j hj
  rw [List.length_set] at hj
  unfold upd
  by_cases e : j = k
  · rw [if_pos e, e, lg_set hk]
  · rw [if_neg e, lg_set_ne e]; exact h j hj
theorem Fits.take {f : Nat → Int32} {l : List Int} (h : Fits f l) (k : Nat) : Fits f (l.take k) := by
  intro j hj
  rw [List.length_take] at hj
  rw [lg_take (by omega)]; exact h j (by omega)
/-- only the cells from a on, n of them, may differ -/
def Out (hs hs' : AH) (a n : Nat) : Prop := ∀ k, (k < a ∨ a + n ≤ k) → hs'[k]? = hs[k]?
theorem Out.refl (hs : AH) (a n : Nat) : Out hs hs a n := fun _ _ => rfl
theorem Out.trans {h1 h2 h3 : AH} {a n : Nat} (x : Out h1 h2 a n) (y : Out h2 h3 a n) : Out h1 h3 a n := fun k hk => (y k hk).trans (x k hk)
theorem Out.mono {h1 h2 : AH} {a n b m : Nat} (x : Out h1 h2 a n) (h : b ≤ a) (h' : a + n ≤ b + m) : Out h1 h2 b m := fun k hk => x k (by omega)
theorem Out.at {h1 h2 : AH} {a n k : Nat} {e : AE} (x : Out h1 h2 a n) (h : h1[k]? = some e) (hk : k < a ∨ a + n ≤ k) : h2[k]? = some e := (x k hk).trans h
theorem Out.set (hs : AH) (k : Nat) (e : AE) : Out hs (hs.set k e) k 1 := fun j hj => List.getElem?_set_ne (by omega)
theorem set_at {hs : AH} {k : Nat} {e e' : AE} (h : hs[k]? = some e) : (hs.set k e')[k]? = some e' := List.getElem?_set_self (List.getElem?_eq_some_iff.mp h).1
theorem gV_of {hs : AH} {a ci k : Nat} {fs : List Value} {v : Value} (h : hs[a]? = some (.inr (ci, fs))) (hk : fs[k]? = some v) : gV hs a ci k = some v := by
  unfold gV; rw [h]; show (if ci = ci then _ else _) = _; rw [if_pos rfl]; exact hk
theorem gI_of {hs : AH} {a ci k : Nat} {fs : List Value} {x : Int32} (h : hs[a]? = some (.inr (ci, fs))) (hk : fs[k]? = some (.int x)) : gI hs a ci k = some x := by
  unfold gI; rw [gV_of h hk]
theorem gR_of {hs : AH} {a ci k : Nat} {fs : List Value} {x : Nat} (h : hs[a]? = some (.inr (ci, fs))) (hk : fs[k]? = some (.ref x)) : gR hs a ci k = some x := by
  unfold gR; rw [gV_of h hk]
theorem chk_of {hs : AH} {a ci : Nat} {fs : List Value} (h : hs[a]? = some (.inr (ci, fs))) : chk hs a ci = some () := by
  unfold chk; rw [h]; show (if ci = ci then _ else _) = _; rw [if_pos rfl]
theorem pV_of {hs : AH} {a ci k : Nat} {fs : List Value} (v : Value) (h : hs[a]? = some (.inr (ci, fs))) (hk : k < fs.length) : pV hs a ci k v = some (hs.set a (.inr (ci, fs.set k v))) := by
  unfold pV; rw [h]; show (if ci = ci ∧ k < fs.length then _ else _) = _; rw [if_pos ⟨rfl, hk⟩]
theorem pI_of {hs : AH} {a ci k : Nat} {fs : List Value} (x : Int32) (h : hs[a]? = some (.inr (ci, fs))) (hk : k < fs.length) : pI hs a ci k x = some (hs.set a (.inr (ci, fs.set k (.int x)))) := pV_of _ h hk
theorem pR_of {hs : AH} {a ci k : Nat} {fs : List Value} (x : Nat) (h : hs[a]? = some (.inr (ci, fs))) (hk : k < fs.length) : pR hs a ci k x = some (hs.set a (.inr (ci, fs.set k (.ref x)))) := pV_of _ h hk
theorem pZ_of {hs : AH} {a ci k : Nat} {fs : List Value} {x : Int} (h : hs[a]? = some (.inr (ci, fs))) (hk : k < fs.length) (hx : x = 0 ∨ x = 1) : pZ hs a ci k (ii x) = some (hs.set a (.inr (ci, fs.set k (.int (ii x))))) := by
  unfold pZ
  rw [if_pos (by rcases hx with rfl | rfl; exact Or.inl rfl; exact Or.inr rfl)]
  exact pV_of _ h hk
theorem aN_of {t : Nat} {hs : AH} {a n : Nat} {f : Nat → Int32} {z : Int} (h : hs[a]? = some (.inl (t, n, .inl f))) (h0 : 0 ≤ z) (h1 : z < n) (hn : n ≤ 2147483647) : aN t hs a (ii z) = some (f z.toNat) := by
  unfold aN; rw [h]; show (if t = t ∧ 0 ≤ ii z ∧ (ii z).toNatClampNeg < n then _ else _) = _
  rw [if_pos ⟨rfl, by rw [il_0, ii_le (by omega) (by omega) (by omega) (by omega)]; exact h0, by rw [ii_nat (by omega) (by omega)]; omega⟩, ii_nat (by omega) (by omega)]
theorem sN_of {t : Nat} {hs : AH} {a n : Nat} {f : Nat → Int32} {z : Int} (v : Int32) (h : hs[a]? = some (.inl (t, n, .inl f))) (h0 : 0 ≤ z) (h1 : z < n) (hn : n ≤ 2147483647) : sN t hs a (ii z) v = some (hs.set a (.inl (t, n, .inl (upd f z.toNat v)))) := by
  unfold sN; rw [h]; show (if t = t ∧ 0 ≤ ii z ∧ (ii z).toNatClampNeg < n then _ else _) = _
  rw [if_pos ⟨rfl, by rw [il_0, ii_le (by omega) (by omega) (by omega) (by omega)]; exact h0, by rw [ii_nat (by omega) (by omega)]; omega⟩, ii_nat (by omega) (by omega)]
/-! an array whose first cells hold a list; an array that holds a list -/
def ArA (t : Nat) (hs : AH) (a n : Nat) (l : List Int) : Prop := l.length ≤ n ∧ ∃ f, hs[a]? = some (.inl (t, n, .inl f)) ∧ Fits f l
theorem ArA.get {t : Nat} {hs : AH} {a n : Nat} {l : List Int} {z : Int} (h : ArA t hs a n l) (h0 : 0 ≤ z) (h1 : z < l.length) (hn : n ≤ 2147483647) : aN t hs a (ii z) = some (ii (lg l z.toNat)) := by
  obtain ⟨hl, f, h, hf⟩ := h
  rw [aN_of h h0 (by omega) hn, hf z.toNat (by omega)]
theorem ArA.put {t : Nat} {hs : AH} {a n : Nat} {l : List Int} {z : Int} (v : Int) (h : ArA t hs a n l) (h0 : 0 ≤ z) (h1 : z < l.length) (hn : n ≤ 2147483647) : ∃ hs', sN t hs a (ii z) (ii v) = some hs' ∧ ArA t hs' a n (l.set z.toNat v) ∧ Out hs hs' a 1 := by
  obtain ⟨hl, f, h, hf⟩ := h
  exact ⟨_, sN_of _ h h0 (by omega) hn, ⟨by rw [List.length_set]; exact hl, _, set_at h, hf.set (by omega)⟩, Out.set _ _ _⟩
theorem ArA.push {t : Nat} {hs : AH} {a n : Nat} {l : List Int} (v : Int) (h : ArA t hs a n l) (h1 : l.length < n) (hn : n ≤ 2147483647) : ∃ hs', sN t hs a (ii l.length) (ii v) = some hs' ∧ ArA t hs' a n (l ++ [v]) ∧ Out hs hs' a 1 := by
  obtain ⟨hl, f, h, hf⟩ := h
  exact ⟨_, sN_of _ h (by omega) (by omega) hn, ⟨by rw [List.length_append]; exact h1, _, set_at h, by rw [Int.toNat_natCast]; exact hf.push⟩, Out.set _ _ _⟩
theorem ArA.out {t : Nat} {hs hs' : AH} {a n b m : Nat} {l : List Int} (h : ArA t hs a n l) (o : Out hs hs' b m) (hd : a < b ∨ b + m ≤ a) : ArA t hs' a n l := by
  obtain ⟨hl, f, h, hf⟩ := h
  exact ⟨hl, f, o.at h hd, hf⟩
theorem ArA.sub {t : Nat} {hs : AH} {a n : Nat} {l : List Int} (h : ArA t hs a n l) (k : Nat) : ArA t hs a n (l.take k) := by
  obtain ⟨hl, f, h, hf⟩ := h
  exact ⟨by rw [List.length_take]; omega, f, h, hf.take k⟩
/-! a line -/
def LnA (hs : AH) (a : Nat) (x : List Int) : Prop := hs[a]? = some (.inr (2, [.ref (a + 1), .int (ii x.length)])) ∧ ArA 0 hs (a + 1) 45 x
theorem LnA.le {hs : AH} {a : Nat} {x : List Int} (h : LnA hs a x) : x.length ≤ 45 := h.2.1
theorem LnA.gI {hs : AH} {a : Nat} {x : List Int} (h : LnA hs a x) : gI hs a 2 1 = some (ii x.length) := gI_of h.1 rfl
theorem LnA.gR {hs : AH} {a : Nat} {x : List Int} (h : LnA hs a x) : gR hs a 2 0 = some (a + 1) := gR_of h.1 rfl
theorem LnA.chk {hs : AH} {a : Nat} {x : List Int} (h : LnA hs a x) : chk hs a 2 = some () := chk_of h.1
theorem LnA.out {hs hs' : AH} {a b m : Nat} {x : List Int} (h : LnA hs a x) (o : Out hs hs' b m) (hd : a + 2 ≤ b ∨ b + m ≤ a) : LnA hs' a x := ⟨o.at h.1 (by omega), h.2.out o (by omega)⟩
theorem LnA.cut {hs : AH} {a : Nat} {x : List Int} (h : LnA hs a x) (k : Nat) (hk : k ≤ x.length) : ∃ hs', pI hs a 2 1 (ii k) = some hs' ∧ LnA hs' a (x.take k) ∧ Out hs hs' a 2 :=
  ⟨_, pI_of _ h.1 (Nat.le_of_ble_eq_true rfl), ⟨by rw [set_at h.1, List.length_take, Nat.min_eq_left hk]; rfl, (h.2.sub k).out (Out.set _ _ _) (by omega)⟩, (Out.set _ _ _).mono (by omega) (by omega)⟩
theorem X2_size {hs : AH} {a : Nat} {x : List Int} (h : LnA hs a x) : f_X2_size a hs = some (ii x.length) := by
  unfold f_X2_size; rw [h.gI]; rfl
theorem X2_at {hs : AH} {a : Nat} {x : List Int} {z : Int} (h : LnA hs a x) (h1 : -2147483648 ≤ z) (h2 : z ≤ 2147483647) : f_X2_at a (ii z) hs = some (ii (lat x z)) := by
  have hn := h.le
  unfold f_X2_at
  simp (disch := omega) only [h.gI, h.gR, ii_add, ii_sub, ii_mul, ii_neg, ii_div, ii_lt, ii_le, ii_eq, ob_some, il_0, il_1, il_2, il_3, il_4, il_5, il_6, il_7, il_8, il_9, il_10, il_11, il_12, il_13, il_14, il_15, il_16, il_17, il_18, il_19, il_20, il_21, il_22, il_23, il_24, il_25, il_26, il_27, il_28, il_29, il_30, il_31, il_32, il_33, il_34, il_35, il_36, il_37, il_38, il_39, il_40, il_41, il_42, il_43, il_44, il_45, il_46, il_47, il_48, il_49, il_50, il_51, il_52, il_53, il_54, il_55, il_56, il_57, il_58, il_59, il_60, il_61, il_62, il_63, il_64, il_65, il_66, il_67, il_68, il_69, il_70, il_71, il_72, il_73, il_74, il_75, il_76, il_77, il_78, il_79, il_80, il_81, il_82, il_83, il_84, il_85, il_86, il_87, il_88, il_89, il_90, il_91, il_92, il_93, il_94, il_95, il_96, il_97, il_98, il_99, il_100, il_101, il_102, il_103, il_104, il_105, il_106, il_107, il_108, il_109, il_110, il_111, il_112, il_113, il_114, il_115, il_116, il_117, il_118, il_119, il_120, il_121, il_122, il_123, il_124, il_125, il_126, il_127, il_128, il_129, il_130, il_131, il_132, il_133, il_134, il_135, il_136, il_137, il_138, il_139, il_140, il_141, il_142, il_143, il_144, il_145, il_146, il_147, il_148, il_149, il_150, il_151, il_152, il_153, il_154, il_155, il_156, il_157, il_158, il_159, il_160, il_161, il_162, il_163, il_164, il_165, il_166, il_167, il_168, il_169, il_170, il_171, il_172, il_173, il_174, il_175, il_176, il_177, il_178, il_179, il_180, il_181, il_182, il_183, il_184, il_185, il_186, il_187, il_188, il_189, il_190, il_191, il_192, il_193, il_194, il_195, il_196, il_197, il_198, il_199, il_200, il_201, il_202, il_203, il_204, il_205, il_206, il_207, il_208, il_209, il_210, il_211, il_212, il_213, il_214, il_215, il_216, il_217, il_218, il_219, il_220, il_221, il_222, il_223, il_224, il_225, il_226, il_227, il_228, il_229, il_230, il_231, il_232, il_233, il_234, il_235, il_236, il_237, il_238, il_239, il_240, il_241, il_242, il_243, il_244, il_245, il_246, il_247, il_248, il_249, il_250, il_251, il_252, il_253, il_254, il_255, il_400, il_480, il_1023, il_2880, il_3000, il_6000, il_m1, il_m8]
  by_cases c1 : z < 0
  · rw [if_pos c1, lat_neg c1]
  · rw [if_neg c1]
    by_cases c2 : (x.length : Int) ≤ z
    · rw [if_pos c2, lat_out c2]
    · rw [if_neg c2, h.2.get (by omega) (by omega) (by decide), lat_in (by omega)]; rfl
def ladd (x : List Int) (v : Int) : List Int := if x.length < 45 then x ++ [v] else x
theorem X2_add {hs : AH} {a : Nat} {x : List Int} {v : Int} (h : LnA hs a x) : ∃ hs', f_X2_add a (ii v) hs = some hs' ∧ LnA hs' a (ladd x v) ∧ Out hs hs' a 2 := by
  have hn := h.le
  unfold f_X2_add ladd
  simp (disch := omega) only [h.gI, h.gR, ii_add, ii_sub, ii_mul, ii_neg, ii_div, ii_lt, ii_le, ii_eq, ob_some, il_0, il_1, il_2, il_3, il_4, il_5, il_6, il_7, il_8, il_9, il_10, il_11, il_12, il_13, il_14, il_15, il_16, il_17, il_18, il_19, il_20, il_21, il_22, il_23, il_24, il_25, il_26, il_27, il_28, il_29, il_30, il_31, il_32, il_33, il_34, il_35, il_36, il_37, il_38, il_39, il_40, il_41, il_42, il_43, il_44, il_45, il_46, il_47, il_48, il_49, il_50, il_51, il_52, il_53, il_54, il_55, il_56, il_57, il_58, il_59, il_60, il_61, il_62, il_63, il_64, il_65, il_66, il_67, il_68, il_69, il_70, il_71, il_72, il_73, il_74, il_75, il_76, il_77, il_78, il_79, il_80, il_81, il_82, il_83, il_84, il_85, il_86, il_87, il_88, il_89, il_90, il_91, il_92, il_93, il_94, il_95, il_96, il_97, il_98, il_99, il_100, il_101, il_102, il_103, il_104, il_105, il_106, il_107, il_108, il_109, il_110, il_111, il_112, il_113, il_114, il_115, il_116, il_117, il_118, il_119, il_120, il_121, il_122, il_123, il_124, il_125, il_126, il_127, il_128, il_129, il_130, il_131, il_132, il_133, il_134, il_135, il_136, il_137, il_138, il_139, il_140, il_141, il_142, il_143, il_144, il_145, il_146, il_147, il_148, il_149, il_150, il_151, il_152, il_153, il_154, il_155, il_156, il_157, il_158, il_159, il_160, il_161, il_162, il_163, il_164, il_165, il_166, il_167, il_168, il_169, il_170, il_171, il_172, il_173, il_174, il_175, il_176, il_177, il_178, il_179, il_180, il_181, il_182, il_183, il_184, il_185, il_186, il_187, il_188, il_189, il_190, il_191, il_192, il_193, il_194, il_195, il_196, il_197, il_198, il_199, il_200, il_201, il_202, il_203, il_204, il_205, il_206, il_207, il_208, il_209, il_210, il_211, il_212, il_213, il_214, il_215, il_216, il_217, il_218, il_219, il_220, il_221, il_222, il_223, il_224, il_225, il_226, il_227, il_228, il_229, il_230, il_231, il_232, il_233, il_234, il_235, il_236, il_237, il_238, il_239, il_240, il_241, il_242, il_243, il_244, il_245, il_246, il_247, il_248, il_249, il_250, il_251, il_252, il_253, il_254, il_255, il_400, il_480, il_1023, il_2880, il_3000, il_6000, il_m1, il_m8]
  rw [if_neg (by omega)]
  by_cases c2 : x.length < 45
  · rw [if_neg (by omega), if_pos c2]
    obtain ⟨hs1, e1, l1, o1⟩ := h.2.push v c2 (by decide)
    have h0 := o1.at h.1 (by omega)
    refine ⟨hs1.set a (.inr (2, [.ref (a + 1), .int (ii ((x ++ [v]).length : Nat))])), ?_, ⟨set_at h0, l1.out (Out.set _ _ _) (by omega)⟩, (o1.mono (by omega) (by omega)).trans ((Out.set _ _ _).mono (by omega) (by omega))⟩
    rw [e1, ob_some, gI_of h0 rfl, ob_some, pI_of _ h0 (Nat.le_of_ble_eq_true rfl), ob_some, List.length_append, ii_add]
    rfl
  · rw [if_pos (by omega), if_neg c2]
    exact ⟨hs, rfl, h, Out.refl _ _ _⟩
theorem X2_put {hs : AH} {a : Nat} {x : List Int} {z v : Int} (h : LnA hs a x) (h1 : -2147483648 ≤ z) (h2 : z ≤ 2147483647) : ∃ hs', f_X2_put a (ii z) (ii v) hs = some (ii (lat x z), hs') ∧ LnA hs' a (if 0 ≤ z then x.set z.toNat v else x) ∧ Out hs hs' a 2 := by
  have hn := h.le
  unfold f_X2_put
  simp (disch := omega) only [h.gI, h.gR, h.chk, X2_at h h1 h2, ii_add, ii_sub, ii_mul, ii_neg, ii_div, ii_lt, ii_le, ii_eq, ob_some, il_0, il_1, il_2, il_3, il_4, il_5, il_6, il_7, il_8, il_9, il_10, il_11, il_12, il_13, il_14, il_15, il_16, il_17, il_18, il_19, il_20, il_21, il_22, il_23, il_24, il_25, il_26, il_27, il_28, il_29, il_30, il_31, il_32, il_33, il_34, il_35, il_36, il_37, il_38, il_39, il_40, il_41, il_42, il_43, il_44, il_45, il_46, il_47, il_48, il_49, il_50, il_51, il_52, il_53, il_54, il_55, il_56, il_57, il_58, il_59, il_60, il_61, il_62, il_63, il_64, il_65, il_66, il_67, il_68, il_69, il_70, il_71, il_72, il_73, il_74, il_75, il_76, il_77, il_78, il_79, il_80, il_81, il_82, il_83, il_84, il_85, il_86, il_87, il_88, il_89, il_90, il_91, il_92, il_93, il_94, il_95, il_96, il_97, il_98, il_99, il_100, il_101, il_102, il_103, il_104, il_105, il_106, il_107, il_108, il_109, il_110, il_111, il_112, il_113, il_114, il_115, il_116, il_117, il_118, il_119, il_120, il_121, il_122, il_123, il_124, il_125, il_126, il_127, il_128, il_129, il_130, il_131, il_132, il_133, il_134, il_135, il_136, il_137, il_138, il_139, il_140, il_141, il_142, il_143, il_144, il_145, il_146, il_147, il_148, il_149, il_150, il_151, il_152, il_153, il_154, il_155, il_156, il_157, il_158, il_159, il_160, il_161, il_162, il_163, il_164, il_165, il_166, il_167, il_168, il_169, il_170, il_171, il_172, il_173, il_174, il_175, il_176, il_177, il_178, il_179, il_180, il_181, il_182, il_183, il_184, il_185, il_186, il_187, il_188, il_189, il_190, il_191, il_192, il_193, il_194, il_195, il_196, il_197, il_198, il_199, il_200, il_201, il_202, il_203, il_204, il_205, il_206, il_207, il_208, il_209, il_210, il_211, il_212, il_213, il_214, il_215, il_216, il_217, il_218, il_219, il_220, il_221, il_222, il_223, il_224, il_225, il_226, il_227, il_228, il_229, il_230, il_231, il_232, il_233, il_234, il_235, il_236, il_237, il_238, il_239, il_240, il_241, il_242, il_243, il_244, il_245, il_246, il_247, il_248, il_249, il_250, il_251, il_252, il_253, il_254, il_255, il_400, il_480, il_1023, il_2880, il_3000, il_6000, il_m1, il_m8]
  by_cases c1 : z < 0
  · rw [if_pos c1, if_neg (by omega)]
    exact ⟨hs, rfl, h, Out.refl _ _ _⟩
  · have h0 : 0 ≤ z := by omega
    rw [if_neg c1, if_pos h0]
    by_cases c2 : (x.length : Int) ≤ z
    · rw [if_pos c2, List.set_eq_of_length_le (by omega)]
      exact ⟨hs, rfl, h, Out.refl _ _ _⟩
    · rw [if_neg c2]
      obtain ⟨hs1, e1, l1, o1⟩ := h.2.put (z := z) v (by omega) (by omega) (by decide)
      refine ⟨hs1, by rw [e1]; rfl, ⟨by rw [List.length_set]; exact o1.at h.1 (by omega), l1⟩, o1.mono (by omega) (by omega)⟩
theorem X2_clear {hs : AH} {a : Nat} {x : List Int} (h : LnA hs a x) : ∃ hs', f_X2_clear a hs = some hs' ∧ LnA hs' a [] ∧ Out hs hs' a 2 := by
  obtain ⟨hs', e, l, o⟩ := h.cut 0 (by omega)
  exact ⟨hs', by unfold f_X2_clear; rw [show (0 : Int32) = ii ((0 : Nat) : Int) from rfl, e]; rfl, l, o⟩
theorem X2_cutTo {hs : AH} {a : Nat} {x : List Int} {k : Nat} (h : LnA hs a x) (hk : k ≤ 45) : ∃ hs', f_X2_cutTo a (ii k) hs = some hs' ∧ LnA hs' a (x.take k) ∧ Out hs hs' a 2 := by
  have hn := h.le
  unfold f_X2_cutTo
  simp (disch := omega) only [h.gI, ii_add, ii_sub, ii_mul, ii_neg, ii_div, ii_lt, ii_le, ii_eq, ob_some, il_0, il_1, il_2, il_3, il_4, il_5, il_6, il_7, il_8, il_9, il_10, il_11, il_12, il_13, il_14, il_15, il_16, il_17, il_18, il_19, il_20, il_21, il_22, il_23, il_24, il_25, il_26, il_27, il_28, il_29, il_30, il_31, il_32, il_33, il_34, il_35, il_36, il_37, il_38, il_39, il_40, il_41, il_42, il_43, il_44, il_45, il_46, il_47, il_48, il_49, il_50, il_51, il_52, il_53, il_54, il_55, il_56, il_57, il_58, il_59, il_60, il_61, il_62, il_63, il_64, il_65, il_66, il_67, il_68, il_69, il_70, il_71, il_72, il_73, il_74, il_75, il_76, il_77, il_78, il_79, il_80, il_81, il_82, il_83, il_84, il_85, il_86, il_87, il_88, il_89, il_90, il_91, il_92, il_93, il_94, il_95, il_96, il_97, il_98, il_99, il_100, il_101, il_102, il_103, il_104, il_105, il_106, il_107, il_108, il_109, il_110, il_111, il_112, il_113, il_114, il_115, il_116, il_117, il_118, il_119, il_120, il_121, il_122, il_123, il_124, il_125, il_126, il_127, il_128, il_129, il_130, il_131, il_132, il_133, il_134, il_135, il_136, il_137, il_138, il_139, il_140, il_141, il_142, il_143, il_144, il_145, il_146, il_147, il_148, il_149, il_150, il_151, il_152, il_153, il_154, il_155, il_156, il_157, il_158, il_159, il_160, il_161, il_162, il_163, il_164, il_165, il_166, il_167, il_168, il_169, il_170, il_171, il_172, il_173, il_174, il_175, il_176, il_177, il_178, il_179, il_180, il_181, il_182, il_183, il_184, il_185, il_186, il_187, il_188, il_189, il_190, il_191, il_192, il_193, il_194, il_195, il_196, il_197, il_198, il_199, il_200, il_201, il_202, il_203, il_204, il_205, il_206, il_207, il_208, il_209, il_210, il_211, il_212, il_213, il_214, il_215, il_216, il_217, il_218, il_219, il_220, il_221, il_222, il_223, il_224, il_225, il_226, il_227, il_228, il_229, il_230, il_231, il_232, il_233, il_234, il_235, il_236, il_237, il_238, il_239, il_240, il_241, il_242, il_243, il_244, il_245, il_246, il_247, il_248, il_249, il_250, il_251, il_252, il_253, il_254, il_255, il_400, il_480, il_1023, il_2880, il_3000, il_6000, il_m1, il_m8]
  rw [if_pos (by omega)]
  by_cases c : (x.length : Int) ≤ k
  · rw [if_pos c]
    obtain ⟨hs', e, l, o⟩ := h.cut x.length (by omega)
    rw [List.take_length] at l
    rw [List.take_of_length_le (by omega)]
    exact ⟨hs', by rw [e]; rfl, l, o⟩
  · rw [if_neg c]
    obtain ⟨hs', e, l, o⟩ := h.cut k (by omega)
    exact ⟨hs', by rw [e]; rfl, l, o⟩
theorem X2_copy_loop {a b : Nat} {y : List Int} (hab : a + 2 ≤ b ∨ b + 2 ≤ a) : ∀ (d n : Nat) (k : Nat) (hs : AH), d < n → k + d = y.length → LnA hs b y → LnA hs a (y.take k) → ∃ hs', f_X2_copyFrom_b7 n a b (ii k) hs = some hs' ∧ LnA hs' a y ∧ Out hs hs' a 2 := by
  intro d
  induction d with
  | zero =>
    intro n k hs hn hk hb ha
    obtain ⟨n, rfl⟩ : ∃ z, n = z + 1 := ⟨n - 1, by omega⟩
    have hl := hb.le
    unfold f_X2_copyFrom_b7
    simp (disch := omega) only [hb.gI, ii_add, ii_sub, ii_mul, ii_neg, ii_div, ii_lt, ii_le, ii_eq, ob_some, il_0, il_1, il_2, il_3, il_4, il_5, il_6, il_7, il_8, il_9, il_10, il_11, il_12, il_13, il_14, il_15, il_16, il_17, il_18, il_19, il_20, il_21, il_22, il_23, il_24, il_25, il_26, il_27, il_28, il_29, il_30, il_31, il_32, il_33, il_34, il_35, il_36, il_37, il_38, il_39, il_40, il_41, il_42, il_43, il_44, il_45, il_46, il_47, il_48, il_49, il_50, il_51, il_52, il_53, il_54, il_55, il_56, il_57, il_58, il_59, il_60, il_61, il_62, il_63, il_64, il_65, il_66, il_67, il_68, il_69, il_70, il_71, il_72, il_73, il_74, il_75, il_76, il_77, il_78, il_79, il_80, il_81, il_82, il_83, il_84, il_85, il_86, il_87, il_88, il_89, il_90, il_91, il_92, il_93, il_94, il_95, il_96, il_97, il_98, il_99, il_100, il_101, il_102, il_103, il_104, il_105, il_106, il_107, il_108, il_109, il_110, il_111, il_112, il_113, il_114, il_115, il_116, il_117, il_118, il_119, il_120, il_121, il_122, il_123, il_124, il_125, il_126, il_127, il_128, il_129, il_130, il_131, il_132, il_133, il_134, il_135, il_136, il_137, il_138, il_139, il_140, il_141, il_142, il_143, il_144, il_145, il_146, il_147, il_148, il_149, il_150, il_151, il_152, il_153, il_154, il_155, il_156, il_157, il_158, il_159, il_160, il_161, il_162, il_163, il_164, il_165, il_166, il_167, il_168, il_169, il_170, il_171, il_172, il_173, il_174, il_175, il_176, il_177, il_178, il_179, il_180, il_181, il_182, il_183, il_184, il_185, il_186, il_187, il_188, il_189, il_190, il_191, il_192, il_193, il_194, il_195, il_196, il_197, il_198, il_199, il_200, il_201, il_202, il_203, il_204, il_205, il_206, il_207, il_208, il_209, il_210, il_211, il_212, il_213, il_214, il_215, il_216, il_217, il_218, il_219, il_220, il_221, il_222, il_223, il_224, il_225, il_226, il_227, il_228, il_229, il_230, il_231, il_232, il_233, il_234, il_235, il_236, il_237, il_238, il_239, il_240, il_241, il_242, il_243, il_244, il_245, il_246, il_247, il_248, il_249, il_250, il_251, il_252, il_253, il_254, il_255, il_400, il_480, il_1023, il_2880, il_3000, il_6000, il_m1, il_m8]
    rw [if_pos (by omega)]
    rw [List.take_of_length_le (by omega)] at ha
    exact ⟨hs, rfl, ha, Out.refl _ _ _⟩
  | succ d ih =>
    intro n k hs hn hk hb ha
    obtain ⟨n, rfl⟩ : ∃ z, n = z + 1 := ⟨n - 1, by omega⟩
    have hl := hb.le
    unfold f_X2_copyFrom_b7
    simp (disch := omega) only [hb.gI, hb.chk, ha.chk, X2_at hb (z := k) (by omega) (by omega), ii_add, ii_sub, ii_mul, ii_neg, ii_div, ii_lt, ii_le, ii_eq, ob_some, il_0, il_1, il_2, il_3, il_4, il_5, il_6, il_7, il_8, il_9, il_10, il_11, il_12, il_13, il_14, il_15, il_16, il_17, il_18, il_19, il_20, il_21, il_22, il_23, il_24, il_25, il_26, il_27, il_28, il_29, il_30, il_31, il_32, il_33, il_34, il_35, il_36, il_37, il_38, il_39, il_40, il_41, il_42, il_43, il_44, il_45, il_46, il_47, il_48, il_49, il_50, il_51, il_52, il_53, il_54, il_55, il_56, il_57, il_58, il_59, il_60, il_61, il_62, il_63, il_64, il_65, il_66, il_67, il_68, il_69, il_70, il_71, il_72, il_73, il_74, il_75, il_76, il_77, il_78, il_79, il_80, il_81, il_82, il_83, il_84, il_85, il_86, il_87, il_88, il_89, il_90, il_91, il_92, il_93, il_94, il_95, il_96, il_97, il_98, il_99, il_100, il_101, il_102, il_103, il_104, il_105, il_106, il_107, il_108, il_109, il_110, il_111, il_112, il_113, il_114, il_115, il_116, il_117, il_118, il_119, il_120, il_121, il_122, il_123, il_124, il_125, il_126, il_127, il_128, il_129, il_130, il_131, il_132, il_133, il_134, il_135, il_136, il_137, il_138, il_139, il_140, il_141, il_142, il_143, il_144, il_145, il_146, il_147, il_148, il_149, il_150, il_151, il_152, il_153, il_154, il_155, il_156, il_157, il_158, il_159, il_160, il_161, il_162, il_163, il_164, il_165, il_166, il_167, il_168, il_169, il_170, il_171, il_172, il_173, il_174, il_175, il_176, il_177, il_178, il_179, il_180, il_181, il_182, il_183, il_184, il_185, il_186, il_187, il_188, il_189, il_190, il_191, il_192, il_193, il_194, il_195, il_196, il_197, il_198, il_199, il_200, il_201, il_202, il_203, il_204, il_205, il_206, il_207, il_208, il_209, il_210, il_211, il_212, il_213, il_214, il_215, il_216, il_217, il_218, il_219, il_220, il_221, il_222, il_223, il_224, il_225, il_226, il_227, il_228, il_229, il_230, il_231, il_232, il_233, il_234, il_235, il_236, il_237, il_238, il_239, il_240, il_241, il_242, il_243, il_244, il_245, il_246, il_247, il_248, il_249, il_250, il_251, il_252, il_253, il_254, il_255, il_400, il_480, il_1023, il_2880, il_3000, il_6000, il_m1, il_m8]
    rw [if_neg (by omega)]
    obtain ⟨hs1, e1, l1, o1⟩ := X2_add (v := lat y k) ha
    rw [e1, ob_some]
    have hlen : (y.take k).length = k := by rw [List.length_take]; omega
    have he : ladd (y.take k) (lat y k) = y.take (k + 1) := by
      unfold ladd
      rw [if_pos (by omega), lat_nat]
      refine lg_ext (by rw [List.length_append, hlen, List.length_take]; simp; omega) (fun j hj => ?_)
      rw [List.length_append, hlen] at hj
      simp at hj
      rw [lg_take (by omega)]
      by_cases e : j = k
      · subst e
        have := lg_push (l := y.take j) (v := lg y j)
        rw [hlen] at this
        exact this
      · rw [lg_push_lt (by omega), lg_take (by omega)]
    rw [he] at l1
    obtain ⟨hs2, e2, l2, o2⟩ := ih n (k + 1) hs1 (by omega) (by omega) (hb.out o1 (by omega)) l1
    exact ⟨hs2, by rw [← e2]; rfl, l2, o1.trans o2⟩
theorem X2_copyFrom {hs : AH} {a b : Nat} {x y : List Int} (hab : a + 2 ≤ b ∨ b + 2 ≤ a) (ha : LnA hs a x) (hb : LnA hs b y) : ∃ hs', f_X2_copyFrom a b hs = some hs' ∧ LnA hs' a y ∧ Out hs hs' a 2 := by
  obtain ⟨hs1, e1, l1, o1⟩ := ha.cut 0 (by omega)
  have hl := hb.le
  obtain ⟨hs2, e2, l2, o2⟩ := X2_copy_loop hab y.length FUEL 0 hs1 (by unfold FUEL; omega) (by omega) (hb.out o1 (by omega)) l1
  refine ⟨hs2, ?_, l2, o1.trans o2⟩
  unfold f_X2_copyFrom
  rw [show (0 : Int32) = ii ((0 : Nat) : Int) from rfl, e1, ob_some, e2]
