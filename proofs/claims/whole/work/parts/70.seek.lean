/-! ===== motions counted; the seeker ===== -/
section MOTS
variable {a : Nat} {s : Sh}
theorem X1_mots (k : SOK s) {kind : Int} (k1 : -1 ≤ kind ∧ kind ≤ 10) (hg : 1 ≤ s.gv.length) : ∀ (d n b : Nat) (hs : AH) (x : Nat → Int) (sp : Nat → Spn), d < n → b + d + 1 = s.gv.length → JuA hs a s x sp →
    ∃ hs' sp', f_X1_motionsOf_b4 n a (ii kind) (ii (sumM s kind b)) (ii b) hs = some (ii (sumM s kind (s.gv.length - 1)), hs') ∧ JuA hs' a s x sp' ∧ Out hs hs' a 16 := by
  have gl := k.gl
  intro d
  induction d with
  | zero =>
    intro n b hs x sp hn hb j
    obtain ⟨n, rfl⟩ : ∃ z, n = z + 1 := ⟨n - 1, by omega⟩
    obtain rfl : b = s.gv.length - 1 := by omega
    refine ⟨hs, sp, ?_, j, Out.refl _ _ _⟩
    unfold f_X1_motionsOf_b4
    rw [j.sh, ob_some, j.2.1.g, ob_some, j.2.1.2.1.chk, ob_some, X2_size j.2.1.2.1, ob_some, il_1, ii_sub, if_pos (by rw [ii_le (by omega) (by omega) (by omega) (by omega)]; omega)]
  | succ d ih =>
    intro n b hs x sp hn hb j
    obtain ⟨n, rfl⟩ : ∃ z, n = z + 1 := ⟨n - 1, by omega⟩
    obtain ⟨h1, sp1, e1, j1, o1⟩ := X1_motionFrom k j (b := (b : Int)) (by omega) (by omega)
    have mb := motC_b s b
    obtain ⟨h2, sp2, e2, j2, o2⟩ := ih n (b + 1) h1 x sp1 (by omega) (by omega) j1
    refine ⟨h2, sp2, ?_, j2, o1.trans o2⟩
    have es : sumM s kind (b + 1) = sumM s kind b + moG s kind b := rfl
    rw [es] at e2
    unfold f_X1_motionsOf_b4
    rw [j.sh, ob_some, j.2.1.g, ob_some, j.2.1.2.1.chk, ob_some, X2_size j.2.1.2.1, ob_some, il_m1, il_1, ii_sub, if_neg (by rw [ii_le (by omega) (by omega) (by omega) (by omega)]; omega), j.chk, ob_some, e1, ob_some]
    dsimp only
    rw [ii_add, ii_add, show ((b : Int) + 1) = ((b + 1 : Nat) : Int) by omega]
    unfold moG at e2
    by_cases c : motC s b = -1
    · rw [if_pos c, Int.add_zero] at e2
      rw [if_pos (by rw [c])]
      exact e2
    · rw [if_neg c] at e2
      rw [if_neg (by rw [ii_eq (by omega) (by omega) (by omega) (by omega)]; exact c)]
      by_cases d : kind = -1
      · rw [if_pos d] at e2
        rw [if_pos (by rw [d])]
        exact e2
      · rw [if_neg d] at e2
        rw [if_neg (by rw [ii_eq (by omega) (by omega) (by omega) (by omega)]; exact d)]
        by_cases e : kind = motC s b
        · rw [if_pos e] at e2
          rw [if_pos (by rw [e])]
          exact e2
        · rw [if_neg e, Int.add_zero] at e2
          rw [if_neg (by rw [ii_eq (by omega) (by omega) (by omega) (by omega)]; exact e)]
          exact e2
theorem X1_motionsOf (k : SOK s) {kind : Int} (k1 : -1 ≤ kind ∧ kind ≤ 10) (hg : 1 ≤ s.gv.length) {hs : AH} {x : Nat → Int} {sp : Nat → Spn} (j : JuA hs a s x sp) : ∃ hs' sp', f_X1_motionsOf a (ii kind) hs = some (ii (sumM s kind (s.gv.length - 1)), hs') ∧ JuA hs' a s x sp' ∧ Out hs hs' a 16 := by
  have gl := k.gl
  unfold f_X1_motionsOf
  exact X1_mots k k1 hg (s.gv.length - 1) FUEL 0 hs x sp (by unfold FUEL; omega) (by omega) j
end MOTS
/-- may the code be tried in the bar -/
def candS (s : Sh) (bar c : Int) : Int := if c % 3 - 1 = 0 then allow s (pit c) else if c % 3 - 1 = 1 then (if bar = (s.gv.length : Int) - 2 then allow s (pit c) else 0) else 0
theorem candS_b (s : Sh) (bar c : Int) : 0 ≤ candS s bar c ∧ candS s bar c ≤ 1 := if_b (allow_b s _) (if_b (if_b (allow_b s _) b00) b00)
/-- the first candidate from c on, d codes ahead; none: -1 -/
def candF (s : Sh) (bar : Int) : Nat → Int → Int
  | 0, _ => -1
  | d + 1, c => if candS s bar c = 1 then c else candF s bar d (c + 1)
/-- the seeker at a: its judge behind it -/
def SeA (hs : AH) (a : Nat) (s : Sh) (x : Nat → Int) (sp : Nat → Spn) : Prop := hs[a]? = some (.inr (5, [.ref (a + 1), .ref (a + 2)])) ∧ JuA hs (a + 1) s x sp
section SEEK
variable {a : Nat} {s : Sh}
theorem SeA.chk {hs : AH} {x : Nat → Int} {sp : Nat → Spn} (h : SeA hs a s x sp) : chk hs a 5 = some () := chk_of h.1
theorem SeA.ju {hs : AH} {x : Nat → Int} {sp : Nat → Spn} (h : SeA hs a s x sp) : gR hs a 5 0 = some (a + 1) := gR_of h.1 rfl
theorem SeA.sh {hs : AH} {x : Nat → Int} {sp : Nat → Spn} (h : SeA hs a s x sp) : gR hs a 5 1 = some (a + 2) := gR_of h.1 rfl
theorem SeA.sq {hs : AH} {x : Nat → Int} {sp : Nat → Spn} (h : SeA hs a s x sp) : ShA hs (a + 2) s := h.2.2.1
theorem SeA.out {hs hs' : AH} {b m : Nat} {x : Nat → Int} {sp : Nat → Spn} (h : SeA hs a s x sp) (o : Out hs hs' b m) (hd : a + 17 ≤ b ∨ b + m ≤ a) : SeA hs' a s x sp := ⟨o.at h.1 (by omega), h.2.out o (by omega)⟩
theorem X8_alt {c : Int} (h0 : 0 ≤ c) (h1 : c ≤ 1000) : f_X8_alterationOf (ii c) = some (ii (c % 3 - 1)) := by
  unfold f_X8_alterationOf
  simp (disch := omega) only [ii_add, ii_sub, ii_mul, ii_neg, ii_div, ii_lt, ii_le, ii_eq, ob_some, il_0, il_1, il_2, il_3, il_4, il_5, il_6, il_7, il_8, il_9, il_10, il_11, il_12, il_13, il_14, il_15, il_16, il_17, il_18, il_19, il_20, il_21, il_22, il_23, il_24, il_25, il_26, il_27, il_28, il_29, il_30, il_31, il_32, il_33, il_34, il_35, il_36, il_37, il_38, il_39, il_40, il_41, il_42, il_43, il_44, il_45, il_46, il_47, il_48, il_49, il_50, il_51, il_52, il_53, il_54, il_55, il_56, il_57, il_58, il_59, il_60, il_61, il_62, il_63, il_64, il_65, il_66, il_67, il_68, il_69, il_70, il_71, il_72, il_73, il_74, il_75, il_76, il_77, il_78, il_79, il_80, il_81, il_82, il_83, il_84, il_85, il_86, il_87, il_88, il_89, il_90, il_91, il_92, il_93, il_94, il_95, il_96, il_97, il_98, il_99, il_100, il_101, il_102, il_103, il_104, il_105, il_106, il_107, il_108, il_109, il_110, il_111, il_112, il_113, il_114, il_115, il_116, il_117, il_118, il_119, il_120, il_121, il_122, il_123, il_124, il_125, il_126, il_127, il_128, il_129, il_130, il_131, il_132, il_133, il_134, il_135, il_136, il_137, il_138, il_139, il_140, il_141, il_142, il_143, il_144, il_145, il_146, il_147, il_148, il_149, il_150, il_151, il_152, il_153, il_154, il_155, il_156, il_157, il_158, il_159, il_160, il_161, il_162, il_163, il_164, il_165, il_166, il_167, il_168, il_169, il_170, il_171, il_172, il_173, il_174, il_175, il_176, il_177, il_178, il_179, il_180, il_181, il_182, il_183, il_184, il_185, il_186, il_187, il_188, il_189, il_190, il_191, il_192, il_193, il_194, il_195, il_196, il_197, il_198, il_199, il_200, il_201, il_202, il_203, il_204, il_205, il_206, il_207, il_208, il_209, il_210, il_211, il_212, il_213, il_214, il_215, il_216, il_217, il_218, il_219, il_220, il_221, il_222, il_223, il_224, il_225, il_226, il_227, il_228, il_229, il_230, il_231, il_232, il_233, il_234, il_235, il_236, il_237, il_238, il_239, il_240, il_241, il_242, il_243, il_244, il_245, il_246, il_247, il_248, il_249, il_250, il_251, il_252, il_253, il_254, il_255, il_400, il_480, il_1023, il_2880, il_3000, il_6000, il_m1, il_m8]
  exact congrArg (fun z => some (ii z)) (by omega)
theorem X5_cand_loop (k : SOK s) {bar : Int} (b0 : 0 ≤ bar ∧ bar ≤ 20) {hs : AH} {x : Nat → Int} {sp : Nat → Spn} (h : SeA hs a s x sp) : ∀ (d n : Nat) (c : Int), d < n → c + d = 147 → 0 ≤ c → f_X5_candidateFrom_b2 n a (ii bar) (ii c) hs = some (ii (candF s bar d c)) := by
  intro d
  induction d with
  | zero =>
    intro n c hn hc h0
    obtain ⟨n, rfl⟩ : ∃ z, n = z + 1 := ⟨n - 1, by omega⟩
    unfold f_X5_candidateFrom_b2 candF
    rw [if_pos (by rw [il_146, ii_lt (by omega) (by omega) (by omega) (by omega)]; omega)]
    rfl
  | succ d ih =>
    intro n c hn hc h0
    obtain ⟨n, rfl⟩ : ∃ z, n = z + 1 := ⟨n - 1, by omega⟩
    have gl := k.gl
    have ih' := ih n (c + 1) (by omega) (by omega) (by omega)
    have ab := allow_b s (pit c)
    have pb : -20 ≤ pit c ∧ pit c ≤ 100 := by
      unfold pit
      by_cases d : 3 ≤ c / 3 % 7
      · rw [if_pos d]; omega
      · rw [if_neg d]; omega
    have no : candS s bar c = 0 → candF s bar (d + 1) c = candF s bar d (c + 1) := fun z => by
      show (if candS s bar c = 1 then c else candF s bar d (c + 1)) = _
      rw [if_neg (by omega)]
    have yes : candS s bar c = 1 → candF s bar (d + 1) c = c := fun z => if_pos z
    have t1 : candS s bar c = allow s (pit c) → f_X5_candidateFrom_b47 (f_X5_candidateFrom_b2 n) a (ii bar) (ii c) 1 hs = some (ii (candF s bar (d + 1) c)) := by
      intro hc
      unfold f_X5_candidateFrom_b47
      rw [if_neg (by decide), h.sh, ob_some, X8_pitchOf h0 (by omega), ob_some, h.sq.chk, ob_some, X6_allow h.sq k (by omega) (by omega), ob_some]
      by_cases e : allow s (pit c) = 0
      · rw [if_pos (by rw [e]; rfl), il_1, ii_add, no (by omega)]
        exact ih'
      · rw [if_neg (by rw [il_0, ii_eq (by omega) (by omega) (by omega) (by omega)]; exact e), yes (by omega)]
    have t0 : candS s bar c = 0 → f_X5_candidateFrom_b47 (f_X5_candidateFrom_b2 n) a (ii bar) (ii c) 0 hs = some (ii (candF s bar (d + 1) c)) := by
      intro hc
      unfold f_X5_candidateFrom_b47
      rw [if_pos rfl, il_1, ii_add, no hc]
      exact ih'
    rw [f_X5_candidateFrom_b2.eq_2, if_neg (by rw [il_146, ii_lt (by omega) (by omega) (by omega) (by omega)]; omega), X8_alt h0 (by omega), ob_some]
    by_cases e0 : c % 3 - 1 = 0
    · rw [if_pos (by rw [e0]; rfl)]
      exact t1 (if_pos e0)
    · rw [if_neg (by rw [il_0, ii_eq (by omega) (by omega) (by omega) (by omega)]; exact e0)]
      by_cases e1 : c % 3 - 1 = 1
      · rw [if_pos (show ii (c % 3 - 1) = 1 by rw [e1]; rfl), h.sh, ob_some, h.sq.g, ob_some, h.sq.2.1.chk, ob_some, X2_size h.sq.2.1, ob_some, il_2, ii_sub]
        by_cases e2 : bar = (s.gv.length : Int) - 2
        · rw [if_pos (by rw [e2])]
          exact t1 (by unfold candS; rw [if_neg e0, if_pos e1, if_pos e2])
        · rw [if_neg (by rw [ii_eq (by omega) (by omega) (by omega) (by omega)]; exact e2)]
          exact t0 (by unfold candS; rw [if_neg e0, if_pos e1, if_neg e2])
      · rw [if_neg (by rw [il_1, ii_eq (by omega) (by omega) (by omega) (by omega)]; exact e1)]
        exact t0 (by unfold candS; rw [if_neg e0, if_neg e1])
theorem X5_candidateFrom (k : SOK s) {bar c : Int} (b0 : 0 ≤ bar ∧ bar ≤ 20) {hs : AH} {x : Nat → Int} {sp : Nat → Spn} (h : SeA hs a s x sp) (c0 : 0 ≤ c) (c1 : c ≤ 147) : f_X5_candidateFrom a (ii bar) (ii c) hs = some (ii (candF s bar (147 - c).toNat c)) := by
  unfold f_X5_candidateFrom
  exact X5_cand_loop k b0 h (147 - c).toNat FUEL c (by unfold FUEL; omega) (by omega) c0
end SEEK
