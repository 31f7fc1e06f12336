/-! ===== the last note of a growing line; harmonies and motions ===== -/
theorem detC_cp {s : Sh} {cp cn cp' cn' p : Int} {r : Nat} (h1 : 1 ≤ r) (h2 : r ≤ 16) (h : r ≠ 6) : detC s cp cn p r = detC s cp' cn' p r := by
  have hr : r = 1 ∨ r = 2 ∨ r = 3 ∨ r = 4 ∨ r = 5 ∨ r = 6 ∨ r = 7 ∨ r = 8 ∨ r = 9 ∨ r = 10 ∨ r = 11 ∨ r = 12 ∨ r = 13 ∨ r = 14 ∨ r = 15 ∨ r = 16 := by omega
  rcases hr with rfl | rfl | rfl | rfl | rfl | rfl | rfl | rfl | rfl | rfl | rfl | rfl | rfl | rfl | rfl | rfl <;> first | rfl | exact absurd rfl h
def noF (s : Sh) (p : Int) (r : Nat) : Prop := r = 6 ∨ r = 15 ∨ detC s 0 0 p r = -1
def motC (s : Sh) (b : Int) : Int := if (spn (lat s.md (b * per s.sp)) (lat s.md ((b + 1) * per s.sp))).1 = 0 then -1 else if (spn (lat s.gv b) (lat s.gv (b + 1))).1 = 0 then -1 else
  if (spn (lat s.md (b * per s.sp)) (lat s.md ((b + 1) * per s.sp))).2.2.2.1 = 0 then (if (spn (lat s.md (b * per s.sp)) (lat s.md ((b + 1) * per s.sp))).2.2.2.1 = (spn (lat s.gv b) (lat s.gv (b + 1))).2.2.2.1 then 0 else 1) else
  if (spn (lat s.gv b) (lat s.gv (b + 1))).2.2.2.1 = 0 then (if (spn (lat s.md (b * per s.sp)) (lat s.md ((b + 1) * per s.sp))).2.2.2.1 = (spn (lat s.gv b) (lat s.gv (b + 1))).2.2.2.1 then 0 else 1) else
  if agaS (spn (lat s.md (b * per s.sp)) (lat s.md ((b + 1) * per s.sp))) (spn (lat s.gv b) (lat s.gv (b + 1))) = 0 then (if (spn (lat s.md (b * per s.sp)) (lat s.md ((b + 1) * per s.sp))).2.2.1 = (spn (lat s.gv b) (lat s.gv (b + 1))).2.2.1 then 4 else 3) else 2
def moG (s : Sh) (kind b : Int) : Int := if motC s b = -1 then 0 else if kind = -1 then 1 else if kind = motC s b then 1 else 0
def sumM (s : Sh) (kind : Int) : Nat → Int
  | 0 => 0
  | b + 1 => sumM s kind b + moG s kind b
theorem sumM_b (s : Sh) (kind : Int) : ∀ n : Nat, 0 ≤ sumM s kind n ∧ sumM s kind n ≤ n
  | 0 => by unfold sumM; decide
  | n + 1 => by
    have h1 := sumM_b s kind n
    have h2 : 0 ≤ moG s kind n ∧ moG s kind n ≤ 1 := if_b b00 (if_b b11 (if_b b11 b00))
    unfold sumM
    omega
theorem motC_b (s : Sh) (b : Int) : -1 ≤ motC s b ∧ motC s b ≤ 4 := by
  have q : ∀ z : Int, z = -1 ∨ z = 0 ∨ z = 1 ∨ z = 2 ∨ z = 3 ∨ z = 4 → -1 ≤ z ∧ z ≤ 4 := fun z h => by omega
  unfold motC
  exact if_b (q _ (by decide)) (if_b (q _ (by decide)) (if_b (if_b (q _ (by decide)) (q _ (by decide))) (if_b (if_b (q _ (by decide)) (q _ (by decide))) (if_b (if_b (q _ (by decide)) (q _ (by decide))) (q _ (by decide))))))
section MOTION
variable {a : Nat} {s : Sh}
theorem X1_fits_in (k : SOK s) {hs : AH} {p cp cn : Int} (h0 : 0 ≤ p) (h1 : p ≤ 60) (L : Lkd hs a s p cp cn) (c0 : -1 ≤ cp ∧ cp ≤ 60) (c1 : 0 ≤ cn ∧ cn ≤ 60) : ∀ (d n r : Nat), d < n → r + d = 17 → 1 ≤ r → (∀ q, 1 ≤ q → q < r → noF s p q) →
    (f_X1_lastNoteFits_b18 n a (ii r) hs = some (ii 1, hs) ∧ ∀ q, 1 ≤ q → q ≤ 16 → noF s p q) ∨ (f_X1_lastNoteFits_b18 n a (ii r) hs = some (ii 0, hs) ∧ ¬ ∀ q, 1 ≤ q → q ≤ 16 → noF s p q) := by
  intro d
  induction d with
  | zero =>
    intro n r hn hr h1 hq
    obtain ⟨n, rfl⟩ : ∃ z, n = z + 1 := ⟨n - 1, by omega⟩
    obtain rfl : r = 17 := by omega
    refine Or.inl ⟨?_, fun q q1 q2 => hq q q1 (by omega)⟩
    unfold f_X1_lastNoteFits_b18
    rw [if_pos (show (16 : Int32) < ii ((17 : Nat) : Int) by decide +kernel)]
    rfl
  | succ d ih =>
    intro n r hn hr hr1 hq
    obtain ⟨n, rfl⟩ : ∃ z, n = z + 1 := ⟨n - 1, by omega⟩
    have db := detC_b k (cp := cp) h0 c1 r
    have next : noF s p r → f_X1_lastNoteFits_b18 (n + 1) a (ii r) hs = f_X1_lastNoteFits_b18 n a (ii ((r + 1 : Nat) : Int)) hs →
      (f_X1_lastNoteFits_b18 (n + 1) a (ii r) hs = some (ii 1, hs) ∧ ∀ q, 1 ≤ q → q ≤ 16 → noF s p q) ∨ (f_X1_lastNoteFits_b18 (n + 1) a (ii r) hs = some (ii 0, hs) ∧ ¬ ∀ q, 1 ≤ q → q ≤ 16 → noF s p q) := by
      intro hnf e
      rw [e]
      exact ih n (r + 1) (by omega) (by omega) (by omega) (fun q q1 q2 => by
        by_cases e : q = r
        · rw [e]; exact hnf
        · exact hq q q1 (by omega))
    by_cases r6 : r = 6
    · refine next (Or.inl r6) ?_
      rw [f_X1_lastNoteFits_b18.eq_2, if_neg (by rw [il_16, ii_lt (by omega) (by omega) (by omega) (by omega)]; omega), if_pos (show ii (r : Int) = 6 by rw [r6]; rfl), il_1, ii_add]
      rfl
    · by_cases r15 : r = 15
      · refine next (Or.inr (Or.inl r15)) ?_
        rw [f_X1_lastNoteFits_b18.eq_2, if_neg (by rw [il_16, ii_lt (by omega) (by omega) (by omega) (by omega)]; omega), if_neg (show ¬ ii (r : Int) = 6 by rw [il_6, ii_eq (by omega) (by omega) (by omega) (by omega)]; omega), if_pos (show ii (r : Int) = 15 by rw [r15]; rfl), il_1, ii_add]
        rfl
      · obtain ⟨x, j, -, -, -⟩ := L.ju
        have hu : f_X1_lastNoteFits_b18 (n + 1) a (ii r) hs = if ii (detC s cp cn p r) = -1 then f_X1_lastNoteFits_b18 n a (ii ((r + 1 : Nat) : Int)) hs else some (0, hs) := by
          rw [f_X1_lastNoteFits_b18.eq_2, if_neg (by rw [il_16, ii_lt (by omega) (by omega) (by omega) (by omega)]; omega), if_neg (show ¬ ii (r : Int) = 6 by rw [il_6, ii_eq (by omega) (by omega) (by omega) (by omega)]; omega), if_neg (show ¬ ii (r : Int) = 15 by rw [il_15, ii_eq (by omega) (by omega) (by omega) (by omega)]; omega), j.chk, ob_some, X1_detailOf k L h0 h1 c0 c1 hr1 (by omega), ob_some, il_1, ii_add]
          rfl
        have ed : detC s cp cn p r = detC s 0 0 p r := detC_cp hr1 (by omega) r6
        by_cases c : detC s cp cn p r = -1
        · refine next (Or.inr (Or.inr (ed.symm.trans c))) ?_
          rw [hu, if_pos (by rw [c]; rfl)]
        · refine Or.inr ⟨?_, fun h => ?_⟩
          · rw [hu, if_neg (by rw [il_m1, ii_eq (by omega) (by omega) (by omega) (by omega)]; exact c)]
            rfl
          · rcases h r hr1 (by omega) with z | z | z
            · exact r6 z
            · exact r15 z
            · exact c (ed.trans z)
theorem X1_lastNoteFits (k : SOK s) {hs : AH} {x : Nat → Int} {sp : Nat → Spn} (j : JuA hs a s x sp) (hl : 1 ≤ s.md.length) (c0 : -1 ≤ x 15 ∧ x 15 ≤ 60) (c1 : 0 ≤ x 16 ∧ x 16 ≤ 60) : ∃ hs' x' sp', JuA hs' a s x' sp' ∧ Out hs hs' a 16 ∧ x' 15 = x 15 ∧ x' 16 = x 16 ∧
    ((f_X1_lastNoteFits a hs = some (ii 1, hs') ∧ ∀ q, 1 ≤ q → q ≤ 16 → noF s ((s.md.length : Int) - 1) q) ∨ (f_X1_lastNoteFits a hs = some (ii 0, hs') ∧ ¬ ∀ q, 1 ≤ q → q ≤ 16 → noF s ((s.md.length : Int) - 1) q)) := by
  have ml := k.ml
  obtain ⟨h1, e1, L, o1⟩ := X1_look k j (p := (s.md.length : Int) - 1) (by omega) (by omega)
  have q := X1_fits_in k (by omega) (by omega) L c0 c1 16 FUEL 1 (by unfold FUEL; omega) rfl (Nat.le_refl _) (fun q q1 q2 => by omega)
  obtain ⟨y, j1, y15, y16, -⟩ := L.ju
  have hu : f_X1_lastNoteFits a hs = f_X1_lastNoteFits_b18 FUEL a (ii ((1 : Nat) : Int)) h1 := by
    unfold f_X1_lastNoteFits
    rw [j.sh, ob_some, j.2.1.m, ob_some, j.2.1.2.2.1.chk, ob_some, X2_size j.2.1.2.2.1, ob_some, j.chk, ob_some, il_1, ii_sub, e1, ob_some]
    rfl
  rw [hu]
  exact ⟨h1, y, _, j1, o1, y15, y16, q⟩
theorem X1_harmonyAt (k : SOK s) {hs : AH} {x : Nat → Int} {sp : Nat → Spn} (j : JuA hs a s x sp) {z : Int} (h0 : -64 ≤ z) (h1 : z < 192) : ∃ hs', f_X1_harmonyAt a (ii z) hs = some (a + 8, hs') ∧ JuA hs' a s x (us sp 0 (har s z)) ∧ Out hs hs' a 16 := by
  obtain ⟨g1, e1, j1, o1⟩ := X1_measureHarmony j k (i := 0) (z := z) (by decide) h0 h1
  refine ⟨g1, ?_, j1, o1⟩
  unfold f_X1_harmonyAt
  rw [j.r1, ob_some, j.chk, ob_some, show f_X1_measureHarmony a (a + 8) (ii z) hs = some g1 from e1, ob_some, j1.r1, ob_some]
theorem X1_motionFrom (k : SOK s) {hs : AH} {x : Nat → Int} {sp : Nat → Spn} (j : JuA hs a s x sp) {b : Int} (h0 : 0 ≤ b) (h1 : b ≤ 12) : ∃ hs' sp', f_X1_motionFrom a (ii b) hs = some (ii (motC s b), hs') ∧ JuA hs' a s x sp' ∧ Out hs hs' a 16 := by
  have b3 := per_3 s.sp
  have bz : 0 ≤ b * per s.sp ∧ b * per s.sp < 60 ∧ 0 ≤ (b + 1) * per s.sp ∧ (b + 1) * per s.sp < 60 := by rcases b3 with e | e | e <;> rw [e] <;> omega
  obtain ⟨g1, e1, j1, o1⟩ := j.meas (i := 4) (by decide) (k.mdb (b * per s.sp)) (k.mdb ((b + 1) * per s.sp))
  obtain ⟨g2, e2, j2, o2⟩ := j1.meas (i := 7) (by decide) (k.gvb b) (k.gvb (b + 1))
  have c4 : chk hs (a + 12) 7 = some () := (j.2.2 4 (by decide)).chk
  have c7 : chk g1 (a + 15) 7 = some () := (j1.2.2 7 (by decide)).chk
  have e1' : f_X7_measure (a + 12) (ii (lat s.md (b * per s.sp))) (ii (lat s.md ((b + 1) * per s.sp))) hs = some g1 := e1
  have e2' : f_X7_measure (a + 15) (ii (lat s.gv b)) (ii (lat s.gv (b + 1))) g1 = some g2 := e2
  have S4 : SpA g2 (a + 12) (spn (lat s.md (b * per s.sp)) (lat s.md ((b + 1) * per s.sp))) := j2.2.2 4 (by decide)
  have S7 : SpA g2 (a + 15) (spn (lat s.gv b) (lat s.gv (b + 1))) := j2.2.2 7 (by decide)
  have B4 : SpB (spn (lat s.md (b * per s.sp)) (lat s.md ((b + 1) * per s.sp))) := spn_b (k.mdb _) (k.mdb _)
  have B7 : SpB (spn (lat s.gv b) (lat s.gv (b + 1))) := spn_b (k.gvb _) (k.gvb _)
  refine ⟨g2, _, ?_, j2, o1.trans o2⟩
  unfold f_X1_motionFrom f_X1_motionFrom_b120 motC
  rw [j.sh, ob_some, j.2.1.m, ob_some, ob_some, j.2.1.chk, ob_some, X6_firstPlaceIn j.2.1 k (by omega) (by omega), ob_some, j.2.1.2.2.1.chk, ob_some, X2_at j.2.1.2.2.1 (by omega) (by omega), ob_some, j.r5, ob_some, ob_some, j.2.1.m, ob_some, ob_some, j.2.1.chk, ob_some, il_1, ii_add, X6_firstPlaceIn j.2.1 k (by omega) (by omega), ob_some, j.2.1.2.2.1.chk, ob_some, X2_at j.2.1.2.2.1 (by omega) (by omega), ob_some, c4, ob_some, e1', ob_some]
  rw [j1.r8, ob_some, j1.sh, ob_some, j1.2.1.g, ob_some, j1.2.1.2.1.chk, ob_some, X2_at j1.2.1.2.1 (by omega) (by omega), ob_some, ob_some, j1.2.1.g, ob_some, j1.2.1.2.1.chk, ob_some, X2_at j1.2.1.2.1 (by omega) (by omega), ob_some, c7, ob_some, e2', ob_some]
  have q := X7_goesAgainst S4 B4 S7 B7
  have ab := agaS_b (spn (lat s.md (b * per s.sp)) (lat s.md ((b + 1) * per s.sp))) (spn (lat s.gv b) (lat s.gv (b + 1)))
  have i4 := X7_isThere S4 B4
  have i7 := X7_isThere S7 B7
  have B4' := B4.i
  have B7' := B7.i
  generalize spn (lat s.md (b * per s.sp)) (lat s.md ((b + 1) * per s.sp)) = u at *
  generalize spn (lat s.gv b) (lat s.gv (b + 1)) = w at *
  have if_pr : ∀ {c : Prop} {_ : Decidable c} {y z : Int}, (if c then some (ii y, g2) else some (ii z, g2)) = some (ii (if c then y else z), g2) := fun {c} _ {y z} => by
    by_cases h : c
    · rw [if_pos h, if_pos h]
    · rw [if_neg h, if_neg h]
  obtain ⟨u1, u2, u3, u4, u5⟩ := B4'
  obtain ⟨v1, v2, v3, v4, v5⟩ := B7'
  simp (disch := omega) only [↓ob_some, ↓ob_of (j2.r5), ↓ob_of (j2.r8), ↓ob_of (S4.chk), ↓ob_of (S7.chk), ↓ob_of (i4), ↓ob_of (i7), ↓ob_of (X7_way S4), ↓ob_of (X7_way S7), ↓ob_of (X7_width S4), ↓ob_of (X7_width S7), ↓ob_of (q), if_pr, ii_add, ii_sub, ii_mul, ii_neg, ii_div, ii_lt, ii_le, ii_eq, ob_some, il_0, il_1, il_2, il_3, il_4, il_5, il_6, il_7, il_8, il_9, il_10, il_11, il_12, il_13, il_14, il_15, il_16, il_17, il_18, il_19, il_20, il_21, il_22, il_23, il_24, il_25, il_26, il_27, il_28, il_29, il_30, il_31, il_32, il_33, il_34, il_35, il_36, il_37, il_38, il_39, il_40, il_41, il_42, il_43, il_44, il_45, il_46, il_47, il_48, il_49, il_50, il_51, il_52, il_53, il_54, il_55, il_56, il_57, il_58, il_59, il_60, il_61, il_62, il_63, il_64, il_65, il_66, il_67, il_68, il_69, il_70, il_71, il_72, il_73, il_74, il_75, il_76, il_77, il_78, il_79, il_80, il_81, il_82, il_83, il_84, il_85, il_86, il_87, il_88, il_89, il_90, il_91, il_92, il_93, il_94, il_95, il_96, il_97, il_98, il_99, il_100, il_101, il_102, il_103, il_104, il_105, il_106, il_107, il_108, il_109, il_110, il_111, il_112, il_113, il_114, il_115, il_116, il_117, il_118, il_119, il_120, il_121, il_122, il_123, il_124, il_125, il_126, il_127, il_128, il_129, il_130, il_131, il_132, il_133, il_134, il_135, il_136, il_137, il_138, il_139, il_140, il_141, il_142, il_143, il_144, il_145, il_146, il_147, il_148, il_149, il_150, il_151, il_152, il_153, il_154, il_155, il_156, il_157, il_158, il_159, il_160, il_161, il_162, il_163, il_164, il_165, il_166, il_167, il_168, il_169, il_170, il_171, il_172, il_173, il_174, il_175, il_176, il_177, il_178, il_179, il_180, il_181, il_182, il_183, il_184, il_185, il_186, il_187, il_188, il_189, il_190, il_191, il_192, il_193, il_194, il_195, il_196, il_197, il_198, il_199, il_200, il_201, il_202, il_203, il_204, il_205, il_206, il_207, il_208, il_209, il_210, il_211, il_212, il_213, il_214, il_215, il_216, il_217, il_218, il_219, il_220, il_221, il_222, il_223, il_224, il_225, il_226, il_227, il_228, il_229, il_230, il_231, il_232, il_233, il_234, il_235, il_236, il_237, il_238, il_239, il_240, il_241, il_242, il_243, il_244, il_245, il_246, il_247, il_248, il_249, il_250, il_251, il_252, il_253, il_254, il_255, il_400, il_480, il_1023, il_2880, il_3000, il_6000, il_m1, il_m8]
end MOTION
