/-! ===== the reference's calls: motions, intervals ===== -/
section MOT
variable {hs : AH} {f : Nat → Int} {s : Sh}
theorem plc_first {s : Sh} (k : SOK s) {b : Int} (b0 : 0 ≤ b) (b1 : b < s.gv.length) : plc s b 0 = b * per s.sp := by
  have hp := per_3 s.sp
  unfold plc
  by_cases e : b = (s.gv.length : Int) - 1
  · rw [if_pos ⟨b0, b1, by omega, by rw [if_pos e]; omega⟩]; omega
  · rw [if_pos ⟨b0, b1, by omega, by rw [if_neg e]; omega⟩]; omega
theorem X9_motionFrom (w : NW hs f) (n : NoA f s) (k : Full s) (hm : ¬ s.md.length = 0) {b : Int} (b0 : 0 ≤ b) (b1 : b < (s.gv.length : Int) - 1) : f_X9_motionFrom 95 (ii b) hs = some (ii (motC s b)) := by
  have gl := k.1.gl
  have ml := k.1.ml
  have h3 : (s.md.length : Int) = ((s.gv.length : Int) - 1) * per s.sp + 1 := by
    rcases k.2.2.1 with z | z
    · exact absurd z hm
    · exact z.2
  have q0 : 0 ≤ b * per s.sp ∧ b * per s.sp < s.md.length ∧ 0 ≤ (b + 1) * per s.sp ∧ (b + 1) * per s.sp < s.md.length := by
    rcases per_3 s.sp with z | z | z <;> rw [z] at h3 ⊢ <;> omega
  have e1 := X9_line w n q0.1 q0.2.1 ml
  have e2 := X9_line w n q0.2.2.1 q0.2.2.2 ml
  obtain ⟨c0, g0⟩ := w.cn n k.1 b0 (show b < (s.gv.length : Int) by omega)
  obtain ⟨c1, g1⟩ := w.cn n k.1 (b := b + 1) (by omega) (by omega)
  have m1 := k.1.mdb (b * per s.sp)
  have m2 := k.1.mdb ((b + 1) * per s.sp)
  have P1 : f_X9_place 95 (ii b) 0 hs = some (ii (b * per s.sp)) := by
    rw [← plc_first k.1 b0 (by omega)]
    exact X9_place w n k.1 (c := 0) (by omega) (by omega) (by omega) (by omega)
  have P2 : f_X9_place 95 (ii (b + 1)) 0 hs = some (ii ((b + 1) * per s.sp)) := by
    rw [← plc_first k.1 (b := b + 1) (by omega) (by omega)]
    exact X9_place w n k.1 (c := 0) (by omega) (by omega) (by omega) (by omega)
  unfold f_X9_motionFrom motC
  rw [il_m1, il_1, ii_add]
  simp only [↓ob_some, ↓ob_of (w.1), ↓ob_of (P1), ↓ob_of (P2), ↓ob_of (e1), ↓ob_of (e2)]
  by_cases a : lat s.md (b * per s.sp) = -1
  · rw [if_pos (by rw [a]), spn_0 (a := lat s.md (b * per s.sp)) (Or.inl a), if_pos rfl]
  rw [if_neg (by rw [ii_eq (by omega) (by omega) (by omega) (by omega)]; exact a)]
  by_cases c : lat s.md ((b + 1) * per s.sp) = -1
  · rw [if_pos (by rw [c]), spn_0 (a := lat s.md (b * per s.sp)) (Or.inr c), if_pos rfl]
  have n1 : 42 ≤ lat s.md (b * per s.sp) ∧ lat s.md (b * per s.sp) ≤ 146 := by omega
  have n2 : 42 ≤ lat s.md ((b + 1) * per s.sp) ∧ lat s.md ((b + 1) * per s.sp) ≤ 146 := by omega
  rw [if_neg (by rw [ii_eq (by omega) (by omega) (by omega) (by omega)]; exact c), spn_on n1 n2, spn_on g0 g1]
  simp only [↓ob_some, ↓ob_of (c0), ↓ob_of (c1), ↓ob_of (X9_direction n1 n2), ↓ob_of (X9_direction g0 g1)]
  unfold f_X9_motionFrom_b72 agaS
  rw [il_1, ii_add]
  simp only [↓ob_some, ↓ob_of (w.1), ↓ob_of (c0), ↓ob_of (c1), ↓ob_of (X9_width n1 n2), ↓ob_of (X9_width g0 g1)]
  have d1 := dir_3 (lat s.md (b * per s.sp)) (lat s.md ((b + 1) * per s.sp))
  have d2 := dir_3 (lat s.gv b) (lat s.gv (b + 1))
  have w1 := wid_bd n1 n2
  have w2 := wid_bd g0 g1
  rw [il_0, il_2, il_3, il_4]
  simp (disch := omega) only [ii_eq]
  generalize wid (lat s.md (b * per s.sp)) (lat s.md ((b + 1) * per s.sp)) = W1
  generalize wid (lat s.gv b) (lat s.gv (b + 1)) = W2
  rcases d1 with a | a | a <;> rcases d2 with c | c | c <;> rw [a, c] <;> by_cases y : W1 = W2 <;> simp [y]
theorem X9_mots_loop (w : NW hs f) (n : NoA f s) (k : Full s) (hm : ¬ s.md.length = 0) {kind : Int} (k1 : -1 ≤ kind ∧ kind ≤ 10) : ∀ (d m b : Nat), d < m → b + d + 1 = s.gv.length → f_X9_motionsOf_b4 m 95 (ii kind) (ii (sumM s kind b)) (ii b) hs = some (ii (sumM s kind (s.gv.length - 1))) := by
  have gl := k.1.gl
  intro d
  induction d with
  | zero =>
    intro m b hd hb
    obtain ⟨m, rfl⟩ : ∃ z, m = z + 1 := ⟨m - 1, by omega⟩
    obtain rfl : b = s.gv.length - 1 := by omega
    rw [f_X9_motionsOf_b4.eq_2, w.2.1, ob_some, w.k0 n, ob_some, il_1, ii_sub, if_pos (by rw [ii_le (by omega) (by omega) (by omega) (by omega)]; omega)]
  | succ d ih =>
    intro m b hd hb
    obtain ⟨m, rfl⟩ : ∃ z, m = z + 1 := ⟨m - 1, by omega⟩
    have mb := motC_b s b
    have e1 : ii (b : Int) + 1 = ii ((b + 1 : Nat) : Int) := by rw [il_1, ii_add]; rfl
    have st : sumM s kind (b + 1) = sumM s kind b + moG s kind b := rfl
    have i := ih m (b + 1) (by omega) (by omega)
    rw [st] at i
    unfold moG at i
    rw [f_X9_motionsOf_b4.eq_2, e1, w.2.1, ob_some, w.k0 n, ob_some, if_neg (by rw [il_1, ii_sub, ii_le (by omega) (by omega) (by omega) (by omega)]; omega), w.1, ob_some, X9_motionFrom w n k hm (by omega) (by omega), ob_some]
    by_cases c : motC s b = -1
    · rw [if_pos c, Int.add_zero] at i
      rw [if_pos (by rw [c]; rfl)]
      exact i
    rw [if_neg c] at i
    rw [if_neg (by rw [il_m1, ii_eq (by omega) (by omega) (by omega) (by omega)]; exact c)]
    by_cases e : kind = -1
    · rw [if_pos e, ← ii_add, ← il_1] at i
      rw [if_pos (by rw [e]; rfl)]
      exact i
    rw [if_neg e] at i
    rw [if_neg (by rw [il_m1, ii_eq (by omega) (by omega) (by omega) (by omega)]; exact e)]
    by_cases g : kind = motC s b
    · rw [if_pos g, ← ii_add, ← il_1] at i
      rw [if_pos (by rw [g])]
      exact i
    · rw [if_neg g, Int.add_zero] at i
      rw [if_neg (by rw [ii_eq (by omega) (by omega) (by omega) (by omega)]; exact fun x => g x.symm)]
      exact i
theorem X9_motionsOf (w : NW hs f) (n : NoA f s) (k : Full s) (hm : ¬ s.md.length = 0) {kind : Int} (k1 : -1 ≤ kind ∧ kind ≤ 10) : f_X9_motionsOf 95 (ii kind) hs = some (ii (sumM s kind (s.gv.length - 1))) := by
  have g2 := k.two hm
  have gl := k.1.gl
  exact X9_mots_loop w n k hm k1 (s.gv.length - 1) FUEL 0 (by unfold FUEL; omega) (by omega)
variable {t : St}
theorem X9_motion (k : Full t.now) {b : Int} (b1 : -2147483648 ≤ b) (b2 : b ≤ 2147483647) : M9 (f_X9_motion 95 (ii b)) [2, 3, 4] (opMotion t.now b) t t := by
  refine M9.of (fun hs => rfl) (fun hs h => ?_)
  obtain ⟨f, nw, n, h1⟩ := h.nw
  have gl := k.1.gl
  have ml := k.1.ml
  unfold opMotion
  rw [h.chk, ob_some, X9_hasLine nw h1 ml, ob_some]
  by_cases e : t.now.md.length = 0
  · rw [if_pos e, if_pos e, if_pos (by rfl), ob_some]
    exact h.fail 1
  rw [if_neg e, if_neg e, if_neg (by decide +kernel), nw.2.1, ob_some, nw.k0 n, ob_some, il_2, ii_sub, il_0, X9_in b1 b2 (by omega) (by omega) (by omega) (by omega), ob_some]
  by_cases c : 0 ≤ b ∧ b ≤ (t.now.gv.length : Int) - 2
  · have mb := motC_b t.now b
    rw [inI_1 c, if_neg (by decide +kernel), if_pos (by omega), ob_some, X9_motionFrom nw n k e c.1 (by omega), ob_some]
    by_cases d : motC t.now b = -1
    · rw [if_pos (by rw [d]; rfl), if_pos d, ob_some]
      exact h.fail 3
    · rw [if_neg (by rw [il_m1, ii_eq (by omega) (by omega) (by omega) (by omega)]; exact d), if_neg d]
      exact ⟨hs, rfl, h, Out.refl _ _ _⟩
  · rw [inI_0 c, if_pos (by rfl), if_neg (by omega), ob_some]
    exact h.fail 2
theorem X9_motions (k : Full t.now) {b : Int} (b1 : -2147483648 ≤ b) (b2 : b ≤ 2147483647) : M9 (f_X9_motions 95 (ii b)) [2, 1] (opMotions t.now b) t t := by
  refine M9.of (fun hs => rfl) (fun hs h => ?_)
  obtain ⟨f, nw, n, h1⟩ := h.nw
  have ml := k.1.ml
  unfold opMotions
  rw [h.chk, ob_some, X9_hasLine nw h1 ml, ob_some]
  by_cases e : t.now.md.length = 0
  · rw [if_pos e, if_pos e, if_pos (by rfl), ob_some]
    exact h.fail 1
  rw [if_neg e, if_neg e, if_neg (by decide +kernel), il_0, il_4, X9_in b1 b2 (by omega) (by omega) (by omega) (by omega), ob_some]
  by_cases c : 0 ≤ b ∧ b ≤ 4
  · rw [inI_1 c, if_neg (by decide +kernel), if_pos c, ob_some, X9_motionsOf nw n k e (by omega), ob_some]
    exact ⟨hs, rfl, h, Out.refl _ _ _⟩
  · rw [inI_0 c, if_pos (by rfl), if_neg c, ob_some]
    exact h.fail 2
theorem X9_interval (k : Full t.now) {b c w : Int} (b1 : -2147483648 ≤ b) (b2 : b ≤ 2147483647) (c1 : -2147483648 ≤ c) (c2 : c ≤ 2147483647) (w1 : -2147483648 ≤ w) (w2 : w ≤ 2147483647) : M9 (f_X9_interval 95 (ii b) (ii c) (ii w)) [2, 3, 4, 1] (opInterval t.now b c w) t t := by
  refine M9.of (fun hs => rfl) (fun hs h => ?_)
  obtain ⟨f, nw, n, h1⟩ := h.nw
  have ml := k.1.ml
  have pb := plc_b k.1 b c
  unfold opInterval opIntervalAt
  rw [h.chk, ob_some, X9_hasLine nw h1 ml, ob_some]
  by_cases e : t.now.md.length = 0
  · rw [if_pos e, if_pos e, if_pos (by rfl), ob_some]
    exact h.fail 1
  rw [if_neg e, if_neg e, if_neg (by decide +kernel), ob_some, X9_place nw n k.1 b1 b2 c1 c2, ob_some]
  by_cases i : plc t.now b c = -1
  · rw [if_pos (by rw [i]; rfl), if_pos i, ob_some]
    exact h.fail 2
  obtain ⟨p0, p1, v0, v1, vb⟩ := plc_in k i e
  have mb := k.1.mdb (plc t.now b c)
  rw [if_neg (by rw [il_m1, ii_eq (by omega) (by omega) (by omega) (by omega)]; exact i), if_neg i, ob_some, X9_line nw n p0 p1 ml, ob_some]
  by_cases g : lat t.now.md (plc t.now b c) = -1
  · rw [if_pos (by rw [g]; rfl), if_pos g, ob_some]
    exact h.fail 3
  have nn : 42 ≤ lat t.now.md (plc t.now b c) ∧ lat t.now.md (plc t.now b c) ≤ 146 := by omega
  obtain ⟨c0, g0⟩ := nw.cn n k.1 v0 v1
  have hh : har t.now (plc t.now b c) = spn (lat t.now.gv b) (lat t.now.md (plc t.now b c)) := by unfold har; rw [vb]
  have p3 := prf_3 (lat t.now.gv b) (lat t.now.md (plc t.now b c))
  have L := X9_line nw n p0 p1 ml
  rw [if_neg (by rw [il_m1, ii_eq (by omega) (by omega) (by omega) (by omega)]; exact g), if_neg g, ob_some, c0, ob_some, hh, spn_on g0 nn]
  by_cases x : w = 0
  · rw [if_pos (by rw [x]; rfl), if_pos x]
    simp only [↓ob_some, ↓ob_of (h.chk), ↓ob_of (L), ↓ob_of (X9_steps nn g0)]
    exact ⟨hs, by rw [sts_comm]; rfl, h, Out.refl _ _ _⟩
  rw [if_neg (by rw [il_0, ii_eq (by omega) (by omega) (by omega) (by omega)]; exact x), if_neg x]
  by_cases x : w = 1
  · rw [if_pos (by rw [x]; rfl), if_pos x]
    simp only [↓ob_some, ↓ob_of (h.chk), ↓ob_of (L), ↓ob_of (X9_width nn g0)]
    exact ⟨hs, by rw [wid_comm]; rfl, h, Out.refl _ _ _⟩
  rw [if_neg (by rw [il_1, ii_eq (by omega) (by omega) (by omega) (by omega)]; exact x), if_neg x]
  by_cases x : w = 2
  · rw [if_pos (by rw [x]; rfl), if_pos x]
    simp only [↓ob_some, ↓ob_of (h.chk), ↓ob_of (L), ↓ob_of (X9_perfect nn g0), ↓ob_of (X9_isConsonant nn g0)]
    rw [prf_comm, conS_comm nn g0, spn_on g0 nn]
    unfold souS
    dsimp only
    have cb := conS_b (1, sts (lat t.now.gv b) (lat t.now.md (plc t.now b c)), wid (lat t.now.gv b) (lat t.now.md (plc t.now b c)), dir (lat t.now.gv b) (lat t.now.md (plc t.now b c)), prf (lat t.now.gv b) (lat t.now.md (plc t.now b c)))
    by_cases y : prf (lat t.now.gv b) (lat t.now.md (plc t.now b c)) = 0
    · rw [if_pos (by rw [y]; decide +kernel), if_pos y]
      by_cases z : conS (1, sts (lat t.now.gv b) (lat t.now.md (plc t.now b c)), wid (lat t.now.gv b) (lat t.now.md (plc t.now b c)), dir (lat t.now.gv b) (lat t.now.md (plc t.now b c)), prf (lat t.now.gv b) (lat t.now.md (plc t.now b c))) = 0
      · rw [if_pos (by rw [z]; rfl), if_pos z]
        exact ⟨hs, rfl, h, Out.refl _ _ _⟩
      · rw [if_neg (by rw [il_0, ii_eq (by omega) (by omega) (by omega) (by omega)]; exact z), if_neg z]
        exact ⟨hs, rfl, h, Out.refl _ _ _⟩
    · rw [if_neg (by rw [il_0, ii_le (by omega) (by omega) (by omega) (by omega)]; omega), if_neg y]
      exact ⟨hs, rfl, h, Out.refl _ _ _⟩
  rw [if_neg (by rw [il_2, ii_eq (by omega) (by omega) (by omega) (by omega)]; exact x), if_neg x]
  by_cases x : w = 3
  · rw [if_pos (by rw [x]; rfl), if_pos x]
    simp only [↓ob_some, ↓ob_of (h.chk), ↓ob_of (L), ↓ob_of (X9_perfect nn g0)]
    exact ⟨hs, by rw [prf_comm]; rfl, h, Out.refl _ _ _⟩
  rw [if_neg (by rw [il_3, ii_eq (by omega) (by omega) (by omega) (by omega)]; exact x), if_neg x]
  by_cases x : w = 4
  · have tb := tie_b t.now (plc t.now b c)
    rw [if_pos (by rw [x]; rfl), if_pos x, ob_some, X9_isTied nw n k.1 p0 p1 g, ob_some]
    by_cases y : tie t.now (plc t.now b c) = 0
    · rw [if_pos (by rw [y]; rfl), y]
      exact ⟨hs, rfl, h, Out.refl _ _ _⟩
    · rw [if_neg (by rw [il_0, ii_eq (by omega) (by omega) (by omega) (by omega)]; exact y), show tie t.now (plc t.now b c) = 1 by omega]
      exact ⟨hs, rfl, h, Out.refl _ _ _⟩
  · rw [if_neg (by rw [il_4, ii_eq (by omega) (by omega) (by omega) (by omega)]; exact x), if_neg x, ob_some]
    exact h.fail 4
end MOT
