/-! ===== the reference's calls: counts, notes ===== -/
section MOA
variable {t : St}
theorem X9_errorPosition {cl : List Nat} : M9 (f_X9_errorPosition 95) cl (.inl t.err) t t := by
  refine M9.of (g9 := fun hs1 => (gI hs1 95 9 8).bind fun x2 => some (x2, hs1)) (fun hs => rfl) (fun hs h => ⟨hs, ?_, h, Out.refl _ _ _⟩)
  rw [h.i8, ob_some]
  rfl
theorem X9_cnt_loop {hs : AH} {f : Nat → Int} {s : Sh} (w : NW hs f) (n : NoA f s) (k : SOK s) : ∀ (d m r : Nat), d < m → r + d = 17 → 1 ≤ r → f_X9_count_b42 m 95 (ii (wsum s.wt (r - 1))) (ii r) hs = some (ii (wsum s.wt 16), hs) := by
  intro d
  induction d with
  | zero =>
    intro m r hm hr r1
    obtain ⟨m, rfl⟩ : ∃ z, m = z + 1 := ⟨m - 1, by omega⟩
    obtain rfl : r = 17 := by omega
    rw [f_X9_count_b42.eq_2, if_pos (by decide +kernel)]
  | succ d ih =>
    intro m r hm hr r1
    obtain ⟨m, rfl⟩ : ∃ z, m = z + 1 := ⟨m - 1, by omega⟩
    obtain ⟨z, rfl⟩ : ∃ z, r = z + 1 := ⟨r - 1, by omega⟩
    rw [f_X9_count_b42.eq_2, if_neg (by rw [il_16, ii_lt (by omega) (by omega) (by omega) (by omega)]; omega), w.2.1, ob_some, w.kw n (by omega) (by omega), ob_some, ii_add, il_1, ii_add]
    exact ih m (z + 1 + 1) (by omega) (by omega) (by omega)
theorem X9_count (k : Full t.now) {w : Int} (w1 : -2147483648 ≤ w) (w2 : w ≤ 2147483647) : M9 (f_X9_count 95 (ii w)) [1] (opCount t w) t t := by
  refine M9.of (fun hs => rfl) (fun hs h => ?_)
  obtain ⟨f, nw, n, h1⟩ := h.nw
  unfold opCount
  by_cases w7 : w = 7
  · rw [if_pos (by rw [w7]; rfl), if_neg (by omega), if_neg (by omega), if_neg (by omega), if_neg (by omega), if_neg (by omega), if_neg (by omega), if_neg (by omega), if_pos w7]
    exact ⟨hs, X9_cnt_loop nw n k.1 16 FUEL 1 (by unfold FUEL; omega) (by omega) (by omega), h, Out.refl _ _ _⟩
  rw [if_neg (by rw [il_7, ii_eq (by omega) (by omega) (by omega) (by omega)]; exact w7)]
  by_cases w8 : w = 8
  · rw [if_pos (by rw [w8]; rfl), h.i7, ob_some, if_neg (by omega), if_neg (by omega), if_neg (by omega), if_neg (by omega), if_neg (by omega), if_neg (by omega), if_neg (by omega), if_neg w7, if_pos w8]
    exact ⟨hs, rfl, h, Out.refl _ _ _⟩
  rw [if_neg (by rw [il_8, ii_eq (by omega) (by omega) (by omega) (by omega)]; exact w8)]
  by_cases w9 : w = 9
  · rw [if_pos (by rw [w9]; rfl), h.i5, ob_some, if_neg (by omega), if_neg (by omega), if_neg (by omega), if_neg (by omega), if_neg (by omega), if_neg (by omega), if_neg (by omega), if_neg w7, if_neg w8, if_pos w9]
    exact ⟨hs, rfl, h, Out.refl _ _ _⟩
  rw [if_neg (by rw [il_9, ii_eq (by omega) (by omega) (by omega) (by omega)]; exact w9)]
  by_cases w10 : w = 10
  · rw [if_pos (by rw [w10]; rfl), h.i12, ob_some, if_neg (by omega), if_neg (by omega), if_neg (by omega), if_neg (by omega), if_neg (by omega), if_neg (by omega), if_neg (by omega), if_neg w7, if_neg w8, if_neg w9, if_pos w10]
    exact ⟨hs, rfl, h, Out.refl _ _ _⟩
  rw [if_neg (by rw [il_10, ii_eq (by omega) (by omega) (by omega) (by omega)]; exact w10), il_0, show (6 : Int32) = ii 6 from rfl, X9_in w1 w2 (by omega) (by omega) (by omega) (by omega), ob_some]
  by_cases i : 0 ≤ w ∧ w ≤ 6
  · rw [inI_1 i, if_neg (by decide +kernel), nw.2.1, ob_some]
    have e : ∀ v : Int, aN 0 hs 96 (ii w) = some (ii v) → ∃ hs', ((aN 0 hs 96 (ii w)).bind fun x9 => some (x9, hs)) = some (ii v, hs') ∧ MoA hs' t (cdR [1] (.inl v)) ∧ Out hs hs' 95 10 := by
      intro v e
      exact ⟨hs, by rw [e, ob_some], h, Out.refl _ _ _⟩
    rcases (show w = 0 ∨ w = 1 ∨ w = 2 ∨ w = 3 ∨ w = 4 ∨ w = 5 ∨ w = 6 by omega) with c | c | c | c | c | c | c <;> rw [c]
    · exact (by rw [c] at e; exact e _ (nw.k0 n))
    · exact (by rw [c] at e; exact e _ (by rw [← h1]; exact nw.k1))
    · exact (by rw [c] at e; exact e _ (nw.k2 n))
    · exact (by rw [c] at e; exact e _ (nw.k3 n))
    · exact (by rw [c] at e; exact e _ (nw.k4 n))
    · exact (by rw [c] at e; exact e _ (nw.k5 n))
    · exact (by rw [c] at e; exact e _ (nw.k6 n))
  · rw [inI_0 i, if_pos (by rfl), h.chk, ob_some, if_neg (by omega), if_neg (by omega), if_neg (by omega), if_neg (by omega), if_neg (by omega), if_neg (by omega), if_neg (by omega), if_neg w7, if_neg w8, if_neg w9, if_neg w10]
    exact h.fail 1
theorem X9_weight (k : Full t.now) {r : Int} (r1 : -2147483648 ≤ r) (r2 : r ≤ 2147483647) : M9 (f_X9_weight 95 (ii r)) [3] (if 1 ≤ r ∧ r ≤ 16 then .inl (lg t.now.wt r.toNat) else .inr 3) t t := by
  refine M9.of (fun hs => rfl) (fun hs h => ?_)
  obtain ⟨f, nw, n, h1⟩ := h.nw
  rw [il_1, il_16, X9_in r1 r2 (by omega) (by omega) (by omega) (by omega), ob_some]
  by_cases c : 1 ≤ r ∧ r ≤ 16
  · rw [inI_1 c, if_neg (by decide +kernel), if_pos c, nw.2.1, ob_some, nw.kw n c.1 c.2, ob_some]
    exact ⟨hs, rfl, h, Out.refl _ _ _⟩
  · rw [inI_0 c, if_pos (by rfl), if_neg c, h.chk, ob_some]
    exact h.fail 1
theorem X9_isCode {v : Int} (v1 : -2147483648 ≤ v) (v2 : v ≤ 2147483647) : f_X9_isCode (ii v) = some (ii (inI v 42 146)) := by
  unfold f_X9_isCode
  rw [show (42 : Int32) = ii 42 from rfl, show (146 : Int32) = ii 146 from rfl, X9_in v1 v2 (by omega) (by omega) (by omega) (by omega), ob_some, bool_nar _ (inI_b _ _ _)]
theorem X9_noteOf {c w : Int} (c1 : -2147483648 ≤ c) (c2 : c ≤ 2147483647) (w1 : -2147483648 ≤ w) (w2 : w ≤ 2147483647) : M9 (f_X9_noteOf 95 (ii c) (ii w)) [3, 1] (opNoteOf c w) t t := by
  refine M9.of (fun hs => rfl) (fun hs h => ?_)
  unfold opNoteOf
  rw [X9_isCode c1 c2, ob_some]
  by_cases d : 42 ≤ c ∧ c ≤ 146
  · have sb := stp_bd d
    rw [inI_1 d, if_neg (by decide +kernel), if_pos d]
    by_cases e : w = 0
    · rw [if_pos (by rw [e]; rfl), if_pos e, X9_stepOf (by omega) (by omega), ob_some]
      exact ⟨hs, rfl, h, Out.refl _ _ _⟩
    rw [if_neg (by rw [il_0, ii_eq (by omega) (by omega) (by omega) (by omega)]; exact e), if_neg e]
    by_cases e : w = 1
    · rw [if_pos (by rw [e]; rfl), if_pos e, X9_alt (by omega) (by omega), ob_some]
      exact ⟨hs, rfl, h, Out.refl _ _ _⟩
    rw [if_neg (by rw [il_1, ii_eq (by omega) (by omega) (by omega) (by omega)]; exact e), if_neg e]
    by_cases e : w = 2
    · rw [if_pos (by rw [e]; rfl), if_pos e, X9_pitchOf (by omega) (by omega), ob_some]
      exact ⟨hs, rfl, h, Out.refl _ _ _⟩
    rw [if_neg (by rw [il_2, ii_eq (by omega) (by omega) (by omega) (by omega)]; exact e), if_neg e]
    by_cases e : w = 3
    · rw [if_pos (by rw [e]; rfl), if_pos e, X9_stepOf (by omega) (by omega), ob_some, il_7, ii_mod (by omega) (by omega) (by omega) (by omega)]
      exact ⟨hs, rfl, h, Out.refl _ _ _⟩
    rw [if_neg (by rw [il_3, ii_eq (by omega) (by omega) (by omega) (by omega)]; exact e), if_neg e]
    by_cases e : w = 4
    · rw [if_pos (by rw [e]; rfl), if_pos e, X9_stepOf (by omega) (by omega), ob_some, il_7, ii_div (by omega) (by omega) (by omega) (by omega)]
      exact ⟨hs, rfl, h, Out.refl _ _ _⟩
    rw [if_neg (by rw [il_4, ii_eq (by omega) (by omega) (by omega) (by omega)]; exact e), if_neg e, h.chk, ob_some]
    exact h.fail 2
  · rw [inI_0 d, if_pos (by rfl), if_neg d, h.chk, ob_some]
    exact h.fail 1
theorem X9_suggested (hl : t.sug.length ≤ 12) {b : Int} (b1 : -2147483648 ≤ b) (b2 : b ≤ 2147483647) : M9 (f_X9_suggested 95 (ii b)) [2, 3] (opSuggested t.sug b) t t := by
  refine M9.of (fun hs => rfl) (fun hs h => ?_)
  unfold opSuggested
  rw [h.i12, ob_some]
  by_cases c : t.sug.length = 0
  · rw [if_pos (by rw [c]; rfl), if_pos c, h.chk, ob_some]
    exact h.fail 1
  · rw [if_neg (by rw [il_0, ii_eq (by omega) (by omega) (by omega) (by omega)]; omega), if_neg c, ob_some, il_1, ii_sub, il_0, X9_in b1 b2 (by omega) (by omega) (by omega) (by omega), ob_some]
    by_cases d : 0 ≤ b ∧ b ≤ (t.sug.length : Int) - 1
    · obtain ⟨⟨x, m, -⟩, -, -, -, -, ⟨f, a, ha⟩, -⟩ := id h
      rw [inI_1 d, if_neg (by decide +kernel), if_pos (by omega), m.r11, ob_some, a.get (by omega) (by omega) (by omega), ob_some, ha _ (by omega), ← lat_in d.1]
      exact ⟨hs, rfl, h, Out.refl _ _ _⟩
    · rw [inI_0 d, if_pos (by rfl), if_neg (by omega), h.chk, ob_some]
      exact h.fail 2
theorem plc_in {s : Sh} (k : Full s) {b c : Int} (h : ¬ plc s b c = -1) (hm : ¬ s.md.length = 0) : 0 ≤ plc s b c ∧ plc s b c < s.md.length ∧ 0 ≤ b ∧ b < s.gv.length ∧ plc s b c / per s.sp = b := by
  have h3 : (s.md.length : Int) = ((s.gv.length : Int) - 1) * per s.sp + 1 := by
    rcases k.2.2.1 with z | z
    · exact absurd z hm
    · exact z.2
  have hp := per_3 s.sp
  unfold plc at h ⊢
  by_cases d : 0 ≤ b ∧ b < s.gv.length ∧ 0 ≤ c ∧ c < (if b = s.gv.length - 1 then 1 else per s.sp)
  · rw [if_pos d] at h ⊢
    obtain ⟨d1, d2, d3, d4⟩ := d
    by_cases e : b = (s.gv.length : Int) - 1
    · rw [if_pos e] at d4
      rcases hp with z | z | z <;> rw [z] at h3 ⊢ <;> omega
    · rw [if_neg e] at d4
      rcases hp with z | z | z <;> rw [z] at h3 d4 ⊢ <;> omega
  · rw [if_neg d] at h; exact absurd rfl h
theorem X9_note (k : Full t.now) {b c : Int} (b1 : -2147483648 ≤ b) (b2 : b ≤ 2147483647) (c1 : -2147483648 ≤ c) (c2 : c ≤ 2147483647) : M9 (f_X9_note 95 (ii b) (ii c)) [2, 3] (opNote t.now b c) t t := by
  refine M9.of (fun hs => rfl) (fun hs h => ?_)
  obtain ⟨f, nw, n, h1⟩ := h.nw
  have gl := k.1.gl
  have ml := k.1.ml
  have pb := plc_b k.1 b c
  unfold opNote f_X9_note_b32
  rw [nw.2.1, ob_some, nw.k0 n, ob_some]
  by_cases g : t.now.gv.length = 0
  · rw [if_pos (by rw [g]; rfl), if_pos g, h.chk, ob_some]
    exact h.fail 1
  rw [if_neg (by rw [il_0, ii_eq (by omega) (by omega) (by omega) (by omega)]; omega), if_neg g]
  by_cases d : c = -1
  · rw [if_pos (by rw [d]; rfl), if_pos d, if_pos (by rw [d]; rfl), ob_some, nw.k0 n, ob_some, il_1, ii_sub, il_0, X9_in b1 b2 (by omega) (by omega) (by omega) (by omega), ob_some]
    by_cases e : 0 ≤ b ∧ b ≤ (t.now.gv.length : Int) - 1
    · rw [inI_1 e, if_neg (by decide +kernel), if_pos (by omega), h.chk, ob_some, X9_cantusAt nw n e.1 (by omega) gl, ob_some]
      exact ⟨hs, rfl, h, Out.refl _ _ _⟩
    · rw [inI_0 e, if_pos (by rfl), if_neg (by omega), h.chk, ob_some]
      exact h.fail 2
  · rw [if_neg (by rw [il_m1, ii_eq (by omega) (by omega) (by omega) (by omega)]; exact d), if_neg d, h.chk, ob_some, X9_hasLine nw h1 ml, ob_some]
    by_cases e : t.now.md.length = 0
    · rw [if_pos e, if_pos e, if_pos (by rfl), ob_some]
      exact h.fail 1
    · rw [if_neg e, if_neg e, if_neg (by decide +kernel), if_neg (by rw [il_m1, ii_eq (by omega) (by omega) (by omega) (by omega)]; exact d), ob_some, X9_place nw n k.1 b1 b2 c1 c2, ob_some]
      by_cases i : plc t.now b c = -1
      · rw [if_pos (by rw [i]; rfl), if_pos i, ob_some]
        exact h.fail 2
      · obtain ⟨p0, p1, -⟩ := plc_in k i e
        rw [if_neg (by rw [il_m1, ii_eq (by omega) (by omega) (by omega) (by omega)]; exact i), if_neg i, ob_some, X9_line nw n p0 p1 ml, ob_some]
        exact ⟨hs, rfl, h, Out.refl _ _ _⟩
end MOA
