/-! ===== the face: interval, count ===== -/
def opIntervalAt (s : Sh) (p w : Int) : Int ⊕ Nat := if w = 0 then .inl (har s p).2.1 else if w = 1 then .inl (har s p).2.2.1 else if w = 2 then .inl (souS (har s p)) else if w = 3 then .inl (har s p).2.2.2.2 else if w = 4 then .inl (tie s p) else .inr 1
def opInterval (s : Sh) (b c w : Int) : Int ⊕ Nat := if s.md.length = 0 then .inr 2 else if plc s b c = -1 then .inr 3 else if lat s.md (plc s b c) = -1 then .inr 4 else opIntervalAt s (plc s b c) w
def opCount (t : St) (w : Int) : Int ⊕ Nat := if w = 0 then .inl t.now.gv.length else if w = 1 then .inl t.now.md.length else if w = 2 then .inl t.now.sp else if w = 3 then .inl t.now.bl else if w = 4 then .inl (lg t.now.st 0) else if w = 5 then .inl (lg t.now.st 1) else if w = 6 then .inl (lg t.now.st 2) else
  if w = 7 then .inl (wsum t.now.wt 16) else if w = 8 then .inl t.buf.length else if w = 9 then .inl t.his.length else if w = 10 then .inl t.sug.length else .inr 1
section FACEF
variable {hs : AH} {t : St}
theorem X8_interval (h : CoA hs t) (k : Full t.now) {b c w : Int} (b1 : -2147483648 ≤ b) (b2 : b ≤ 2147483647) (c1 : -2147483648 ≤ c) (c2 : c ≤ 2147483647) (w1 : -2147483648 ≤ w) (w2 : w ≤ 2147483647) : ∃ hs', f_X8_interval 0 (ii b) (ii c) (ii w) hs = some (cvR (opInterval t.now b c w), hs') ∧ CoA hs' t ∧ Out hs hs' 0 95 := by
  have pb := plc_b k.1 b c
  unfold f_X8_interval opInterval
  rw [h.chk, ob_some, X8_requirePlace h k.1 b1 b2 c1 c2]
  by_cases e : t.now.md.length = 0
  · rw [if_pos e, if_pos e]
    exact ⟨hs, rfl, h, Out.refl _ _ _⟩
  rw [if_neg e, if_neg e]
  by_cases f : plc t.now b c = -1
  · rw [if_pos f, if_pos f]
    exact ⟨hs, rfl, h, Out.refl _ _ _⟩
  rw [if_neg f, if_neg f, xb_l, h.chk, ob_some, X8_requireNote h k.1 (by omega) (by omega)]
  by_cases g : lat t.now.md (plc t.now b c) = -1
  · rw [if_pos g, if_pos g]
    exact ⟨hs, rfl, h, Out.refl _ _ _⟩
  rw [if_neg g, if_neg g, xb_l, h.r0, ob_some]
  have hh := h
  obtain ⟨-, ⟨x, sp, j⟩, -⟩ := h
  obtain ⟨g1, e1, j1, o1⟩ := X1_harmonyAt k.1 j (z := plc t.now b c) (by omega) (by omega)
  have q1 : CoA g1 t := hh.setJ j1 o1
  have S : SpA g1 9 (har t.now (plc t.now b c)) := by have := j1.2.2 0 (by decide); rw [us_eq] at this; exact this
  have B : SpB (har t.now (plc t.now b c)) := spn_b (k.1.gvb _) (k.1.mdb _)
  have tb := tie_b t.now (plc t.now b c)
  refine ⟨g1, ?_, q1, o1.mono (by omega) (by omega)⟩
  rw [j.chk, ob_some, e1, ob_some]
  unfold opIntervalAt
  dsimp only
  by_cases w0 : w = 0
  · rw [if_pos (by rw [w0]; rfl), if_pos w0, S.chk, ob_some, X7_steps S, ob_some]; rfl
  rw [if_neg (by rw [il_0, ii_eq (by omega) (by omega) (by omega) (by omega)]; exact w0), if_neg w0]
  by_cases w0 : w = 1
  · rw [if_pos (by rw [w0]; rfl), if_pos w0, S.chk, ob_some, X7_width S, ob_some]; rfl
  rw [if_neg (by rw [il_1, ii_eq (by omega) (by omega) (by omega) (by omega)]; exact w0), if_neg w0]
  by_cases w0 : w = 2
  · rw [if_pos (by rw [w0]; rfl), if_pos w0, S.chk, ob_some, X7_sound S B, ob_some]; rfl
  rw [if_neg (by rw [il_2, ii_eq (by omega) (by omega) (by omega) (by omega)]; exact w0), if_neg w0]
  by_cases w0 : w = 3
  · rw [if_pos (by rw [w0]; rfl), if_pos w0, S.chk, ob_some, X7_perfectClass S, ob_some]; rfl
  rw [if_neg (by rw [il_3, ii_eq (by omega) (by omega) (by omega) (by omega)]; exact w0), if_neg w0]
  by_cases w0 : w = 4
  · rw [if_pos (by rw [w0]; rfl), if_pos w0, q1.r1, ob_some, q1.sh.chk, ob_some, X6_tie q1.sh k.1 (by omega) (by omega), ob_some]
    by_cases y : tie t.now (plc t.now b c) = 0
    · rw [y, if_pos (show ii 0 = 0 from rfl)]; rfl
    · have y : tie t.now (plc t.now b c) = 1 := by omega
      rw [y, if_neg (by decide +kernel)]; rfl
  · rw [if_neg (by rw [il_4, ii_eq (by omega) (by omega) (by omega) (by omega)]; exact w0), if_neg w0]; rfl
theorem X8_count (h : CoA hs t) (k : Full t.now) {w : Int} (w1 : -2147483648 ≤ w) (w2 : w ≤ 2147483647) : f_X8_count 0 (ii w) hs = some (cvR (opCount t w), hs) := by
  have bl := k.1.blb
  unfold f_X8_count opCount
  by_cases w0 : w = 0
  · rw [if_pos (by rw [w0]; rfl), if_pos w0, h.r1, ob_some, h.sh.g, ob_some, h.sh.2.1.chk, ob_some, X2_size h.sh.2.1, ob_some]; rfl
  rw [if_neg (by rw [il_0, ii_eq (by omega) (by omega) (by omega) (by omega)]; exact w0), if_neg w0]
  by_cases w0 : w = 1
  · rw [if_pos (by rw [w0]; rfl), if_pos w0, h.r1, ob_some, h.sh.m, ob_some, h.sh.2.2.1.chk, ob_some, X2_size h.sh.2.2.1, ob_some]; rfl
  rw [if_neg (by rw [il_1, ii_eq (by omega) (by omega) (by omega) (by omega)]; exact w0), if_neg w0]
  by_cases w0 : w = 2
  · rw [if_pos (by rw [w0]; rfl), if_pos w0, h.r1, ob_some, h.sh.chk, ob_some, X6_species h.sh, ob_some]; rfl
  rw [if_neg (by rw [il_2, ii_eq (by omega) (by omega) (by omega) (by omega)]; exact w0), if_neg w0]
  by_cases w0 : w = 3
  · rw [if_pos (by rw [w0]; rfl), if_pos w0, h.r1, ob_some, h.sh.chk, ob_some, X6_isBelow h.sh k.1, ob_some]
    rcases bl with y | y
    · rw [y, if_pos (show ii 0 = 0 from rfl)]; rfl
    · rw [y, if_neg (by decide +kernel)]; rfl
  rw [if_neg (by rw [il_3, ii_eq (by omega) (by omega) (by omega) (by omega)]; exact w0), if_neg w0]
  by_cases w0 : w = 4
  · rw [if_pos (by rw [w0]; rfl), if_pos w0, h.r1, ob_some, h.sh.chk, ob_some, show f_X6_settingOf 2 0 hs = _ from X6_settingOf h.sh k.1 (z := 0) (by omega) (by omega), ob_some]; rfl
  rw [if_neg (by rw [il_4, ii_eq (by omega) (by omega) (by omega) (by omega)]; exact w0), if_neg w0]
  by_cases w0 : w = 5
  · rw [if_pos (by rw [w0]; rfl), if_pos w0, h.r1, ob_some, h.sh.chk, ob_some, show f_X6_settingOf 2 1 hs = _ from X6_settingOf h.sh k.1 (z := 1) (by omega) (by omega), ob_some]; rfl
  rw [if_neg (by rw [il_5, ii_eq (by omega) (by omega) (by omega) (by omega)]; exact w0), if_neg w0]
  by_cases w0 : w = 6
  · rw [if_pos (by rw [w0]; rfl), if_pos w0, h.r1, ob_some, h.sh.chk, ob_some, show f_X6_settingOf 2 2 hs = _ from X6_settingOf h.sh k.1 (z := 2) (by omega) (by omega), ob_some]; rfl
  rw [if_neg (by rw [il_6, ii_eq (by omega) (by omega) (by omega) (by omega)]; exact w0), if_neg w0]
  by_cases w0 : w = 7
  · rw [if_pos (by rw [w0]; rfl), if_pos w0, h.r1, ob_some, h.sh.chk, ob_some, X6_sumOfWeights h.sh k.1, ob_some]; rfl
  rw [if_neg (by rw [il_7, ii_eq (by omega) (by omega) (by omega) (by omega)]; exact w0), if_neg w0]
  by_cases w0 : w = 8
  · rw [if_pos (by rw [w0]; rfl), if_pos w0, h.r7, ob_some, h.page.chk, ob_some, X3_size h.page, ob_some]; rfl
  rw [if_neg (by rw [il_8, ii_eq (by omega) (by omega) (by omega) (by omega)]; exact w0), if_neg w0]
  by_cases w0 : w = 9
  · rw [if_pos (by rw [w0]; rfl), if_pos w0, h.r3, ob_some, coa_kchk h, ob_some, X0_size h.his, ob_some]; rfl
  rw [if_neg (by rw [il_9, ii_eq (by omega) (by omega) (by omega) (by omega)]; exact w0), if_neg w0]
  by_cases w0 : w = 10
  · have hg : LnA hs 85 t.sug := h.2.2.2.2.2.1
    rw [if_pos (by rw [w0]; rfl), if_pos w0, h.r5, ob_some, hg.chk, ob_some, X2_size hg, ob_some]; rfl
  · rw [if_neg (by rw [il_10, ii_eq (by omega) (by omega) (by omega) (by omega)]; exact w0), if_neg w0]; rfl
end FACEF
