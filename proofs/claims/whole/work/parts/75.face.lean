/-! ===== the face: what is asked for before an answer ===== -/
section FACE3
variable {hs : AH} {t : St}
theorem xb_l {α β : Type} {a : α} {h : AH} {f : α → AH → Option ((β ⊕ Nat) × AH)} : xb (some (.inl a, h)) f = f a h := rfl
theorem xb_r {α β : Type} {k : Nat} {h : AH} {f : α → AH → Option ((β ⊕ Nat) × AH)} : xb (some ((.inr k : α ⊕ Nat), h)) f = some (.inr k, h) := rfl
theorem coa_kchk (h : CoA hs t) : chk hs 24 0 = some () := by obtain ⟨-, o, f, ho, h1, -⟩ := h.his; exact chk_of h1
theorem plc_b {s : Sh} (k : SOK s) (b c : Int) : -1 ≤ plc s b c ∧ plc s b c ≤ 60 := by
  have gl := k.gl
  unfold plc
  by_cases h : 0 ≤ b ∧ b < s.gv.length ∧ 0 ≤ c ∧ c < (if b = s.gv.length - 1 then 1 else per s.sp)
  · rw [if_pos h]
    obtain ⟨h1, h2, h3, h4⟩ := h
    have h5 : c < 4 := by
      by_cases e : b = s.gv.length - 1
      · rw [if_pos e] at h4; omega
      · rw [if_neg e] at h4; rcases per_3 s.sp with z | z | z <;> rw [z] at h4 <;> omega
    rcases per_3 s.sp with z | z | z <;> rw [z] <;> omega
  · rw [if_neg h]; omega
theorem X8_requireCounterpoint (h : CoA hs t) (k : SOK t.now) : f_X8_requireCounterpoint 0 hs = some (if t.now.md.length = 0 then .inr 2 else .inl (), hs) := by
  have gl := k.ml
  unfold f_X8_requireCounterpoint
  rw [h.r1, ob_some, h.sh.m, ob_some, h.sh.2.2.1.chk, ob_some, X2_size h.sh.2.2.1, ob_some]
  by_cases c : t.now.md.length = 0
  · rw [if_pos c, if_pos (by rw [c]; rfl)]
  · rw [if_neg c, if_neg (by rw [il_0, ii_eq (by omega) (by omega) (by omega) (by omega)]; omega)]
theorem X8_requirePlace (h : CoA hs t) (k : SOK t.now) {b c : Int} (b1 : -2147483648 ≤ b) (b2 : b ≤ 2147483647) (c1 : -2147483648 ≤ c) (c2 : c ≤ 2147483647) : f_X8_requirePlace 0 (ii b) (ii c) hs = some (if t.now.md.length = 0 then .inr 2 else if plc t.now b c = -1 then .inr 3 else .inl (ii (plc t.now b c)), hs) := by
  have pb := plc_b k b c
  unfold f_X8_requirePlace
  rw [h.chk, ob_some, X8_requireCounterpoint h k]
  by_cases d : t.now.md.length = 0
  · rw [if_pos d, if_pos d]; rfl
  · rw [if_neg d, if_neg d, xb_l, h.r1, ob_some, h.sh.chk, ob_some, X6_placeOf h.sh k b1 b2 c1 c2, ob_some]
    by_cases e : plc t.now b c = -1
    · rw [if_pos e, if_pos (by rw [e]; rfl)]
    · rw [if_neg e, if_neg (by rw [il_m1, ii_eq (by omega) (by omega) (by omega) (by omega)]; exact e)]
theorem X8_requireCode {v : Int} (v1 : -2147483648 ≤ v) (v2 : v ≤ 2147483647) : f_X8_requireCode 0 (ii v) hs = some (if 42 ≤ v ∧ v ≤ 146 then .inl () else .inr 1, hs) := by
  unfold f_X8_requireCode f_X8_isCode
  by_cases c : v < 42
  · rw [if_pos (by rw [il_42, ii_lt (by omega) (by omega) (by omega) (by omega)]; exact c), ob_some, if_pos rfl, if_neg (show ¬ (42 ≤ v ∧ v ≤ 146) by omega)]
  · rw [if_neg (by rw [il_42, ii_lt (by omega) (by omega) (by omega) (by omega)]; exact c)]
    by_cases d : 146 < v
    · rw [if_pos (by rw [il_146, ii_lt (by omega) (by omega) (by omega) (by omega)]; exact d), ob_some, if_pos rfl, if_neg (show ¬ (42 ≤ v ∧ v ≤ 146) by omega)]
    · rw [if_neg (by rw [il_146, ii_lt (by omega) (by omega) (by omega) (by omega)]; exact d), ob_some, if_neg (by decide), if_pos (show (42 ≤ v ∧ v ≤ 146) by omega)]
theorem X8_requireNote (h : CoA hs t) (k : SOK t.now) {z : Int} (z1 : -100 ≤ z) (z2 : z ≤ 100) : f_X8_requireNote 0 (ii z) hs = some (if lat t.now.md z = -1 then .inr 4 else .inl (), hs) := by
  have mb := k.mdi z
  unfold f_X8_requireNote
  rw [h.r1, ob_some, h.sh.m, ob_some, h.sh.2.2.1.chk, ob_some, X2_at h.sh.2.2.1 (by omega) (by omega), ob_some]
  by_cases c : lat t.now.md z = -1
  · rw [if_pos c, if_pos (by rw [c]; rfl)]
  · rw [if_neg c, if_neg (by rw [il_m1, ii_eq (by omega) (by omega) (by omega) (by omega)]; exact c)]
theorem X8_requireBar (h : CoA hs t) (k : SOK t.now) {b : Int} (b1 : -2147483648 ≤ b) (b2 : b ≤ 2147483647) : f_X8_requireBar 0 (ii b) hs = some (if 0 ≤ b ∧ b < t.now.gv.length then .inl () else .inr 3, hs) := by
  have gl := k.gl
  unfold f_X8_requireBar
  by_cases c : b < 0
  · rw [if_pos (by rw [il_0, ii_lt (by omega) (by omega) (by omega) (by omega)]; exact c), if_neg (show ¬ (0 ≤ b ∧ b < t.now.gv.length) by omega)]
  · rw [if_neg (by rw [il_0, ii_lt (by omega) (by omega) (by omega) (by omega)]; exact c), h.r1, ob_some, h.sh.g, ob_some, h.sh.2.1.chk, ob_some, X2_size h.sh.2.1, ob_some]
    by_cases d : b < t.now.gv.length
    · rw [if_pos (by rw [ii_lt (by omega) (by omega) (by omega) (by omega)]; exact d), if_pos (show (0 ≤ b ∧ b < t.now.gv.length) by omega)]
    · rw [if_neg (by rw [ii_lt (by omega) (by omega) (by omega) (by omega)]; exact d), if_neg (show ¬ (0 ≤ b ∧ b < t.now.gv.length) by omega)]
theorem X8_requireSuggestion (h : CoA hs t) (hl : t.sug.length ≤ 45) : f_X8_requireSuggestion 0 hs = some (if t.sug.length = 0 then .inr 2 else .inl (), hs) := by
  have hg : LnA hs 85 t.sug := h.2.2.2.2.2.1
  unfold f_X8_requireSuggestion
  rw [h.r5, ob_some, hg.chk, ob_some, X2_size hg, ob_some]
  by_cases c : t.sug.length = 0
  · rw [if_pos c, if_pos (by rw [c]; rfl)]
  · rw [if_neg c, if_neg (by rw [il_0, ii_eq (by omega) (by omega) (by omega) (by omega)]; omega)]
theorem X8_setPosition (h : CoA hs t) (k : SOK t.now) {v : Int} (hv : v = 0 ∨ v = 1) : ∃ hs', f_X8_setPosition 0 (ii v) hs = some (ii t.now.bl, hs') ∧ CoA hs' ((t.now.gv, t.now.md, t.now.sp, v, t.now.st, t.now.wt), t.2.1, t.2.2.1, kpt t.his t.now, t.2.2.2.2) ∧ Out hs hs' 0 95 := by
  obtain ⟨g1, e1, c1, o1⟩ := h.keep k
  obtain ⟨g2, e2, s2, o2⟩ := X6_makeBelow c1.sh hv
  refine ⟨g2, ?_, c1.setS s2 o2, (o1.mono (by omega) (by omega)).trans (o2.mono (by omega) (by omega))⟩
  unfold f_X8_setPosition
  rw [h.r3, ob_some, h.r1, ob_some, coa_kchk h, ob_some, e1, ob_some, c1.r1, ob_some, c1.sh.chk, ob_some, X6_isBelow c1.sh k, ob_some, ob_some, c1.sh.chk, ob_some, e2, ob_some]
  have nb : vp_nar .boolean (ii t.now.bl) = ii t.now.bl := by rcases k.blb with e | e <;> rw [e] <;> rfl
  exact congrArg (fun z => some (z, g2)) nb
end FACE3
