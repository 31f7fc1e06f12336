/-! ===== the face: adopt ===== -/
def canAdopt (t : St) : Prop := ¬ t.sug.length = 0 ∧ ¬ t.now.gv.length = 0 ∧ t.now.sp = 1 ∧ t.sug.length = t.now.gv.length
section FACEA
variable {hs : AH} {t : St}
theorem X8_adopt (h : CoA hs t) (k : Full t.now) (g12 : t.sug.length ≤ 12) (gv : ∀ x ∈ t.sug, 42 ≤ x ∧ x ≤ 146) :
    (t.sug.length = 0 → f_X8_adopt 0 hs = some (.inr 2, hs)) ∧ (¬ t.sug.length = 0 → t.now.gv.length = 0 → f_X8_adopt 0 hs = some (.inr 2, hs)) ∧
    (¬ t.sug.length = 0 → ¬ t.now.gv.length = 0 → ¬ (t.now.sp = 1 ∧ t.sug.length = t.now.gv.length) → f_X8_adopt 0 hs = some (.inr 6, hs)) ∧
    (canAdopt t → ∃ hs', f_X8_adopt 0 hs = some (.inl (ii (sumP (tallG (wm t.now t.sug) (-1) (-1)) t.sug.length)), hs') ∧ CoA hs' (wm t.now t.sug, t.2.1, t.2.2.1, kpt t.his t.now, t.2.2.2.2) ∧ Out hs hs' 0 95) := by
  have hg : LnA hs 85 t.sug := h.2.2.2.2.2.1
  have gl := k.1.gl
  have spb := k.1.spb
  unfold f_X8_adopt
  rw [h.chk, ob_some, X8_requireSuggestion h hg.le]
  refine ⟨fun c => ?_, fun c d => ?_, fun c d e => ?_, fun ⟨c, d, e, f⟩ => ?_⟩
  · rw [if_pos c]; rfl
  · rw [if_neg c, xb_l, h.chk, ob_some, X8_requireCantus h k.1, if_pos d]; rfl
  · rw [if_neg c, xb_l, h.chk, ob_some, X8_requireCantus h k.1, if_neg d, xb_l, h.r1, ob_some, h.sh.chk, ob_some, X6_species h.sh, ob_some]
    by_cases s : t.now.sp = 1
    · rw [if_pos (by rw [s]; rfl), h.r5, ob_some, hg.chk, ob_some, X2_size hg, ob_some, ob_some, h.sh.g, ob_some, h.sh.2.1.chk, ob_some, X2_size h.sh.2.1, ob_some, if_neg (by rw [ii_eq (by omega) (by omega) (by omega) (by omega)]; omega)]
    · rw [if_neg (by rw [il_1, ii_eq (by omega) (by omega) (by omega) (by omega)]; exact s)]
  · obtain ⟨g1, e1, q1, o1⟩ := h.keep k.1
    have hg1 : LnA g1 85 t.sug := q1.2.2.2.2.2.1
    obtain ⟨g2, e2, l2, o2⟩ := X2_copyFrom (a := 5) (b := 85) (by omega) q1.sh.2.2.1 hg1
    have s2 : ShA g2 2 (wm t.now t.sug) := ⟨o2.at q1.sh.1 (by omega), q1.sh.2.1.out o2 (by omega), l2, q1.sh.2.2.2.1.out o2 (by omega), q1.sh.2.2.2.2.out o2 (by omega)⟩
    have q2 := q1.setS s2 (o2.mono (by omega) (by omega))
    have k2 : SOK (wm t.now t.sug) := wm_ok k.1 (by omega) (fun y hy => Or.inr (gv y hy))
    obtain ⟨g3, c1, e3, q3, o3⟩ := tallH q2 k2 (wr := -1) (wb := -1) (by omega) (by omega)
    refine ⟨g3, ?_, q3, (o1.mono (by omega) (by omega)).trans ((o2.mono (by omega) (by omega)).trans o3)⟩
    rw [if_neg c, xb_l, h.chk, ob_some, X8_requireCantus h k.1, if_neg d, xb_l, h.r1, ob_some, h.sh.chk, ob_some, X6_species h.sh, ob_some, if_pos (by rw [e]; rfl), h.r5, ob_some, hg.chk, ob_some, X2_size hg, ob_some, ob_some, h.sh.g, ob_some, h.sh.2.1.chk, ob_some, X2_size h.sh.2.1, ob_some, if_pos (by rw [f]), h.r3, ob_some, ob_some, coa_kchk h, ob_some, e1, ob_some, q1.r1, ob_some, q1.sh.m, ob_some, q1.r5, ob_some, q1.sh.2.2.1.chk, ob_some, e2, ob_some, q2.r0, ob_some, c1, ob_some, show f_X1_tally 1 (-1) (-1) g2 = _ from e3, ob_some]
    rfl
end FACEA
