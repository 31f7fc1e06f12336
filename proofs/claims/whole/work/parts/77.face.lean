/-! ===== the face: changes, undo, snapshots ===== -/
section FACE5
variable {hs : AH} {t : St}
theorem X8_setNote (h : CoA hs t) (k : Full t.now) {b c v : Int} (b1 : -2147483648 ≤ b) (b2 : b ≤ 2147483647) (c1 : -2147483648 ≤ c) (c2 : c ≤ 2147483647) (v1 : -2147483648 ≤ v) (v2 : v ≤ 2147483647) :
    ∃ hs', f_X8_setNote 0 (ii b) (ii c) (ii v) hs = some (cvR (if t.now.md.length = 0 then .inr 2 else if plc t.now b c = -1 then .inr 3 else if 42 ≤ v ∧ v ≤ 146 then (if lat t.now.md (plc t.now b c) = -1 then .inr 4 else .inl (lat t.now.md (plc t.now b c))) else .inr 1), hs') ∧ Out hs hs' 0 95 ∧
      CoA hs' (if ¬ t.now.md.length = 0 ∧ ¬ plc t.now b c = -1 ∧ (42 ≤ v ∧ v ≤ 146) ∧ ¬ lat t.now.md (plc t.now b c) = -1 then (wm t.now (t.now.md.set (plc t.now b c).toNat v), t.2.1, t.2.2.1, kpt t.his t.now, t.2.2.2.2) else t) := by
  have pb := plc_b k.1 b c
  unfold f_X8_setNote
  rw [h.chk, ob_some, X8_requirePlace h k.1 b1 b2 c1 c2]
  by_cases d : t.now.md.length = 0
  · rw [if_pos d, if_pos d, if_neg (fun z => z.1 d)]
    exact ⟨hs, rfl, Out.refl _ _ _, h⟩
  · rw [if_neg d, if_neg d]
    by_cases e : plc t.now b c = -1
    · rw [if_pos e, if_pos e, if_neg (fun z => z.2.1 e)]
      exact ⟨hs, rfl, Out.refl _ _ _, h⟩
    · rw [if_neg e, if_neg e, xb_l, h.chk, ob_some, X8_requireCode v1 v2]
      by_cases f : 42 ≤ v ∧ v ≤ 146
      · rw [if_pos f, if_pos f, xb_l, h.chk, ob_some, X8_requireNote h k.1 (by omega) (by omega)]
        by_cases g : lat t.now.md (plc t.now b c) = -1
        · rw [if_pos g, if_pos g, if_neg (fun z => z.2.2.2 g)]
          exact ⟨hs, rfl, Out.refl _ _ _, h⟩
        · rw [if_neg g, if_neg g, if_pos ⟨d, e, f, g⟩, xb_l]
          obtain ⟨g1, e1, q1, o1⟩ := h.keep k.1
          obtain ⟨g2, e2, l2, o2⟩ := X2_put (z := plc t.now b c) (v := v) q1.sh.2.2.1 (by omega) (by omega)
          rw [if_pos (show 0 ≤ plc t.now b c by omega)] at l2
          have s2 : ShA g2 2 (wm t.now (t.now.md.set (plc t.now b c).toNat v)) := ⟨o2.at q1.sh.1 (by omega), q1.sh.2.1.out o2 (by omega), l2, q1.sh.2.2.2.1.out o2 (by omega), q1.sh.2.2.2.2.out o2 (by omega)⟩
          refine ⟨g2, ?_, (o1.mono (by omega) (by omega)).trans (o2.mono (by omega) (by omega)), q1.setS s2 (o2.mono (by omega) (by omega))⟩
          rw [h.r3, ob_some, h.r1, ob_some, coa_kchk h, ob_some, e1, ob_some, q1.r1, ob_some, q1.sh.m, ob_some, q1.sh.2.2.1.chk, ob_some, e2, ob_some]
          rfl
      · rw [if_neg f, if_neg f, if_neg (fun z => f z.2.2.1)]
        exact ⟨hs, rfl, Out.refl _ _ _, h⟩
theorem X8_save (h : CoA hs t) (k : Full t.now) (ks : Full t.sav) : ∃ hs', f_X8_save 0 hs = some (ii t.now.gv.length, hs') ∧ CoA hs' (t.1, t.1, 1, t.2.2.2) ∧ Out hs hs' 0 95 := by
  obtain ⟨g1, e1, l1, o1⟩ := X6_copyFrom (a := 17) (b := 2) (by omega) h.2.2.1 ks.1 h.sh k.1
  have c1 := h.setSav l1 o1
  obtain ⟨g2, e2, c2, o2⟩ := c1.setIs
  refine ⟨g2, ?_, c2, (o1.mono (by omega) (by omega)).trans (o2.mono (by omega) (by omega))⟩
  unfold f_X8_save
  rw [h.r2, ob_some, h.r1, ob_some, h.2.2.1.chk, ob_some, e1, ob_some, show pZ g1 0 8 9 1 = some g2 from e2, ob_some, c2.r1, ob_some, c2.sh.g, ob_some, c2.sh.2.1.chk, ob_some, X2_size c2.sh.2.1, ob_some]
theorem X8_restore (h : CoA hs t) (k : Full t.now) (ks : Full t.sav) (hi : t.isS = 0 ∨ t.isS = 1) : ∃ hs', f_X8_restore 0 hs = some (cvR (if t.isS = 0 then .inr 2 else .inl t.sav.gv.length), hs') ∧ CoA hs' (if t.isS = 0 then t else (t.sav, t.2.1, t.2.2.1, kpt t.his t.now, t.2.2.2.2)) ∧ Out hs hs' 0 95 := by
  unfold f_X8_restore
  rw [h.i9, ob_some]
  by_cases c : t.isS = 0
  · rw [if_pos c, if_pos c, if_pos (by rw [c]; rfl)]
    exact ⟨hs, rfl, h, Out.refl _ _ _⟩
  · rw [if_neg c, if_neg c, if_neg (by rw [il_0, ii_eq (by omega) (by omega) (by omega) (by omega)]; exact c)]
    obtain ⟨g1, e1, c1, o1⟩ := h.keep k.1
    obtain ⟨g2, e2, l2, o2⟩ := X6_copyFrom (a := 2) (b := 17) (by omega) c1.sh k.1 c1.2.2.1 ks.1
    have c2 := c1.setS l2 o2
    refine ⟨g2, ?_, c2, (o1.mono (by omega) (by omega)).trans (o2.mono (by omega) (by omega))⟩
    rw [h.r3, ob_some, h.r1, ob_some, coa_kchk h, ob_some, e1, ob_some, c1.r1, ob_some, c1.r2, ob_some, c1.sh.chk, ob_some, e2, ob_some, c2.r1, ob_some, c2.sh.g, ob_some, c2.sh.2.1.chk, ob_some, X2_size c2.sh.2.1, ob_some]
    rfl
end FACE5
