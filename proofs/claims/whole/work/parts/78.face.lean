/-! ===== the face: set, setWeight, weight, undo ===== -/
section FACE6
variable {hs : AH} {t : St}
theorem X8_set (h : CoA hs t) (k : Full t.now) {w v : Int} (w1 : -2147483648 ≤ w) (w2 : w ≤ 2147483647) (v1 : -2147483648 ≤ v) (v2 : v ≤ 2147483647) :
    (¬ (0 ≤ w ∧ w < 3) → f_X8_set 0 (ii w) (ii v) hs = some (.inr 3, hs)) ∧ (0 ≤ w ∧ w < 3 → (¬ allowsS t.now w v → f_X8_set 0 (ii w) (ii v) hs = some (.inr 1, hs)) ∧
      (allowsS t.now w v → ∃ hs', f_X8_set 0 (ii w) (ii v) hs = some (.inl (ii (lg t.now.st w.toNat)), hs') ∧ CoA hs' ((t.now.gv, t.now.md, t.now.sp, t.now.bl, t.now.st.set w.toNat v, t.now.wt), t.2.1, t.2.2.1, kpt t.his t.now, t.2.2.2.2) ∧ Out hs hs' 0 95)) := by
  unfold f_X8_set
  refine ⟨fun c => ?_, fun c => ?_⟩
  · by_cases d : w < 0
    · rw [if_pos (by rw [il_0, ii_lt (by omega) (by omega) (by omega) (by omega)]; exact d)]
    · rw [if_neg (by rw [il_0, ii_lt (by omega) (by omega) (by omega) (by omega)]; exact d), if_neg (by rw [il_3, ii_lt (by omega) (by omega) (by omega) (by omega)]; omega)]
  · rw [if_neg (by rw [il_0, ii_lt (by omega) (by omega) (by omega) (by omega)]; omega), if_pos (by rw [il_3, ii_lt (by omega) (by omega) (by omega) (by omega)]; omega), h.r1, ob_some, h.sh.chk, ob_some]
    rcases X6_allowsSetting h.sh k.1 c.1 c.2 v1 v2 with ⟨e, a⟩ | ⟨e, a⟩
    · refine ⟨fun n => absurd a n, fun _ => ?_⟩
      obtain ⟨g1, e1, q1, o1⟩ := h.keep k.1
      obtain ⟨g2, e2, s2, o2⟩ := X6_makeSetting (v := v) q1.sh k.1 c.1 c.2
      refine ⟨g2, ?_, q1.setS s2 o2, (o1.mono (by omega) (by omega)).trans (o2.mono (by omega) (by omega))⟩
      rw [e, ob_some, if_neg (show ¬ ii 1 = 0 by decide +kernel), h.r3, ob_some, ob_some, coa_kchk h, ob_some, e1, ob_some, q1.r1, ob_some, q1.sh.chk, ob_some, X6_settingOf q1.sh k.1 c.1 c.2, ob_some, ob_some, q1.sh.chk, ob_some, e2, ob_some]
    · refine ⟨fun _ => ?_, fun z => absurd z a⟩
      rw [e, ob_some, if_pos (show ii 0 = 0 from rfl)]
theorem X8_weight (h : CoA hs t) (k : Full t.now) {r : Int} (r1 : -2147483648 ≤ r) (r2 : r ≤ 2147483647) : f_X8_weight 0 (ii r) hs = some (cvR (if 1 ≤ r ∧ r ≤ 16 then .inl (lg t.now.wt r.toNat) else .inr 3), hs) := by
  unfold f_X8_weight
  rw [h.chk, ob_some, X8_requireRule r1 r2]
  by_cases c : 1 ≤ r ∧ r ≤ 16
  · rw [if_pos c, if_pos c, xb_l, h.r1, ob_some, h.sh.chk, ob_some, X6_weightOf h.sh k.1 c.1 c.2, ob_some]
    rfl
  · rw [if_neg c, if_neg c]
    rfl
theorem X8_setWeight (h : CoA hs t) (k : Full t.now) {r v : Int} (r1 : -2147483648 ≤ r) (r2 : r ≤ 2147483647) (v1 : -2147483648 ≤ v) (v2 : v ≤ 2147483647) :
    (¬ (1 ≤ r ∧ r ≤ 16) → f_X8_setWeight 0 (ii r) (ii v) hs = some (.inr 3, hs)) ∧ (1 ≤ r ∧ r ≤ 16 → (¬ (0 ≤ v ∧ v ≤ 9) → f_X8_setWeight 0 (ii r) (ii v) hs = some (.inr 1, hs)) ∧
      (0 ≤ v ∧ v ≤ 9 → ∃ hs', f_X8_setWeight 0 (ii r) (ii v) hs = some (.inl (ii (lg t.now.wt r.toNat)), hs') ∧ CoA hs' ((t.now.gv, t.now.md, t.now.sp, t.now.bl, t.now.st, t.now.wt.set r.toNat v), t.2.1, t.2.2.1, kpt t.his t.now, t.2.2.2.2) ∧ Out hs hs' 0 95)) := by
  unfold f_X8_setWeight
  rw [h.chk, ob_some, X8_requireRule r1 r2]
  refine ⟨fun c => ?_, fun c => ?_⟩
  · rw [if_neg c]
    rfl
  · rw [if_pos c, xb_l]
    refine ⟨fun d => ?_, fun d => ?_⟩
    · by_cases e : v < 0
      · rw [if_pos (by rw [il_0, ii_lt (by omega) (by omega) (by omega) (by omega)]; exact e)]
      · rw [if_neg (by rw [il_0, ii_lt (by omega) (by omega) (by omega) (by omega)]; exact e), if_neg (by rw [il_9, ii_le (by omega) (by omega) (by omega) (by omega)]; omega)]
    · rw [if_neg (by rw [il_0, ii_lt (by omega) (by omega) (by omega) (by omega)]; omega), if_pos (by rw [il_9, ii_le (by omega) (by omega) (by omega) (by omega)]; omega)]
      obtain ⟨g1, e1, q1, o1⟩ := h.keep k.1
      obtain ⟨g2, e2, s2, o2⟩ := X6_makeWeight (v := v) q1.sh k.1 c.1 c.2
      refine ⟨g2, ?_, q1.setS s2 o2, (o1.mono (by omega) (by omega)).trans (o2.mono (by omega) (by omega))⟩
      rw [h.r3, ob_some, h.r1, ob_some, coa_kchk h, ob_some, e1, ob_some, q1.r1, ob_some, q1.sh.chk, ob_some, X6_weightOf q1.sh k.1 c.1 c.2, ob_some, ob_some, q1.sh.chk, ob_some, e2, ob_some]
theorem X8_undo_0 (h : CoA hs t) (hl : t.his = []) : f_X8_undo 0 hs = some (.inr 2, hs) := by
  have hh := h.his
  unfold f_X8_undo
  rw [h.r3, ob_some, coa_kchk h, ob_some, X0_size hh, ob_some, hl]
  rw [if_pos (show ii (([] : List Sh).length : Nat) = 0 from rfl)]
end FACE6
