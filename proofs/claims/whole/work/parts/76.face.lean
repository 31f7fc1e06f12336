/-! ===== the face: motions, cost, faults counted ===== -/
def cvR (r : Int ⊕ Nat) : Int32 ⊕ Nat := match r with
  | .inl z => .inl (ii z)
  | .inr k => .inr k
def opMotion (s : Sh) (b : Int) : Int ⊕ Nat := if s.md.length = 0 then .inr 2 else if 0 ≤ b ∧ b < (s.gv.length : Int) - 1 then (if motC s b = -1 then .inr 4 else .inl (motC s b)) else .inr 3
def opMotions (s : Sh) (kind : Int) : Int ⊕ Nat := if s.md.length = 0 then .inr 2 else if 0 ≤ kind ∧ kind ≤ 4 then .inl (sumM s kind (s.gv.length - 1)) else .inr 1
def opCost (s : Sh) : Int ⊕ Nat := if s.md.length = 0 then .inr 2 else .inl (sumP (costG s) s.md.length)
section FACE4
variable {hs : AH} {t : St}
theorem X8_motion (h : CoA hs t) (k : Full t.now) {b : Int} (b1 : -2147483648 ≤ b) (b2 : b ≤ 2147483647) : ∃ hs', f_X8_motion 0 (ii b) hs = some (cvR (opMotion t.now b), hs') ∧ CoA hs' t ∧ Out hs hs' 0 95 := by
  have gl := k.1.gl
  unfold f_X8_motion opMotion
  rw [h.chk, ob_some, X8_requireCounterpoint h k.1]
  by_cases c : t.now.md.length = 0
  · rw [if_pos c, if_pos c]
    exact ⟨hs, rfl, h, Out.refl _ _ _⟩
  · rw [if_neg c, if_neg c, xb_l]
    by_cases d : b < 0
    · rw [if_pos (by rw [il_0, ii_lt (by omega) (by omega) (by omega) (by omega)]; exact d), if_neg (show ¬ (0 ≤ b ∧ b < (t.now.gv.length : Int) - 1) by omega)]
      exact ⟨hs, rfl, h, Out.refl _ _ _⟩
    · rw [if_neg (by rw [il_0, ii_lt (by omega) (by omega) (by omega) (by omega)]; exact d), h.r1, ob_some, h.sh.g, ob_some, h.sh.2.1.chk, ob_some, X2_size h.sh.2.1, ob_some, il_m1, il_1, ii_sub]
      by_cases e : b < (t.now.gv.length : Int) - 1
      · rw [if_pos (by rw [ii_lt (by omega) (by omega) (by omega) (by omega)]; exact e), if_pos (show (0 ≤ b ∧ b < (t.now.gv.length : Int) - 1) by omega)]
        have hh := h
        obtain ⟨-, ⟨x, sp, j⟩, -⟩ := h
        obtain ⟨g, sp', e1, j1, o1⟩ := X1_motionFrom k.1 j (b := b) (by omega) (by omega)
        have mb := motC_b t.now b
        have C1 : CoA g t := hh.setJ j1 o1
        refine ⟨g, ?_, C1, o1.mono (by omega) (by omega)⟩
        rw [hh.r0, ob_some, j.chk, ob_some, e1, ob_some]
        dsimp only
        by_cases f : motC t.now b = -1
        · rw [if_pos f, if_pos (by rw [f])]
          rfl
        · rw [if_neg f, if_neg (show ¬ ii (motC t.now b) = ii (-1) by rw [ii_eq (by omega) (by omega) (by omega) (by omega)]; exact f)]
          rfl
      · rw [if_neg (by rw [ii_lt (by omega) (by omega) (by omega) (by omega)]; exact e), if_neg (show ¬ (0 ≤ b ∧ b < (t.now.gv.length : Int) - 1) by omega)]
        exact ⟨hs, rfl, h, Out.refl _ _ _⟩
theorem Full.two {s : Sh} (k : Full s) (c : ¬ s.md.length = 0) : 2 ≤ s.gv.length := by
  rcases k.2.2.1 with h | h
  · exact absurd h c
  · exact h.1
theorem X8_motions (h : CoA hs t) (k : Full t.now) {b : Int} (b1 : -2147483648 ≤ b) (b2 : b ≤ 2147483647) : ∃ hs', f_X8_motions 0 (ii b) hs = some (cvR (opMotions t.now b), hs') ∧ CoA hs' t ∧ Out hs hs' 0 95 := by
  have gl := k.1.gl
  unfold f_X8_motions opMotions
  rw [h.chk, ob_some, X8_requireCounterpoint h k.1]
  by_cases c : t.now.md.length = 0
  · rw [if_pos c, if_pos c]
    exact ⟨hs, rfl, h, Out.refl _ _ _⟩
  · rw [if_neg c, if_neg c, xb_l]
    have k2 := k.two c
    by_cases d : b < 0
    · rw [if_pos (by rw [il_0, ii_lt (by omega) (by omega) (by omega) (by omega)]; exact d), if_neg (show ¬ (0 ≤ b ∧ b ≤ 4) by omega)]
      exact ⟨hs, rfl, h, Out.refl _ _ _⟩
    · rw [if_neg (by rw [il_0, ii_lt (by omega) (by omega) (by omega) (by omega)]; exact d)]
      by_cases e : b ≤ 4
      · rw [if_pos (by rw [il_4, ii_le (by omega) (by omega) (by omega) (by omega)]; exact e), if_pos (show (0 ≤ b ∧ b ≤ 4) by omega)]
        have hh := h
        obtain ⟨-, ⟨x, sp, j⟩, -⟩ := h
        obtain ⟨g, sp', e1, j1, o1⟩ := X1_motionsOf k.1 (kind := b) (by omega) (by omega) j
        have C1 : CoA g t := hh.setJ j1 o1
        refine ⟨g, ?_, C1, o1.mono (by omega) (by omega)⟩
        rw [hh.r0, ob_some, j.chk, ob_some, e1, ob_some]
        rfl
      · rw [if_neg (by rw [il_4, ii_le (by omega) (by omega) (by omega) (by omega)]; exact e), if_neg (show ¬ (0 ≤ b ∧ b ≤ 4) by omega)]
        exact ⟨hs, rfl, h, Out.refl _ _ _⟩
theorem X8_cost (h : CoA hs t) (k : Full t.now) : ∃ hs', f_X8_cost 0 hs = some (cvR (opCost t.now), hs') ∧ CoA hs' t ∧ Out hs hs' 0 95 := by
  unfold f_X8_cost opCost
  rw [h.chk, ob_some, X8_requireCounterpoint h k.1]
  by_cases c : t.now.md.length = 0
  · rw [if_pos c, if_pos c]
    exact ⟨hs, rfl, h, Out.refl _ _ _⟩
  · rw [if_neg c, if_neg c, xb_l]
    have hh := h
    obtain ⟨-, ⟨x, sp, j⟩, -⟩ := h
    obtain ⟨g, x', sp', e1, j1, o1⟩ := X1_wholeCost k.1 j
    have C1 : CoA g t := hh.setJ j1 o1
    refine ⟨g, ?_, C1, o1.mono (by omega) (by omega)⟩
    rw [hh.r0, ob_some, j.chk, ob_some, e1, ob_some]
    rfl
theorem X8_requireRule {v : Int} (v1 : -2147483648 ≤ v) (v2 : v ≤ 2147483647) : f_X8_requireRule 0 (ii v) hs = some (if 1 ≤ v ∧ v ≤ 16 then .inl () else .inr 3, hs) := by
  unfold f_X8_requireRule
  by_cases c : v < 1
  · rw [if_pos (by rw [il_1, ii_lt (by omega) (by omega) (by omega) (by omega)]; exact c), if_neg (show ¬ (1 ≤ v ∧ v ≤ 16) by omega)]
  · rw [if_neg (by rw [il_1, ii_lt (by omega) (by omega) (by omega) (by omega)]; exact c)]
    by_cases d : v ≤ 16
    · rw [if_pos (by rw [il_16, ii_le (by omega) (by omega) (by omega) (by omega)]; exact d), if_pos (show (1 ≤ v ∧ v ≤ 16) by omega)]
    · rw [if_neg (by rw [il_16, ii_le (by omega) (by omega) (by omega) (by omega)]; exact d), if_neg (show ¬ (1 ≤ v ∧ v ≤ 16) by omega)]
def opFaults (s : Sh) (r : Int) : Int ⊕ Nat := if s.md.length = 0 then .inr 2 else if r = 0 then .inl (sumP (tallG s (-1) (-1)) s.md.length) else if 1 ≤ r ∧ r ≤ 16 then .inl (sumP (tallG s r (-1)) s.md.length) else .inr 3
def opFaultsIn (s : Sh) (b : Int) : Int ⊕ Nat := if s.md.length = 0 then .inr 2 else if 0 ≤ b ∧ b < s.gv.length then .inl (sumP (tallG s (-1) b) s.md.length) else .inr 3
theorem tallH (h : CoA hs t) (k : SOK t.now) {wr wb : Int} (r1 : -1 ≤ wr ∧ wr ≤ 20) (r2 : -1 ≤ wb ∧ wb ≤ 20) : ∃ hs', chk hs 1 1 = some () ∧ f_X1_tally 1 (ii wr) (ii wb) hs = some (ii (sumP (tallG t.now wr wb) t.now.md.length), hs') ∧ CoA hs' t ∧ Out hs hs' 0 95 := by
  have hh := h
  obtain ⟨-, ⟨x, sp, j⟩, -⟩ := h
  obtain ⟨g, x', sp', e1, j1, o1, -, -⟩ := X1_tally k r1 r2 j
  exact ⟨g, j.chk, e1, hh.setJ j1 o1, o1.mono (by omega) (by omega)⟩
theorem X8_faults (h : CoA hs t) (k : Full t.now) {r : Int} (r1 : -2147483648 ≤ r) (r2 : r ≤ 2147483647) : ∃ hs', f_X8_faults 0 (ii r) hs = some (cvR (opFaults t.now r), hs') ∧ CoA hs' t ∧ Out hs hs' 0 95 := by
  unfold f_X8_faults opFaults
  rw [h.chk, ob_some, X8_requireCounterpoint h k.1]
  by_cases c : t.now.md.length = 0
  · rw [if_pos c, if_pos c]
    exact ⟨hs, rfl, h, Out.refl _ _ _⟩
  · rw [if_neg c, if_neg c, xb_l]
    by_cases d : r = 0
    · obtain ⟨g, q, e1, C1, o1⟩ := tallH h k.1 (wr := -1) (wb := -1) (by omega) (by omega)
      refine ⟨g, ?_, C1, o1⟩
      rw [if_pos d, if_pos (by rw [d]; rfl), h.r0, ob_some, q, ob_some, show f_X1_tally 1 (-1) (-1) hs = _ from e1, ob_some]
      rfl
    · rw [if_neg d, if_neg (by rw [il_0, ii_eq (by omega) (by omega) (by omega) (by omega)]; exact d), h.chk, ob_some, X8_requireRule r1 r2]
      by_cases e : 1 ≤ r ∧ r ≤ 16
      · obtain ⟨g, q, e1, C1, o1⟩ := tallH h k.1 (wr := r) (wb := -1) (by omega) (by omega)
        refine ⟨g, ?_, C1, o1⟩
        rw [if_pos e, if_pos e, xb_l, h.r0, ob_some, q, ob_some, show f_X1_tally 1 (ii r) (-1) hs = _ from e1, ob_some]
        rfl
      · rw [if_neg e, if_neg e]
        exact ⟨hs, rfl, h, Out.refl _ _ _⟩
theorem X8_faultsIn (h : CoA hs t) (k : Full t.now) {b : Int} (r1 : -2147483648 ≤ b) (r2 : b ≤ 2147483647) : ∃ hs', f_X8_faultsIn 0 (ii b) hs = some (cvR (opFaultsIn t.now b), hs') ∧ CoA hs' t ∧ Out hs hs' 0 95 := by
  have gl := k.1.gl
  unfold f_X8_faultsIn opFaultsIn
  rw [h.chk, ob_some, X8_requireCounterpoint h k.1]
  by_cases c : t.now.md.length = 0
  · rw [if_pos c, if_pos c]
    exact ⟨hs, rfl, h, Out.refl _ _ _⟩
  · rw [if_neg c, if_neg c, xb_l, h.chk, ob_some, X8_requireBar h k.1 r1 r2]
    by_cases e : 0 ≤ b ∧ b < t.now.gv.length
    · obtain ⟨g, q, e1, C1, o1⟩ := tallH h k.1 (wr := -1) (wb := b) (by omega) (by omega)
      refine ⟨g, ?_, C1, o1⟩
      rw [if_pos e, if_pos e, xb_l, h.r0, ob_some, q, ob_some, show f_X1_tally 1 (-1) (ii b) hs = _ from e1, ob_some]
      rfl
    · rw [if_neg e, if_neg e]
      exact ⟨hs, rfl, h, Out.refl _ _ _⟩
end FACE4
