/-! ===== the face: counterpoint ===== -/
def due (s : Sh) : Nat := (((s.gv.length : Int) - 1) * per s.sp + 1).toNat
def rdC (s : Sh) (b : List Int) : Option (List Int) × Nat := rdLine b (if s.sp = 1 then 0 else 1) (due s) (due s)
theorem due_b {s : Sh} (k : Full s) (c : ¬ s.gv.length = 0) : 2 ≤ due s ∧ due s ≤ 45 ∧ ((due s : Nat) : Int) = ((s.gv.length : Int) - 1) * per s.sp + 1 := by
  have gl := k.1.gl
  have g2 : 2 ≤ s.gv.length := by have := k.2.1; omega
  unfold due
  rcases per_3 s.sp with e | e | e <;> rw [e] <;> omega
theorem rdC_ok {s : Sh} (k : Full s) (c : ¬ s.gv.length = 0) {b x : List Int} (h : (rdC s b).1 = some x) : Full (wm s x) ∧ x.length = due s := by
  obtain ⟨d1, d2, d3⟩ := due_b k c
  obtain ⟨h1, h2, h3⟩ := rdLine_ok h d1
  have hx : ∀ y ∈ x, y = -1 ∨ (42 ≤ y ∧ y ≤ 146) := by
    intro y hy
    obtain ⟨j, hj, rfl⟩ := List.mem_iff_getElem.1 hy
    have e : x[j] = lg x j := by unfold lg; rw [List.getElem?_eq_getElem hj]; rfl
    rw [e]
    rcases h1 j hj with y | y
    · exact Or.inl y.1
    · exact Or.inr y
  refine ⟨⟨wm_ok k.1 (by omega) hx, k.2.1, Or.inr ⟨by have := k.2.1; show 2 ≤ s.gv.length; omega, by show (x.length : Int) = ((s.gv.length : Int) - 1) * per s.sp + 1; omega⟩, fun j hj e => ?_⟩, by omega⟩
  have e : lg x j = -1 := e
  rcases h1 j hj with y | y
  · refine ⟨y.2.1, fun z => y.2.2 ?_⟩
    have z : s.sp = 1 := z
    rw [if_pos z]
  · omega
section FACED
variable {hs : AH} {t : St}
theorem X8_cp33 (h : CoA hs t) (k : Full t.now) (kb : CH t.buf) (c : ¬ t.now.gv.length = 0) {rest : Int} (hr : rest = if t.now.sp = 1 then 0 else 1) :
    ((rdC t.now t.buf).1 = none → ∃ hs', f_X8_counterpoint_b33 0 (ii (due t.now)) 0 87 (ii rest) hs = some (.inr 1, hs') ∧ CoA hs' (t.1, t.2.1, t.2.2.1, t.2.2.2.1, [], (rdC t.now t.buf).2, t.2.2.2.2.2.2) ∧ Out hs hs' 0 95) ∧
    (∀ x, (rdC t.now t.buf).1 = some x → ∃ hs', f_X8_counterpoint_b33 0 (ii (due t.now)) 0 87 (ii rest) hs = some (.inl (ii (sumP (tallG (wm t.now x) (-1) (-1)) x.length)), hs') ∧ CoA hs' (wm t.now x, t.2.1, t.2.2.1, kpt t.his t.now, [], -1, t.2.2.2.2.2.2) ∧ Out hs hs' 0 95) := by
  obtain ⟨d1, d2, d3⟩ := due_b k c
  have hr' : rest = 0 ∨ rest = 1 := by
    by_cases e : t.now.sp = 1
    · rw [if_pos e] at hr; exact Or.inl hr
    · rw [if_neg e] at hr; exact Or.inr hr
  obtain ⟨g1, l, e1, q1, hl, hg, o1⟩ := readH h kb hr' (least := due t.now) (most := due t.now) (by omega) (by omega)
  have er : rdLine t.buf rest (due t.now) (due t.now) = rdC t.now t.buf := by rw [hr]; rfl
  rw [er] at e1 hg
  obtain ⟨g2, g3, e2, a2, b2, e3, i3, q3, o2, o3⟩ := errClear q1 (rdErr (rdC t.now t.buf))
  have O : Out hs g3 0 95 := (o1.mono (by omega) (by omega)).trans ((o2.mono (by omega) (by omega)).trans (o3.mono (by omega) (by omega)))
  unfold f_X8_counterpoint_b33
  rw [coa_rchk h, ob_some, e1, ob_some]
  dsimp only
  rw [e2, ob_some, a2, ob_some, b2, ob_some, e3, ob_some, i3, ob_some, il_m1]
  constructor
  · intro c
    rw [rdErr_none c] at q3 ⊢
    have hp : (rdC t.now t.buf).2 ≤ t.buf.length := rdLine_le (b := t.buf) _ _ _
    have hl := h.page.le
    refine ⟨g3, ?_, q3, O⟩
    rw [if_neg (by rw [ii_eq (by omega) (by omega) (by omega) (by omega)]; omega)]
  · intro x cx
    rw [rdErr_some cx] at q3 ⊢
    have hlx : l = x := hg x cx
    rw [hlx] at hl
    obtain ⟨kf, -⟩ := rdC_ok k c cx
    have L3 : LnA g3 90 x := (hl.out o2 (by omega)).out o3 (by omega)
    obtain ⟨g4, e4, q4, o4⟩ := q3.keep k.1
    have L4 := L3.out o4 (by omega)
    obtain ⟨g5, e5, m5, o5⟩ := X2_copyFrom (a := 5) (b := 90) (by omega) q4.sh.2.2.1 L4
    have S5 : ShA g5 2 (wm t.now x) := shgm q4.sh (q4.sh.2.1.out o5 (by omega)) m5 (o5.mono (by omega) (by omega))
    have q5 := q4.setS S5 (o5.mono (by omega) (by omega))
    obtain ⟨g6, c6, e6, q6, o6⟩ := tallH q5 kf.1 (wr := -1) (wb := -1) (by omega) (by omega)
    refine ⟨g6, ?_, q6, O.trans ((o4.mono (by omega) (by omega)).trans ((o5.mono (by omega) (by omega)).trans o6))⟩
    rw [if_pos rfl, q3.r3, ob_some, q3.r1, ob_some, coa_kchk q3, ob_some, e4, ob_some, q4.r1, ob_some, q4.sh.m, ob_some, q4.r6, ob_some, coa_rchk q4, ob_some]
    unfold f_X4_line
    rw [q4.rlin, ob_some, ob_some, q4.sh.2.2.1.chk, ob_some, e5, ob_some, q5.r0, ob_some, c6, ob_some, show f_X1_tally 1 (ii (-1)) (ii (-1)) g5 = _ from e6, ob_some]
    rfl
theorem X8_counterpoint (h : CoA hs t) (k : Full t.now) (kb : CH t.buf) :
    (t.now.gv.length = 0 → f_X8_counterpoint 0 hs = some (.inr 2, hs)) ∧
    (¬ t.now.gv.length = 0 → (rdC t.now t.buf).1 = none → ∃ hs', f_X8_counterpoint 0 hs = some (.inr 1, hs') ∧ CoA hs' (t.1, t.2.1, t.2.2.1, t.2.2.2.1, [], (rdC t.now t.buf).2, t.2.2.2.2.2.2) ∧ Out hs hs' 0 95) ∧
    (¬ t.now.gv.length = 0 → ∀ x, (rdC t.now t.buf).1 = some x → ∃ hs', f_X8_counterpoint 0 hs = some (.inl (ii (sumP (tallG (wm t.now x) (-1) (-1)) x.length)), hs') ∧ CoA hs' (wm t.now x, t.2.1, t.2.2.1, kpt t.his t.now, [], -1, t.2.2.2.2.2.2) ∧ Out hs hs' 0 95) := by
  have spb := k.1.spb
  unfold f_X8_counterpoint
  rw [h.chk, ob_some, X8_requireCantus h k.1]
  refine ⟨fun c => by rw [if_pos c]; rfl, ?_⟩
  by_cases c : t.now.gv.length = 0
  · exact ⟨fun d => absurd c d, fun d => absurd c d⟩
  obtain ⟨d1, d2, d3⟩ := due_b k c
  rw [if_neg c, xb_l, h.r1, ob_some, h.sh.chk, ob_some, X6_notesDue h.sh k.1, ob_some, h.r6, ob_some, ob_some, h.sh.chk, ob_some, X6_species h.sh, ob_some, ← d3]
  by_cases e : t.now.sp = 1
  · obtain ⟨p1, p2⟩ := X8_cp33 h k kb c (rest := 0) (by rw [if_pos e])
    rw [if_pos (by rw [e]; rfl)]
    exact ⟨fun _ => p1, fun _ => p2⟩
  · obtain ⟨p1, p2⟩ := X8_cp33 h k kb c (rest := 1) (by rw [if_neg e])
    rw [if_neg (by rw [il_1, ii_eq (by omega) (by omega) (by omega) (by omega)]; exact e)]
    exact ⟨fun _ => p1, fun _ => p2⟩
end FACED
