/-! ===== the reference's calls: counterpoint, adopt ===== -/
section MCP
variable {t : St}
theorem X9_cp69 (k : StOK t) (c : ¬ t.now.gv.length = 0) {hs0 : AH} (h : MoA hs0 t 0) {rest : Int} (hr : rest = if t.now.sp = 1 then 0 else 1) :
    ((rdC t.now t.buf).1 = none → ∃ g, f_X9_counterpoint_b54 95 95 (ii (due t.now)) (ii (due t.now)) (ii rest) hs0 = some (ii 0, g) ∧ MoA g (t.emp (rdC t.now t.buf).2) 2 ∧ Out hs0 g 95 10) ∧
    (∀ x, (rdC t.now t.buf).1 = some x → ∃ g, f_X9_counterpoint_b54 95 95 (ii (due t.now)) (ii (due t.now)) (ii rest) hs0 = some (ii (sumP (tallG (wm t.now x) (-1) (-1)) x.length), g) ∧ MoA g (wm t.now x, t.2.1, t.2.2.1, kpt t.his t.now, [], -1, t.2.2.2.2.2.2) 0 ∧ Out hs0 g 95 10) := by
  obtain ⟨d1, d2, d3⟩ := due_b k.1 c
  have hr' : rest = 0 ∨ rest = 1 := by
    by_cases e : t.now.sp = 1
    · rw [if_pos e] at hr; exact Or.inl hr
    · rw [if_neg e] at hr; exact Or.inr hr
  obtain ⟨g1, l, e1, m1, q1, R1, w1, o1⟩ := h.readLine k.cb (least := due t.now) (most := due t.now) (by omega) (by omega) (by omega) hr'
  have er : rdLine t.buf rest (due t.now) (due t.now) = rdC t.now t.buf := by rw [hr]; rfl
  rw [er] at e1 q1 w1
  constructor
  · intro z
    rw [z] at e1
    obtain ⟨g2, e2, m2, o2⟩ := m1.empt q1 (v := 1) (Or.inr rfl)
    rw [if_neg (by omega)] at m2
    obtain ⟨g3, e3, m3, o3⟩ := m2.fail 2
    refine ⟨g3, ?_, m3, (o1.out (fun k hk => by simp at hk; omega)).trans ((o2.m).trans o3)⟩
    unfold f_X9_counterpoint_b54
    rw [h.chk, ob_some, e1, ob_some]
    dsimp only
    rw [if_pos (by rfl)]
    unfold f_X9_counterpoint_b69
    rw [m1.chk, ob_some, show f_X9_empties 95 1 g1 = _ from e2, ob_some, if_pos (by rfl), m2.chk, ob_some]
    exact e3
  · intro x z
    obtain ⟨kf, xl⟩ := rdC_ok k.1 c z
    have hlx : l = x := w1 x z
    rw [z] at e1
    rw [hlx] at R1
    obtain ⟨g2, e2, m2, o2⟩ := m1.empt q1 (v := 0) (Or.inl rfl)
    rw [if_pos rfl] at m2
    have R2 := R1.ou o2 (by decide)
    obtain ⟨g3, e3, m3, o3⟩ := m2.changes k.1.1 k.2.2.2.1 k.kh
    have R3 := R2.ou o3 (by decide)
    obtain ⟨⟨y, M, ay⟩, ⟨N, A, n⟩, -⟩ := id m3
    obtain ⟨g4, e4, A4, o4⟩ := A.put (z := 1) (x.length : Int) (by omega) (by omega) (by omega)
    have M4 := M.ou o4.ou (by decide)
    obtain ⟨g6, N6, e6, A6, n6, o6⟩ := X9_cp_loop k.1.1.gl (x := x) (by omega) x.length FUEL 0 g4 y _ (by unfold FUEL; omega) (by omega) M4 A4 (R3.ou o4.ou (by decide)) (NoL.of n)
    have m6 := m3.setNow A6 n6.lo (o4.ou.trans o6)
    have hm6 : ¬ (wm t.now x).md.length = 0 := by show ¬ x.length = 0; omega
    obtain ⟨g7, e7, m7, o7⟩ := m6.faultsNow kf hm6
    refine ⟨g7, ?_, m7, (o1.out (fun k hk => by simp at hk; omega)).trans ((o2.m).trans ((o3.out (fun k hk => by simp at hk; omega)).trans (((o4.ou.trans o6).out (fun k hk => by simp at hk; omega)).trans (o7.out (fun k hk => by simp at hk; omega)))))⟩
    have hne : ¬ ii (lnZ (some x)) = (-1 : Int32) := by
      show ¬ ii (x.length : Int) = -1
      rw [il_m1, ii_eq (by omega) (by omega) (by omega) (by omega)]; omega
    unfold f_X9_counterpoint_b54
    rw [h.chk, ob_some, e1, ob_some]
    dsimp only
    rw [if_neg hne]
    unfold f_X9_counterpoint_b69
    rw [m1.chk, ob_some, show f_X9_empties 95 0 g1 = _ from e2, ob_some, if_neg hne, m2.chk, ob_some, e3, ob_some, M.r1, ob_some, show sN 0 g3 96 1 (ii (lnZ (some x))) = _ from e4, ob_some]
    refine Eq.trans e6 ?_
    rw [m6.chk, ob_some, e7, ob_some]
    rfl
theorem X9_counterpoint (k : StOK t) :
    (t.now.gv.length = 0 → M9 (f_X9_counterpoint 95) [2, 1] (.inr 2) t t) ∧
    (¬ t.now.gv.length = 0 → (rdC t.now t.buf).1 = none → M9 (f_X9_counterpoint 95) [2, 1] (.inr 1) t (t.emp (rdC t.now t.buf).2)) ∧
    (¬ t.now.gv.length = 0 → ∀ x, (rdC t.now t.buf).1 = some x → M9 (f_X9_counterpoint 95) [2, 1] (.inl (sumP (tallG (wm t.now x) (-1) (-1)) x.length)) t (wm t.now x, t.2.1, t.2.2.1, kpt t.his t.now, [], -1, t.2.2.2.2.2.2)) := by
  have gl := k.1.1.gl
  have spb := k.1.1.spb
  refine ⟨fun c => ?_, ?_⟩
  · refine M9.of (fun hs => rfl) (fun hs h => ?_)
    obtain ⟨f, nw, n, -⟩ := h.nw
    rw [nw.2.1, ob_some, nw.k0 n, ob_some, if_pos (by rw [c]; rfl), h.chk, ob_some]
    exact h.fail 1
  · by_cases c : t.now.gv.length = 0
    · exact ⟨fun d => absurd c d, fun d => absurd c d⟩
    obtain ⟨d1, d2, d3⟩ := due_b k.1 c
    have gen : ∀ hs, MoA hs t 0 → ((gR hs 95 9 1).bind fun x2 => (aN 0 hs x2 0).bind fun x3 => if x3 = 0 then ((chk hs 95 9).bind fun u10 => (f_X9_raises 95 1 hs).bind fun q11 => some (q11.1, q11.2)) else ((chk hs 95 9).bind fun u4 => (f_X9_per 95 hs).bind fun x5 => (gR hs 95 9 1).bind fun x6 => (aN 0 hs x6 0).bind fun x7 => (gR hs 95 9 1).bind fun x8 => (aN 0 hs x8 2).bind fun x9 => if x9 = 1 then f_X9_counterpoint_b54 95 95 ((x5 * (x7 - 1)) + 1) ((x5 * (x7 - 1)) + 1) 0 hs else f_X9_counterpoint_b54 95 95 ((x5 * (x7 - 1)) + 1) ((x5 * (x7 - 1)) + 1) 1 hs)) = f_X9_counterpoint_b54 95 95 (ii (due t.now)) (ii (due t.now)) (ii (if t.now.sp = 1 then 0 else 1)) hs := by
      intro hs h
      obtain ⟨f, nw, n, -⟩ := h.nw
      have ed : (ii (per t.now.sp) * (ii (t.now.gv.length : Int) - ii 1)) + ii 1 = ii (due t.now) := by
        rw [ii_sub, ii_mul, ii_add, d3, Int.mul_comm]
      simp only [↓ob_some, ↓ob_of (nw.2.1), ↓ob_of (nw.k0 n), ↓ob_of (h.chk), ↓ob_of (X9_per nw n k.1.1), ↓ob_of (nw.k2 n)]
      rw [if_neg (by rw [il_0, ii_eq (by omega) (by omega) (by omega) (by omega)]; omega), il_1, ed]
      by_cases e : t.now.sp = 1
      · rw [if_pos (by rw [e]), if_pos e]; rfl
      · rw [if_neg (by rw [ii_eq (by omega) (by omega) (by omega) (by omega)]; exact e), if_neg e]
    constructor
    · intro _ z
      refine M9.of (fun hs => rfl) (fun hs h => ?_)
      obtain ⟨g, e, m, o⟩ := (X9_cp69 k c h rfl).1 z
      exact ⟨g, (gen hs h).trans e, m, o⟩
    · intro _ x z
      refine M9.of (fun hs => rfl) (fun hs h => ?_)
      obtain ⟨g, e, m, o⟩ := (X9_cp69 k c h rfl).2 x z
      exact ⟨g, (gen hs h).trans e, m, o⟩
theorem Full.sug {s : Sh} {x : List Int} (k : Full s) (h1 : s.sp = 1) (hl : x.length = s.gv.length) (g0 : ¬ s.gv.length = 0) (hv : ∀ y ∈ x, 42 ≤ y ∧ y ≤ 146) : Full (wm s x) := by
  have gl := k.1.gl
  have g2 := k.2.1
  refine ⟨wm_ok k.1 (by omega) (fun y hy => Or.inr (hv y hy)), k.2.1, Or.inr ⟨by show 2 ≤ s.gv.length; omega, ?_⟩, fun j hj e => ?_⟩
  · show (x.length : Int) = ((s.gv.length : Int) - 1) * per s.sp + 1
    rw [show per s.sp = 1 by rw [h1]; rfl]; omega
  · have hj : j < x.length := hj
    have e : lg x j = -1 := e
    have := hv _ (lg_mem hj)
    omega
theorem X9_adopt (k : StOK t) : (t.sug.length = 0 → M9 (f_X9_adopt 95) [2, 6] (.inr 2) t t) ∧ (¬ t.sug.length = 0 → t.now.gv.length = 0 → M9 (f_X9_adopt 95) [2, 6] (.inr 2) t t) ∧
    (¬ t.sug.length = 0 → ¬ t.now.gv.length = 0 → ¬ (t.now.sp = 1 ∧ t.sug.length = t.now.gv.length) → M9 (f_X9_adopt 95) [2, 6] (.inr 6) t t) ∧
    (canAdopt t → M9 (f_X9_adopt 95) [2, 6] (.inl (sumP (tallG (wm t.now t.sug) (-1) (-1)) t.sug.length)) t (t.keep (wm t.now t.sug))) := by
  have gl := k.1.1.gl
  have spb := k.1.1.spb
  have s12 := k.2.2.2.2.2.2.2.2.1
  have sv := k.2.2.2.2.2.2.2.2.2
  refine ⟨fun c => ?_, fun c d => ?_, fun c d e => ?_, fun ⟨c, d, e, f⟩ => ?_⟩
  · refine M9.of (fun hs => rfl) (fun hs h => ?_)
    rw [h.i12, ob_some, if_pos (by rw [c]; rfl), h.chk, ob_some]
    exact h.fail 1
  · refine M9.of (fun hs => rfl) (fun hs h => ?_)
    obtain ⟨f, nw, n, -⟩ := h.nw
    rw [h.i12, ob_some, if_neg (by rw [il_0, ii_eq (by omega) (by omega) (by omega) (by omega)]; omega), nw.2.1, ob_some, nw.k0 n, ob_some, if_pos (by rw [d]; rfl), h.chk, ob_some]
    exact h.fail 1
  · refine M9.of (fun hs => rfl) (fun hs h => ?_)
    obtain ⟨f, nw, n, -⟩ := h.nw
    have N : ¬ t.sug.length = 0 := c
    simp only [↓ob_some, ↓ob_of (h.i12), ↓ob_of (nw.2.1), ↓ob_of (nw.k0 n), ↓ob_of (nw.k2 n), ↓ob_of (h.chk)]
    rw [if_neg (by rw [il_0, ii_eq (by omega) (by omega) (by omega) (by omega)]; omega), if_neg (by rw [il_0, ii_eq (by omega) (by omega) (by omega) (by omega)]; omega)]
    by_cases z : t.now.sp = 1
    · rw [if_pos (by rw [z]; rfl), if_neg (by rw [ii_eq (by omega) (by omega) (by omega) (by omega)]; omega)]
      exact h.fail 2
    · rw [if_neg (by rw [il_1, ii_eq (by omega) (by omega) (by omega) (by omega)]; exact z)]
      exact h.fail 2
  · refine M9.of (fun hs => rfl) (fun hs h => ?_)
    obtain ⟨fN, nw, n, -⟩ := h.nw
    obtain ⟨g3, e3, m3, o3⟩ := h.changes k.1.1 k.2.2.2.1 k.kh
    obtain ⟨⟨y, M, ay⟩, ⟨N, A, nN⟩, -, -, -, R3, -⟩ := id m3
    obtain ⟨g4, e4, A4, o4⟩ := A.put (z := 1) (t.sug.length : Int) (by omega) (by omega) (by omega)
    have M4 := M.ou o4.ou (by decide)
    obtain ⟨g6, N6, e6, A6, n6, o6⟩ := X9_ad_loop gl (x := t.sug) s12 t.sug.length FUEL 0 g4 y _ (by unfold FUEL; omega) (by omega) M4 ay.2.2.2.2.2 A4 (R3.ou o4.ou (by decide)) (NoL.of nN)
    have m6 := m3.setNow A6 n6.lo (o4.ou.trans o6)
    have hm6 : ¬ (wm t.now t.sug).md.length = 0 := c
    obtain ⟨g7, e7, m7, o7⟩ := m6.faultsNow (k.1.sug e f d sv) hm6
    refine ⟨g7, ?_, m7, (o3.out (fun k hk => by simp at hk; omega)).trans (((o4.ou.trans o6).out (fun k hk => by simp at hk; omega)).trans (o7.out (fun k hk => by simp at hk; omega)))⟩
    simp only [↓ob_some, ↓ob_of (h.i12), ↓ob_of (nw.2.1), ↓ob_of (nw.k0 n), ↓ob_of (nw.k2 n), ↓ob_of (h.chk), ↓ob_of (e3)]
    rw [if_neg (by rw [il_0, ii_eq (by omega) (by omega) (by omega) (by omega)]; omega), if_neg (by rw [il_0, ii_eq (by omega) (by omega) (by omega) (by omega)]; omega), if_pos (by rw [e]; rfl), if_pos (by rw [f]), M.r1, ob_some, M.i12, ob_some, ay.2.2.2.2.2, show sN 0 g3 96 1 (ii (t.sug.length : Int)) = _ from e4, ob_some]
    refine Eq.trans e6 ?_
    rw [m6.chk, ob_some, e7, ob_some]
    rfl
end MCP
