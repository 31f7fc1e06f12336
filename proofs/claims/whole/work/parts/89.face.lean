/-! ===== the face: weights ===== -/
/-- the weights after those read, up to rule r -/
def wtSet (w v : List Int) : Nat → List Int
  | 0 => w
  | r + 1 => if lg v (r + 1) = -1 then wtSet w v r else (wtSet w v r).set (r + 1) (lg v (r + 1))
theorem wtSet_len (w v : List Int) : ∀ r, (wtSet w v r).length = w.length
  | 0 => rfl
  | r + 1 => by
    unfold wtSet
    by_cases e : lg v (r + 1) = -1
    · rw [if_pos e]; exact wtSet_len w v r
    · rw [if_neg e, List.length_set]; exact wtSet_len w v r
def wv (s : Sh) (w : List Int) : Sh := (s.gv, s.md, s.sp, s.bl, s.st, w)
theorem wtSet_lg {w v : List Int} (hw : w.length = 17) (j : Nat) : ∀ r, r ≤ 16 → lg (wtSet w v r) j = if 1 ≤ j ∧ j ≤ r ∧ lg v j ≠ -1 then lg v j else lg w j
  | 0, _ => by rw [if_neg (by omega)]; rfl
  | r + 1, hr => by
    have ih := wtSet_lg hw (v := v) j r (by omega)
    have hl := wtSet_len w v r
    unfold wtSet
    by_cases e : lg v (r + 1) = -1
    · rw [if_pos e, ih]
      by_cases c : 1 ≤ j ∧ j ≤ r ∧ lg v j ≠ -1
      · rw [if_pos c, if_pos ⟨c.1, by omega, c.2.2⟩]
      · rw [if_neg c]
        by_cases d : j = r + 1
        · rw [if_neg (by rw [d]; exact fun y => y.2.2 e)]
        · rw [if_neg (by omega)]
    · rw [if_neg e]
      by_cases d : j = r + 1
      · rw [d, lg_set (by omega), if_pos ⟨by omega, by omega, e⟩]
      · rw [lg_set_ne d, ih]
        by_cases c : 1 ≤ j ∧ j ≤ r ∧ lg v j ≠ -1
        · rw [if_pos c, if_pos ⟨c.1, by omega, c.2.2⟩]
        · rw [if_neg c, if_neg (by omega)]
theorem lg_el {l : List Int} {y : Int} (h : y ∈ l) : ∃ j, j < l.length ∧ lg l j = y := by
  obtain ⟨j, hj, e⟩ := List.mem_iff_getElem.1 h
  refine ⟨j, hj, ?_⟩
  unfold lg
  rw [List.getElem?_eq_getElem hj]
  exact e
theorem wv_ok {s : Sh} (k : SOK s) {v : List Int} (hv : ∀ x ∈ v, -1 ≤ x ∧ x ≤ 9) (hl : v.length = 17) {r : Nat} (hr : r ≤ 16) : SOK (wv s (wtSet s.wt v r)) := by
  obtain ⟨k1, k2, k3, k4, k5, k6, k7, k8, k9, k10, k11, k12⟩ := k
  refine ⟨k1, by show (wtSet s.wt v r).length = 17; rw [wtSet_len]; exact k2, ?_, k4, k5, k6, ?_, k8, k9, k10, k11, k12⟩
  · show lg (wtSet s.wt v r) 0 = 0
    rw [wtSet_lg k2 0 r hr, if_neg (by omega)]; exact k3
  · intro y hy
    obtain ⟨j, hj, e⟩ := lg_el (l := wtSet s.wt v r) hy
    rw [wtSet_len] at hj
    rw [wtSet_lg k2 j r hr] at e
    by_cases c : 1 ≤ j ∧ j ≤ r ∧ lg v j ≠ -1
    · rw [if_pos c] at e
      have := hv _ (lg_mem (l := v) (j := j) (by omega))
      omega
    · rw [if_neg c] at e
      rw [← e]
      exact k7 _ (lg_mem hj)
theorem here_in {b w : List Int} {p : Nat} (h : hereW b w p) (hw : ∀ x ∈ w, 97 ≤ x ∧ x ≤ 122) (hp : p ≤ b.length) : p + w.length ≤ b.length := by
  by_cases e : w.length = 0
  · omega
  · have h1 := h.1 (w.length - 1) (by omega)
    have h2 := hw _ (lg_mem (l := w) (j := w.length - 1) (by omega))
    have := pat_in (b := b) (z := (p : Int) + (w.length - 1 : Nat)) (by omega)
    omega
theorem wtOne_none {b : List Int} {p q : Nat} (h : wtOne b p none q) (hp : p ≤ b.length) : q ≤ b.length := by
  obtain ⟨r, hr, h⟩ := h
  have h17 := isRule_17 hr
  by_cases c : r = 0
  · rw [if_pos c] at h; omega
  · rw [if_neg c] at h
    unfold isRule at hr
    rw [if_neg c] at hr
    have hn := here_in hr.2.2.1 (nm_az (by omega) h17) hp
    by_cases c1 : ¬ pat b (p + (nm r).length : Nat) = 61
    · rw [if_pos c1] at h; omega
    · rw [if_neg c1] at h
      have := pat_in (b := b) (z := ((p + (nm r).length : Nat) : Int)) (by omega)
      by_cases c2 : pat b (p + (nm r).length + 1 : Nat) < 48 ∨ 57 < pat b (p + (nm r).length + 1 : Nat)
      · rw [if_pos c2] at h; omega
      · rw [if_neg c2] at h; cases h.1
theorem wtMore_ok {b : List Int} : ∀ (f : Nat) (w : List Int) (cnt : Int) (p : Nat) (o : Option (List Int × Int)) (q : Nat), wtMore b f w cnt p o q → w.length = 17 → (∀ x ∈ w, -1 ≤ x ∧ x ≤ 9) → p ≤ b.length → b.length ≤ 200 → (0 ≤ cnt ∧ cnt ≤ p) → q ≤ b.length ∧ ∀ y, o = some y → y.1.length = 17 ∧ (∀ x ∈ y.1, -1 ≤ x ∧ x ≤ 9) ∧ 0 ≤ y.2 ∧ y.2 ≤ 200
  | 0, _, _, _, _, _, h, _, _, _, _, _ => absurd h (by intro h; exact h)
  | f + 1, w, cnt, p, o, q, h, hl, hv, hp, hb, hc => by
    obtain ⟨o1, q1, h1, h2⟩ := h
    cases o1 with
    | none =>
      obtain ⟨rfl, rfl⟩ := h2
      exact ⟨wtOne_none h1 hp, fun y hy => by cases hy⟩
    | some x =>
      obtain ⟨a1, a2, a3, a4, a5, a6⟩ := wtOne_some h1
      have hv2 : ∀ z ∈ w.set x.1 x.2, -1 ≤ z ∧ z ≤ 9 := by
        intro z hz
        rcases List.mem_or_eq_of_mem_set hz with g | g
        · exact hv z g
        · omega
      dsimp only at h2
      by_cases c : q1 = b.length
      · rw [if_pos c] at h2
        obtain ⟨rfl, rfl⟩ := h2
        refine ⟨by omega, fun y hy => ?_⟩
        cases hy
        exact ⟨by rw [List.length_set]; exact hl, hv2, by dsimp only; omega, by dsimp only; omega⟩
      · rw [if_neg c] at h2
        by_cases d : pat b q1 = 44
        · rw [if_pos d] at h2
          exact wtMore_ok f _ _ _ o q h2 (by rw [List.length_set]; exact hl) hv2 (by omega) hb (by omega)
        · rw [if_neg d] at h2
          obtain ⟨rfl, rfl⟩ := h2
          exact ⟨by omega, fun y hy => by cases hy⟩
theorem w0_ok : w0.length = 17 ∧ ∀ x ∈ w0, -1 ≤ x ∧ x ≤ 9 := by
  unfold w0
  refine ⟨by simp, fun x hx => ?_⟩
  rw [List.eq_of_mem_replicate hx]
  omega
/-- -1 where something was read, else the place -/
def okZ {α : Type} (o : Option α) (q : Nat) : Int := match o with
  | some _ => -1
  | none => q
section FACEH
variable {hs : AH}
theorem X8_wt_loop {s : Sh} (k : SOK s) {v : List Int} (hv : ∀ x ∈ v, -1 ≤ x ∧ x ≤ 9) (hl : v.length = 17) {c pl : Int} {T : Sh × Int × List Sh × List Int × Int × List Int} : ∀ (d n r : Nat) (hs : AH), d < n → r + d = 17 → 1 ≤ r → hs[87]? = some (.inr (4, [.ref 88, .ref 90, .ref 92, .int (ii c), .int (ii pl)])) → ArA 0 hs 92 17 v → CoA hs (wv s (wtSet s.wt v (r - 1)), T) →
    ∃ hs', f_X8_weights_b50 n 0 (ii r) hs = some (.inl (ii c), hs') ∧ CoA hs' (wv s (wtSet s.wt v 16), T) ∧ Out hs hs' 0 95 := by
  intro d
  induction d with
  | zero =>
    intro n r hs hn hr r1 W A h
    obtain ⟨n, rfl⟩ : ∃ z, n = z + 1 := ⟨n - 1, by omega⟩
    obtain rfl : r = 17 := by omega
    refine ⟨hs, ?_, h, Out.refl _ _ _⟩
    rw [f_X8_weights_b50.eq_2, if_pos (by rw [il_16, ii_lt (by omega) (by omega) (by omega) (by omega)]; omega), h.r6, ob_some, coa_rchk h, ob_some]
    unfold f_X4_names
    rw [gI_of W rfl]
    rfl
  | succ d ih =>
    intro n r hs hn hr r1 W A h
    obtain ⟨n, rfl⟩ : ∃ z, n = z + 1 := ⟨n - 1, by omega⟩
    have vb := hv _ (lg_mem (l := v) (j := r) (by omega))
    have kw := wv_ok k hv hl (r := r - 1) (by omega)
    rw [f_X8_weights_b50.eq_2, if_neg (by rw [il_16, ii_lt (by omega) (by omega) (by omega) (by omega)]; omega), h.r6, ob_some, coa_rchk h, ob_some]
    have e : f_X4_weightFor 87 (ii r) hs = some (ii (lg v r)) := by
      unfold f_X4_weightFor
      rw [if_neg (by rw [il_1, ii_lt (by omega) (by omega) (by omega) (by omega)]; omega), if_neg (by rw [il_16, ii_lt (by omega) (by omega) (by omega) (by omega)]; omega), gR_of W rfl, ob_some, A.get (z := (r : Int)) (by omega) (by omega) (by omega), ob_some]
      rfl
    have er : wtSet s.wt v r = if lg v r = -1 then wtSet s.wt v (r - 1) else (wtSet s.wt v (r - 1)).set r (lg v r) := by
      obtain ⟨q, rfl⟩ : ∃ z, r = z + 1 := ⟨r - 1, by omega⟩
      rfl
    have e1 : ii (r : Int) + 1 = ii ((r + 1 : Nat) : Int) := by rw [il_1, ii_add]; rfl
    rw [e, ob_some, e1]
    by_cases c1 : lg v r = -1
    · rw [if_pos (by rw [c1]; rfl)]
      rw [if_pos c1] at er
      exact ih n (r + 1) hs (by omega) (by omega) (by omega) W A (by rw [show r + 1 - 1 = r from rfl, er]; exact h)
    · rw [if_neg (by rw [il_m1, ii_eq (by omega) (by omega) (by omega) (by omega)]; exact c1)]
      rw [if_neg c1] at er
      obtain ⟨g1, f1, s1, o1⟩ := X6_makeWeight h.sh kw (w := (r : Int)) (v := lg v r) (by omega) (by omega)
      have q1 := h.setS s1 o1
      obtain ⟨g2, f2, q2, o2⟩ := ih n (r + 1) g1 (by omega) (by omega) (by omega) (o1.at W (by omega)) (A.out o1 (by omega)) (by rw [show r + 1 - 1 = r from rfl, er]; exact q1)
      refine ⟨g2, ?_, q2, (o1.mono (by omega) (by omega)).trans o2⟩
      rw [h.r1, ob_some, h.sh.chk, ob_some, f1, ob_some, f2]
variable {t : St}
theorem X8_weights (h : CoA hs t) (k : Full t.now) (kb : CH t.buf) : ∃ o q hs', wtMore t.buf 181 w0 0 0 o q ∧ Out hs hs' 0 95 ∧
    (o = none → f_X8_weights 0 hs = some (.inr 1, hs') ∧ CoA hs' (t.1, t.2.1, t.2.2.1, t.2.2.2.1, [], q, t.2.2.2.2.2.2)) ∧
    (∀ y, o = some y → f_X8_weights 0 hs = some (.inl (ii y.2), hs') ∧ CoA hs' (wv t.now (wtSet t.now.wt y.1 16), t.2.1, t.2.2.1, kpt t.his t.now, [], -1, t.2.2.2.2.2.2)) := by
  obtain ⟨ln, w, nm, pl, h7, hw⟩ := h.2.2.2.2.2.2.1
  obtain ⟨g1, o, q, w', c', wm1, o1, e1, r1, hw', wy⟩ := X4_readWeights kb h7 hw
  have e1 : f_X4_readWeights 87 hs = some (ii (okZ o q), g1) := by
    rw [e1]
    cases o <;> rfl
  have q1 := h.setRd r1 hw' o1
  have hbl := h.page.le
  obtain ⟨m1, m2⟩ := wtMore_ok 181 w0 0 0 o q wm1 w0_ok.1 w0_ok.2 (by omega) (by omega) (by omega)
  obtain ⟨g2, g3, e2, a2, b2, e3, i3, q3, o2, o3⟩ := errClear q1 (okZ o q)
  have O : Out hs g3 0 95 := (o1.mono (by omega) (by omega)).trans ((o2.mono (by omega) (by omega)).trans (o3.mono (by omega) (by omega)))
  have F : f_X8_weights 0 hs = (if ii (okZ o q) = (-1) then
      (gR g3 0 8 3).bind fun x9 => (gR g3 0 8 1).bind fun x10 => (chk g3 x9 0).bind fun u11 => (f_X0_keep x9 x10 g3).bind fun hs12 => f_X8_weights_b50 FUEL 0 1 hs12
      else some (.inr 1, g3)) := by
    unfold f_X8_weights
    rw [h.r6, ob_some, coa_rchk h, ob_some, e1, ob_some]
    dsimp only
    rw [e2, ob_some, a2, ob_some, b2, ob_some, e3, ob_some, i3, ob_some]
  cases o with
  | none =>
    refine ⟨none, q, g3, wm1, O, fun _ => ⟨?_, q3⟩, fun y hy => by cases hy⟩
    rw [F, if_neg (by rw [il_m1]; show ¬ ii (q : Int) = ii (-1); rw [ii_eq (by omega) (by omega) (by omega) (by omega)]; omega)]
  | some y =>
    obtain ⟨y1, y2⟩ := wy y rfl
    obtain ⟨n1, n2, n3, n4⟩ := m2 y rfl
    obtain ⟨g4, e4, q4, o4⟩ := q3.keep k.1
    have W4 : g4[87]? = _ := o4.at (o3.at (o2.at r1.o (by omega)) (by omega)) (by omega)
    have A4 := ((r1.2.2.2.out o2 (by omega)).out o3 (by omega)).out o4 (by omega)
    rw [y1] at A4
    obtain ⟨g5, e5, q5, o5⟩ := X8_wt_loop k.1 n2 n1 16 FUEL 1 g4 (by unfold FUEL; omega) (by omega) (by omega) W4 A4 q4
    refine ⟨some y, q, g5, wm1, O.trans ((o4.mono (by omega) (by omega)).trans o5), (fun e => by cases e), fun z hz => ?_⟩
    cases hz
    refine ⟨?_, q5⟩
    rw [F, if_pos (show ii (okZ (some y) q) = -1 from rfl), q3.r3, ob_some, q3.r1, ob_some, coa_kchk q3, ob_some, e4, ob_some, ← y2]
    exact e5
end FACEH
