/-! ===== the seeker tries a note ===== -/
/-- the sheet with another made line -/
def wm (s : Sh) (l : List Int) : Sh := (s.gv, l, s.sp, s.bl, s.st, s.wt)
theorem wm_ok {s : Sh} (k : SOK s) {l : List Int} (hl : l.length ≤ 45) (hv : ∀ x ∈ l, x = -1 ∨ (42 ≤ x ∧ x ≤ 146)) : SOK (wm s l) := by
  obtain ⟨k1, k2, k3, k4, k5, k6, k7, k8, k9, k10, k11, k12⟩ := k
  exact ⟨k1, k2, k3, k4, k5, k6, k7, k8, k9, hl, hv, k12⟩
/-- the last note, in this bar, fits -/
def fitP (s : Sh) (bar : Int) : Prop := (∀ q, 1 ≤ q → q ≤ 16 → noF s ((s.md.length : Int) - 1) q) ∧ (bar < (s.gv.length : Int) - 1 ∨ sumP (anyG s) s.md.length = 0)
section FITS
variable {a : Nat} {s : Sh}
theorem SeA.line {hs hs' : AH} {x : Nat → Int} {sp : Nat → Spn} {l : List Int} (h : SeA hs a s x sp) (hl : LnA hs' (a + 5) l) (o : Out hs hs' (a + 5) 2) : SeA hs' a (wm s l) x sp :=
  ⟨o.at h.1 (by omega), o.at h.2.1 (by omega), ⟨o.at h.2.2.1.1 (by omega), h.2.2.1.2.1.out o (by omega), hl, h.2.2.1.2.2.2.1.out o (by omega), h.2.2.1.2.2.2.2.out o (by omega)⟩, fun i hi => (h.2.2.2 i hi).out o (by omega)⟩
theorem X5_fits (k : SOK s) {hs : AH} {x : Nat → Int} {sp : Nat → Spn} (h : SeA hs a s x sp) {bar : Nat} {c : Int} (hb : bar ≤ s.md.length) (hb2 : bar ≤ 12) (hc : 42 ≤ c ∧ c ≤ 146) (c0 : -1 ≤ x 15 ∧ x 15 ≤ 60) (c1 : 0 ≤ x 16 ∧ x 16 ≤ 60) :
    ∃ hs' x' sp', SeA hs' a (wm s (s.md.take bar ++ [c])) x' sp' ∧ Out hs hs' a 17 ∧ (-1 ≤ x' 15 ∧ x' 15 ≤ 60) ∧ (0 ≤ x' 16 ∧ x' 16 ≤ 60) ∧
      ((f_X5_fits a (ii bar) (ii c) hs = some (ii 1, hs') ∧ fitP (wm s (s.md.take bar ++ [c])) bar) ∨ (f_X5_fits a (ii bar) (ii c) hs = some (ii 0, hs') ∧ ¬ fitP (wm s (s.md.take bar ++ [c])) bar)) := by
  have gl := k.gl
  have ml := k.ml
  obtain ⟨h1, e1, l1, o1⟩ := X2_cutTo (k := bar) h.sq.2.2.1 (by omega)
  have j1 := h.line l1 o1
  obtain ⟨h2, e2, l2, o2⟩ := X2_add (v := c) j1.sq.2.2.1
  have hlen : (s.md.take bar).length = bar := by rw [List.length_take]; omega
  have hadd : ladd (wm s (s.md.take bar)).md c = s.md.take bar ++ [c] := if_pos (by show (s.md.take bar).length < 45; omega)
  rw [hadd] at l2
  have j2 : SeA h2 a (wm s (s.md.take bar ++ [c])) x sp := j1.line l2 o2
  have k2 : SOK (wm s (s.md.take bar ++ [c])) := wm_ok k (by simp; omega) (fun y hy => by
    rcases List.mem_append.mp hy with z | z
    · exact k.2.2.2.2.2.2.2.2.2.2.1 y (List.mem_of_mem_take z)
    · simp at z; omega)
  have hl2 : (wm s (s.md.take bar ++ [c])).md.length = bar + 1 := by show (s.md.take bar ++ [c]).length = _; simp; omega
  obtain ⟨h3, x3, sp3, j3, o3, y15, y16, r3⟩ := X1_lastNoteFits k2 j2.2 (by omega) c0 c1
  have q3 : SeA h3 a (wm s (s.md.take bar ++ [c])) x3 sp3 := ⟨o3.at j2.1 (by omega), j3⟩
  have o12 : Out hs h3 a 17 := (o1.mono (by omega) (by omega)).trans ((o2.mono (by omega) (by omega)).trans (o3.mono (by omega) (by omega)))
  have hu : f_X5_fits a (ii bar) (ii c) hs = (f_X1_lastNoteFits (a + 1) h2).bind fun q11 => if q11.1 = 0 then some (0, q11.2) else (gR q11.2 a 5 1).bind fun x12 => (gR q11.2 x12 6 0).bind fun x13 => (chk q11.2 x13 2).bind fun u14 => (f_X2_size x13 q11.2).bind fun x15 => if ii bar < (x15 - 1) then some (1, q11.2) else (gR q11.2 a 5 0).bind fun x16 => (chk q11.2 x16 1).bind fun u17 => (f_X1_tally x16 (-1) (-1) q11.2).bind fun q18 => if q18.1 = 0 then some (1, q18.2) else some (0, q18.2) := by
    unfold f_X5_fits
    rw [h.sh, ob_some, h.sq.m, ob_some, h.sq.2.2.1.chk, ob_some, e1, ob_some, j1.sh, ob_some, j1.sq.m, ob_some, j1.sq.2.2.1.chk, ob_some, e2, ob_some, j2.ju, ob_some, j2.2.chk, ob_some]
  rw [hu]
  rcases r3 with ⟨e3, p3⟩ | ⟨e3, p3⟩
  · rw [e3, ob_some]
    dsimp only
    rw [if_neg (show ¬ ii 1 = 0 by decide +kernel), q3.sh, ob_some, q3.sq.g, ob_some, q3.sq.2.1.chk, ob_some, X2_size q3.sq.2.1, ob_some, il_1, ii_sub]
    have gl2 : (wm s (s.md.take bar ++ [c])).gv.length = s.gv.length := rfl
    rw [gl2]
    by_cases d : (bar : Int) < (s.gv.length : Int) - 1
    · rw [if_pos (by rw [ii_lt (by omega) (by omega) (by omega) (by omega)]; exact d)]
      exact ⟨h3, x3, sp3, q3, o12, by omega, by omega, Or.inl ⟨rfl, p3, Or.inl d⟩⟩
    · rw [if_neg (by rw [ii_lt (by omega) (by omega) (by omega) (by omega)]; exact d), q3.ju, ob_some, q3.2.chk, ob_some]
      obtain ⟨h4, x4, sp4, e4, j4, o4, z15, z16⟩ := X1_tally k2 (wr := -1) (wb := -1) (by decide) (by decide) q3.2
      have q4 : SeA h4 a (wm s (s.md.take bar ++ [c])) x4 sp4 := ⟨o4.at q3.1 (by omega), j4⟩
      have o14 := o12.trans (o4.mono (b := a) (m := 17) (by omega) (by omega))
      obtain ⟨cb1, cb2⟩ := cp_b k2
      have sb := sumP_b (g := anyG (wm s (s.md.take bar ++ [c]))) (B := 1) (fun p r => tallG_b _ (-1) (-1) p r) (wm s (s.md.take bar ++ [c])).md.length
      have e4' : f_X1_tally (a + 1) (-1) (-1) h3 = some (ii (sumP (anyG (wm s (s.md.take bar ++ [c]))) (wm s (s.md.take bar ++ [c])).md.length), h4) := e4
      have e4'' : f_X1_tally (a + 1) (-ii 1) (-ii 1) h3 = some (ii (sumP (anyG (wm s (s.md.take bar ++ [c]))) (wm s (s.md.take bar ++ [c])).md.length), h4) := e4
      first | rw [e4'] | rw [e4'']
      rw [ob_some]
      dsimp only
      rw [hl2] at sb
      by_cases e : sumP (anyG (wm s (s.md.take bar ++ [c]))) (wm s (s.md.take bar ++ [c])).md.length = 0
      · rw [if_pos (by rw [e]; rfl)]
        exact ⟨h4, x4, sp4, q4, o14, by omega, by omega, Or.inl ⟨rfl, p3, Or.inr e⟩⟩
      · rw [if_neg (by rw [il_0, ii_eq (by rw [hl2]; omega) (by rw [hl2]; omega) (by omega) (by omega)]; exact e)]
        exact ⟨h4, x4, sp4, q4, o14, by omega, by omega, Or.inr ⟨rfl, fun z => z.2.elim (fun z => d z) (fun z => e z)⟩⟩
  · rw [e3, ob_some]
    dsimp only
    rw [if_pos (show ii 0 = 0 from rfl)]
    exact ⟨h3, x3, sp3, q3, o12, by omega, by omega, Or.inr ⟨rfl, fun z => p3 z.1⟩⟩
end FITS
