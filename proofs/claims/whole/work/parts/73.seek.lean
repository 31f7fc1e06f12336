/-! ===== the seeker searches; it shows its line ===== -/
theorem wm_wm (s : Sh) (l l' : List Int) : wm (wm s l) l' = wm s l' := rfl
theorem wm_md (s : Sh) : wm s s.md = s := rfl
section SEEK2
variable {a b : Nat} {s t : Sh}
theorem SeA.copy {hs hs' : AH} {x : Nat → Int} {sp : Nat → Spn} (h : SeA hs a s x sp) (ht : ShA hs' (a + 2) t) (o : Out hs hs' (a + 2) 7) : SeA hs' a t x sp :=
  ⟨o.at h.1 (by omega), o.at h.2.1 (by omega), ht, fun i hi => (h.2.2.2 i hi).out o (by omega)⟩
theorem X5_seek {hs : AH} {x : Nat → Int} {sp : Nat → Spn} (h : SeA hs a s x sp) (k : SOK s) (hb : ShA hs b t) (kt : SOK t) (hg : 1 ≤ t.gv.length) (hab : a + 17 ≤ b ∨ b + 7 ≤ a) (c0 : -1 ≤ x 15 ∧ x 15 ≤ 60) (c1 : 0 ≤ x 16 ∧ x 16 ≤ 60) :
    ∃ hs' x' sp', f_X5_seek a b hs = some (ii (skF t 6003 [] 0 42 0).1, hs') ∧ SeA hs' a (wm t (skF t 6003 [] 0 42 0).2) x' sp' ∧ Out hs hs' a 17 ∧ (-1 ≤ x' 15 ∧ x' 15 ≤ 60) ∧ (0 ≤ x' 16 ∧ x' 16 ≤ 60) ∧ (skF t 6003 [] 0 42 0).2.length ≤ 13 ∧ ∀ y ∈ (skF t 6003 [] 0 42 0).2, 42 ≤ y ∧ y ≤ 146 := by
  obtain ⟨h1, e1, l1, o1⟩ := X6_copyFrom (a := a + 2) (b := b) (by omega) h.sq k hb kt
  have q1 := h.copy l1 o1
  obtain ⟨h2, e2, l2, o2⟩ := X2_clear q1.sq.2.2.1
  have q2 : SeA h2 a (wm t []) x sp := q1.line l2 o2
  obtain ⟨h3, x3, sp3, e3, q3, o3, r⟩ := X5_seek_loop kt hg 6003 FUEL h2 x sp [] 0 42 0 0 (by omega) (by unfold FUEL; omega) (by omega) (by omega) (by omega) (by decide) (fun y hy => by cases hy) (fun _ => by omega) (by omega) (by omega) (by omega) c0 c1 q2 (by omega)
  refine ⟨h3, x3, sp3, ?_, q3, (o1.mono (by omega) (by omega)).trans ((o2.mono (by omega) (by omega)).trans o3), r⟩
  unfold f_X5_seek
  rw [h.sh, ob_some, h.sq.chk, ob_some, e1, ob_some, q1.sh, ob_some, q1.sq.m, ob_some, q1.sq.2.2.1.chk, ob_some, e2, ob_some]
  exact e3
theorem X5_line {hs : AH} {x : Nat → Int} {sp : Nat → Spn} (h : SeA hs a s x sp) : f_X5_line a hs = some (a + 5) := by
  unfold f_X5_line
  rw [h.sh, ob_some, h.sq.m, ob_some]
end SEEK2
/-! ===== the component's state: what its cells hold ===== -/
/-- now, saved, is it saved, what is kept, the buffer, the error position, the suggestion -/
abbrev St : Type := Sh × Sh × Int × List Sh × List Int × Int × List Int
abbrev St.now (t : St) : Sh := t.1
abbrev St.sav (t : St) : Sh := t.2.1
abbrev St.isS (t : St) : Int := t.2.2.1
abbrev St.his (t : St) : List Sh := t.2.2.2.1
abbrev St.buf (t : St) : List Int := t.2.2.2.2.1
abbrev St.err (t : St) : Int := t.2.2.2.2.2.1
abbrev St.sug (t : St) : List Int := t.2.2.2.2.2.2
/-- the cells 0 to 94 -/
def CoA (hs : AH) (t : St) : Prop :=
  hs[0]? = some (.inr (8, [.ref 1, .ref 2, .ref 17, .ref 24, .ref 68, .ref 85, .ref 87, .ref 88, .ref 93, .int (ii t.isS), .int (ii t.err)])) ∧
  (∃ x sp, JuA hs 1 t.now x sp) ∧ ShA hs 17 t.sav ∧ HiA hs 24 t.his ∧ (∃ s x sp, SeA hs 68 s x sp ∧ SOK s ∧ (-1 ≤ x 15 ∧ x 15 ≤ 60) ∧ (0 ≤ x 16 ∧ x 16 ≤ 60)) ∧ LnA hs 85 t.sug ∧
  (∃ ln w nm pl, RdA hs 87 t.buf ln w nm pl ∧ w.length = 17) ∧ ∃ l, PgA hs 93 l
/-- a sheet as calls can leave it: two bars or more or none, the made line none or as long as is due, a rest at most at its begin and not in species 1 -/
def Full (s : Sh) : Prop := SOK s ∧ (s.gv.length = 0 ∨ 2 ≤ s.gv.length) ∧ (s.md.length = 0 ∨ (2 ≤ s.gv.length ∧ (s.md.length : Int) = ((s.gv.length : Int) - 1) * per s.sp + 1)) ∧ ∀ j, j < s.md.length → lg s.md j = -1 → j = 0 ∧ s.sp ≠ 1
/-- what holds between calls -/
def StOK (t : St) : Prop := Full t.now ∧ Full t.sav ∧ (t.isS = 0 ∨ t.isS = 1) ∧ t.his.length ≤ 6 ∧ (∀ s ∈ t.his, Full s) ∧ t.buf.length ≤ 180 ∧ (∀ x ∈ t.buf, 33 ≤ x ∧ x ≤ 126) ∧ (-1 ≤ t.err ∧ t.err ≤ 180) ∧ t.sug.length ≤ 12 ∧ (∀ x ∈ t.sug, 42 ≤ x ∧ x ≤ 146)
section FACE
variable {hs : AH} {t : St}
theorem CoA.out {hs' : AH} {b m : Nat} (h : CoA hs t) (o : Out hs hs' b m) (hd : 95 ≤ b) : CoA hs' t := by
  obtain ⟨h1, ⟨x, sp, h2⟩, h3, h4, ⟨s, x2, sp2, h5, k5, k6, k7⟩, h6, ⟨ln, w, nm, pl, h7, hw⟩, l, h8⟩ := h
  exact ⟨o.at h1 (by omega), ⟨x, sp, h2.out o (by omega)⟩, h3.out o (by omega), h4.out o (by omega), ⟨s, x2, sp2, h5.out o (by omega), k5, k6, k7⟩, h6.out o (by omega), ⟨ln, w, nm, pl, h7.out o (by omega), hw⟩, l, h8.out o (by omega)⟩
end FACE
