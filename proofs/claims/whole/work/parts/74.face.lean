/-! ===== the face: parts of the state read and replaced ===== -/
section FACE2
variable {hs hs' : AH} {t : St}
theorem CoA.chk (h : CoA hs t) : chk hs 0 8 = some () := chk_of h.1
theorem CoA.r0 (h : CoA hs t) : gR hs 0 8 0 = some 1 := gR_of h.1 rfl
theorem CoA.r1 (h : CoA hs t) : gR hs 0 8 1 = some 2 := gR_of h.1 rfl
theorem CoA.r2 (h : CoA hs t) : gR hs 0 8 2 = some 17 := gR_of h.1 rfl
theorem CoA.r3 (h : CoA hs t) : gR hs 0 8 3 = some 24 := gR_of h.1 rfl
theorem CoA.r4 (h : CoA hs t) : gR hs 0 8 4 = some 68 := gR_of h.1 rfl
theorem CoA.r5 (h : CoA hs t) : gR hs 0 8 5 = some 85 := gR_of h.1 rfl
theorem CoA.r6 (h : CoA hs t) : gR hs 0 8 6 = some 87 := gR_of h.1 rfl
theorem CoA.r7 (h : CoA hs t) : gR hs 0 8 7 = some 88 := gR_of h.1 rfl
theorem CoA.r8 (h : CoA hs t) : gR hs 0 8 8 = some 93 := gR_of h.1 rfl
theorem CoA.i9 (h : CoA hs t) : gI hs 0 8 9 = some (ii t.isS) := gI_of h.1 rfl
theorem CoA.i10 (h : CoA hs t) : gI hs 0 8 10 = some (ii t.err) := gI_of h.1 rfl
theorem CoA.sh (h : CoA hs t) : ShA hs 2 t.now := by obtain ⟨-, ⟨x, sp, j⟩, -⟩ := h; exact j.2.1
theorem CoA.his (h : CoA hs t) : HiA hs 24 t.his := h.2.2.2.1
theorem CoA.setJ (h : CoA hs t) {s : Sh} {x : Nat → Int} {sp : Nat → Spn} (j : JuA hs' 1 s x sp) (o : Out hs hs' 1 16) : CoA hs' (s, t.2) := by
  obtain ⟨h1, -, h3, h4, ⟨s2, x2, sp2, h5, k5⟩, h6, ⟨ln, w, nm, pl, h7, hw⟩, l, h8⟩ := h
  exact ⟨o.at h1 (by omega), ⟨x, sp, j⟩, h3.out o (by omega), h4.out o (by omega), ⟨s2, x2, sp2, h5.out o (by omega), k5⟩, h6.out o (by omega), ⟨ln, w, nm, pl, h7.out o (by omega), hw⟩, l, h8.out o (by omega)⟩
theorem CoA.setS (h : CoA hs t) {s : Sh} (hsh : ShA hs' 2 s) (o : Out hs hs' 2 7) : CoA hs' (s, t.2) := by
  have hc := h
  obtain ⟨-, ⟨x, sp, j⟩, -⟩ := h
  exact hc.setJ (x := x) (sp := sp) ⟨o.at j.1 (by omega), hsh, fun i hi => (j.2.2 i hi).out o (by omega)⟩ (o.mono (by omega) (by omega))
theorem CoA.setSav (h : CoA hs t) {s : Sh} (hsh : ShA hs' 17 s) (o : Out hs hs' 17 7) : CoA hs' (t.1, s, t.2.2) := by
  obtain ⟨h1, ⟨x, sp, j⟩, h3, h4, ⟨s2, x2, sp2, h5, k5⟩, h6, ⟨ln, w, nm, pl, h7, hw⟩, l, h8⟩ := h
  exact ⟨o.at h1 (by omega), ⟨x, sp, j.out o (by omega)⟩, hsh, h4.out o (by omega), ⟨s2, x2, sp2, h5.out o (by omega), k5⟩, h6.out o (by omega), ⟨ln, w, nm, pl, h7.out o (by omega), hw⟩, l, h8.out o (by omega)⟩
theorem CoA.setHis (h : CoA hs t) {l' : List Sh} (hh : HiA hs' 24 l') (o : Out hs hs' 24 44) : CoA hs' (t.1, t.2.1, t.2.2.1, l', t.2.2.2.2) := by
  obtain ⟨h1, ⟨x, sp, j⟩, h3, h4, ⟨s2, x2, sp2, h5, k5⟩, h6, ⟨ln, w, nm, pl, h7, hw⟩, l, h8⟩ := h
  exact ⟨o.at h1 (by omega), ⟨x, sp, j.out o (by omega)⟩, h3.out o (by omega), hh, ⟨s2, x2, sp2, h5.out o (by omega), k5⟩, h6.out o (by omega), ⟨ln, w, nm, pl, h7.out o (by omega), hw⟩, l, h8.out o (by omega)⟩
theorem CoA.setSeek (h : CoA hs t) {s : Sh} {x : Nat → Int} {sp : Nat → Spn} (hh : SeA hs' 68 s x sp) (ks : SOK s) (c0 : -1 ≤ x 15 ∧ x 15 ≤ 60) (c1 : 0 ≤ x 16 ∧ x 16 ≤ 60) (o : Out hs hs' 68 17) : CoA hs' t := by
  obtain ⟨h1, ⟨y, sq, j⟩, h3, h4, -, h6, ⟨ln, w, nm, pl, h7, hw⟩, l, h8⟩ := h
  exact ⟨o.at h1 (by omega), ⟨y, sq, j.out o (by omega)⟩, h3.out o (by omega), h4.out o (by omega), ⟨s, x, sp, hh, ks, c0, c1⟩, h6.out o (by omega), ⟨ln, w, nm, pl, h7.out o (by omega), hw⟩, l, h8.out o (by omega)⟩
theorem CoA.setSug (h : CoA hs t) {g : List Int} (hg : LnA hs' 85 g) (o : Out hs hs' 85 2) : CoA hs' (t.1, t.2.1, t.2.2.1, t.2.2.2.1, t.2.2.2.2.1, t.2.2.2.2.2.1, g) := by
  obtain ⟨h1, ⟨x, sp, j⟩, h3, h4, ⟨s2, x2, sp2, h5, k5⟩, h6, ⟨ln, w, nm, pl, h7, hw⟩, l, h8⟩ := h
  exact ⟨o.at h1 (by omega), ⟨x, sp, j.out o (by omega)⟩, h3.out o (by omega), h4.out o (by omega), ⟨s2, x2, sp2, h5.out o (by omega), k5⟩, hg, ⟨ln, w, nm, pl, h7.out o (by omega), hw⟩, l, h8.out o (by omega)⟩
theorem CoA.setRd (h : CoA hs t) {b ln w : List Int} {nm pl : Int} (hr : RdA hs' 87 b ln w nm pl) (hw : w.length = 17) (o : Out hs hs' 87 6) : CoA hs' (t.1, t.2.1, t.2.2.1, t.2.2.2.1, b, t.2.2.2.2.2) := by
  obtain ⟨h1, ⟨x, sp, j⟩, h3, h4, ⟨s2, x2, sp2, h5, k5⟩, h6, -, l, h8⟩ := h
  exact ⟨o.at h1 (by omega), ⟨x, sp, j.out o (by omega)⟩, h3.out o (by omega), h4.out o (by omega), ⟨s2, x2, sp2, h5.out o (by omega), k5⟩, h6.out o (by omega), ⟨ln, w, nm, pl, hr, hw⟩, l, h8.out o (by omega)⟩
theorem CoA.setPage (h : CoA hs t) {g : List Int} (hg : PgA hs' 93 g) (o : Out hs hs' 93 2) : CoA hs' t := by
  obtain ⟨h1, ⟨x, sp, j⟩, h3, h4, ⟨s2, x2, sp2, h5, k5⟩, h6, ⟨ln, w, nm, pl, h7, hw⟩, l, h8⟩ := h
  exact ⟨o.at h1 (by omega), ⟨x, sp, j.out o (by omega)⟩, h3.out o (by omega), h4.out o (by omega), ⟨s2, x2, sp2, h5.out o (by omega), k5⟩, h6.out o (by omega), ⟨ln, w, nm, pl, h7.out o (by omega), hw⟩, g, hg⟩
theorem CoA.setErr (h : CoA hs t) (e : Int) : ∃ hs', pI hs 0 8 10 (ii e) = some hs' ∧ CoA hs' (t.1, t.2.1, t.2.2.1, t.2.2.2.1, t.2.2.2.2.1, e, t.2.2.2.2.2.2) ∧ Out hs hs' 0 1 := by
  obtain ⟨h1, ⟨x, sp, j⟩, h3, h4, ⟨s2, x2, sp2, h5, k5⟩, h6, ⟨ln, w, nm, pl, h7, hw⟩, l, h8⟩ := h
  obtain ⟨g, e1, a1, o⟩ := pI_x (k := 10) (ii e) h1 (Nat.le_of_ble_eq_true rfl)
  exact ⟨g, e1, ⟨a1, ⟨x, sp, j.out o (by omega)⟩, h3.out o (by omega), h4.out o (by omega), ⟨s2, x2, sp2, h5.out o (by omega), k5⟩, h6.out o (by omega), ⟨ln, w, nm, pl, h7.out o (by omega), hw⟩, l, h8.out o (by omega)⟩, o⟩
theorem CoA.setIs (h : CoA hs t) : ∃ hs', pZ hs 0 8 9 (ii 1) = some hs' ∧ CoA hs' (t.1, t.2.1, 1, t.2.2.2) ∧ Out hs hs' 0 1 := by
  obtain ⟨h1, ⟨x, sp, j⟩, h3, h4, ⟨s2, x2, sp2, h5, k5⟩, h6, ⟨ln, w, nm, pl, h7, hw⟩, l, h8⟩ := h
  obtain ⟨g, e1, a1, o⟩ := pZ_x (k := 9) (x := 1) h1 (Nat.le_of_ble_eq_true rfl) (Or.inr rfl)
  exact ⟨g, e1, ⟨a1, ⟨x, sp, j.out o (by omega)⟩, h3.out o (by omega), h4.out o (by omega), ⟨s2, x2, sp2, h5.out o (by omega), k5⟩, h6.out o (by omega), ⟨ln, w, nm, pl, h7.out o (by omega), hw⟩, l, h8.out o (by omega)⟩, o⟩
/-- the list of what is kept, with one more -/
def kpt (l : List Sh) (s : Sh) : List Sh := (if l.length = 6 then l.tail else l) ++ [s]
theorem CoA.keep (h : CoA hs t) (k : SOK t.now) : ∃ hs', f_X0_keep 24 2 hs = some hs' ∧ CoA hs' (t.1, t.2.1, t.2.2.1, kpt t.his t.now, t.2.2.2.2) ∧ Out hs hs' 24 44 := by
  obtain ⟨g, e1, a1, o⟩ := X0_keep (b := 2) h.his h.sh k (by omega)
  exact ⟨g, e1, h.setHis a1 o, o⟩
theorem X8_errorPosition (h : CoA hs t) : f_X8_errorPosition 0 hs = some (ii t.err) := by
  unfold f_X8_errorPosition
  rw [h.i10]; rfl
theorem X8_requireCantus (h : CoA hs t) (k : SOK t.now) : f_X8_requireCantus 0 hs = some (if t.now.gv.length = 0 then .inr 2 else .inl (), hs) := by
  have gl := k.gl
  unfold f_X8_requireCantus
  rw [h.r1, ob_some, h.sh.g, ob_some, h.sh.2.1.chk, ob_some, X2_size h.sh.2.1, ob_some]
  by_cases c : t.now.gv.length = 0
  · rw [if_pos c, if_pos (by rw [c]; rfl)]
  · rw [if_neg c, if_neg (by rw [il_0, ii_eq (by omega) (by omega) (by omega) (by omega)]; omega)]
theorem X8_setSpecies (h : CoA hs t) (k : SOK t.now) {v : Int} (v1 : -2147483648 ≤ v) (v2 : v ≤ 2147483647) :
    (¬ (1 ≤ v ∧ v ≤ 4) → f_X8_setSpecies 0 (ii v) hs = some (.inr 1, hs)) ∧
    (1 ≤ v ∧ v ≤ 4 → ∃ hs', f_X8_setSpecies 0 (ii v) hs = some (.inl (ii t.now.sp), hs') ∧ CoA hs' ((t.now.gv, (if v = t.now.sp then t.now.md else []), v, t.now.bl, t.now.st, t.now.wt), t.2.1, t.2.2.1, kpt t.his t.now, t.2.2.2.2) ∧ Out hs hs' 0 95) := by
  unfold f_X8_setSpecies
  constructor
  · intro c
    by_cases d : v < 1
    · rw [if_pos (by rw [il_1, ii_lt (by omega) (by omega) (by omega) (by omega)]; exact d)]
    · rw [if_neg (by rw [il_1, ii_lt (by omega) (by omega) (by omega) (by omega)]; exact d), if_neg (by rw [il_4, ii_le (by omega) (by omega) (by omega) (by omega)]; omega)]
  · intro c
    rw [if_neg (by rw [il_1, ii_lt (by omega) (by omega) (by omega) (by omega)]; omega), if_pos (by rw [il_4, ii_le (by omega) (by omega) (by omega) (by omega)]; omega)]
    obtain ⟨g1, e1, c1, o1⟩ := h.keep k
    obtain ⟨g2, e2, s2, o2⟩ := X6_makeSpecies c1.sh k c.1 c.2
    have hk : chk hs 24 0 = some () := by obtain ⟨-, o, f, ho, h1, -⟩ := h.his; exact chk_of h1
    refine ⟨g2, ?_, c1.setS s2 o2, (o1.mono (by omega) (by omega)).trans (o2.mono (by omega) (by omega))⟩
    rw [h.r3, ob_some, h.r1, ob_some, hk, ob_some, e1, ob_some, c1.r1, ob_some, c1.sh.chk, ob_some, X6_species c1.sh, ob_some, ob_some, c1.sh.chk, ob_some, e2, ob_some]
end FACE2
