/-! ===== the face: cantus, counterpoint ===== -/
section RDOK
variable {b : List Int}
theorem rdErr_none {r : Option (List Int) × Nat} (h : r.1 = none) : rdErr r = r.2 := by
  unfold rdErr; rw [h]
theorem rdErr_some {r : Option (List Int) × Nat} {x : List Int} (h : r.1 = some x) : rdErr r = -1 := by
  unfold rdErr; rw [h]
theorem rdEnd_ok {least : Nat} {r : Option (List Int) × Nat} {x : List Int} (h : (rdEnd least r).1 = some x) : r.1 = some x ∧ least ≤ x.length := by
  unfold rdEnd at h
  cases e : r.1 with
  | none => rw [e] at h; rw [show r.1 = none from e] at h; cases h
  | some l =>
    rw [e] at h
    dsimp only at h
    by_cases c : l.length < least
    · rw [if_pos c] at h; cases h
    · rw [if_neg c, e] at h
      cases h
      exact ⟨rfl, by omega⟩
theorem rdLine_ok {rest : Int} {least most : Nat} {x : List Int} (h : (rdLine b rest least most).1 = some x) (hm : 2 ≤ least) : (∀ j, j < x.length → (lg x j = -1 ∧ j = 0 ∧ ¬ rest = 0) ∨ (42 ≤ lg x j ∧ lg x j ≤ 146)) ∧ least ≤ x.length ∧ x.length ≤ most := by
  unfold rdLine at h
  obtain ⟨h1, h2⟩ := rdEnd_ok h
  by_cases c : ¬ rest = 0 ∧ pat b 0 = 45
  · rw [if_pos c] at h1
    obtain ⟨g1, g2, g3⟩ := rdMore_ok 181 [-1] 1 x h1 (fun j hj => Or.inl (by simp only [List.length_cons, List.length_nil] at hj; obtain rfl : j = 0 := (by omega); exact ⟨rfl, rfl⟩)) (by simp) (Or.inr rfl)
    exact ⟨fun j hj => (g1 j hj).imp (fun y => ⟨y.1, y.2.1, c.1⟩) (fun y => y), h2, by omega⟩
  · rw [if_neg c] at h1
    cases e : (rdNote b 0).1 with
    | none => rw [e] at h1; cases h1
    | some z =>
      rw [e] at h1
      have hz := rdNote_some e
      have h0 : lg [z] 0 = z := rfl
      obtain ⟨g1, g2, g3⟩ := rdMore_ok 181 [z] _ x h1 (fun j hj => Or.inr (by simp only [List.length_cons, List.length_nil] at hj; obtain rfl : j = 0 := (by omega); rw [h0]; omega)) (by simp) (Or.inr rfl)
      refine ⟨fun j hj => ?_, h2, by omega⟩
      rcases g1 j hj with y | y
      · rw [h0] at y; omega
      · exact Or.inr y
theorem rdNote_le {p : Nat} (hp : p ≤ b.length) : (rdNote b p).2 ≤ b.length := by
  unfold rdNote
  by_cases c : letNo (pat b p) < 0
  · rw [if_pos c]; exact hp
  · have h0 : pat b (p : Int) ≠ 0 := by intro e; rw [e] at c; exact c (by decide)
    have := pat_in h0
    rw [if_neg c]
    by_cases d : pat b (p + 1) = 35
    · have := pat_in (show pat b ((p : Int) + 1) ≠ 0 by omega)
      rw [if_pos d]
      by_cases e : pat b (p + 2) < 50 ∨ 54 < pat b (p + 2)
      · rw [if_pos e]; show p + 2 ≤ _; omega
      · have := pat_in (show pat b ((p : Int) + 2) ≠ 0 by omega)
        rw [if_neg e]; show p + 3 ≤ _; omega
    · rw [if_neg d]
      by_cases d : pat b (p + 1) = 98
      · have := pat_in (show pat b ((p : Int) + 1) ≠ 0 by omega)
        rw [if_pos d]
        by_cases e : pat b (p + 2) < 50 ∨ 54 < pat b (p + 2)
        · rw [if_pos e]; show p + 2 ≤ _; omega
        · have := pat_in (show pat b ((p : Int) + 2) ≠ 0 by omega)
          rw [if_neg e]; show p + 3 ≤ _; omega
      · rw [if_neg d]
        by_cases e : pat b (p + 1) < 50 ∨ 54 < pat b (p + 1)
        · rw [if_pos e]; show p + 1 ≤ _; omega
        · have := pat_in (show pat b ((p : Int) + 1) ≠ 0 by omega)
          rw [if_neg e]; show p + 2 ≤ _; omega
theorem rdMore_le {most : Nat} : ∀ (f : Nat) (l : List Int) (p : Nat), p ≤ b.length → (rdMore b most f l p).2 ≤ b.length
  | 0, l, p, hp => hp
  | f + 1, l, p, hp => by
    unfold rdMore
    by_cases c : b.length ≤ p
    · rw [if_pos c]; exact hp
    · rw [if_neg c]
      by_cases d : pat b p = 44 ∧ l.length < most
      · rw [if_pos d]
        have h1 := rdNote_le (b := b) (p := p + 1) (by omega)
        cases e : (rdNote b (p + 1)).1 with
        | none => exact h1
        | some z => exact rdMore_le f _ _ h1
      · rw [if_neg d]; exact hp
theorem rdEnd_2 (least : Nat) (r : Option (List Int) × Nat) : (rdEnd least r).2 = r.2 := by
  unfold rdEnd
  cases e : r.1 with
  | none => rfl
  | some l =>
    dsimp only
    by_cases c : l.length < least
    · rw [if_pos c]
    · rw [if_neg c]
theorem rdLine_le (rest : Int) (least most : Nat) : (rdLine b rest least most).2 ≤ b.length := by
  unfold rdLine
  rw [rdEnd_2]
  by_cases c : ¬ rest = 0 ∧ pat b 0 = 45
  · rw [if_pos c]
    have := pat_in (show pat b 0 ≠ 0 by omega)
    exact rdMore_le _ _ _ (by omega)
  · rw [if_neg c]
    have h1 := rdNote_le (b := b) (p := 0) (by omega)
    cases e : (rdNote b 0).1 with
    | none => exact h1
    | some z => exact rdMore_le _ _ _ h1
end RDOK
section FACEC
variable {hs : AH} {t : St}
theorem coa_rchk (h : CoA hs t) : chk hs 87 4 = some () := by
  obtain ⟨ln, w, nm, pl, h7, hw⟩ := h.2.2.2.2.2.2.1
  exact h7.chk
theorem CoA.rlin (h : CoA hs t) : gR hs 87 4 1 = some 90 := by
  obtain ⟨ln, w, nm, pl, h7, hw⟩ := h.2.2.2.2.2.2.1
  exact h7.lin
theorem readH (h : CoA hs t) (kb : CH t.buf) {rest : Int} (hr : rest = 0 ∨ rest = 1) {least most : Nat} (hle : least ≤ 45) (hmo : most ≤ 45) :
    ∃ hs' l', f_X4_readLine 87 (ii rest) (ii least) (ii most) hs = some (ii (rdErr (rdLine t.buf rest least most)), hs') ∧ CoA hs' t ∧ LnA hs' 90 l' ∧ rdGot (rdLine t.buf rest least most) l' ∧ Out hs hs' 87 6 := by
  obtain ⟨ln, w, nm, pl, h7, hw⟩ := h.2.2.2.2.2.2.1
  obtain ⟨g, l', p', e1, r1, w1, o1⟩ := X4_readLine (least := least) (most := most) kb h7 hr hle hmo
  exact ⟨g, l', e1, h.setRd r1 hw o1, r1.2.2.1, w1, o1⟩
theorem errClear (h : CoA hs t) (e : Int) : ∃ g1 g2, pI hs 0 8 10 (ii e) = some g1 ∧ gR g1 0 8 7 = some 88 ∧ chk g1 88 3 = some () ∧ f_X3_clear 88 g1 = some g2 ∧ gI g2 0 8 10 = some (ii e) ∧ CoA g2 (t.1, t.2.1, t.2.2.1, t.2.2.2.1, [], e, t.2.2.2.2.2.2) ∧ Out hs g1 0 1 ∧ Out g1 g2 88 2 := by
  obtain ⟨g1, e1, q1, o1⟩ := h.setErr e
  obtain ⟨g2, e2, p2, o2⟩ := X3_clear q1.page
  have q2 := q1.setBuf p2 o2
  exact ⟨g1, g2, e1, q1.r7, q1.page.chk, e2, q2.i10, q2, o1, o2⟩
theorem shgm {hs' : AH} {a : Nat} {s : Sh} {x y : List Int} (h : ShA hs a s) (hx : LnA hs' (a + 1) x) (hy : LnA hs' (a + 3) y) (o : Out hs hs' (a + 1) 4) : ShA hs' a (x, y, s.sp, s.bl, s.st, s.wt) :=
  ⟨o.at h.1 (by omega), hx, hy, h.2.2.2.1.out o (by omega), h.2.2.2.2.out o (by omega)⟩
theorem X8_cantus (h : CoA hs t) (k : Full t.now) (kb : CH t.buf) :
    ((rdLine t.buf 0 2 12).1 = none → ∃ hs', f_X8_cantus 0 hs = some (.inr 1, hs') ∧ CoA hs' (t.1, t.2.1, t.2.2.1, t.2.2.2.1, [], (rdLine t.buf 0 2 12).2, t.2.2.2.2.2.2) ∧ Out hs hs' 0 95) ∧
    (∀ x, (rdLine t.buf 0 2 12).1 = some x → ∃ hs', f_X8_cantus 0 hs = some (.inl (ii x.length), hs') ∧ CoA hs' ((x, [], t.now.sp, t.now.bl, t.now.st, t.now.wt), t.2.1, t.2.2.1, kpt t.his t.now, [], -1, t.2.2.2.2.2.2) ∧ Out hs hs' 0 95) := by
  obtain ⟨g1, l, e1, q1, hl, hg, o1⟩ := readH h kb (rest := 0) (Or.inl rfl) (least := 2) (most := 12) (by omega) (by omega)
  obtain ⟨g2, g3, e2, a2, b2, e3, i3, q3, o2, o3⟩ := errClear q1 (rdErr (rdLine t.buf 0 2 12))
  have O : Out hs g3 0 95 := (o1.mono (by omega) (by omega)).trans ((o2.mono (by omega) (by omega)).trans (o3.mono (by omega) (by omega)))
  have E : f_X4_readLine 87 0 2 12 hs = _ := e1
  unfold f_X8_cantus
  rw [h.r6, ob_some, coa_rchk h, ob_some, E, ob_some]
  dsimp only
  rw [e2, ob_some, a2, ob_some, b2, ob_some, e3, ob_some, i3, ob_some, il_m1]
  constructor
  · intro c
    rw [rdErr_none c] at q3 ⊢
    have hp := rdLine_le (b := t.buf) 0 2 12
    have hl := h.page.le
    refine ⟨g3, ?_, q3, O⟩
    rw [if_neg (by rw [ii_eq (by omega) (by omega) (by omega) (by omega)]; omega)]
  · intro x c
    rw [rdErr_some c] at q3 ⊢
    have hlx : l = x := hg x c
    rw [hlx] at hl
    have L3 : LnA g3 90 x := (hl.out o2 (by omega)).out o3 (by omega)
    obtain ⟨g4, e4, q4, o4⟩ := q3.keep k.1
    have L4 := L3.out o4 (by omega)
    obtain ⟨g5, e5, m5, o5⟩ := X2_copyFrom (a := 3) (b := 90) (by omega) q4.sh.2.1 L4
    have m5' : LnA g5 5 t.now.md := q4.sh.2.2.1.out o5 (by omega)
    obtain ⟨g6, e6, m6, o6⟩ := X2_clear m5'
    have S6 : ShA g6 2 (x, [], t.now.sp, t.now.bl, t.now.st, t.now.wt) := shgm q4.sh (m5.out o6 (by omega)) m6 ((o5.mono (by omega) (by omega)).trans (o6.mono (by omega) (by omega)))
    have q6 := q4.setS S6 ((o5.mono (by omega) (by omega)).trans (o6.mono (by omega) (by omega)))
    have S5 : ShA g5 2 (x, t.now.md, t.now.sp, t.now.bl, t.now.st, t.now.wt) := shgm q4.sh m5 m5' (o5.mono (by omega) (by omega))
    have q5 := q4.setS S5 (o5.mono (by omega) (by omega))
    refine ⟨g6, ?_, q6, O.trans ((o4.mono (by omega) (by omega)).trans ((o5.mono (by omega) (by omega)).trans (o6.mono (by omega) (by omega))))⟩
    rw [if_pos rfl, q3.r3, ob_some, q3.r1, ob_some, coa_kchk q3, ob_some, e4, ob_some, q4.r1, ob_some, q4.sh.g, ob_some, q4.r6, ob_some, coa_rchk q4, ob_some]
    unfold f_X4_line
    rw [q4.rlin, ob_some, ob_some, q4.sh.2.1.chk, ob_some, e5, ob_some, q5.r1, ob_some, S5.m, ob_some, m5'.chk, ob_some, e6, ob_some, q6.r1, ob_some, S6.g, ob_some, S6.2.1.chk, ob_some, X2_size S6.2.1, ob_some]
end FACEC
