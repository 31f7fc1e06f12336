/-! ===== the faults as a list ===== -/
def flR (s : Sh) (p : Nat) : Nat → List (Nat × Nat)
  | 0 => []
  | r + 1 => flR s p r ++ (if flt s p (r + 1) = -1 then [] else [(p, r + 1)])
def flP (s : Sh) : Nat → List (Nat × Nat)
  | 0 => []
  | p + 1 => flP s p ++ flR s p 16
def flI (s : Sh) (num : Int) : Option (Nat × Nat) := if 0 ≤ num then (flP s s.md.length)[num.toNat]? else none
theorem flR_len {s : Sh} {p : Nat} : ∀ r, ((flR s p r).length : Int) = sumR (anyG s) p r
  | 0 => rfl
  | r + 1 => by
    have ih := flR_len (s := s) (p := p) r
    show ((flR s p r ++ (if flt s p (r + 1) = -1 then [] else [(p, r + 1)])).length : Int) = sumR (anyG s) p r + anyG s p (r + 1)
    rw [List.length_append]
    by_cases c : flt s p (r + 1) = -1
    · rw [if_pos c, anyG_0 c]; simp only [List.length_nil]; omega
    · rw [if_neg c, anyG_1 c]; simp only [List.length_cons, List.length_nil]; omega
theorem flP_len {s : Sh} : ∀ p, ((flP s p).length : Int) = sumP (anyG s) p
  | 0 => rfl
  | p + 1 => by
    have ih := flP_len (s := s) p
    have h := flR_len (s := s) (p := p) 16
    show ((flP s p ++ flR s p 16).length : Int) = sumP (anyG s) p + sumR (anyG s) p 16
    rw [List.length_append]
    omega
theorem flR_at {s : Sh} {p q : Nat} (h1 : 1 ≤ q) (hf : flt s p q ≠ -1) : ∀ r, q ≤ r → (flR s p r)[(flR s p (q - 1)).length]? = some (p, q)
  | 0, h => by omega
  | r + 1, h => by
    by_cases c : q = r + 1
    · subst c
      show (flR s p r ++ (if flt s p (r + 1) = -1 then [] else [(p, r + 1)]))[(flR s p r).length]? = _
      rw [if_neg hf, List.getElem?_append_right (Nat.le_refl _), Nat.sub_self]
      rfl
    · have ih := flR_at h1 hf r (by omega)
      show (flR s p r ++ _)[_]? = _
      have hl : (flR s p (q - 1)).length < (flR s p r).length := by
        rcases List.getElem?_eq_some_iff.1 ih with ⟨hh, -⟩
        exact hh
      rw [List.getElem?_append_left hl]
      exact ih
theorem flP_at {s : Sh} {p q : Nat} (h1 : 1 ≤ q) (h2 : q ≤ 16) (hf : flt s p q ≠ -1) : ∀ n, p < n → (flP s n)[(flP s p).length + (flR s p (q - 1)).length]? = some (p, q)
  | 0, h => by omega
  | n + 1, h => by
    show (flP s n ++ flR s n 16)[_]? = _
    by_cases c : p = n
    · subst c
      rw [List.getElem?_append_right (by omega), Nat.add_sub_cancel_left]
      exact flR_at h1 hf 16 h2
    · have ih := flP_at h1 h2 hf n (by omega)
      have hl : (flP s p).length + (flR s p (q - 1)).length < (flP s n).length := by
        rcases List.getElem?_eq_some_iff.1 ih with ⟨hh, -⟩
        exact hh
      rw [List.getElem?_append_left hl]
      exact ih
theorem flR_inv {s : Sh} {p : Nat} {y : Nat × Nat} : ∀ (r j : Nat), (flR s p r)[j]? = some y → y.1 = p ∧ 1 ≤ y.2 ∧ y.2 ≤ r ∧ flt s p y.2 ≠ -1 ∧ j = (flR s p (y.2 - 1)).length
  | 0, j, h => by cases h
  | r + 1, j, h => by
    have h : (flR s p r ++ (if flt s p (r + 1) = -1 then [] else [(p, r + 1)]))[j]? = some y := h
    by_cases c : j < (flR s p r).length
    · rw [List.getElem?_append_left c] at h
      have ih := flR_inv r j h
      exact ⟨ih.1, ih.2.1, by omega, ih.2.2.2⟩
    · rw [List.getElem?_append_right (by omega)] at h
      by_cases d : flt s p (r + 1) = -1
      · rw [if_pos d] at h; cases h
      · rw [if_neg d] at h
        obtain ⟨h0, h9⟩ := List.getElem?_eq_some_iff.1 h
        simp only [List.length_cons, List.length_nil] at h0
        have e0 : j - (flR s p r).length = 0 := by omega
        rw [e0] at h
        cases h
        exact ⟨rfl, by dsimp only; omega, by dsimp only; omega, d, by dsimp only; rw [Nat.add_sub_cancel]; omega⟩
theorem flP_inv {s : Sh} {y : Nat × Nat} : ∀ (n j : Nat), (flP s n)[j]? = some y → y.1 < n ∧ 1 ≤ y.2 ∧ y.2 ≤ 16 ∧ flt s y.1 y.2 ≠ -1 ∧ j = (flP s y.1).length + (flR s y.1 (y.2 - 1)).length
  | 0, j, h => by cases h
  | n + 1, j, h => by
    have h : (flP s n ++ flR s n 16)[j]? = some y := h
    by_cases c : j < (flP s n).length
    · rw [List.getElem?_append_left c] at h
      have ih := flP_inv n j h
      exact ⟨by omega, ih.2⟩
    · rw [List.getElem?_append_right (by omega)] at h
      obtain ⟨i1, i2, i3, i4, i5⟩ := flR_inv 16 _ h
      rw [i1]
      exact ⟨by omega, i2, i3, i4, by omega⟩
theorem flI_found {s : Sh} {num : Int} {p q : Nat} (h : FoundAt s num p q) : flI s num = some (p, q) := by
  obtain ⟨h1, h2, h3, h4⟩ := h
  have l1 := flP_len (s := s) p
  have l2 := flR_len (s := s) (p := p) (q - 1)
  have h := flP_at h2.1 h2.2 h3 s.md.length h1
  unfold flI
  rw [if_pos (by omega), show num.toNat = (flP s p).length + (flR s p (q - 1)).length from by omega]
  exact h
theorem flI_not {s : Sh} {num : Int} (h : ∀ p q, ¬ FoundAt s num p q) : flI s num = none := by
  unfold flI
  by_cases c : 0 ≤ num
  · rw [if_pos c]
    cases e : (flP s s.md.length)[num.toNat]? with
    | none => rfl
    | some y =>
      obtain ⟨i1, i2, i3, i4, i5⟩ := flP_inv _ _ e
      have l1 := flP_len (s := s) y.1
      have l2 := flR_len (s := s) (p := y.1) (y.2 - 1)
      exact absurd ⟨i1, ⟨i2, i3⟩, i4, by omega⟩ (h y.1 y.2)
  · rw [if_neg c]
def opFaultAt (s : Sh) (y : Nat × Nat) (w : Int) : Int ⊕ Nat := if w = 0 then .inl y.2 else if w = 1 then .inl (y.1 / per s.sp) else if w = 2 then .inl (y.1 % per s.sp) else if w = 3 then .inl (flt s y.1 y.2) else .inr 1
def opFault (s : Sh) (num w : Int) : Int ⊕ Nat := if s.md.length = 0 then .inr 2 else match flI s num with
  | none => .inr 4
  | some y => opFaultAt s y w
section FACEI
variable {hs : AH} {t : St}
theorem X8_requireFault (h : CoA hs t) (k : Full t.now) {num : Int} (n1 : -2147483648 ≤ num) (n2 : num ≤ 2147483647) :
    (t.now.md.length = 0 → f_X8_requireFault 0 (ii num) hs = some (.inr 2, hs)) ∧
    (¬ t.now.md.length = 0 → ∃ hs', Out hs hs' 0 95 ∧ CoA hs' t ∧ ((flI t.now num = none ∧ f_X8_requireFault 0 (ii num) hs = some (.inr 4, hs')) ∨
      (∃ y x sp, flI t.now num = some y ∧ FoundAt t.now num y.1 y.2 ∧ f_X8_requireFault 0 (ii num) hs = some (.inl (), hs') ∧ JuA hs' 1 t.now x sp ∧ x 17 = y.2 ∧ x 18 = flt t.now y.1 y.2 ∧ x 10 = y.1 / per t.now.sp ∧ x 11 = y.1 % per t.now.sp))) := by
  unfold f_X8_requireFault
  rw [h.chk, ob_some, X8_requireCounterpoint h k.1]
  refine ⟨fun c => by rw [if_pos c]; rfl, fun c => ?_⟩
  rw [if_neg c, xb_l, h.r0, ob_some]
  have hh := h
  obtain ⟨-, ⟨x, sp, j⟩, -⟩ := h
  obtain ⟨g1, x1, sp1, j1, o1, r⟩ := X1_find k.1 n1 n2 j
  refine ⟨g1, o1.mono (by omega) (by omega), hh.setJ j1 o1, ?_⟩
  rw [j.chk, ob_some]
  rcases r with ⟨p, q, F, e, a17, a18, a10, a11⟩ | ⟨e, r⟩
  · refine Or.inr ⟨(p, q), x1, sp1, flI_found F, F, ?_, j1, a17, a18, a10, a11⟩
    rw [e, ob_some]
    dsimp only
    rw [if_neg (by decide +kernel)]
  · refine Or.inl ⟨flI_not r, ?_⟩
    rw [e, ob_some]
    rfl
theorem X8_fault (h : CoA hs t) (k : Full t.now) {num w : Int} (n1 : -2147483648 ≤ num) (n2 : num ≤ 2147483647) (w1 : -2147483648 ≤ w) (w2 : w ≤ 2147483647) : ∃ hs', f_X8_fault 0 (ii num) (ii w) hs = some (cvR (opFault t.now num w), hs') ∧ CoA hs' t ∧ Out hs hs' 0 95 := by
  obtain ⟨r1, r2⟩ := X8_requireFault h k n1 n2
  unfold f_X8_fault opFault
  rw [h.chk, ob_some]
  by_cases c : t.now.md.length = 0
  · rw [r1 c, if_pos c]
    exact ⟨hs, rfl, h, Out.refl _ _ _⟩
  rw [if_neg c]
  obtain ⟨g, o, q, r⟩ := r2 c
  rcases r with ⟨e1, e2⟩ | ⟨y, x, sp, e1, F, e2, j, a17, a18, a10, a11⟩
  · rw [e2, e1]
    exact ⟨g, rfl, q, o⟩
  · rw [e2, e1, xb_l]
    refine ⟨g, ?_, q, o⟩
    unfold opFaultAt
    dsimp only
    by_cases w0 : w = 0
    · rw [if_pos (by rw [w0]; rfl), if_pos w0, q.r0, ob_some, j.chk, ob_some]
      unfold f_X1_foundRule
      rw [j.i17, ob_some, a17, ob_some]; rfl
    rw [if_neg (by rw [il_0, ii_eq (by omega) (by omega) (by omega) (by omega)]; exact w0), if_neg w0]
    by_cases w0 : w = 1
    · rw [if_pos (by rw [w0]; rfl), if_pos w0, q.r0, ob_some, j.chk, ob_some]
      unfold f_X1_bar
      rw [j.i10, ob_some, a10, ob_some]; rfl
    rw [if_neg (by rw [il_1, ii_eq (by omega) (by omega) (by omega) (by omega)]; exact w0), if_neg w0]
    by_cases w0 : w = 2
    · rw [if_pos (by rw [w0]; rfl), if_pos w0, q.r0, ob_some, j.chk, ob_some]
      unfold f_X1_beat
      rw [j.i11, ob_some, a11, ob_some]; rfl
    rw [if_neg (by rw [il_2, ii_eq (by omega) (by omega) (by omega) (by omega)]; exact w0), if_neg w0]
    by_cases w0 : w = 3
    · rw [if_pos (by rw [w0]; rfl), if_pos w0, q.r0, ob_some, j.chk, ob_some]
      unfold f_X1_foundDetail
      rw [j.i18, ob_some, a18, ob_some]; rfl
    · rw [if_neg (by rw [il_3, ii_eq (by omega) (by omega) (by omega) (by omega)]; exact w0), if_neg w0]; rfl
end FACEI
