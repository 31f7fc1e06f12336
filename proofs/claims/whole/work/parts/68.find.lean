/-! ===== a fault found by its number; the last note; harmonies and motions ===== -/
abbrev anyG (s : Sh) : Int → Nat → Int := tallG s (-1) (-1)
theorem anyG_0 {s : Sh} {p : Int} {r : Nat} (h : flt s p r = -1) : anyG s p r = 0 := by show tallG s (-1) (-1) p r = 0; unfold tallG; rw [if_pos ⟨Or.inl rfl, Or.inl rfl⟩, if_pos h]
theorem anyG_1 {s : Sh} {p : Int} {r : Nat} (h : ¬ flt s p r = -1) : anyG s p r = 1 := by show tallG s (-1) (-1) p r = 1; unfold tallG; rw [if_pos ⟨Or.inl rfl, Or.inl rfl⟩, if_neg h]
def FoundAt (s : Sh) (num : Int) (p q : Nat) : Prop := p < s.md.length ∧ (1 ≤ q ∧ q ≤ 16) ∧ flt s p q ≠ -1 ∧ sumP (anyG s) p + sumR (anyG s) p (q - 1) = num
section FIND
variable {a : Nat} {s : Sh}
theorem X1_find_in (k : SOK s) {hs : AH} {p : Nat} (hp : p < s.md.length) (L : Lkd hs a s p (cpS s) (cnS s)) (o8 : Nat → Int32 → Int32 → Int32 → AH → Option (Int32 × AH)) {num : Int} (n1 : -2147483648 ≤ num) (n2 : num ≤ 2147483647) : ∀ (d n r : Nat), d < n → r + d = 17 → 1 ≤ r →
    (∃ q hs' x', r ≤ q ∧ FoundAt s num p q ∧ f_X1_find_b30 o8 n a (ii num) (ii (sumP (anyG s) p + sumR (anyG s) p (r - 1))) (ii p) (ii r) hs = some (ii 1, hs') ∧ JuA hs' a s x' (spL s p) ∧ x' 17 = q ∧ x' 18 = flt s p q ∧ x' 10 = p / per s.sp ∧ x' 11 = p % per s.sp ∧ Out hs hs' a 16) ∨
    (f_X1_find_b30 o8 n a (ii num) (ii (sumP (anyG s) p + sumR (anyG s) p (r - 1))) (ii p) (ii r) hs = o8 a (ii num) (ii (sumP (anyG s) (p + 1))) (ii p + 1) hs ∧ ∀ q, r ≤ q → ¬ FoundAt s num p q) := by
  have ml := k.ml
  intro d
  induction d with
  | zero =>
    intro n r hn hr h1
    obtain ⟨n, rfl⟩ : ∃ z, n = z + 1 := ⟨n - 1, by omega⟩
    obtain rfl : r = 17 := by omega
    unfold f_X1_find_b30
    rw [if_pos (show (16 : Int32) < ii ((17 : Nat) : Int) by decide +kernel)]
    exact Or.inr ⟨rfl, fun q hq hf => by have := hf.2.1; omega⟩
  | succ d ih =>
    intro n r hn hr h1
    obtain ⟨n, rfl⟩ : ∃ z, n = z + 1 := ⟨n - 1, by omega⟩
    obtain ⟨q, rfl⟩ : ∃ z, r = z + 1 := ⟨r - 1, by omega⟩
    have fb := flt_bd k (p := (p : Int)) (by omega) (q + 1)
    have s1 := sumP_b (g := anyG s) (B := 1) (fun p r => tallG_b s (-1) (-1) p r) p
    have s2 := sumR_b (g := anyG s) (p := (p : Int)) (B := 1) (fun r => tallG_b s (-1) (-1) p r) q
    have ih' := ih n (q + 2) (by omega) (by omega) (by omega)
    have es : sumR (anyG s) p (q + 2 - 1) = sumR (anyG s) p q + anyG s p (q + 1) := rfl
    rw [es, ← Int.add_assoc] at ih'
    have next : ¬ FoundAt s num p (q + 1) → ∀ v, v = anyG s p (q + 1) → f_X1_find_b30 o8 (n + 1) a (ii num) (ii (sumP (anyG s) p + sumR (anyG s) p q)) (ii p) (ii ((q + 1 : Nat) : Int)) hs = f_X1_find_b30 o8 n a (ii num) (ii (sumP (anyG s) p + sumR (anyG s) p q + v)) (ii p) (ii ((q + 2 : Nat) : Int)) hs →
      (∃ q' hs' x', q + 1 ≤ q' ∧ FoundAt s num p q' ∧ f_X1_find_b30 o8 (n + 1) a (ii num) (ii (sumP (anyG s) p + sumR (anyG s) p q)) (ii p) (ii ((q + 1 : Nat) : Int)) hs = some (ii 1, hs') ∧ JuA hs' a s x' (spL s p) ∧ x' 17 = q' ∧ x' 18 = flt s p q' ∧ x' 10 = p / per s.sp ∧ x' 11 = p % per s.sp ∧ Out hs hs' a 16) ∨
      (f_X1_find_b30 o8 (n + 1) a (ii num) (ii (sumP (anyG s) p + sumR (anyG s) p q)) (ii p) (ii ((q + 1 : Nat) : Int)) hs = o8 a (ii num) (ii (sumP (anyG s) (p + 1))) (ii p + 1) hs ∧ ∀ q', q + 1 ≤ q' → ¬ FoundAt s num p q') := by
      intro nf v hv e
      rw [e, hv]
      rcases ih' with ⟨q', h', x', a1, a2⟩ | ⟨a1, a2⟩
      · exact Or.inl ⟨q', h', x', by omega, a2⟩
      · refine Or.inr ⟨a1, fun q' hq => ?_⟩
        by_cases e : q' = q + 1
        · rw [e]; exact nf
        · exact a2 q' (by omega)
    obtain ⟨x, j, y9, y10, y11, y12, y13, y14, y15, y16⟩ := L
    have L : Lkd hs a s p (cpS s) (cnS s) := ⟨x, j, y9, y10, y11, y12, y13, y14, y15, y16⟩
    rw [Nat.add_sub_cancel]
    by_cases c : flt s p (q + 1) = -1
    · refine next (fun hf => hf.2.2.1 c) 0 (anyG_0 c).symm ?_
      rw [f_X1_find_b30.eq_2, if_neg (by rw [il_16, ii_lt (by omega) (by omega) (by omega) (by omega)]; omega), j.chk, ob_some, flt_b k hp L h1 (by omega), ob_some, if_pos (show ii (flt s p (q + 1)) = -1 by rw [c]; rfl)]
      unfold f_X1_find_b70
      rw [if_pos (show ii (flt s p (q + 1)) = -1 by rw [c]; rfl), il_1, ii_add, il_0, ii_add, show ((q + 1 : Nat) : Int) + 1 = ((q + 2 : Nat) : Int) by omega]
    · by_cases e : sumP (anyG s) p + sumR (anyG s) p q = num
      · refine Or.inl ?_
        obtain ⟨g1, e1, j1, o1⟩ := j.put (k := 17) (by omega) ((q + 1 : Nat) : Int)
        obtain ⟨g2, e2, j2, o2⟩ := j1.put (k := 18) (by omega) (flt s p (q + 1))
        refine ⟨q + 1, g2, _, Nat.le_refl _, ⟨hp, by omega, c, e⟩, ?_, j2, rfl, rfl, y10, y11, o1.trans o2⟩
        unfold f_X1_find_b30
        rw [if_neg (by rw [il_16, ii_lt (by omega) (by omega) (by omega) (by omega)]; omega), j.chk, ob_some, flt_b k hp L h1 (by omega), ob_some, if_neg (show ¬ ii (flt s p (q + 1)) = -1 by rw [il_m1, ii_eq (by omega) (by omega) (by omega) (by omega)]; exact c), if_pos (show ii (sumP (anyG s) p + sumR (anyG s) p q) = ii num by rw [e]), e1, ob_some, e2, ob_some]
        rfl
      · refine next (fun hf => e hf.2.2.2) 1 (anyG_1 c).symm ?_
        rw [f_X1_find_b30.eq_2, if_neg (by rw [il_16, ii_lt (by omega) (by omega) (by omega) (by omega)]; omega), j.chk, ob_some, flt_b k hp L h1 (by omega), ob_some, if_neg (show ¬ ii (flt s p (q + 1)) = -1 by rw [il_m1, ii_eq (by omega) (by omega) (by omega) (by omega)]; exact c), if_neg (by rw [ii_eq (by omega) (by omega) (by omega) (by omega)]; exact e)]
        unfold f_X1_find_b70
        rw [if_neg (show ¬ ii (flt s p (q + 1)) = -1 by rw [il_m1, ii_eq (by omega) (by omega) (by omega) (by omega)]; exact c), il_1, ii_add, ii_add, show ((q + 1 : Nat) : Int) + 1 = ((q + 2 : Nat) : Int) by omega]
theorem X1_find_out (k : SOK s) {num : Int} (n1 : -2147483648 ≤ num) (n2 : num ≤ 2147483647) : ∀ (d n p : Nat) (hs : AH) (x : Nat → Int) (sp : Nat → Spn), d < n → p + d = s.md.length → JuA hs a s x sp → x 15 = cpS s → x 16 = cnS s →
    ∃ hs' x' sp', JuA hs' a s x' sp' ∧ Out hs hs' a 16 ∧
      ((∃ p' q, p ≤ p' ∧ FoundAt s num p' q ∧ f_X1_find_b8 n a (ii num) (ii (sumP (anyG s) p)) (ii p) hs = some (ii 1, hs') ∧ x' 17 = q ∧ x' 18 = flt s p' q ∧ x' 10 = p' / per s.sp ∧ x' 11 = p' % per s.sp) ∨
       (f_X1_find_b8 n a (ii num) (ii (sumP (anyG s) p)) (ii p) hs = some (ii 0, hs') ∧ ∀ p' q, p ≤ p' → ¬ FoundAt s num p' q)) := by
  have ml := k.ml
  intro d
  induction d with
  | zero =>
    intro n p hs x sp hn hp j x15 x16
    obtain ⟨n, rfl⟩ : ∃ z, n = z + 1 := ⟨n - 1, by omega⟩
    obtain rfl : p = s.md.length := by omega
    refine ⟨hs, x, sp, j, Out.refl _ _ _, Or.inr ⟨?_, fun p' q h1 h2 => by have := h2.1; omega⟩⟩
    unfold f_X1_find_b8
    rw [j.sh, ob_some, j.2.1.m, ob_some, j.2.1.2.2.1.chk, ob_some, X2_size j.2.1.2.2.1, ob_some, if_pos (Int32.le_refl _)]
    rfl
  | succ d ih =>
    intro n p hs x sp hn hp j x15 x16
    obtain ⟨n, rfl⟩ : ∃ z, n = z + 1 := ⟨n - 1, by omega⟩
    obtain ⟨h1, e1, L, o1⟩ := X1_look k j (p := (p : Int)) (by omega) (by omega)
    rw [x15, x16] at L
    have hu : f_X1_find_b8 (n + 1) a (ii num) (ii (sumP (anyG s) p)) (ii p) hs = f_X1_find_b30 (f_X1_find_b8 n) FUEL a (ii num) (ii (sumP (anyG s) p)) (ii p) 1 h1 := by
      rw [f_X1_find_b8.eq_2, j.sh, ob_some, j.2.1.m, ob_some, j.2.1.2.2.1.chk, ob_some, X2_size j.2.1.2.2.1, ob_some, if_neg (by rw [ii_le (by omega) (by omega) (by omega) (by omega)]; omega), j.chk, ob_some, e1, ob_some]
    rw [hu]
    have z : sumP (anyG s) p + sumR (anyG s) p (1 - 1) = sumP (anyG s) p := Int.add_zero _
    have e := X1_find_in k (show p < s.md.length by omega) L (f_X1_find_b8 n) n1 n2 16 FUEL 1 (by unfold FUEL; omega) rfl (Nat.le_refl _)
    rw [z] at e
    rcases e with ⟨q, h2, x2, a1, a2, a3, a4, a5, a6, a7, a8, a9⟩ | ⟨a1, a2⟩
    · exact ⟨h2, x2, _, a4, o1.trans a9, Or.inl ⟨p, q, Nat.le_refl _, a2, a3, a5, a6, a7, a8⟩⟩
    · obtain ⟨y, j1, y15, y16, -⟩ := L.ju
      obtain ⟨h2, x2, sp2, j2, o2, r⟩ := ih n (p + 1) h1 y _ (by omega) (by omega) j1 y15 y16
      rw [show (ii ((p + 1 : Nat) : Int)) = ii p + 1 by rw [il_1, ii_add]; rfl, ← a1] at r
      refine ⟨h2, x2, sp2, j2, o1.trans o2, ?_⟩
      rcases r with ⟨p', q, r1, r2⟩ | ⟨r1, r2⟩
      · exact Or.inl ⟨p', q, by omega, r2⟩
      · refine Or.inr ⟨r1, fun p' q hp' => ?_⟩
        by_cases e : p' = p
        · rw [e]
          intro hf
          exact a2 q (hf.2.1.1) hf
        · exact r2 p' q (by omega)
theorem X1_find (k : SOK s) {num : Int} (n1 : -2147483648 ≤ num) (n2 : num ≤ 2147483647) {hs : AH} {x : Nat → Int} {sp : Nat → Spn} (j : JuA hs a s x sp) :
    ∃ hs' x' sp', JuA hs' a s x' sp' ∧ Out hs hs' a 16 ∧
      ((∃ p q, FoundAt s num p q ∧ f_X1_find a (ii num) hs = some (ii 1, hs') ∧ x' 17 = q ∧ x' 18 = flt s p q ∧ x' 10 = p / per s.sp ∧ x' 11 = p % per s.sp) ∨
       (f_X1_find a (ii num) hs = some (ii 0, hs') ∧ ∀ p q, ¬ FoundAt s num p q)) := by
  have ml := k.ml
  obtain ⟨h1, x1, e1, j1, y15, y16, o1⟩ := X1_survey k j
  obtain ⟨h2, x2, sp2, j2, o2, r⟩ := X1_find_out k n1 n2 s.md.length FUEL 0 h1 x1 sp (by unfold FUEL; omega) (by omega) j1 y15 y16
  have hu : f_X1_find a (ii num) hs = f_X1_find_b8 FUEL a (ii num) (ii (sumP (anyG s) 0)) (ii ((0 : Nat) : Int)) h1 := by
    unfold f_X1_find
    rw [j.chk, ob_some, e1, ob_some]
    rfl
  rw [hu]
  refine ⟨h2, x2, sp2, j2, o1.trans o2, ?_⟩
  rcases r with ⟨p', q, -, r2⟩ | ⟨r1, r2⟩
  · exact Or.inl ⟨p', q, r2⟩
  · exact Or.inr ⟨r1, fun p q => r2 p q (Nat.zero_le _)⟩
end FIND
