/-! ===== faults counted, added up ===== -/
theorem detC_b {s : Sh} (k : SOK s) {cp cn p : Int} (h0 : 0 ≤ p) (c1 : 0 ≤ cn ∧ cn ≤ 60) (r : Nat) : -1 ≤ detC s cp cn p r ∧ detC s cp cn p r ≤ 100 := by
  have n1 : (-1 : Int) ≤ -1 ∧ (-1 : Int) ≤ 100 := by decide
  have z1 : (-1 : Int) ≤ 0 ∧ (0 : Int) ≤ 100 := by decide
  have pp := pitN_b k p
  have B0 := (spn_b (k.gvb (p / per s.sp)) (k.mdb p)).i
  have B4 := (spn_b (k.mdb (p - 1)) (k.mdb p)).i
  have B5 := (spn_b (k.mdb (p - 2)) (k.mdb (p - 1))).i
  have B0 : (0 ≤ (har s p).1 ∧ (har s p).1 ≤ 1) ∧ (0 ≤ (har s p).2.1 ∧ (har s p).2.1 ≤ 40) ∧ (0 ≤ (har s p).2.2.1 ∧ (har s p).2.2.1 ≤ 80) ∧ (-1 ≤ (har s p).2.2.2.1 ∧ (har s p).2.2.2.1 ≤ 1) ∧ (0 ≤ (har s p).2.2.2.2 ∧ (har s p).2.2.2.2 ≤ 8) := B0
  have B4 : (0 ≤ (arrS s p).1 ∧ (arrS s p).1 ≤ 1) ∧ (0 ≤ (arrS s p).2.1 ∧ (arrS s p).2.1 ≤ 40) ∧ (0 ≤ (arrS s p).2.2.1 ∧ (arrS s p).2.2.1 ≤ 80) ∧ (-1 ≤ (arrS s p).2.2.2.1 ∧ (arrS s p).2.2.2.1 ≤ 1) ∧ (0 ≤ (arrS s p).2.2.2.2 ∧ (arrS s p).2.2.2.2 ≤ 8) := B4
  have B5 : (0 ≤ (appS s p).1 ∧ (appS s p).1 ≤ 1) ∧ (0 ≤ (appS s p).2.1 ∧ (appS s p).2.1 ≤ 40) ∧ (0 ≤ (appS s p).2.2.1 ∧ (appS s p).2.2.1 ≤ 80) ∧ (-1 ≤ (appS s p).2.2.2.1 ∧ (appS s p).2.2.2.1 ≤ 1) ∧ (0 ≤ (appS s p).2.2.2.2 ∧ (appS s p).2.2.2.2 ≤ 8) := B5
  have w0 : -1 ≤ (har s p).2.2.1 ∧ (har s p).2.2.1 ≤ 100 := by omega
  have w1 : -1 ≤ (har s p).2.2.2.2 ∧ (har s p).2.2.2.2 ≤ 100 := by omega
  have w2 : -1 ≤ (arrS s p).2.2.1 ∧ (arrS s p).2.2.1 ≤ 100 := by omega
  have w3 : -1 ≤ (appS s p).2.1 ∧ (appS s p).2.1 ≤ 100 := by omega
  have w4 : -1 ≤ (appS s p).2.1 + (arrS s p).2.1 ∧ (appS s p).2.1 + (arrS s p).2.1 ≤ 100 := by omega
  unfold detC
  refine if_b n1 (if_b n1 ?_)
  split
  · exact if_b (by omega) n1
  · exact if_b n1 (if_b w2 n1)
  · exact if_b n1 w3
  · exact if_b (if_b z1 n1) n1
  · exact if_b n1 (if_b n1 (if_b n1 (if_b w4 (if_b n1 w4))))
  · exact if_b (by omega) n1
  · exact if_b (if_b (if_b w0 n1) n1) n1
  · exact if_b n1 w0
  · exact if_b n1 w1
  · exact if_b n1 w1
  · exact if_b n1 z1
  · exact if_b (if_b w0 n1) (if_b w0 n1)
  · exact if_b n1 w0
  · exact if_b n1 w0
  · have q : ∀ z : Int, z = 1 ∨ z = 2 ∨ z = 3 ∨ z = 4 → -1 ≤ z ∧ z ≤ 100 := fun z h => by omega
    exact if_b (if_b (if_b (q 2 (by decide)) (if_b (q 3 (by decide)) (if_b (q 3 (by decide)) (if_b (if_b n1 (q 4 (by decide))) (if_b n1 (q 4 (by decide))))))) (q 1 (by decide))) n1
  · exact if_b n1 w0
  · exact n1
section TALLY2
variable {a : Nat} {s : Sh}
theorem flt_bd (k : SOK s) {p : Int} (h0 : 0 ≤ p) (r : Nat) : -1 ≤ flt s p r ∧ flt s p r ≤ 100 := detC_b k h0 (cp_b k).2 r
theorem X1_cost_in (k : SOK s) {hs : AH} {p : Nat} (hp : p < s.md.length) (L : Lkd hs a s p (cpS s) (cnS s)) (o8 : Nat → Int32 → Int32 → AH → Option (Int32 × AH)) {S : Int} : ∀ (d n r : Nat), d < n → r + d = 17 → 1 ≤ r →
    f_X1_wholeCost_b29 o8 n a (ii (S + sumR (costG s) p (r - 1))) (ii p) (ii r) hs = o8 a (ii (S + sumR (costG s) p 16)) (ii p + 1) hs := by
  intro d
  induction d with
  | zero =>
    intro n r hn hr h1
    obtain ⟨n, rfl⟩ : ∃ z, n = z + 1 := ⟨n - 1, by omega⟩
    obtain rfl : r = 17 := by omega
    unfold f_X1_wholeCost_b29
    rw [if_pos (show (16 : Int32) < ii ((17 : Nat) : Int) by decide +kernel)]
  | succ d ih =>
    intro n r hn hr h1
    obtain ⟨n, rfl⟩ : ∃ z, n = z + 1 := ⟨n - 1, by omega⟩
    obtain ⟨q, rfl⟩ : ∃ z, r = z + 1 := ⟨r - 1, by omega⟩
    obtain ⟨x, j, -, -, -⟩ := L.ju
    have fb := flt_bd k (p := (p : Int)) (by omega) (q + 1)
    have wb := k.wtb (q + 1)
    have ih' := ih n (q + 2) (by omega) (by omega) (by omega)
    have es : sumR (costG s) p (q + 2 - 1) = sumR (costG s) p q + costG s p (q + 1) := rfl
    have gw : f_X6_weightOf (a + 1) (ii ((q + 1 : Nat) : Int)) hs = some (ii (lg s.wt (q + 1))) := X6_weightOf j.2.1 k (by omega) (by omega)
    rw [es, ← Int.add_assoc] at ih'
    unfold f_X1_wholeCost_b29
    rw [if_neg (by rw [il_16, ii_lt (by omega) (by omega) (by omega) (by omega)]; omega), j.chk, ob_some, flt_b k hp L h1 (by omega), ob_some, Nat.add_sub_cancel]
    by_cases c : flt s p (q + 1) = -1
    · rw [if_pos (show ii (flt s p (q + 1)) = -1 by rw [c]; rfl), il_1, ii_add]
      have e0 : costG s p (q + 1) = 0 := if_pos c
      rw [e0, Int.add_zero] at ih'
      exact ih'
    · rw [if_neg (show ¬ ii (flt s p (q + 1)) = -1 by rw [il_m1, ii_eq (by omega) (by omega) (by omega) (by omega)]; exact c), j.sh, ob_some, j.2.1.chk, ob_some, gw, ob_some, ii_add, il_1, ii_add]
      have h0 : 0 ≤ lg s.wt (q + 1) := (k.2.2.2.2.2.2.1 _ (lg_mem (by have := k.2.1; omega))).1
      have e0 : costG s p (q + 1) = lg s.wt (q + 1) := by unfold costG; rw [if_neg c, if_pos h0]
      rw [e0] at ih'
      exact ih'
theorem X1_cost_out (k : SOK s) : ∀ (d n p : Nat) (hs : AH) (x : Nat → Int) (sp : Nat → Spn), d < n → p + d = s.md.length → JuA hs a s x sp → x 15 = cpS s → x 16 = cnS s →
    ∃ hs' x' sp', f_X1_wholeCost_b8 n a (ii (sumP (costG s) p)) (ii p) hs = some (ii (sumP (costG s) s.md.length), hs') ∧ JuA hs' a s x' sp' ∧ Out hs hs' a 16 := by
  have ml := k.ml
  intro d
  induction d with
  | zero =>
    intro n p hs x sp hn hp j x15 x16
    obtain ⟨n, rfl⟩ : ∃ z, n = z + 1 := ⟨n - 1, by omega⟩
    obtain rfl : p = s.md.length := by omega
    unfold f_X1_wholeCost_b8
    rw [j.sh, ob_some, j.2.1.m, ob_some, j.2.1.2.2.1.chk, ob_some, X2_size j.2.1.2.2.1, ob_some, if_pos (Int32.le_refl _)]
    exact ⟨hs, x, sp, rfl, j, Out.refl _ _ _⟩
  | succ d ih =>
    intro n p hs x sp hn hp j x15 x16
    obtain ⟨n, rfl⟩ : ∃ z, n = z + 1 := ⟨n - 1, by omega⟩
    unfold f_X1_wholeCost_b8
    rw [j.sh, ob_some, j.2.1.m, ob_some, j.2.1.2.2.1.chk, ob_some, X2_size j.2.1.2.2.1, ob_some, if_neg (by rw [ii_le (by omega) (by omega) (by omega) (by omega)]; omega), j.chk, ob_some]
    obtain ⟨h1, e1, L, o1⟩ := X1_look k j (p := (p : Int)) (by omega) (by omega)
    rw [x15, x16] at L
    rw [e1, ob_some]
    have e := X1_cost_in k (show p < s.md.length by omega) L (f_X1_wholeCost_b8 n) (S := sumP (costG s) p) 16 FUEL 1 (by unfold FUEL; omega) rfl (Nat.le_refl _)
    have z : sumP (costG s) p + sumR (costG s) p (1 - 1) = sumP (costG s) p := Int.add_zero _
    rw [z] at e
    obtain ⟨y, j1, y15, y16, -⟩ := L.ju
    obtain ⟨h2, x2, sp2, e2, j2, o2⟩ := ih n (p + 1) h1 y _ (by omega) (by omega) j1 y15 y16
    refine ⟨h2, x2, sp2, ?_, j2, o1.trans o2⟩
    rw [show (1 : Int32) = ii ((1 : Nat) : Int) from rfl, e, ← e2, il_1, ii_add]
    rfl
theorem X1_wholeCost (k : SOK s) {hs : AH} {x : Nat → Int} {sp : Nat → Spn} (j : JuA hs a s x sp) : ∃ hs' x' sp', f_X1_wholeCost a hs = some (ii (sumP (costG s) s.md.length), hs') ∧ JuA hs' a s x' sp' ∧ Out hs hs' a 16 := by
  have ml := k.ml
  obtain ⟨h1, x1, e1, j1, y15, y16, o1⟩ := X1_survey k j
  obtain ⟨h2, x2, sp2, e2, j2, o2⟩ := X1_cost_out k s.md.length FUEL 0 h1 x1 sp (by unfold FUEL; omega) (by omega) j1 y15 y16
  refine ⟨h2, x2, sp2, ?_, j2, o1.trans o2⟩
  unfold f_X1_wholeCost
  rw [j.chk, ob_some, e1, ob_some]
  exact e2
theorem X1_tally_in (k : SOK s) {hs : AH} {p : Nat} (hp : p < s.md.length) (L : Lkd hs a s p (cpS s) (cnS s)) (o9 : Nat → Int32 → Int32 → Int32 → Int32 → AH → Option (Int32 × AH)) {S wr wb : Int} (r1 : -1 ≤ wr ∧ wr ≤ 20) (r2 : -1 ≤ wb ∧ wb ≤ 20) : ∀ (d n r : Nat), d < n → r + d = 17 → 1 ≤ r →
    f_X1_tally_b33 o9 n a (ii wr) (ii wb) (ii (S + sumR (tallG s wr wb) p (r - 1))) (ii p) (ii r) hs = o9 a (ii wr) (ii wb) (ii (S + sumR (tallG s wr wb) p 16)) (ii p + 1) hs := by
  intro d
  induction d with
  | zero =>
    intro n r hn hr h1
    obtain ⟨n, rfl⟩ : ∃ z, n = z + 1 := ⟨n - 1, by omega⟩
    obtain rfl : r = 17 := by omega
    unfold f_X1_tally_b33
    rw [if_pos (show (16 : Int32) < ii ((17 : Nat) : Int) by decide +kernel)]
  | succ d ih =>
    intro n r hn hr h1
    obtain ⟨n, rfl⟩ : ∃ z, n = z + 1 := ⟨n - 1, by omega⟩
    obtain ⟨q, rfl⟩ : ∃ z, r = z + 1 := ⟨r - 1, by omega⟩
    obtain ⟨x, j, -, -, y10⟩ := L.ju
    have ml := k.ml
    have g10 := j.i10
    rw [y10] at g10
    have bb := bar_bd (s := s) (p := (p : Int)) (by omega) (by omega)
    have fb := flt_bd k (p := (p : Int)) (by omega) (q + 1)
    have ih' := ih n (q + 2) (by omega) (by omega) (by omega)
    have es : sumR (tallG s wr wb) p (q + 2 - 1) = sumR (tallG s wr wb) p q + tallG s wr wb p (q + 1) := rfl
    rw [es, ← Int.add_assoc] at ih'
    have no : ∀ t, (¬ t = 0 → (wr = -1 ∨ wr = (q + 1 : Nat)) ∧ (wb = -1 ∨ wb = p / per s.sp)) → (t = 0 → ¬ ((wr = -1 ∨ wr = (q + 1 : Nat)) ∧ (wb = -1 ∨ wb = p / per s.sp))) → t = 0 ∨ t = 1 →
        f_X1_tally_b69 o9 (f_X1_tally_b33 o9 n) a (ii wr) (ii wb) (ii (S + sumR (tallG s wr wb) p q)) (ii p) (ii ((q + 1 : Nat) : Int)) (ii t) hs = o9 a (ii wr) (ii wb) (ii (S + sumR (tallG s wr wb) p 16)) (ii p + 1) hs := by
      intro t t1 t0 ht
      unfold f_X1_tally_b69
      rcases ht with rfl | rfl
      · rw [if_pos (show ii 0 = 0 from rfl), il_1, ii_add, show ((q + 1 : Nat) : Int) + 1 = ((q + 2 : Nat) : Int) by omega]
        have e0 : tallG s wr wb p (q + 1) = 0 := if_neg (t0 rfl)
        rw [e0, Int.add_zero] at ih'
        exact ih'
      · rw [if_neg (show ¬ ii 1 = 0 by decide +kernel), j.chk, ob_some, flt_b k hp L h1 (by omega), ob_some]
        by_cases c : flt s p (q + 1) = -1
        · rw [if_pos (show ii (flt s p (q + 1)) = -1 by rw [c]; rfl), il_1, ii_add, show ((q + 1 : Nat) : Int) + 1 = ((q + 2 : Nat) : Int) by omega]
          have e0 : tallG s wr wb p (q + 1) = 0 := by unfold tallG; rw [if_pos (t1 (by decide)), if_pos c]
          rw [e0, Int.add_zero] at ih'
          exact ih'
        · rw [if_neg (show ¬ ii (flt s p (q + 1)) = -1 by rw [il_m1, ii_eq (by omega) (by omega) (by omega) (by omega)]; exact c), il_1, ii_add, ii_add, show ((q + 1 : Nat) : Int) + 1 = ((q + 2 : Nat) : Int) by omega]
          have e0 : tallG s wr wb p (q + 1) = 1 := by unfold tallG; rw [if_pos (t1 (by decide)), if_neg c]
          rw [e0] at ih'
          exact ih'
    have bar : (wr = -1 ∨ wr = (q + 1 : Nat)) → f_X1_tally_b51 o9 (f_X1_tally_b33 o9 n) a (ii wr) (ii wb) (ii (S + sumR (tallG s wr wb) p q)) (ii p) (ii ((q + 1 : Nat) : Int)) hs = o9 a (ii wr) (ii wb) (ii (S + sumR (tallG s wr wb) p 16)) (ii p + 1) hs := by
      intro hw
      unfold f_X1_tally_b51
      by_cases c : wb = -1
      · rw [if_pos (show ii wb = -1 by rw [c]; rfl), show (1 : Int32) = ii 1 from rfl]
        exact no 1 (fun _ => ⟨hw, Or.inl c⟩) (fun h => by omega) (Or.inr rfl)
      · rw [if_neg (show ¬ ii wb = -1 by rw [il_m1, ii_eq (by omega) (by omega) (by omega) (by omega)]; exact c), g10, ob_some]
        by_cases d : wb = p / per s.sp
        · rw [if_pos (show ii wb = ii ((p : Int) / per s.sp) by rw [d]), show (1 : Int32) = ii 1 from rfl]
          exact no 1 (fun _ => ⟨hw, Or.inr d⟩) (fun h => by omega) (Or.inr rfl)
        · rw [if_neg (show ¬ ii wb = ii ((p : Int) / per s.sp) by rw [ii_eq (by omega) (by omega) (by omega) (by omega)]; exact d), show (0 : Int32) = ii 0 from rfl]
          exact no 0 (fun h => by omega) (fun _ h => h.2.elim c d) (Or.inl rfl)
    unfold f_X1_tally_b33
    rw [if_neg (by rw [il_16, ii_lt (by omega) (by omega) (by omega) (by omega)]; omega), Nat.add_sub_cancel]
    by_cases c : wr = -1
    · rw [if_pos (show ii wr = -1 by rw [c]; rfl)]
      exact bar (Or.inl c)
    · rw [if_neg (show ¬ ii wr = -1 by rw [il_m1, ii_eq (by omega) (by omega) (by omega) (by omega)]; exact c)]
      by_cases d : wr = (q + 1 : Nat)
      · rw [if_pos (show ii wr = ii ((q + 1 : Nat) : Int) by rw [d])]
        exact bar (Or.inr d)
      · rw [if_neg (show ¬ ii wr = ii ((q + 1 : Nat) : Int) by rw [ii_eq (by omega) (by omega) (by omega) (by omega)]; exact d), show (0 : Int32) = ii 0 from rfl]
        exact no 0 (fun h => by omega) (fun _ h => h.1.elim c d) (Or.inl rfl)
theorem X1_tally_out (k : SOK s) {wr wb : Int} (r1 : -1 ≤ wr ∧ wr ≤ 20) (r2 : -1 ≤ wb ∧ wb ≤ 20) : ∀ (d n p : Nat) (hs : AH) (x : Nat → Int) (sp : Nat → Spn), d < n → p + d = s.md.length → JuA hs a s x sp → x 15 = cpS s → x 16 = cnS s →
    ∃ hs' x' sp', f_X1_tally_b9 n a (ii wr) (ii wb) (ii (sumP (tallG s wr wb) p)) (ii p) hs = some (ii (sumP (tallG s wr wb) s.md.length), hs') ∧ JuA hs' a s x' sp' ∧ Out hs hs' a 16 ∧ x' 15 = cpS s ∧ x' 16 = cnS s := by
  have ml := k.ml
  intro d
  induction d with
  | zero =>
    intro n p hs x sp hn hp j x15 x16
    obtain ⟨n, rfl⟩ : ∃ z, n = z + 1 := ⟨n - 1, by omega⟩
    obtain rfl : p = s.md.length := by omega
    unfold f_X1_tally_b9
    rw [j.sh, ob_some, j.2.1.m, ob_some, j.2.1.2.2.1.chk, ob_some, X2_size j.2.1.2.2.1, ob_some, if_pos (Int32.le_refl _)]
    exact ⟨hs, x, sp, rfl, j, Out.refl _ _ _, x15, x16⟩
  | succ d ih =>
    intro n p hs x sp hn hp j x15 x16
    obtain ⟨n, rfl⟩ : ∃ z, n = z + 1 := ⟨n - 1, by omega⟩
    unfold f_X1_tally_b9
    rw [j.sh, ob_some, j.2.1.m, ob_some, j.2.1.2.2.1.chk, ob_some, X2_size j.2.1.2.2.1, ob_some, if_neg (by rw [ii_le (by omega) (by omega) (by omega) (by omega)]; omega), j.chk, ob_some]
    obtain ⟨h1, e1, L, o1⟩ := X1_look k j (p := (p : Int)) (by omega) (by omega)
    rw [x15, x16] at L
    rw [e1, ob_some]
    have e := X1_tally_in k (show p < s.md.length by omega) L (f_X1_tally_b9 n) (S := sumP (tallG s wr wb) p) r1 r2 16 FUEL 1 (by unfold FUEL; omega) rfl (Nat.le_refl _)
    have z : sumP (tallG s wr wb) p + sumR (tallG s wr wb) p (1 - 1) = sumP (tallG s wr wb) p := Int.add_zero _
    rw [z] at e
    obtain ⟨y, j1, y15, y16, -⟩ := L.ju
    obtain ⟨h2, x2, sp2, e2, j2, o2, z15, z16⟩ := ih n (p + 1) h1 y _ (by omega) (by omega) j1 y15 y16
    refine ⟨h2, x2, sp2, ?_, j2, o1.trans o2, z15, z16⟩
    rw [show (1 : Int32) = ii ((1 : Nat) : Int) from rfl, e, ← e2, il_1, ii_add]
    rfl
theorem X1_tally (k : SOK s) {wr wb : Int} (r1 : -1 ≤ wr ∧ wr ≤ 20) (r2 : -1 ≤ wb ∧ wb ≤ 20) {hs : AH} {x : Nat → Int} {sp : Nat → Spn} (j : JuA hs a s x sp) : ∃ hs' x' sp', f_X1_tally a (ii wr) (ii wb) hs = some (ii (sumP (tallG s wr wb) s.md.length), hs') ∧ JuA hs' a s x' sp' ∧ Out hs hs' a 16 ∧ x' 15 = cpS s ∧ x' 16 = cnS s := by
  have ml := k.ml
  obtain ⟨h1, x1, e1, j1, y15, y16, o1⟩ := X1_survey k j
  obtain ⟨h2, x2, sp2, e2, j2, o2, z15, z16⟩ := X1_tally_out k r1 r2 s.md.length FUEL 0 h1 x1 sp (by unfold FUEL; omega) (by omega) j1 y15 y16
  refine ⟨h2, x2, sp2, ?_, j2, o1.trans o2, z15, z16⟩
  unfold f_X1_tally
  rw [j.chk, ob_some, e1, ob_some]
  exact e2
end TALLY2
