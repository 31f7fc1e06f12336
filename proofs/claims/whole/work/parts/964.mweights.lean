/-! ===== the reference: weights read ===== -/
def letr (b : List Int) (j : Nat) : Prop := 97 ≤ pat b j ∧ pat b j ≤ 122
/-- the letters from p on end at e -/
def Run (b : List Int) (p e : Nat) : Prop := p ≤ e ∧ e ≤ b.length ∧ (∀ j, p ≤ j → j < e → letr b j) ∧ ¬ letr b e
theorem run_here {b w : List Int} {p e : Nat} (r : Run b p e) (hw : ∀ x ∈ w, 97 ≤ x ∧ x ≤ 122) : hereW b w p ↔ (e - p = w.length ∧ ∀ k, k < w.length → pat b ((p + k : Nat) : Int) = lg w k) := by
  obtain ⟨r1, r2, r3, r4⟩ := r
  constructor
  · rintro ⟨h1, h2⟩
    refine ⟨?_, fun k hk => h1 k hk⟩
    have a1 : ¬ e < p + w.length := fun h => by
      have h3 := h1 (e - p) (by omega)
      have h4 := hw _ (lg_mem (l := w) (j := e - p) (by omega))
      rw [show (p : Int) + ((e - p : Nat) : Int) = (e : Int) by omega] at h3
      exact r4 ⟨by rw [h3]; exact h4.1, by rw [h3]; exact h4.2⟩
    have a2 : ¬ p + w.length < e := fun h => by
      have := r3 (p + w.length) (by omega) h
      unfold letr at this
      rw [show ((p + w.length : Nat) : Int) = (p : Int) + (w.length : Int) by omega] at this
      exact h2 this
    omega
  · rintro ⟨h1, h2⟩
    refine ⟨fun k hk => h2 k hk, ?_⟩
    rw [show (p : Int) + (w.length : Int) = (e : Int) by omega]
    exact r4
section MWE
variable {b : List Int} {hs : AH} {x : Nat → Int}
theorem RS.buf {p : Nat} (r : RS hs x b p) (k : CB b) {j : Nat} (hj : j < b.length) : aN 0 hs 99 (ii j) = some (ii (pat b j)) := by
  have kl := k.1
  rw [r.2.2.2.get kl (by omega) (by omega) (by omega), Int.toNat_natCast]
  unfold pat
  rw [if_pos (by omega), Int.toNat_natCast]
theorem X9_ru40 (k : CB b) {p e z r : Nat} (R : Run b p e) (S : RS hs x b z) (r1 : 1 ≤ r) (r2 : r ≤ 16) (hl : e - p = (nm r).length) (o5 : Nat → Int32 → Int32 → Int32 → Int32 → AH → Option Int32) : ∀ (d m i : Nat), d < m → i + d = e - p → (∀ j, j < i → pat b ((p + j : Nat) : Int) = lg (nm r) j) →
    (hereW b (nm r) p → f_X9_ruleAt_b40 o5 m 95 (ii p) (ii ((e - p : Nat) : Int)) (ii (nst r)) (ii r) (ii (nst r + (nm r).length : Nat)) (ii 1) (ii i) hs = some (ii r)) ∧
    (¬ hereW b (nm r) p → f_X9_ruleAt_b40 o5 m 95 (ii p) (ii ((e - p : Nat) : Int)) (ii (nst r)) (ii r) (ii (nst r + (nm r).length : Nat)) (ii 1) (ii i) hs = o5 95 (ii p) (ii ((e - p : Nat) : Int)) (ii (nst (r + 1))) (ii (r + 1 : Nat)) hs) := by
  obtain ⟨-, ta, tb, tc⟩ := nst_tab ⟨r, by omega⟩ r1
  dsimp only at ta tb tc
  have tl : (tx 54).length ≤ 110 := str_le (by omega)
  have nl := nm_len r1 r2
  have kl := k.1
  have ns : nst (r + 1) = nst r + (nm r).length + 1 := by
    obtain ⟨z, rfl⟩ : ∃ z, r = z + 1 := ⟨r - 1, by omega⟩
    rfl
  have eA : ii ((nst r + (nm r).length : Nat) : Int) + 1 = ii (nst (r + 1) : Nat) := by rw [il_1, ii_add, ns]; rfl
  have eB : ii (r : Int) + 1 = ii ((r + 1 : Nat) : Int) := by rw [il_1, ii_add]; rfl
  have ex := run_here R (nm_az r1 r2)
  obtain ⟨R1, R2, R3, R4⟩ := R
  intro d
  induction d with
  | zero =>
    intro m i hm hi hj
    obtain ⟨m, rfl⟩ : ∃ z, m = z + 1 := ⟨m - 1, by omega⟩
    have H : hereW b (nm r) p := ex.2 ⟨hl, fun j hj' => hj j (by omega)⟩
    refine ⟨fun _ => ?_, fun h => absurd H h⟩
    rw [f_X9_ruleAt_b40.eq_2, if_pos (by rw [ii_le (by omega) (by omega) (by omega) (by omega)]; omega)]
    unfold f_X9_ruleAt_b85
    rw [if_neg (by decide +kernel)]
  | succ d ih =>
    intro m i hm hi hj
    obtain ⟨m, rfl⟩ : ∃ z, m = z + 1 := ⟨m - 1, by omega⟩
    have hc := ta ⟨i, by omega⟩ (by dsimp only; omega)
    dsimp only at hc
    have az := nm_az r1 r2 _ (lg_mem (l := nm r) (j := i) (by omega))
    have lt := R3 (p + i) (by omega) (by omega)
    unfold letr at lt
    have ch : f_J0_charAt_5068e (SBn + 54) (ii (nst r) + ii i) = some (ii (lg (nm r) i)) := by
      rw [ii_add, str_chr (i := 54) (by omega) (by omega) (by omega), show ((nst r : Int) + i).toNat = nst r + i from by omega, hc]
    have e1 : ii (i : Int) + 1 = ii ((i + 1 : Nat) : Int) := by rw [il_1, ii_add]; rfl
    rw [f_X9_ruleAt_b40.eq_2, if_neg (by rw [ii_le (by omega) (by omega) (by omega) (by omega)]; omega), if_neg (by decide +kernel), S.1.r6, ob_some, ii_add, show (p : Int) + i = ((p + i : Nat) : Int) from rfl, S.buf k (by omega), ob_some, str_chk (by omega), ob_some, ch, ob_some, e1]
    by_cases c : pat b ((p + i : Nat) : Int) = lg (nm r) i
    · rw [if_pos (by rw [c])]
      refine ih m (i + 1) (by omega) (by omega) (fun j hj' => ?_)
      by_cases e : j = i
      · rw [e]; exact c
      · exact hj j (by omega)
    · have H : ¬ hereW b (nm r) p := fun h => c ((ex.1 h).2 i (by omega))
      refine ⟨fun h => absurd h H, fun _ => ?_⟩
      obtain ⟨m, rfl⟩ : ∃ z, m = z + 1 := ⟨m - 1, by omega⟩
      rw [if_neg (by rw [ii_eq (by omega) (by omega) (by omega) (by omega)]; exact c), f_X9_ruleAt_b40.eq_2]
      unfold f_X9_ruleAt_b85
      by_cases g : ii ((e - p : Nat) : Int) ≤ ii ((i + 1 : Nat) : Int)
      · rw [if_pos g, if_pos (by rfl), eA, eB]
      · rw [if_neg g, if_pos (by rfl), if_pos (by rfl), eA, eB]
theorem X9_ru5 (k : CB b) {p e z q : Nat} (R : Run b p e) (S : RS hs x b z) (hq : isRule b p q) : ∀ (d m r : Nat), d < m → r + d = 17 → 1 ≤ r → (∀ j, 1 ≤ j → j < r → ¬ hereW b (nm j) p) → f_X9_ruleAt_b5 m 95 (ii p) (ii ((e - p : Nat) : Int)) (ii (nst r)) (ii r) hs = some (ii q) := by
  have kl := k.1
  have re := R.2.1
  intro d
  induction d with
  | zero =>
    intro m r hm hr r1 hn
    obtain ⟨m, rfl⟩ : ∃ z, m = z + 1 := ⟨m - 1, by omega⟩
    obtain rfl : r = 17 := by omega
    have q0 : q = 0 := by
      unfold isRule at hq
      by_cases c : q = 0
      · exact c
      · rw [if_neg c] at hq
        exact absurd hq.2.2.1 (hn q hq.1 (by omega))
    rw [f_X9_ruleAt_b5.eq_2, if_pos (by decide +kernel), q0]; rfl
  | succ d ih =>
    intro m r hm hr r1 hn
    obtain ⟨m, rfl⟩ : ∃ z, m = z + 1 := ⟨m - 1, by omega⟩
    have r2 : r ≤ 16 := by omega
    have nl := nm_len r1 r2
    obtain ⟨ti, ta, tb, tc⟩ := nst_tab ⟨r, by omega⟩ r1
    dsimp only at ti ta tb tc
    have tl : (tx 54).length ≤ 110 := str_le (by omega)
    rw [f_X9_ruleAt_b5.eq_2, if_neg (by rw [il_16, ii_lt (by omega) (by omega) (by omega) (by omega)]; omega), str_chk (by omega), ob_some, ti, ob_some, ii_sub, show ((nst r + (nm r).length : Nat) : Int) - (nst r : Nat) = ((nm r).length : Int) from by omega]
    by_cases c : e - p = (nm r).length
    · obtain ⟨g1, g2⟩ := X9_ru40 k R S r1 r2 c (f_X9_ruleAt_b5 m) (e - p) FUEL 0 (by unfold FUEL; omega) (by omega) (fun j hj => by omega)
      rw [if_pos (by rw [c])]
      by_cases H : hereW b (nm r) p
      · have qr : q = r := by
          unfold isRule at hq
          by_cases y : q = 0
          · rw [if_pos y] at hq
            exact absurd H (hq r r1 r2)
          · rw [if_neg y] at hq
            by_cases y1 : q < r
            · exact absurd hq.2.2.1 (hn q hq.1 y1)
            · by_cases y2 : r < q
              · exact absurd H (hq.2.2.2 r r1 y2)
              · omega
        rw [qr]
        exact g1 H
      · refine (g2 H).trans ?_
        exact ih m (r + 1) (by omega) (by omega) (by omega) (fun j j1 j2 => by
          by_cases y : j = r
          · rw [y]; exact H
          · exact hn j j1 (by omega))
    · have H : ¬ hereW b (nm r) p := fun h => c ((run_here R (nm_az r1 r2)).1 h).1
      have ns : nst (r + 1) = nst r + (nm r).length + 1 := by
        obtain ⟨z, rfl⟩ : ∃ z, r = z + 1 := ⟨r - 1, by omega⟩
        rfl
      have eA : ii ((nst r + (nm r).length : Nat) : Int) + 1 = ii (nst (r + 1) : Nat) := by rw [il_1, ii_add, ns]; rfl
      have eB : ii (r : Int) + 1 = ii ((r + 1 : Nat) : Int) := by rw [il_1, ii_add]; rfl
      rw [if_neg (by rw [ii_eq (by omega) (by omega) (by omega) (by omega)]; omega), show FUEL = 999999 + 1 from rfl, f_X9_ruleAt_b40.eq_2]
      unfold f_X9_ruleAt_b85
      have I := ih m (r + 1) (by omega) (by omega) (by omega) (fun j j1 j2 => by
          by_cases y : j = r
          · rw [y]; exact H
          · exact hn j j1 (by omega))
      by_cases g : ii ((e - p : Nat) : Int) ≤ (0 : Int32)
      · rw [if_pos g, if_pos (by rfl), eA, eB]; exact I
      · rw [if_neg g, if_pos (by rfl), if_pos (by rfl), eA, eB]; exact I
theorem X9_ruleAt (k : CB b) {p e z q : Nat} (R : Run b p e) (S : RS hs x b z) (hq : isRule b p q) : f_X9_ruleAt 95 (ii p) (ii ((e - p : Nat) : Int)) hs = some (ii q) :=
  X9_ru5 k R S hq 16 FUEL 1 (by unfold FUEL; omega) (by omega) (by omega) (fun j j1 j2 => by omega)
theorem X9_run (k : CB b) {p : Nat} (o7 : Nat → Int32 → Int32 → AH → Option (Int32 × AH)) {v1 v2 : Int32} : ∀ (d m z : Nat) (hs : AH) (x : Nat → Int), d < m → z + d = b.length → p ≤ z → RS hs x b z → (∀ j, p ≤ j → j < z → letr b j) →
    ∃ e hs' m', Run b p e ∧ RS hs' (uz x 9 e) b e ∧ Ou hs hs' [95] ∧ f_X9_named_b12 o7 m 95 v1 v2 (ii p) hs = f_X9_named_b12 o7 (m' + 1) 95 v1 v2 (ii p) hs' := by
  have kl := k.1
  intro d
  induction d with
  | zero =>
    intro m z hs x hm hz hp S hj
    obtain ⟨m, rfl⟩ : ∃ z, m = z + 1 := ⟨m - 1, by omega⟩
    have pz := ((sgB_pat k z).2 (by omega)).2
    refine ⟨z, hs, m, ⟨hp, by omega, hj, fun h => by unfold letr at h; omega⟩, by rw [uz_id S.2.1]; exact S, Ou.refl _ _, rfl⟩
  | succ d ih =>
    intro m z hs x hm hz hp S hj
    obtain ⟨m, rfl⟩ : ∃ z, m = z + 1 := ⟨m - 1, by omega⟩
    obtain ⟨s1, s2, s3⟩ := (sgB_pat k z).1 (by omega)
    by_cases c : letr b z
    · obtain ⟨g1, e1, S1, o1⟩ := S.step (z + 1)
      obtain ⟨e, g2, m', R, S2, o2, e2⟩ := ih m (z + 1) g1 _ (by omega) (by omega) (by omega) S1 (fun j j1 j2 => by
        by_cases y : j = z
        · rw [y]; exact c
        · exact hj j j1 (by omega))
      rw [uz_uz] at S2
      refine ⟨e, g2, m', R, S2, o1.trans o2, ?_⟩
      rw [f_X9_named_b12.eq_2, S.1.chk, ob_some, S.sign k (by omega), ob_some, show (97 : Int32) = ii 97 from rfl, show (122 : Int32) = ii 122 from rfl, X9_in (by omega) (by omega) (by omega) (by omega) (by omega) (by omega), ob_some, inI_1 (by rw [s1]; exact c), if_neg (by decide +kernel), S.1.i9, S.2.1, ob_some, il_1, ii_add, show (z : Int) + 1 = ((z + 1 : Nat) : Int) from rfl, e1, ob_some]
      exact e2
    · exact ⟨z, hs, m, ⟨hp, by omega, hj, c⟩, by rw [uz_id S.2.1]; exact S, Ou.refl _ _, rfl⟩
end MWE
