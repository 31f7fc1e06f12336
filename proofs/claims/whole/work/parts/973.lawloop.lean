/-! ===== the law's loop: every call answers as the reference does ===== -/
theorem scr_ok {L : Nat} {xs : Nat → Int32} {z : Int} (h0 : 0 ≤ z) (h1 : z < L) (hL : L ≤ 2048) : scr L xs (ii z) = some (xs z.toNat) := by
  unfold scr
  rw [if_pos ⟨by rw [il_0, ii_le (by omega) (by omega) (by omega) (by omega)]; exact h0, by rw [ii_nat (by omega) (by omega)]; omega⟩, ii_nat (by omega) (by omega)]
set_option maxHeartbeats 4000000 in
theorem law_step (L : Nat) (hL : L ≤ 2048) (xs : Nat → Int32) (n i : Nat) (hi : 4 * i + 4 ≤ L) {hs : AH} (I : Inv hs) (hK : ∀ hs2, Inv hs2 → f_L_law_b23 L xs n 0 95 105 (ii (4 * (i : Int)) + 4) hs2 = some 1) : f_L_law_b23 L xs (n + 1) 0 95 105 (ii (4 * (i : Int))) hs = some 1 := by
  obtain ⟨t, th, v, hc, hm, k, ou⟩ := I
  have s0 := scr_ok (xs := xs) (L := L) (z := 4 * (i : Int)) (by omega) (by omega) hL
  have s1 : scr L xs (ii (4 * (i : Int)) + 1) = some (xs (4 * (i : Int) + 1).toNat) := by rw [il_1, ii_add]; exact scr_ok (by omega) (by omega) hL
  have s2 : scr L xs (ii (4 * (i : Int)) + 2) = some (xs (4 * (i : Int) + 2).toNat) := by rw [il_2, ii_add]; exact scr_ok (by omega) (by omega) hL
  have s3 : scr L xs (ii (4 * (i : Int)) + 3) = some (xs (4 * (i : Int) + 3).toNat) := by rw [il_3, ii_add]; exact scr_ok (by omega) (by omega) hL
  obtain ⟨a1, q1, l1, u1⟩ := i32 (xs (4 * (i : Int) + 1).toNat)
  obtain ⟨a2, q2, l2, u2⟩ := i32 (xs (4 * (i : Int) + 2).toNat)
  obtain ⟨a3, q3, l3, u3⟩ := i32 (xs (4 * (i : Int) + 3).toNat)
  rw [q1] at s1
  rw [q2] at s2
  rw [q3] at s3
  generalize xs (4 * (i : Int)).toNat = x0 at s0
  rw [f_L_law_b23.eq_2, if_neg (by rw [ii_ofNat, il_4, ii_sub, ii_lt (by omega) (by omega) (by omega) (by omega)]; omega), s0, ob_some]
  by_cases c0 : (x0 &&& 63) = 0
  · rw [if_pos c0]
    simp only [↓ob_of s1]
    exact seg_ok (fl := fun hs => f_L_append 0 (ii a1) 105 hs) (f9 := f_X9_append 95 (ii a1)) (K := fun hs2 => f_L_law_b23 L xs n 0 95 105 (ii (4 * (i : Int)) + 4) hs2) hc hm ou (J_append hc k (ii a1)) (W_append (ii a1) hs) (by decide) hK
  rw [if_neg c0]
  by_cases c1 : (x0 &&& 63) = 1
  · rw [if_pos c1]
    exact seg_ok (fl := fun hs => f_L_cantus 0 105 hs) (f9 := f_X9_cantus 95) (K := fun hs2 => f_L_law_b23 L xs n 0 95 105 (ii (4 * (i : Int)) + 4) hs2) hc hm ou (J_cantus hc k) (W_cantus hs) (by decide) hK
  rw [if_neg c1]
  by_cases c2 : (x0 &&& 63) = 2
  · rw [if_pos c2]
    exact seg_ok (fl := fun hs => f_L_counterpoint 0 105 hs) (f9 := f_X9_counterpoint 95) (K := fun hs2 => f_L_law_b23 L xs n 0 95 105 (ii (4 * (i : Int)) + 4) hs2) hc hm ou (J_counterpoint hc k) (W_counterpoint hs) (by decide) hK
  rw [if_neg c2]
  by_cases c3 : (x0 &&& 63) = 3
  · rw [if_pos c3]
    obtain ⟨g, e, m, o⟩ := X9_errorPosition (t := t) (cl := []) hs th hm
    rw [hc.chk, ob_some, X8_errorPosition hc, ob_some, hm.chk, ob_some, e, ob_some]
    dsimp only
    show (if ii t.err = ii t.err then _ else _) = _
    rw [if_pos rfl]
    exact hK g ⟨t, _, v, hc.out o (by omega), m, k, ou.out o (by omega)⟩
  rw [if_neg c3]
  by_cases c4 : (x0 &&& 63) = 4
  · rw [if_pos c4]
    simp only [↓ob_of s1]
    exact seg_ok (fl := fun hs => f_L_setSpecies 0 (ii a1) 105 hs) (f9 := f_X9_setSpecies 95 (ii a1)) (K := fun hs2 => f_L_law_b23 L xs n 0 95 105 (ii (4 * (i : Int)) + 4) hs2) hc hm ou (J_setSpecies hc k l1 u1) (W_setSpecies (ii a1) hs) (by decide) hK
  rw [if_neg c4]
  by_cases c5 : (x0 &&& 63) = 5
  · rw [if_pos c5]
    have fin : ∀ b : Int, (b = 0 ∨ b = 1) → ∃ z g g', f_X8_setPosition 0 (ii b) hs = some (z, g) ∧ chk g 95 9 = some () ∧ f_X9_setPosition 95 (ii b) g = some (z, g') ∧ Inv g' := by
      intro b hb
      obtain ⟨g, e, q, o⟩ := X8_setPosition hc k.1.1 hb
      have m1 := hm.out o (by omega)
      obtain ⟨g', e', m', o'⟩ := X9_setPosition k (cl := []) hb g th m1
      exact ⟨_, g, g', e, m1.chk, e', ⟨_, _, v, q.out o' (by omega), m', k.keep (k.1.bel hb), (ou.out o (by omega)).out o' (by omega)⟩⟩
    obtain ⟨z0, g0, h0, e0, d0, r0, I0⟩ := fin 0 (Or.inl rfl)
    obtain ⟨z1, g1, h1, e1, d1, r1, I1⟩ := fin 1 (Or.inr rfl)
    rw [s1, ob_some]
    by_cases w : ii a1 = 0
    · rw [if_pos w, hc.chk, ob_some, show f_X8_setPosition 0 0 hs = _ from e0, ob_some, ob_some, if_pos w]
      dsimp only
      rw [d0, ob_some, show f_X9_setPosition 95 0 g0 = _ from r0, ob_some]
      dsimp only
      rw [if_pos rfl]
      exact hK h0 I0
    · rw [if_neg w, hc.chk, ob_some, show f_X8_setPosition 0 1 hs = _ from e1, ob_some, ob_some, if_neg w]
      dsimp only
      rw [d1, ob_some, show f_X9_setPosition 95 1 g1 = _ from r1, ob_some]
      dsimp only
      rw [if_pos rfl]
      exact hK h1 I1
  rw [if_neg c5]
  by_cases c6 : (x0 &&& 63) = 6
  · rw [if_pos c6]
    simp only [↓ob_of s1, ↓ob_of s2]
    exact seg_ok (fl := fun hs => f_L_set 0 (ii a1) (ii a2) 105 hs) (f9 := f_X9_set 95 (ii a1) (ii a2)) (K := fun hs2 => f_L_law_b23 L xs n 0 95 105 (ii (4 * (i : Int)) + 4) hs2) hc hm ou (J_set hc k l1 u1 l2 u2) (W_set (ii a1) (ii a2) hs) (by decide) hK
  rw [if_neg c6]
  by_cases c7 : (x0 &&& 63) = 7
  · rw [if_pos c7]
    simp only [↓ob_of s1, ↓ob_of s2, ↓ob_of s3]
    exact seg_ok (fl := fun hs => f_L_setNote 0 (ii a1) (ii a2) (ii a3) 105 hs) (f9 := f_X9_setNote 95 (ii a1) (ii a2) (ii a3)) (K := fun hs2 => f_L_law_b23 L xs n 0 95 105 (ii (4 * (i : Int)) + 4) hs2) hc hm ou (J_setNote hc k l1 u1 l2 u2 l3 u3) (W_setNote (ii a1) (ii a2) (ii a3) hs) (by decide) hK
  rw [if_neg c7]
  by_cases c8 : (x0 &&& 63) = 8
  · rw [if_pos c8]
    simp only [↓ob_of s1, ↓ob_of s2]
    exact seg_ok (fl := fun hs => f_L_note 0 (ii a1) (ii a2) 105 hs) (f9 := f_X9_note 95 (ii a1) (ii a2)) (K := fun hs2 => f_L_law_b23 L xs n 0 95 105 (ii (4 * (i : Int)) + 4) hs2) hc hm ou (J_note hc k l1 u1 l2 u2) (W_note (ii a1) (ii a2) hs) (by decide) hK
  rw [if_neg c8]
  by_cases c9 : (x0 &&& 63) = 9
  · rw [if_pos c9]
    simp only [↓ob_of s1, ↓ob_of s2]
    exact seg_ok (fl := fun hs => f_L_noteOf 0 (ii a1) (ii a2) 105 hs) (f9 := f_X9_noteOf 95 (ii a1) (ii a2)) (K := fun hs2 => f_L_law_b23 L xs n 0 95 105 (ii (4 * (i : Int)) + 4) hs2) hc hm ou (J_noteOf hc k l1 u1 l2 u2) (W_noteOf (ii a1) (ii a2) hs) (by decide) hK
  rw [if_neg c9]
  by_cases c10 : (x0 &&& 63) = 10
  · rw [if_pos c10]
    rw [s1, ob_some]
    by_cases w : ii a1 = 0
    · rw [if_pos w]
      simp only [↓ob_some, ↓ob_of s2, if_pos w]
      exact seg_ok (fl := fun hs => f_L_text 0 0 (ii a2) 105 hs) (f9 := f_X9_text 95 0 (ii a2)) (K := fun hs2 => f_L_law_b23 L xs n 0 95 105 (ii (4 * (i : Int)) + 4) hs2) hc hm ou (J_text hc k (b := 0) (Or.inl rfl) l2 u2) (W_text 0 (ii a2) hs) (by decide) hK
    · rw [if_neg w]
      simp only [↓ob_some, ↓ob_of s2, if_neg w]
      exact seg_ok (fl := fun hs => f_L_text 0 1 (ii a2) 105 hs) (f9 := f_X9_text 95 1 (ii a2)) (K := fun hs2 => f_L_law_b23 L xs n 0 95 105 (ii (4 * (i : Int)) + 4) hs2) hc hm ou (J_text hc k (b := 1) (Or.inr rfl) l2 u2) (W_text 1 (ii a2) hs) (by decide) hK
  rw [if_neg c10]
  by_cases c11 : (x0 &&& 63) = 11
  · rw [if_pos c11]
    simp only [↓ob_of s1, ↓ob_of s2, ↓ob_of s3]
    exact seg_ok (fl := fun hs => f_L_interval 0 (ii a1) (ii a2) (ii a3) 105 hs) (f9 := f_X9_interval 95 (ii a1) (ii a2) (ii a3)) (K := fun hs2 => f_L_law_b23 L xs n 0 95 105 (ii (4 * (i : Int)) + 4) hs2) hc hm ou (J_interval hc k l1 u1 l2 u2 l3 u3) (W_interval (ii a1) (ii a2) (ii a3) hs) (by decide) hK
  rw [if_neg c11]
  by_cases c12 : (x0 &&& 63) = 12
  · rw [if_pos c12]
    simp only [↓ob_of s1]
    exact seg_ok (fl := fun hs => f_L_motion 0 (ii a1) 105 hs) (f9 := f_X9_motion 95 (ii a1)) (K := fun hs2 => f_L_law_b23 L xs n 0 95 105 (ii (4 * (i : Int)) + 4) hs2) hc hm ou (J_motion hc k l1 u1) (W_motion (ii a1) hs) (by decide) hK
  rw [if_neg c12]
  by_cases c13 : (x0 &&& 63) = 13
  · rw [if_pos c13]
    simp only [↓ob_of s1]
    exact seg_ok (fl := fun hs => f_L_motions 0 (ii a1) 105 hs) (f9 := f_X9_motions 95 (ii a1)) (K := fun hs2 => f_L_law_b23 L xs n 0 95 105 (ii (4 * (i : Int)) + 4) hs2) hc hm ou (J_motions hc k l1 u1) (W_motions (ii a1) hs) (by decide) hK
  rw [if_neg c13]
  by_cases c14 : (x0 &&& 63) = 14
  · rw [if_pos c14]
    exact seg_ok (fl := fun hs => f_L_contraryBits 0 105 hs) (f9 := f_X9_contraryBits 95) (K := fun hs2 => f_L_law_b23 L xs n 0 95 105 (ii (4 * (i : Int)) + 4) hs2) hc hm ou (J_contrary hc k) (W_contraryBits hs) (by decide) hK
  rw [if_neg c14]
  by_cases c15 : (x0 &&& 63) = 15
  · rw [if_pos c15]
    obtain ⟨m8a, m8b⟩ := X8_mean hc k.1
    unfold f_L_meanBits
    rw [hc.chk, ob_some]
    by_cases w : t.now.md.length = 0
    · obtain ⟨g, e, m, o⟩ := (X9_mean k.1 hm).1 w
      rw [m8a w]
      show ((some ((1 : Int32), hs) : Option (Int32 × AH)).bind _) = _
      rw [ob_some]
      dsimp only
      rw [hm.chk, ob_some, e, ob_some]
      dsimp only
      rw [m.chk, ob_some, m.thr, ob_some, if_pos (by rfl), if_neg (by decide +kernel)]
      exact hK g ⟨t, _, v, hc.out o (by omega), m, k, ou.out o (by omega)⟩
    · obtain ⟨g1, e1, qc, o1⟩ := m8b w
      obtain ⟨g2, e2, ou2, o2⟩ := (ou.out o1 (by omega)).put (mbZ t.now)
      have m2 := (hm.out o1 (by omega)).out o2 (by omega)
      obtain ⟨g3, e3, m3, o3⟩ := (X9_mean k.1 m2).2 w
      have ou3 := ou2.out o3 (by omega)
      rw [e1]
      show ((((sL g1 105 0 (mbZ t.now)).bind fun hs5 => some ((0 : Int32), hs5)) : Option (Int32 × AH)).bind _) = _
      rw [e2, ob_some, ob_some]
      dsimp only
      rw [m2.chk, ob_some, e3, ob_some]
      dsimp only
      rw [m3.chk, ob_some, m3.thr, ob_some, if_pos (by rfl), if_pos rfl, ou3.get, ob_some, if_pos (lcmp_self _)]
      exact hK g3 ⟨t, 0, _, (qc.out o2 (by omega)).out o3 (by omega), m3, k, ou3⟩
  rw [if_neg c15]
  by_cases c16 : (x0 &&& 63) = 16
  · rw [if_pos c16]
    simp only [↓ob_of s1, ↓ob_of s2]
    exact seg_ok (fl := fun hs => f_L_setWeight 0 (ii a1) (ii a2) 105 hs) (f9 := f_X9_setWeight 95 (ii a1) (ii a2)) (K := fun hs2 => f_L_law_b23 L xs n 0 95 105 (ii (4 * (i : Int)) + 4) hs2) hc hm ou (J_setWeight hc k l1 u1 l2 u2) (W_setWeight (ii a1) (ii a2) hs) (by decide) hK
  rw [if_neg c16]
  by_cases c17 : (x0 &&& 63) = 17
  · rw [if_pos c17]
    exact seg_ok (fl := fun hs => f_L_weights 0 105 hs) (f9 := f_X9_weights 95) (K := fun hs2 => f_L_law_b23 L xs n 0 95 105 (ii (4 * (i : Int)) + 4) hs2) hc hm ou (J_weights hc k) (W_weights hs) (by decide) hK
  rw [if_neg c17]
  by_cases c18 : (x0 &&& 63) = 18
  · rw [if_pos c18]
    simp only [↓ob_of s1]
    exact seg_ok (fl := fun hs => f_L_weight 0 (ii a1) 105 hs) (f9 := f_X9_weight 95 (ii a1)) (K := fun hs2 => f_L_law_b23 L xs n 0 95 105 (ii (4 * (i : Int)) + 4) hs2) hc hm ou (J_weight hc k l1 u1) (W_weight (ii a1) hs) (by decide) hK
  rw [if_neg c18]
  by_cases c19 : (x0 &&& 63) = 19
  · rw [if_pos c19]
    simp only [↓ob_of s1, ↓ob_of s2]
    exact seg_ok (fl := fun hs => f_L_fault 0 (ii a1) (ii a2) 105 hs) (f9 := f_X9_fault 95 (ii a1) (ii a2)) (K := fun hs2 => f_L_law_b23 L xs n 0 95 105 (ii (4 * (i : Int)) + 4) hs2) hc hm ou (J_fault hc k l1 u1 l2 u2) (W_fault (ii a1) (ii a2) hs) (by decide) hK
  rw [if_neg c19]
  by_cases c20 : (x0 &&& 63) = 20
  · rw [if_pos c20]
    simp only [↓ob_of s1, ↓ob_of s2]
    exact seg_ok (fl := fun hs => f_L_explain 0 (ii a1) (ii a2) 105 hs) (f9 := f_X9_explain 95 (ii a1) (ii a2)) (K := fun hs2 => f_L_law_b23 L xs n 0 95 105 (ii (4 * (i : Int)) + 4) hs2) hc hm ou (J_explain hc k l1 u1 l2 u2) (W_explain (ii a1) (ii a2) hs) (by decide) hK
  rw [if_neg c20]
  by_cases c21 : (x0 &&& 63) = 21
  · rw [if_pos c21]
    simp only [↓ob_of s1]
    exact seg_ok (fl := fun hs => f_L_faults 0 (ii a1) 105 hs) (f9 := f_X9_faults 95 (ii a1)) (K := fun hs2 => f_L_law_b23 L xs n 0 95 105 (ii (4 * (i : Int)) + 4) hs2) hc hm ou (J_faults hc k l1 u1) (W_faults (ii a1) hs) (by decide) hK
  rw [if_neg c21]
  by_cases c22 : (x0 &&& 63) = 22
  · rw [if_pos c22]
    simp only [↓ob_of s1]
    exact seg_ok (fl := fun hs => f_L_faultsIn 0 (ii a1) 105 hs) (f9 := f_X9_faultsIn 95 (ii a1)) (K := fun hs2 => f_L_law_b23 L xs n 0 95 105 (ii (4 * (i : Int)) + 4) hs2) hc hm ou (J_faultsIn hc k l1 u1) (W_faultsIn (ii a1) hs) (by decide) hK
  rw [if_neg c22]
  by_cases c23 : (x0 &&& 63) = 23
  · rw [if_pos c23]
    exact seg_ok (fl := fun hs => f_L_cost 0 105 hs) (f9 := f_X9_cost 95) (K := fun hs2 => f_L_law_b23 L xs n 0 95 105 (ii (4 * (i : Int)) + 4) hs2) hc hm ou (J_cost hc k) (W_cost hs) (by decide) hK
  rw [if_neg c23]
  by_cases c24 : (x0 &&& 63) = 24
  · rw [if_pos c24]
    simp only [↓ob_of s1, ↓ob_of s2]
    exact seg_ok (fl := fun hs => f_L_better 0 (ii a1) (ii a2) 105 hs) (f9 := f_X9_better 95 (ii a1) (ii a2)) (K := fun hs2 => f_L_law_b23 L xs n 0 95 105 (ii (4 * (i : Int)) + 4) hs2) hc hm ou (J_better hc k l1 u1 l2 u2) (W_better (ii a1) (ii a2) hs) (by decide) hK
  rw [if_neg c24]
  by_cases c25 : (x0 &&& 63) = 25
  · rw [if_pos c25]
    simp only [↓ob_of s1, ↓ob_of s2, ↓ob_of s3]
    exact seg_ok (fl := fun hs => f_L_costWith 0 (ii a1) (ii a2) (ii a3) 105 hs) (f9 := f_X9_costWith 95 (ii a1) (ii a2) (ii a3)) (K := fun hs2 => f_L_law_b23 L xs n 0 95 105 (ii (4 * (i : Int)) + 4) hs2) hc hm ou (J_costWith hc k l1 u1 l2 u2 l3 u3) (W_costWith (ii a1) (ii a2) (ii a3) hs) (by decide) hK
  rw [if_neg c25]
  by_cases c26 : (x0 &&& 63) = 26
  · rw [if_pos c26]
    exact seg_ok (fl := fun hs => f_L_search 0 105 hs) (f9 := f_X9_search 95) (K := fun hs2 => f_L_law_b23 L xs n 0 95 105 (ii (4 * (i : Int)) + 4) hs2) hc hm ou (J_search hc k) (W_search hs) (by decide) hK
  rw [if_neg c26]
  by_cases c27 : (x0 &&& 63) = 27
  · rw [if_pos c27]
    simp only [↓ob_of s1]
    exact seg_ok (fl := fun hs => f_L_suggested 0 (ii a1) 105 hs) (f9 := f_X9_suggested 95 (ii a1)) (K := fun hs2 => f_L_law_b23 L xs n 0 95 105 (ii (4 * (i : Int)) + 4) hs2) hc hm ou (J_suggested hc k l1 u1) (W_suggested (ii a1) hs) (by decide) hK
  rw [if_neg c27]
  by_cases c28 : (x0 &&& 63) = 28
  · rw [if_pos c28]
    exact seg_ok (fl := fun hs => f_L_adopt 0 105 hs) (f9 := f_X9_adopt 95) (K := fun hs2 => f_L_law_b23 L xs n 0 95 105 (ii (4 * (i : Int)) + 4) hs2) hc hm ou (J_adopt hc k) (W_adopt hs) (by decide) hK
  rw [if_neg c28]
  by_cases c29 : (x0 &&& 63) = 29
  · rw [if_pos c29]
    simp only [↓ob_of s1]
    exact seg_ok (fl := fun hs => f_L_count 0 (ii a1) 105 hs) (f9 := f_X9_count 95 (ii a1)) (K := fun hs2 => f_L_law_b23 L xs n 0 95 105 (ii (4 * (i : Int)) + 4) hs2) hc hm ou (J_count hc k l1 u1) (W_count (ii a1) hs) (by decide) hK
  rw [if_neg c29]
  by_cases c30 : (x0 &&& 63) = 30
  · rw [if_pos c30]
    exact seg_ok (fl := fun hs => f_L_undo 0 105 hs) (f9 := f_X9_undo 95) (K := fun hs2 => f_L_law_b23 L xs n 0 95 105 (ii (4 * (i : Int)) + 4) hs2) hc hm ou (J_undo hc k) (W_undo hs) (by decide) hK
  rw [if_neg c30]
  by_cases c31 : (x0 &&& 63) = 31
  · rw [if_pos c31]
    obtain ⟨g, e, q, o⟩ := X8_save hc k.1 k.2.1
    have m1 := hm.out o (by omega)
    obtain ⟨g', e', m', o'⟩ := X9_save k (cl := []) g th m1
    have k' : StOK (t.1, t.1, 1, t.2.2.2) := by
      obtain ⟨k1, k2, k3, k4, k5, k6, k7, k8, k9, k10⟩ := k
      exact ⟨k1, k1, Or.inr rfl, k4, k5, k6, k7, k8, k9, k10⟩
    rw [hc.chk, ob_some, e, ob_some]
    dsimp only
    rw [m1.chk, ob_some, e', ob_some]
    dsimp only
    show (if ii (t.now.gv.length : Int) = ii (t.now.gv.length : Int) then _ else _) = _
    rw [if_pos rfl]
    exact hK g' ⟨_, _, v, q.out o' (by omega), m', k', (ou.out o (by omega)).out o' (by omega)⟩
  rw [if_neg c31]
  by_cases c32 : (x0 &&& 63) = 32
  · rw [if_pos c32]
    exact seg_ok (fl := fun hs => f_L_restore 0 105 hs) (f9 := f_X9_restore 95) (K := fun hs2 => f_L_law_b23 L xs n 0 95 105 (ii (4 * (i : Int)) + 4) hs2) hc hm ou (J_restore hc k) (W_restore hs) (by decide) hK
  rw [if_neg c32]
  exact hK hs ⟨t, th, v, hc, hm, k, ou⟩
theorem law_loop (L : Nat) (hL : L ≤ 2048) (xs : Nat → Int32) : ∀ (n i : Nat) (hs : AH), L + 4 ≤ 4 * (i + n) → 4 * i ≤ L → Inv hs → f_L_law_b23 L xs n 0 95 105 (ii (4 * (i : Int))) hs = some 1 := by
  intro n
  induction n with
  | zero => intro i hs h1 h2; omega
  | succ n ih =>
    intro i hs h1 h2 I
    by_cases c : 4 * i + 4 ≤ L
    · refine law_step L hL xs n i c I (fun hs2 I2 => ?_)
      have := ih (i + 1) hs2 (by omega) (by omega) I2
      rw [il_4, ii_add, show 4 * (i : Int) + 4 = 4 * ((i + 1 : Nat) : Int) from by omega]
      exact this
    · rw [f_L_law_b23.eq_2, if_pos (by rw [ii_ofNat, il_4, ii_sub, ii_lt (by omega) (by omega) (by omega) (by omega)]; omega)]
