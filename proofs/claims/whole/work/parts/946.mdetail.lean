/-! ===== the reference: suspensions, direct motions, the detail ===== -/
section MDE
variable {hs : AH} {f : Nat → Int} {s : Sh}
theorem X9_sus95 (w : NW hs f) (n : NoA f s) (k : SOK s) {p g v : Int} (hg : 42 ≤ g ∧ g ≤ 146) (h0 : lat s.md p ≠ -1) (hv : v = 0 ∨ v = 1) : f_X9_suspend_b95 95 (ii p) (ii g) (ii v) hs = some (ii (if v = 0 then wid (lat s.md p) g else -1)) := by
  obtain ⟨l0, b0⟩ := w.ln n k h0
  unfold f_X9_suspend_b95
  rcases hv with e | e
  · rw [if_pos (by rw [e]; rfl), if_pos e, w.1, ob_some, l0, ob_some, X9_width b0 hg, ob_some]
  · rw [if_neg (by rw [e]; decide +kernel), if_neg (by omega)]; rfl
theorem X9_suspend (w : NW hs f) (n : NoA f s) (k : SOK s) (q : Wl s) {p : Int} (h0 : lat s.md p ≠ -1) : f_X9_suspend 95 (ii p) (ii s.md.length) hs = some (ii (if susD s p = 0 then -1 else (har s p).2.2.1)) := by
  obtain ⟨l0, b0⟩ := w.ln n k h0
  obtain ⟨p0, p1⟩ := lat_lt h0
  have ml := k.ml
  obtain ⟨v0, v1, v2, v3, v4⟩ := barb (s := s) p0 (by omega)
  obtain ⟨c0, g0⟩ := w.cn n k v0 (q.2.1 p p0 p1)
  have hh := har_on k q h0
  have hc : conS (har s p) = conS (spn (lat s.md p) (lat s.gv (p / per s.sp))) := by unfold har; rw [conS_comm g0 b0]
  have cb := conS_b (har s p)
  have tb := tie_b s p
  have fin : ∀ v, (v = 0 ∨ v = 1) → f_X9_suspend_b95 95 (ii p) (ii (lat s.gv (p / per s.sp))) (ii v) hs = some (ii (if v = 0 then (har s p).2.2.1 else -1)) := by
    intro v hv
    rw [X9_sus95 w n k g0 h0 hv, hh, wid_comm]
  have f0 := fin 0 (Or.inl rfl)
  have f1 := fin 1 (Or.inr rfl)
  rw [if_pos (by rfl)] at f0
  rw [if_neg (by omega)] at f1
  unfold f_X9_suspend susD
  rw [w.1, ob_some, X9_barOf w n k p0 (by omega), ob_some, ob_some, c0, ob_some, ob_some, X9_isTied w n k p0 p1 h0, ob_some]
  by_cases a : tie s p = 0
  · rw [if_pos (by rw [a]; rfl), if_pos a, if_pos (by rfl)]; rfl
  rw [if_neg (by rw [il_0, ii_eq (by omega) (by omega) (by omega) (by omega)]; exact a), if_neg a, ob_some, l0, ob_some, X9_isConsonant b0 g0, ob_some, ← hc]
  by_cases d : conS (har s p) = 0
  · rw [if_pos (by rw [d]; rfl), if_pos d, ob_some, il_1, ii_add, X9_isNote w n k (by omega) (by omega), ob_some]
    by_cases e : lat s.md (p + 1) = -1
    · have i0 : isN s (p + 1) = 0 := if_pos e
      rw [i0, if_pos (by rfl), if_pos e, if_neg (by omega), show (0 : Int32) = ii 0 from rfl, f0]
    · have i1 : isN s (p + 1) = 1 := if_neg e
      obtain ⟨l1, b1⟩ := w.ln n k e
      obtain ⟨u0, u1⟩ := lat_lt e
      obtain ⟨z0, z1, -⟩ := barb (s := s) u0 (by omega)
      obtain ⟨c1, g1⟩ := w.cn n k z0 (q.2.1 (p + 1) u0 u1)
      have hc1 : conS (har s (p + 1)) = conS (spn (lat s.md (p + 1)) (lat s.gv ((p + 1) / per s.sp))) := by unfold har; rw [conS_comm g1 b1]
      have cb1 := conS_b (har s (p + 1))
      have sp0 := stp_bd b0
      have sp1 := stp_bd b1
      rw [i1, if_neg (by decide +kernel), if_neg e]
      simp only [↓ob_some, ↓ob_of (w.1), ↓ob_of (l1), ↓ob_of (l0), ↓ob_of (X9_stepOf (c := lat s.md (p + 1)) (by omega) (by omega)), ↓ob_of (X9_stepOf (c := lat s.md p) (by omega) (by omega)), ↓ob_of (X9_barOf w n k u0 (by omega)), ↓ob_of (c1), ↓ob_of (X9_isConsonant b1 g1)]
      rw [ii_sub, ← hc1]
      by_cases y : stp (lat s.md (p + 1)) = stp (lat s.md p) - 1
      · rw [if_pos (by rw [y]), if_pos y]
        by_cases x : conS (har s (p + 1)) = 0
        · rw [if_pos (by rw [x]; rfl), if_pos x, if_neg (by omega), show (0 : Int32) = ii 0 from rfl, f0]
        · rw [if_neg (by rw [il_0, ii_eq (by omega) (by omega) (by omega) (by omega)]; exact x), if_neg x, if_pos (by rfl), f1]
      · rw [if_neg (by rw [ii_eq (by omega) (by omega) (by omega) (by omega)]; exact y), if_neg y, if_neg (by omega), show (0 : Int32) = ii 0 from rfl, f0]
  · rw [if_neg (by rw [il_0, ii_eq (by omega) (by omega) (by omega) (by omega)]; exact d), if_neg d, if_pos (by rfl)]; rfl
theorem X9_dir135 (w : NW hs f) (n : NoA f s) (k : SOK s) {p g v : Int} (hg : 42 ≤ g ∧ g ≤ 146) (h0 : lat s.md p ≠ -1) (hv : 0 ≤ v ∧ v ≤ 40) : f_X9_direct_b135 95 (ii p) (ii g) (ii v) hs = some (ii (if v ≤ 1 then -1 else prf g (lat s.md p))) := by
  obtain ⟨l0, b0⟩ := w.ln n k h0
  unfold f_X9_direct_b135
  by_cases e : v ≤ 1
  · rw [if_pos (by rw [il_1, ii_le (by omega) (by omega) (by omega) (by omega)]; exact e), if_pos e]; rfl
  · rw [if_neg (by rw [il_1, ii_le (by omega) (by omega) (by omega) (by omega)]; exact e), if_neg e, w.1, ob_some, l0, ob_some, X9_perfect b0 hg, ob_some, prf_comm]
theorem X9_direct (w : NW hs f) (n : NoA f s) (k : SOK s) (q : Wl s) {p : Int} (h0 : lat s.md p ≠ -1) (hz : p % per s.sp = 0) (hb1 : 1 ≤ p / per s.sp) : f_X9_direct 95 (ii p) hs = some (ii (if dirD s p = 0 then -1 else (har s p).2.2.2.2)) := by
  obtain ⟨l0, b0⟩ := w.ln n k h0
  obtain ⟨p0, p1⟩ := lat_lt h0
  have ml := k.ml
  obtain ⟨v0, v1, v2, v3, v4, v5, v6⟩ := barb (s := s) p0 (by omega)
  have hb := q.2.1 p p0 p1
  obtain ⟨c0, g0⟩ := w.cn n k v0 hb
  obtain ⟨c1, g1⟩ := w.cn n k (b := p / per s.sp - 1) (by omega) (by omega)
  have hh := har_on k q h0
  have hcm : cmvS s p = (1, sts (lat s.gv (p / per s.sp - 1)) (lat s.gv (p / per s.sp)), wid (lat s.gv (p / per s.sp - 1)) (lat s.gv (p / per s.sp)), dir (lat s.gv (p / per s.sp - 1)) (lat s.gv (p / per s.sp)), prf (lat s.gv (p / per s.sp - 1)) (lat s.gv (p / per s.sp))) := spn_on g1 g0
  have e0 := v4 hz
  have z0 : 0 ≤ p - 1 := by rcases per_3 s.sp with z | z | z <;> rw [z] at hb1 e0 <;> omega
  have zb : (p - 1) / per s.sp = p / per s.sp - 1 := by rcases per_3 s.sp with z | z | z <;> rw [z] at hb1 e0 ⊢ <;> omega
  have L1 := X9_line w n z0 (show p - 1 < (s.md.length : Int) by omega) ml
  have m1 := k.mdi (p - 1)
  have par := X9_isPar w n k q h0 z0 (show p - 1 < (s.md.length : Int) by omega) zb
  have pb := parF_b s p (har s (p - 1)) (p - 1)
  have e9 : p / per s.sp * per s.sp - 1 = p - 1 := by rw [e0]
  have p3 := prf_3 (lat s.gv (p / per s.sp)) (lat s.md p)
  have d2 := dir_3 (lat s.gv (p / per s.sp - 1)) (lat s.gv (p / per s.sp))
  have d3 := dir_3 (lat s.gv (p / per s.sp)) (lat s.md p)
  have s2 := sts_bd g1 g0
  have pg := pit_bd g0
  have pc := pit_bd b0
  unfold f_X9_direct dirD dir2
  rw [if_pos hz, e9, il_m1, il_1]
  simp only [↓ob_some, ↓ob_of (w.1), ↓ob_of (X9_barOf w n k p0 (by omega))]
  rw [ii_sub, ii_sub]
  simp only [↓ob_some, ↓ob_of (w.1), ↓ob_of (c0), ↓ob_of (c1), ↓ob_of (l0), ↓ob_of (L1), ↓ob_of (par), ↓ob_of (X9_perfect b0 g0)]
  rw [prf_comm (lat s.md p), hh]
  dsimp only
  by_cases a : prf (lat s.gv (p / per s.sp)) (lat s.md p) = 0
  · rw [if_pos (by rw [a]; rfl), if_pos a, if_pos (by rfl)]
  rw [if_neg (by rw [il_0, ii_eq (by omega) (by omega) (by omega) (by omega)]; exact a), if_neg a]
  by_cases e : lat s.md (p - 1) = -1
  · have : withS (arrS s p) (cmvS s p) = 0 := by unfold withS arrS; rw [spn_0 (Or.inl e), if_pos (by rfl)]
    rw [if_pos (by rw [e]), this, if_pos (by rfl)]
  obtain ⟨l1, b1⟩ := w.ln n k e
  have s1 := sts_bd b1 b0
  have har' : arrS s p = (1, sts (lat s.md (p - 1)) (lat s.md p), wid (lat s.md (p - 1)) (lat s.md p), dir (lat s.md (p - 1)) (lat s.md p), prf (lat s.md (p - 1)) (lat s.md p)) := spn_on b1 b0
  have d1 := dir_3 (lat s.md (p - 1)) (lat s.md p)
  have dm := dir_mul (lat s.md (p - 1)) (lat s.md p) (lat s.gv (p / per s.sp - 1)) (lat s.gv (p / per s.sp))
  rw [if_neg (by rw [ii_eq (by omega) (by omega) (by omega) (by omega)]; exact e)]
  have wS : withS (arrS s p) (cmvS s p) = if 0 < dir (lat s.md (p - 1)) (lat s.md p) * dir (lat s.gv (p / per s.sp - 1)) (lat s.gv (p / per s.sp)) then 1 else 0 := by
    rw [har', hcm]
    unfold withS
    dsimp only
    rcases d1 with a | a | a <;> rcases d2 with b | b | b <;> rw [a, b] <;> rfl
  have lA : leapS (arrS s p) = if sts (lat s.md (p - 1)) (lat s.md p) ≤ 1 then 0 else 1 := by rw [har']; rfl
  have lC : leapS (cmvS s p) = if sts (lat s.gv (p / per s.sp - 1)) (lat s.gv (p / per s.sp)) ≤ 1 then 0 else 1 := by rw [hcm]; rfl
  have dd : dir (lat s.gv (p / per s.sp)) (lat s.md p) < 0 ↔ pit (lat s.md p) < pit (lat s.gv (p / per s.sp)) := by
    unfold dir
    by_cases x : 0 < pit (lat s.md p) - pit (lat s.gv (p / per s.sp))
    · rw [if_pos x]; omega
    · rw [if_neg x]
      by_cases y : pit (lat s.md p) - pit (lat s.gv (p / per s.sp)) < 0
      · rw [if_pos y]; omega
      · rw [if_neg y]; omega
  rw [wS, lA, lC]
  have pp : prf (lat s.gv (p / per s.sp)) (lat s.md p) ≠ -1 := by omega
  by_cases pz : parF s p (har s (p - 1)) (p - 1) = 0
  · rw [if_pos (by rw [pz]; rfl), if_pos pz]
    simp only [↓ob_some, ↓ob_of (X9_direction b1 b0), ↓ob_of (X9_direction g1 g0), ↓ob_of (X9_pitchOf (c := lat s.md p) (by omega) (by omega)), ↓ob_of (X9_pitchOf (c := lat s.gv (p / per s.sp)) (by omega) (by omega))]
    rw [ii_mul]
    by_cases x : 0 < dir (lat s.md (p - 1)) (lat s.md p) * dir (lat s.gv (p / per s.sp - 1)) (lat s.gv (p / per s.sp))
    · rw [if_pos (by rw [il_0, ii_lt (by omega) (by omega) (by omega) (by omega)]; exact x), if_pos x, if_neg (show ¬ (1 : Int) = 0 by omega)]
      unfold f_X9_direct_b104
      by_cases y : pit (lat s.md p) < pit (lat s.gv (p / per s.sp))
      · rw [if_pos (by rw [ii_lt (by omega) (by omega) (by omega) (by omega)]; exact y), if_pos (by rfl), X9_steps g1 g0, ob_some, X9_dir135 w n k g0 h0 s2, if_pos (dd.2 y)]
        by_cases z : sts (lat s.gv (p / per s.sp - 1)) (lat s.gv (p / per s.sp)) ≤ 1
        · simp [z]
        · simp [z]
      · rw [if_neg (by rw [ii_lt (by omega) (by omega) (by omega) (by omega)]; exact y), if_neg (by decide +kernel), w.1, ob_some, il_1, ii_sub, l1, ob_some, ob_some, l0, ob_some, X9_steps b1 b0, ob_some, X9_dir135 w n k g0 h0 s1, if_neg (fun h => y (dd.1 h))]
        by_cases z : sts (lat s.md (p - 1)) (lat s.md p) ≤ 1
        · simp [z]
        · simp [z]
    · rw [if_neg (by rw [il_0, ii_lt (by omega) (by omega) (by omega) (by omega)]; exact x), if_neg x, if_pos (by rfl)]
  · rw [if_neg (by rw [il_0, ii_eq (by omega) (by omega) (by omega) (by omega)]; exact pz), if_neg pz]
    by_cases x : 0 < dir (lat s.md (p - 1)) (lat s.md p) * dir (lat s.gv (p / per s.sp - 1)) (lat s.gv (p / per s.sp)) <;> by_cases y : dir (lat s.gv (p / per s.sp)) (lat s.md p) < 0 <;> by_cases z : sts (lat s.gv (p / per s.sp - 1)) (lat s.gv (p / per s.sp)) ≤ 1 <;> by_cases z2 : sts (lat s.md (p - 1)) (lat s.md p) ≤ 1 <;> simp [x, y, z, z2]
end MDE
