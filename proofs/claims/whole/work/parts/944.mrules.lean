/-! ===== the reference: parallels, cadence, suspensions ===== -/
section MRW
variable {hs : AH} {f : Nat → Int} {s : Sh}
theorem barb {s : Sh} {p : Int} (p0 : 0 ≤ p) (p1 : p < 100) : 0 ≤ p / per s.sp ∧ p / per s.sp ≤ 100 ∧ 0 ≤ p % per s.sp ∧ p % per s.sp ≤ 4 ∧ (p % per s.sp = 0 → p / per s.sp * per s.sp = p) ∧ 1 ≤ per s.sp ∧ per s.sp ≤ 4 := by
  rcases per_3 s.sp with e | e | e <;> rw [e] <;> omega
theorem har_on (k : SOK s) (q : Wl s) {p : Int} (h0 : lat s.md p ≠ -1) : har s p = (1, sts (lat s.gv (p / per s.sp)) (lat s.md p), wid (lat s.gv (p / per s.sp)) (lat s.md p), dir (lat s.gv (p / per s.sp)) (lat s.md p), prf (lat s.gv (p / per s.sp)) (lat s.md p)) := by
  obtain ⟨p0, p1⟩ := lat_lt h0
  have ml := k.ml
  obtain ⟨b0, b1, b2, b3, b4⟩ := barb (s := s) p0 (by omega)
  have := k.mdb p
  exact spn_on (k.gvn b0 (q.2.1 p p0 p1)) (by omega)
theorem X9_isPar (w : NW hs f) (n : NoA f s) (k : SOK s) (q : Wl s) {p z : Int} (h0 : lat s.md p ≠ -1) (z0 : 0 ≤ z) (z1 : z < s.md.length) (zb : z / per s.sp = p / per s.sp - 1) : f_X9_isParallel 95 (ii p) (ii z) hs = some (ii (parF s p (har s z) z)) := by
  obtain ⟨l0, b0⟩ := w.ln n k h0
  obtain ⟨p0, p1⟩ := lat_lt h0
  have ml := k.ml
  obtain ⟨v0, v1, v2, v3, v4⟩ := barb (s := s) p0 (by omega)
  obtain ⟨u0, u1, u2, u3, u4⟩ := barb (s := s) z0 (by omega)
  have hb := q.2.1 p p0 p1
  obtain ⟨c0, g0⟩ := w.cn n k v0 hb
  obtain ⟨c1, g1⟩ := w.cn n k (b := p / per s.sp - 1) (by omega) (by omega)
  have hp := har_on k q h0
  have hpn : pitN (lat s.md p) = pit (lat s.md p) := if_neg h0
  have hcm : cmvS s p = (1, sts (lat s.gv (p / per s.sp - 1)) (lat s.gv (p / per s.sp)), wid (lat s.gv (p / per s.sp - 1)) (lat s.gv (p / per s.sp)), dir (lat s.gv (p / per s.sp - 1)) (lat s.gv (p / per s.sp)), prf (lat s.gv (p / per s.sp - 1)) (lat s.gv (p / per s.sp))) := spn_on g1 g0
  have e1 := X9_line w n z0 z1 ml
  have mz := k.mdi z
  have pb := pit_bd b0
  have pg0 := pit_bd g0
  have pg1 := pit_bd g1
  unfold f_X9_isParallel parF
  rw [hp, hcm, hpn]
  dsimp only
  rw [w.1, ob_some, X9_barOf w n k p0 (by omega), ob_some, ob_some, l0, ob_some, ob_some, c0, ob_some, X9_perfect b0 g0, ob_some, prf_comm (lat s.md p)]
  have p3 := prf_3 (lat s.gv (p / per s.sp)) (lat s.md p)
  by_cases a : prf (lat s.gv (p / per s.sp)) (lat s.md p) = 0
  · rw [if_pos (by rw [a]; rfl)]
    by_cases b : (har s z).2.2.2.2 = 0
    · rw [if_pos b]; rfl
    · rw [if_neg b, if_neg (by rw [a]; exact b)]; rfl
  rw [if_neg (by rw [il_0, ii_eq (by omega) (by omega) (by omega) (by omega)]; exact a), ob_some, e1, ob_some]
  by_cases b : lat s.md z = -1
  · have : har s z = (0, 0, 0, 0, 0) := spn_0 (Or.inr b)
    rw [if_pos (by rw [b]; rfl), this, if_pos (by rfl)]; rfl
  · have bz : 42 ≤ lat s.md z ∧ lat s.md z ≤ 146 := by have := k.mdb z; omega
    have pz := pit_bd bz
    have hz := har_on k q b
    have q3 := prf_3 (lat s.gv (z / per s.sp)) (lat s.md z)
    rw [if_neg (by rw [il_m1, ii_eq (by omega) (by omega) (by omega) (by omega)]; exact b), ob_some, ob_some, ob_some, il_1, ii_sub, c1, ob_some, X9_perfect bz g1, ob_some, hz]
    dsimp only
    rw [prf_comm (lat s.md z), ← zb]
    by_cases c : prf (lat s.gv (z / per s.sp)) (lat s.md z) = prf (lat s.gv (p / per s.sp)) (lat s.md p)
    · rw [if_pos (by rw [c]), ob_some, ob_some, X9_pitchOf (by omega) (by omega), ob_some, ob_some, ob_some, X9_pitchOf (by omega) (by omega), ob_some, c, if_neg a, if_pos rfl]
      by_cases d : pit (lat s.md z) = pit (lat s.md p)
      · rw [if_pos (by rw [d]), if_pos d]; rfl
      · rw [if_neg (by rw [ii_eq (by omega) (by omega) (by omega) (by omega)]; exact d), if_neg d, zb, ob_some, ob_some, X9_pitchOf (by omega) (by omega), ob_some, ob_some, ob_some, X9_pitchOf (by omega) (by omega), ob_some]
        have di := (dir_iff (lat s.gv (p / per s.sp - 1)) (lat s.gv (p / per s.sp))).2.2
        by_cases e : pit (lat s.gv (p / per s.sp - 1)) = pit (lat s.gv (p / per s.sp))
        · rw [if_pos (by rw [e]), if_pos (di.2 e)]; rfl
        · rw [if_neg (by rw [ii_eq (by omega) (by omega) (by omega) (by omega)]; exact e), if_neg (fun x => e (di.1 x))]
    · rw [if_neg (by rw [ii_eq (by omega) (by omega) (by omega) (by omega)]; exact c)]
      by_cases d : prf (lat s.gv (z / per s.sp)) (lat s.md z) = 0
      · rw [if_pos d]; rfl
      · rw [if_neg d, if_neg c]; rfl
theorem X9_cadence (w : NW hs f) (n : NoA f s) (k : SOK s) (q : Wl s) {p : Int} (h0 : lat s.md p ≠ -1) (hp : p = (s.md.length : Int) - 1) (hb : p / per s.sp = (s.gv.length : Int) - 1) : f_X9_cadence 95 (ii p) (ii s.md.length) hs = some (ii (cadC s p)) := by
  obtain ⟨l0, b0⟩ := w.ln n k h0
  obtain ⟨p0, p1⟩ := lat_lt h0
  have ml := k.ml
  have gl := k.gl
  obtain ⟨v0, v1, v2, v3, v4⟩ := barb (s := s) p0 (by omega)
  obtain ⟨c0, g0⟩ := w.cn n k v0 (q.2.1 p p0 p1)
  have hh := har_on k q h0
  unfold f_X9_cadence cadC
  rw [if_pos hp, hh]
  dsimp only
  rw [w.2.1, ob_some, w.k0 n, ob_some, w.1, ob_some, il_m1, il_1, ii_sub, ← hb, c0, ob_some, ob_some, l0, ob_some, X9_perfect b0 g0, ob_some, prf_comm (lat s.md p)]
  have p3 := prf_3 (lat s.gv (p / per s.sp)) (lat s.md p)
  by_cases a : prf (lat s.gv (p / per s.sp)) (lat s.md p) = 8
  · rw [if_pos (by rw [a]; rfl), if_pos a, ob_some, ii_sub, X9_isNote w n k (by omega) (by omega), ob_some]
    by_cases e : lat s.md (p - 1) = -1
    · have i0 : isN s (p - 1) = 0 := if_pos e
      have : stepS (arrS s p) = 0 := by unfold stepS arrS; rw [spn_0 (Or.inl e)]; rfl
      rw [i0, if_pos (by rfl), if_pos this]; rfl
    · have h1 : isN s (p - 1) = 1 := if_neg e
      obtain ⟨l1, b1⟩ := w.ln n k e
      have s1 := sts_bd b1 b0
      have hs1 : stepS (arrS s p) = if sts (lat s.md (p - 1)) (lat s.md p) = 1 then 1 else 0 := by unfold stepS arrS; rw [spn_on b1 b0]
      rw [h1, if_neg (by decide +kernel), ob_some, l1, ob_some, ob_some, ob_some, X9_steps b1 b0, ob_some, hs1]
      by_cases y : sts (lat s.md (p - 1)) (lat s.md p) = 1
      · rw [if_pos (by rw [y]), if_pos y, if_neg (show ¬ (1 : Int) = 0 by omega), ii_sub]
        have gb : 0 ≤ p / per s.sp - 1 := by have := q.2.2; omega
        obtain ⟨c1, g1⟩ := w.cn n k (b := p / per s.sp - 1) gb (by omega)
        have s2 := sts_bd g1 g0
        have d1 := dir_3 (lat s.md (p - 1)) (lat s.md p)
        have d2 := dir_3 (lat s.gv (p / per s.sp - 1)) (lat s.gv (p / per s.sp))
        have dm := dir_mul (lat s.gv (p / per s.sp - 1)) (lat s.gv (p / per s.sp)) (lat s.md (p - 1)) (lat s.md p)
        have w1 := wid_bd g1 g0
        have w2 := wid_bd b1 b0
        have hcm : cmvS s p = (1, sts (lat s.gv (p / per s.sp - 1)) (lat s.gv (p / per s.sp)), wid (lat s.gv (p / per s.sp - 1)) (lat s.gv (p / per s.sp)), dir (lat s.gv (p / per s.sp - 1)) (lat s.gv (p / per s.sp)), prf (lat s.gv (p / per s.sp - 1)) (lat s.gv (p / per s.sp))) := spn_on g1 g0
        have har' : arrS s p = (1, sts (lat s.md (p - 1)) (lat s.md p), wid (lat s.md (p - 1)) (lat s.md p), dir (lat s.md (p - 1)) (lat s.md p), prf (lat s.md (p - 1)) (lat s.md p)) := spn_on b1 b0
        simp only [↓ob_some, ↓ob_of (w.1), ↓ob_of (l1), ↓ob_of (l0), ↓ob_of (c1), ↓ob_of (X9_direction b1 b0), ↓ob_of (X9_steps g1 g0)]
        rw [hcm, har']
        unfold stepS agaS
        dsimp only
        by_cases x : sts (lat s.gv (p / per s.sp - 1)) (lat s.gv (p / per s.sp)) = 1
        · rw [if_pos (by rw [x]), if_pos x, if_neg (show ¬ (1 : Int) = 0 by omega)]
          have W : ∀ W1 W2 : Int, (0 ≤ W1 ∧ W1 ≤ 80) → (0 ≤ W2 ∧ W2 ≤ 80) → (if ii (dir (lat s.gv (p / per s.sp - 1)) (lat s.gv (p / per s.sp))) * ii (dir (lat s.md (p - 1)) (lat s.md p)) < 0 then (if ii (dir (lat s.md (p - 1)) (lat s.md p)) ≤ 0 then (if ii W1 = ii 1 then some (ii (-1)) else some 4) else (if ii W2 = ii 1 then some (ii (-1)) else some 4)) else some 3) = some (ii (if (if dir (lat s.gv (p / per s.sp - 1)) (lat s.gv (p / per s.sp)) = 0 then (0 : Int) else if dir (lat s.gv (p / per s.sp - 1)) (lat s.gv (p / per s.sp)) = -dir (lat s.md (p - 1)) (lat s.md p) then 1 else 0) = 0 then 3 else if dir (lat s.md (p - 1)) (lat s.md p) ≤ 0 then (if W1 = 1 then -1 else 4) else (if W2 = 1 then -1 else 4))) := by
            intro W1 W2 h1 h2
            rw [il_0, il_3, il_4]
            simp (disch := omega) only [ii_mul, ii_lt, ii_le, ii_eq]
            rcases d1 with a | a | a <;> rcases d2 with b | b | b <;> rw [a, b] <;> by_cases y1 : W1 = 1 <;> by_cases y2 : W2 = 1 <;> simp [y1, y2]
          refine Eq.trans ?_ (W _ _ w1 w2)
          simp only [↓ob_some, ↓ob_of (w.1), ↓ob_of (c1), ↓ob_of (X9_width g1 g0), ↓ob_of (l1), ↓ob_of (l0), ↓ob_of (X9_width b1 b0), ↓ob_of (X9_direction g1 g0)]
        · rw [if_neg (by rw [ii_eq (by omega) (by omega) (by omega) (by omega)]; exact x), if_neg x, if_pos (by rfl)]; rfl
      · rw [if_neg (by rw [ii_eq (by omega) (by omega) (by omega) (by omega)]; exact y), if_neg y, if_pos (by rfl)]; rfl
  · rw [if_neg (by rw [il_8, ii_eq (by omega) (by omega) (by omega) (by omega)]; exact a), if_neg a]
end MRW
