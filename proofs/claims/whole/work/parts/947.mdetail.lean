/-! ===== the reference: the detail of a rule at a note ===== -/
section MDT
variable {hs : AH} {f : Nat → Int} {s : Sh}
theorem flt_1 {p : Int} (h0 : lat s.md p ≠ -1) (hr : lg s.wt 1 ≠ 0) : flt s p 1 = if allow s (pitN (lat s.md p)) = 0 then pitN (lat s.md p) else -1 := by
  unfold flt detC
  rw [if_neg h0, if_neg hr]
  rfl
theorem flt_2 {p : Int} (h0 : lat s.md p ≠ -1) (hr : lg s.wt 2 ≠ 0) : flt s p 2 = if (arrS s p).1 = 0 then -1 else if melS (arrS s p) = 0 then (arrS s p).2.2.1 else -1 := by
  unfold flt detC
  rw [if_neg h0, if_neg hr]
  rfl
theorem flt_3 {p : Int} (h0 : lat s.md p ≠ -1) (hr : lg s.wt 3 ≠ 0) : flt s p 3 = if notRec s p = 0 then -1 else (appS s p).2.1 := by
  unfold flt detC
  rw [if_neg h0, if_neg hr]
  rfl
theorem flt_4 {p : Int} (h0 : lat s.md p ≠ -1) (hr : lg s.wt 4 ≠ 0) : flt s p 4 = if lat s.md p = lat s.md (p - 1) then (if tie s p = 0 then 0 else -1) else -1 := by
  unfold flt detC
  rw [if_neg h0, if_neg hr]
  rfl
theorem flt_5 {p : Int} (h0 : lat s.md p ≠ -1) (hr : lg s.wt 5 ≠ 0) : flt s p 5 = outl s p := by
  unfold flt detC
  rw [if_neg h0, if_neg hr]
  rfl
theorem flt_6 {p : Int} (h0 : lat s.md p ≠ -1) (hr : lg s.wt 6 ≠ 0) : flt s p 6 = if p = cpS s then cnS s else -1 := by
  unfold flt detC
  rw [if_neg h0, if_neg hr]
  rfl
theorem flt_7 {p : Int} (h0 : lat s.md p ≠ -1) (hr : lg s.wt 7 ≠ 0) : flt s p 7 = if p % per s.sp = 0 then (if conS (har s p) = 0 then (if tie s p = 0 then (har s p).2.2.1 else -1) else -1) else -1 := by
  unfold flt detC
  rw [if_neg h0, if_neg hr]
  rfl
theorem flt_8 {p : Int} (h0 : lat s.md p ≠ -1) (hr : lg s.wt 8 ≠ 0) : flt s p 8 = if weakD s p = 0 then -1 else (har s p).2.2.1 := by
  unfold flt detC
  rw [if_neg h0, if_neg hr]
  rfl
theorem flt_9 {p : Int} (h0 : lat s.md p ≠ -1) (hr : lg s.wt 9 ≠ 0) : flt s p 9 = if isPar s p = 0 then -1 else (har s p).2.2.2.2 := by
  unfold flt detC
  rw [if_neg h0, if_neg hr]
  rfl
theorem flt_10 {p : Int} (h0 : lat s.md p ≠ -1) (hr : lg s.wt 10 ≠ 0) : flt s p 10 = if dirD s p = 0 then -1 else (har s p).2.2.2.2 := by
  unfold flt detC
  rw [if_neg h0, if_neg hr]
  rfl
theorem flt_11 {p : Int} (h0 : lat s.md p ≠ -1) (hr : lg s.wt 11 ≠ 0) : flt s p 11 = if innU s p = 0 then -1 else 0 := by
  unfold flt detC
  rw [if_neg h0, if_neg hr]
  rfl
theorem flt_12 {p : Int} (h0 : lat s.md p ≠ -1) (hr : lg s.wt 12 ≠ 0) : flt s p 12 = if s.bl = 0 then (if (har s p).2.2.2.1 = -1 then (har s p).2.2.1 else -1) else (if (har s p).2.2.2.1 = 1 then (har s p).2.2.1 else -1) := by
  unfold flt detC
  rw [if_neg h0, if_neg hr]
  rfl
theorem flt_13 {p : Int} (h0 : lat s.md p ≠ -1) (hr : lg s.wt 13 ≠ 0) : flt s p 13 = if (har s p).2.2.1 ≤ lg s.st 2 then -1 else (har s p).2.2.1 := by
  unfold flt detC
  rw [if_neg h0, if_neg hr]
  rfl
theorem flt_14 {p : Int} (h0 : lat s.md p ≠ -1) (hr : lg s.wt 14 ≠ 0) : flt s p 14 = if badB s p = 0 then -1 else (har s p).2.2.1 := by
  unfold flt detC
  rw [if_neg h0, if_neg hr]
  rfl
theorem flt_15 {p : Int} (h0 : lat s.md p ≠ -1) (hr : lg s.wt 15 ≠ 0) : flt s p 15 = cadC s p := by
  unfold flt detC
  rw [if_neg h0, if_neg hr]
  rfl
theorem flt_16 {p : Int} (h0 : lat s.md p ≠ -1) (hr : lg s.wt 16 ≠ 0) : flt s p 16 = if susD s p = 0 then -1 else (har s p).2.2.1 := by
  unfold flt detC
  rw [if_neg h0, if_neg hr]
  rfl
theorem X9_det77 (w : NW hs f) (n : NoA f s) (k : SOK s) (q : Wl s) {p : Nat} (h0 : lat s.md p ≠ -1) {r : Nat} (r1 : 1 ≤ r) (r2 : r ≤ 16) (hr : lg s.wt r ≠ 0) (hl : r = 15 → ((p : Int) / per s.sp = (s.gv.length : Int) - 1 ↔ (p : Int) = (s.md.length : Int) - 1)) {v9 t0 : Int}
    (h9 : (v9 = 0 ∧ (lat s.md ((p : Int) - 1) = -1 ∨ lat s.md ((p : Int) - 2) = -1)) ∨ (v9 = 1 ∧ lat s.md ((p : Int) - 1) ≠ -1 ∧ lat s.md ((p : Int) - 2) ≠ -1)) (ht : (t0 = 0 ∧ ¬ (p : Int) % per s.sp = 0) ∨ (t0 = 1 ∧ (p : Int) % per s.sp = 0)) :
    f_X9_detail_b77 95 (ii r) (ii p) (ii s.md.length) (ii (lat s.md p)) (ii ((p : Int) / per s.sp)) (ii (lat s.gv ((p : Int) / per s.sp))) (ii (har s p).2.2.1) (ii (isN s ((p : Int) - 1))) (ii v9) (ii t0) hs = some (ii (flt s p r)) := by
  obtain ⟨l0, b0⟩ := w.ln n k h0
  obtain ⟨p0, p1⟩ := lat_lt h0
  have ml := k.ml
  have gl := k.gl
  obtain ⟨v0, v1, v2, v3, v4, v5, v6⟩ := barb (s := s) p0 (by omega)
  have hb := q.2.1 p p0 p1
  obtain ⟨c0, g0⟩ := w.cn n k v0 hb
  have hh := har_on k q h0
  have hc : conS (har s p) = conS (spn (lat s.md p) (lat s.gv ((p : Int) / per s.sp))) := by unfold har; rw [conS_comm g0 b0]
  have cb := conS_b (har s p)
  have tb := tie_b s (p : Int)
  have pb := pit_bd b0
  have pg := pit_bd g0
  have wb := wid_bd g0 b0
  have p3 := prf_3 (lat s.gv ((p : Int) / per s.sp)) (lat s.md p)
  have d3 := dir_3 (lat s.gv ((p : Int) / per s.sp)) (lat s.md p)
  have s0 := k.stb 0
  have s1 := k.stb 1
  have s2 := k.stb 2
  have hpn : pitN (lat s.md p) = pit (lat s.md p) := if_neg h0
  have hW : (har s p).2.2.1 = wid (lat s.gv ((p : Int) / per s.sp)) (lat s.md p) := by rw [hh]
  have hP : (har s p).2.2.2.2 = prf (lat s.gv ((p : Int) / per s.sp)) (lat s.md p) := by rw [hh]
  have hD : (har s p).2.2.2.1 = dir (lat s.gv ((p : Int) / per s.sp)) (lat s.md p) := by rw [hh]
  have m1 := k.mdi ((p : Int) - 1)
  have nb := isN_b s ((p : Int) - 1)
  have LT : lat s.md ((p : Int) - 1) ≠ -1 → isN s ((p : Int) - 1) = 1 := fun e => if_neg e
  have LF : lat s.md ((p : Int) - 1) = -1 → isN s ((p : Int) - 1) = 0 := fun e => if_pos e
  unfold f_X9_detail_b77
  obtain rfl | rfl | rfl | rfl | rfl | rfl | rfl | rfl | rfl | rfl | rfl | rfl | rfl | rfl | rfl | rfl : r = 1 ∨ r = 2 ∨ r = 3 ∨ r = 4 ∨ r = 5 ∨ r = 6 ∨ r = 7 ∨ r = 8 ∨ r = 9 ∨ r = 10 ∨ r = 11 ∨ r = 12 ∨ r = 13 ∨ r = 14 ∨ r = 15 ∨ r = 16 := by omega
  · rw [flt_1 h0 hr]
    rw [if_pos (by decide +kernel)]
    rw [X9_pitchOf (by omega) (by omega), ob_some, w.2.1, ob_some, w.k4 n, ob_some, ob_some, w.k5 n, ob_some, X9_in (by omega) (by omega) (by omega) (by omega) (by omega) (by omega), ob_some, hpn]
    unfold allow
    by_cases e : lg s.st 0 ≤ pit (lat s.md p) ∧ pit (lat s.md p) ≤ lg s.st 1
    · rw [inI_1 e, if_neg (by decide +kernel), if_pos e, if_neg (by omega)]; rfl
    · rw [inI_0 e, if_pos (by rfl), ob_some, if_neg e, if_pos (by rfl)]
  · rw [flt_2 h0 hr]
    rw [if_neg (by decide +kernel), if_pos (by decide +kernel)]
    by_cases e : lat s.md ((p : Int) - 1) = -1
    · have : arrS s (p : Int) = (0, 0, 0, 0, 0) := spn_0 (Or.inl e)
      rw [LF e, if_pos (by rfl), this, if_pos (by rfl)]; rfl
    · obtain ⟨l1, b1⟩ := w.ln n k e
      have ha : arrS s (p : Int) = spn (lat s.md ((p : Int) - 1)) (lat s.md p) := rfl
      have hs9 := spn_on b1 b0
      have mb := melS_b (spn (lat s.md ((p : Int) - 1)) (lat s.md p))
      rw [LT e, if_neg (by decide +kernel), w.1, ob_some, il_1, ii_sub, l1, ob_some, ob_some, X9_isGoodMove b1 b0, ob_some, ha]
      rw [if_neg (show ¬ (spn (lat s.md ((p : Int) - 1)) (lat s.md p)).1 = 0 by rw [hs9]; exact Int.one_ne_zero)]
      by_cases y : melS (spn (lat s.md ((p : Int) - 1)) (lat s.md p)) = 0
      · rw [if_pos (by rw [y]; rfl), if_pos y, ob_some, ob_some, X9_width b1 b0, ob_some, hs9]
      · rw [if_neg (by rw [il_0, ii_eq (by omega) (by omega) (by omega) (by omega)]; exact y), if_neg y]; rfl
  · rw [flt_3 h0 hr]
    rw [if_neg (by decide +kernel), if_neg (by decide +kernel), if_pos (by decide +kernel)]
    rcases h9 with ⟨a, b⟩ | ⟨a, b, c⟩
    · have : notRec s (p : Int) = 0 := by
        unfold notRec arrS appS
        rcases b with b | b
        · rw [spn_0 (Or.inl b), if_pos (by rfl)]
        · rw [spn_0 (a := lat s.md ((p : Int) - 2)) (Or.inl b)]
          by_cases x : (spn (lat s.md ((p : Int) - 1)) (lat s.md p)).1 = 0
          · rw [if_pos x]
          · rw [if_neg x, if_pos (by rfl)]
      rw [if_pos (by rw [a]; rfl), this, if_pos (by rfl)]; rfl
    · rw [if_neg (by rw [a]; decide +kernel), w.1, ob_some, X9_recover w n k h0 b c, ob_some]
  · rw [flt_4 h0 hr]
    rw [if_neg (by decide +kernel), if_neg (by decide +kernel), if_neg (by decide +kernel), if_pos (by decide +kernel)]
    by_cases e : lat s.md ((p : Int) - 1) = -1
    · rw [LF e, if_pos (by rfl), if_neg (by omega)]; rfl
    · obtain ⟨l1, b1⟩ := w.ln n k e
      rw [LT e, if_neg (by decide +kernel), w.1, ob_some, il_1, ii_sub, l1, ob_some]
      by_cases y : lat s.md ((p : Int) - 1) = lat s.md p
      · rw [if_pos (by rw [y]), if_pos y.symm, ob_some, X9_isTied w n k p0 p1 h0, ob_some]
        by_cases z : tie s (p : Int) = 0
        · rw [if_pos (by rw [z]; rfl), if_pos z]; rfl
        · rw [if_neg (by rw [il_0, ii_eq (by omega) (by omega) (by omega) (by omega)]; exact z), if_neg z]; rfl
      · rw [if_neg (by rw [ii_eq (by omega) (by omega) (by omega) (by omega)]; exact y), if_neg (fun x => y x.symm)]; rfl
  · rw [flt_5 h0 hr]
    rw [if_neg (by decide +kernel), if_neg (by decide +kernel), if_neg (by decide +kernel), if_neg (by decide +kernel), if_pos (by decide +kernel)]
    rcases h9 with ⟨a, b⟩ | ⟨a, b, c⟩
    · have : outl s (p : Int) = -1 := by
        unfold outl arrS appS
        rcases b with b | b
        · rw [spn_0 (a := lat s.md ((p : Int) - 1)) (b := lat s.md p) (Or.inl b)]
          by_cases x : leapS (spn (lat s.md ((p : Int) - 2)) (lat s.md ((p : Int) - 1))) = 0
          · rw [if_pos x]
          · rw [if_neg x, if_pos (by rfl)]
        · rw [spn_0 (a := lat s.md ((p : Int) - 2)) (Or.inl b), if_pos (by rfl)]
      rw [if_pos (by rw [a]; rfl), this]; rfl
    · rw [if_neg (by rw [a]; decide +kernel), w.1, ob_some, X9_outline w n k h0 b c, ob_some]
  · rw [flt_6 h0 hr]
    rw [if_neg (by decide +kernel), if_neg (by decide +kernel), if_neg (by decide +kernel), if_neg (by decide +kernel), if_neg (by decide +kernel), if_pos (by decide +kernel)]
    rw [w.1, ob_some, X9_climax w n k h0, ob_some]
  · rw [flt_7 h0 hr]
    rw [if_neg (by decide +kernel), if_neg (by decide +kernel), if_neg (by decide +kernel), if_neg (by decide +kernel), if_neg (by decide +kernel), if_neg (by decide +kernel), if_pos (by decide +kernel)]
    rcases ht with ⟨a, b⟩ | ⟨a, b⟩
    · rw [if_pos (by rw [a]; rfl), if_neg b]; rfl
    · rw [if_neg (by rw [a]; decide +kernel), if_pos b, X9_isConsonant b0 g0, ob_some, ← hc]
      by_cases c : conS (har s p) = 0
      · rw [if_pos (by rw [c]; rfl), if_pos c, w.1, ob_some, X9_isTied w n k p0 p1 h0, ob_some]
        by_cases z : tie s (p : Int) = 0
        · rw [if_pos (by rw [z]; rfl), if_pos z]
        · rw [if_neg (by rw [il_0, ii_eq (by omega) (by omega) (by omega) (by omega)]; exact z), if_neg z]; rfl
      · rw [if_neg (by rw [il_0, ii_eq (by omega) (by omega) (by omega) (by omega)]; exact c), if_neg c]; rfl
  · rw [flt_8 h0 hr]
    rw [if_neg (by decide +kernel), if_neg (by decide +kernel), if_neg (by decide +kernel), if_neg (by decide +kernel), if_neg (by decide +kernel), if_neg (by decide +kernel), if_neg (by decide +kernel), if_pos (by decide +kernel)]
    rw [w.1, ob_some, X9_weak w n k q h0, ob_some]
  · rw [flt_9 h0 hr]
    rw [if_neg (by decide +kernel), if_neg (by decide +kernel), if_neg (by decide +kernel), if_neg (by decide +kernel), if_neg (by decide +kernel), if_neg (by decide +kernel), if_neg (by decide +kernel), if_neg (by decide +kernel), if_pos (by decide +kernel)]
    unfold isPar
    rcases ht with ⟨a, b⟩ | ⟨a, b⟩
    · rw [if_pos (by rw [a]; rfl), if_neg b, if_pos (by rfl)]; rfl
    · have e0 := v4 b
      have ep : ((p : Int) / per s.sp - 1) * per s.sp = (p : Int) - per s.sp := by rw [Int.sub_mul, e0, Int.one_mul]
      have e9 : (p : Int) / per s.sp * per s.sp - 1 = (p : Int) - 1 := by rw [e0]
      rw [if_neg (by rw [a]; decide +kernel), if_pos b, ep, e9]
      by_cases c : (p : Int) / per s.sp ≤ 0
      · have c' : (p : Int) = 0 := by
          rw [show (p : Int) / per s.sp = 0 by omega] at e0; omega
        have h1 : har s ((p : Int) - per s.sp) = (0, 0, 0, 0, 0) := spn_0 (Or.inr (lat_neg (by omega)))
        have h2 : har s ((p : Int) - 1) = (0, 0, 0, 0, 0) := spn_0 (Or.inr (lat_neg (by omega)))
        have f1 : ∀ z, parF s (p : Int) (0, 0, 0, 0, 0) z = 0 := fun z => if_pos (by rfl)
        rw [if_pos (by rw [il_0, ii_le (by omega) (by omega) (by omega) (by omega)]; exact c), h1, h2, f1, f1, if_pos (by rfl)]; rfl
      · have z1 : 0 ≤ (p : Int) - per s.sp ∧ ((p : Int) - per s.sp) / per s.sp = (p : Int) / per s.sp - 1 := by rcases per_3 s.sp with z | z | z <;> rw [z] at c e0 ⊢ <;> omega
        have z2 : 0 ≤ (p : Int) - 1 ∧ ((p : Int) - 1) / per s.sp = (p : Int) / per s.sp - 1 := by rcases per_3 s.sp with z | z | z <;> rw [z] at c e0 ⊢ <;> omega
        have A := X9_isPar w n k q h0 z1.1 (by omega) z1.2
        have B := X9_isPar w n k q h0 z2.1 (by omega) z2.2
        have fa := parF_b s (p : Int) (har s ((p : Int) - per s.sp)) ((p : Int) - per s.sp)
        have fb := parF_b s (p : Int) (har s ((p : Int) - 1)) ((p : Int) - 1)
        rw [if_neg (by rw [il_0, ii_le (by omega) (by omega) (by omega) (by omega)]; exact c), w.1, ob_some, X9_per w n k, ob_some, ob_some, ii_sub, A, ob_some]
        by_cases x : parF s (p : Int) (har s ((p : Int) - per s.sp)) ((p : Int) - per s.sp) = 0
        · rw [if_pos (by rw [x]; rfl), if_pos x, ob_some, il_1, ii_sub, B, ob_some]
          by_cases y : parF s (p : Int) (har s ((p : Int) - 1)) ((p : Int) - 1) = 0
          · rw [if_pos (by rw [y]; rfl), if_pos y, if_pos (by rfl)]; rfl
          · rw [if_neg (by rw [il_0, ii_eq (by omega) (by omega) (by omega) (by omega)]; exact y), if_neg y, if_neg (show ¬ (1 : Int) = 0 by omega), X9_perfect b0 g0, ob_some, prf_comm, hP]
        · rw [if_neg (by rw [il_0, ii_eq (by omega) (by omega) (by omega) (by omega)]; exact x), if_neg x, if_neg (show ¬ (1 : Int) = 0 by omega), X9_perfect b0 g0, ob_some, prf_comm, hP]
  · rw [flt_10 h0 hr]
    rw [if_neg (by decide +kernel), if_neg (by decide +kernel), if_neg (by decide +kernel), if_neg (by decide +kernel), if_neg (by decide +kernel), if_neg (by decide +kernel), if_neg (by decide +kernel), if_neg (by decide +kernel), if_neg (by decide +kernel), if_pos (by decide +kernel)]
    rcases ht with ⟨a, b⟩ | ⟨a, b⟩
    · have : dirD s (p : Int) = 0 := if_neg b
      rw [if_pos (by rw [a]; rfl), this, if_pos (by rfl)]; rfl
    · have e0 := v4 b
      rw [if_neg (by rw [a]; decide +kernel)]
      by_cases c : (p : Int) / per s.sp ≤ 0
      · have c' : (p : Int) = 0 := by
          rw [show (p : Int) / per s.sp = 0 by omega] at e0; omega
        have h1 : withS (arrS s (p : Int)) (cmvS s (p : Int)) = 0 := by
          unfold withS arrS
          rw [spn_0 (Or.inl (lat_neg (by omega))), if_pos (by rfl)]
        have : dirD s (p : Int) = 0 := by
          unfold dirD
          rw [if_pos b, h1]
          by_cases x : (har s (p : Int)).2.2.2.2 = 0
          · rw [if_pos x]
          · rw [if_neg x, if_pos (by rfl)]
        rw [if_pos (by rw [il_0, ii_le (by omega) (by omega) (by omega) (by omega)]; exact c), this, if_pos (by rfl)]; rfl
      · rw [if_neg (by rw [il_0, ii_le (by omega) (by omega) (by omega) (by omega)]; exact c), w.1, ob_some, X9_direct w n k q h0 b (by omega), ob_some]
  · rw [flt_11 h0 hr]
    rw [if_neg (by decide +kernel), if_neg (by decide +kernel), if_neg (by decide +kernel), if_neg (by decide +kernel), if_neg (by decide +kernel), if_neg (by decide +kernel), if_neg (by decide +kernel), if_neg (by decide +kernel), if_neg (by decide +kernel), if_neg (by decide +kernel), if_pos (by decide +kernel)]
    unfold innU
    rcases ht with ⟨a, b⟩ | ⟨a, b⟩
    · rw [if_pos (by rw [a]; rfl), if_neg b, if_pos (by rfl)]; rfl
    · rw [if_neg (by rw [a]; decide +kernel), if_pos b, hW]
      by_cases c : wid (lat s.gv ((p : Int) / per s.sp)) (lat s.md p) = 0
      · rw [if_pos (by rw [c]; rfl), if_pos c, w.2.1, ob_some, w.k0 n, ob_some, il_2, ii_sub, il_1, X9_in (by omega) (by omega) (by omega) (by omega) (by omega) (by omega), ob_some]
        by_cases d : 1 ≤ (p : Int) / per s.sp ∧ (p : Int) / per s.sp ≤ (s.gv.length : Int) - 2
        · rw [inI_1 d, if_neg (by decide +kernel), if_neg (show ¬ (p : Int) / per s.sp ≤ 0 by omega), if_neg (show ¬ (s.gv.length : Int) - 1 ≤ (p : Int) / per s.sp by omega), if_neg (show ¬ (1 : Int) = 0 by omega)]; rfl
        · rw [inI_0 d, if_pos (by rfl)]
          by_cases x : (p : Int) / per s.sp ≤ 0
          · rw [if_pos x, if_pos (by rfl)]; rfl
          · rw [if_neg x, if_pos (show (s.gv.length : Int) - 1 ≤ (p : Int) / per s.sp by omega), if_pos rfl]; rfl
      · rw [if_neg (by rw [il_0, ii_eq (by omega) (by omega) (by omega) (by omega)]; exact c), if_neg c, if_pos (by rfl)]; rfl
  · rw [flt_12 h0 hr]
    rw [if_neg (by decide +kernel), if_neg (by decide +kernel), if_neg (by decide +kernel), if_neg (by decide +kernel), if_neg (by decide +kernel), if_neg (by decide +kernel), if_neg (by decide +kernel), if_neg (by decide +kernel), if_neg (by decide +kernel), if_neg (by decide +kernel), if_neg (by decide +kernel), if_pos (by decide +kernel)]
    rw [w.2.1, ob_some, w.k3 n, ob_some, hD, hW]
    have bl := k.bli
    have eD : ∀ x y : Int, (dir x y = 1 ↔ pit x < pit y) ∧ (dir x y = -1 ↔ pit y < pit x) := by
      intro x y
      unfold dir
      by_cases a : 0 < pit y - pit x
      · rw [if_pos a]; omega
      · rw [if_neg a]
        by_cases b : pit y - pit x < 0
        · rw [if_pos b]; omega
        · rw [if_neg b]; omega
    obtain ⟨ed1, ed2⟩ := eD (lat s.gv ((p : Int) / per s.sp)) (lat s.md p)
    by_cases c : s.bl = 0
    · rw [if_pos (by rw [c]; rfl), if_pos c, X9_pitchOf (by omega) (by omega), ob_some, X9_pitchOf (by omega) (by omega), ob_some]
      by_cases d : pit (lat s.gv ((p : Int) / per s.sp)) ≤ pit (lat s.md p)
      · rw [if_pos (by rw [ii_le (by omega) (by omega) (by omega) (by omega)]; exact d), if_neg (by omega)]; rfl
      · rw [if_neg (by rw [ii_le (by omega) (by omega) (by omega) (by omega)]; exact d), if_pos (by omega)]
    · rw [if_neg (by rw [il_0, ii_eq (by omega) (by omega) (by omega) (by omega)]; exact c), if_neg c, X9_pitchOf (by omega) (by omega), ob_some, X9_pitchOf (by omega) (by omega), ob_some]
      by_cases d : pit (lat s.md p) ≤ pit (lat s.gv ((p : Int) / per s.sp))
      · rw [if_pos (by rw [ii_le (by omega) (by omega) (by omega) (by omega)]; exact d), if_neg (by omega)]; rfl
      · rw [if_neg (by rw [ii_le (by omega) (by omega) (by omega) (by omega)]; exact d), if_pos (by omega)]
  · rw [flt_13 h0 hr]
    rw [if_neg (by decide +kernel), if_neg (by decide +kernel), if_neg (by decide +kernel), if_neg (by decide +kernel), if_neg (by decide +kernel), if_neg (by decide +kernel), if_neg (by decide +kernel), if_neg (by decide +kernel), if_neg (by decide +kernel), if_neg (by decide +kernel), if_neg (by decide +kernel), if_neg (by decide +kernel), if_pos (by decide +kernel)]
    rw [w.2.1, ob_some, w.k6 n, ob_some, hW]
    by_cases c : wid (lat s.gv ((p : Int) / per s.sp)) (lat s.md p) ≤ lg s.st 2
    · rw [if_pos (by rw [ii_le (by omega) (by omega) (by omega) (by omega)]; exact c), if_pos c]; rfl
    · rw [if_neg (by rw [ii_le (by omega) (by omega) (by omega) (by omega)]; exact c), if_neg c]
  · rw [flt_14 h0 hr]
    rw [if_neg (by decide +kernel), if_neg (by decide +kernel), if_neg (by decide +kernel), if_neg (by decide +kernel), if_neg (by decide +kernel), if_neg (by decide +kernel), if_neg (by decide +kernel), if_neg (by decide +kernel), if_neg (by decide +kernel), if_neg (by decide +kernel), if_neg (by decide +kernel), if_neg (by decide +kernel), if_neg (by decide +kernel), if_pos (by decide +kernel)]
    unfold badB bad2
    rw [hP, hW]
    by_cases e : lat s.md ((p : Int) - 1) = -1
    · rw [LF e, if_pos (by rfl), w.2.1, ob_some, w.k3 n, ob_some]
      have hfst : (if lat s.md 0 = -1 then (if (p : Int) = 1 then (if prf (lat s.gv ((p : Int) / per s.sp)) (lat s.md p) = 8 then 0 else if s.bl = 0 then (if prf (lat s.gv ((p : Int) / per s.sp)) (lat s.md p) = 5 then 0 else 1) else 1) else 0) else (if (p : Int) = 0 then (if prf (lat s.gv ((p : Int) / per s.sp)) (lat s.md p) = 8 then 0 else if s.bl = 0 then (if prf (lat s.gv ((p : Int) / per s.sp)) (lat s.md p) = 5 then 0 else 1) else 1) else 0) : Int) = (if prf (lat s.gv ((p : Int) / per s.sp)) (lat s.md p) = 8 then 0 else if s.bl = 0 then (if prf (lat s.gv ((p : Int) / per s.sp)) (lat s.md p) = 5 then 0 else 1) else 1) := by
        by_cases x : p = 0
        · rw [x] at h0
          rw [if_neg (show ¬ lat s.md 0 = -1 from h0), if_pos (by omega)]
        · have y : p = 1 := by
            have z := (q.1 (p - 1) (by omega) (by rw [← lat_nat, show ((p - 1 : Nat) : Int) = (p : Int) - 1 by omega]; exact e)).1
            omega
          rw [if_pos (show lat s.md 0 = -1 by rw [y] at e; exact e), if_pos (by omega)]
      rw [hfst]
      have bl := k.bli
      rw [X9_perfect b0 g0, ob_some, ob_some, prf_comm (lat s.md p)]
      by_cases c : s.bl = 0
      · rw [if_pos (by rw [c]; rfl), if_pos c]
        rcases p3 with a | a | a <;> rw [a] <;> rfl
      · rw [if_neg (by rw [il_0, ii_eq (by omega) (by omega) (by omega) (by omega)]; exact c), if_neg c]
        rcases p3 with a | a | a <;> rw [a] <;> rfl
    · have : ∀ x y : Int, (if lat s.md 0 = -1 then (if (p : Int) = 1 then x else 0) else (if (p : Int) = 0 then y else 0)) = 0 := by
        intro x y
        by_cases z : lat s.md 0 = -1
        · rw [if_pos z, if_neg]
          intro u; rw [u] at e; exact e z
        · rw [if_neg z, if_neg]
          intro u; rw [u] at e; exact e (lat_neg (by omega))
      rw [LT e, if_neg (by decide +kernel), this, if_pos (by rfl)]; rfl
  · rw [flt_15 h0 hr]
    rw [if_neg (by decide +kernel), if_neg (by decide +kernel), if_neg (by decide +kernel), if_neg (by decide +kernel), if_neg (by decide +kernel), if_neg (by decide +kernel), if_neg (by decide +kernel), if_neg (by decide +kernel), if_neg (by decide +kernel), if_neg (by decide +kernel), if_neg (by decide +kernel), if_neg (by decide +kernel), if_neg (by decide +kernel), if_neg (by decide +kernel), if_pos (by decide +kernel)]
    rw [w.2.1, ob_some, w.k0 n, ob_some, il_1, ii_sub]
    have hl := hl rfl
    by_cases c : (p : Int) / per s.sp = (s.gv.length : Int) - 1
    · rw [if_pos (by rw [c]), w.1, ob_some, X9_cadence w n k q h0 (hl.1 c) c, ob_some]
    · have : cadC s (p : Int) = -1 := if_neg (fun x => c (hl.2 x))
      rw [if_neg (by rw [ii_eq (by omega) (by omega) (by omega) (by omega)]; exact c), this]; rfl
  · rw [flt_16 h0 hr]
    rw [if_neg (by decide +kernel), if_neg (by decide +kernel), if_neg (by decide +kernel), if_neg (by decide +kernel), if_neg (by decide +kernel), if_neg (by decide +kernel), if_neg (by decide +kernel), if_neg (by decide +kernel), if_neg (by decide +kernel), if_neg (by decide +kernel), if_neg (by decide +kernel), if_neg (by decide +kernel), if_neg (by decide +kernel), if_neg (by decide +kernel), if_neg (by decide +kernel)]
    rw [w.1, ob_some, X9_suspend w n k q h0, ob_some]
theorem X9_detail (w : NW hs f) (n : NoA f s) (k : SOK s) (q : Wl s) {p : Nat} (h0 : lat s.md p ≠ -1) {r : Nat} (r1 : 1 ≤ r) (r2 : r ≤ 16) (hr : lg s.wt r ≠ 0) (hl : r = 15 → ((p : Int) / per s.sp = (s.gv.length : Int) - 1 ↔ (p : Int) = (s.md.length : Int) - 1)) :
    f_X9_detail 95 (ii r) (ii p) (ii s.md.length) hs = some (ii (flt s p r)) := by
  obtain ⟨l0, b0⟩ := w.ln n k h0
  obtain ⟨p0, p1⟩ := lat_lt h0
  have ml := k.ml
  obtain ⟨v0, v1, v2, v3, v4, v5, v6⟩ := barb (s := s) p0 (by omega)
  have hb := q.2.1 p p0 p1
  obtain ⟨c0, g0⟩ := w.cn n k v0 hb
  have hh := har_on k q h0
  have hW : (har s p).2.2.1 = wid (lat s.gv ((p : Int) / per s.sp)) (lat s.md p) := by rw [hh]
  have E : ∀ v9 : Int, ((v9 = 0 ∧ (lat s.md ((p : Int) - 1) = -1 ∨ lat s.md ((p : Int) - 2) = -1)) ∨ (v9 = 1 ∧ lat s.md ((p : Int) - 1) ≠ -1 ∧ lat s.md ((p : Int) - 2) ≠ -1)) →
      f_X9_detail_b62 95 (ii r) (ii p) (ii s.md.length) (ii (lat s.md p)) (ii ((p : Int) / per s.sp)) (ii (lat s.gv ((p : Int) / per s.sp))) (ii (har s p).2.2.1) (ii (isN s ((p : Int) - 1))) (ii v9) hs = some (ii (flt s p r)) := by
    intro v9 h9
    unfold f_X9_detail_b62
    rw [w.1, ob_some, X9_beatOf w n k p0 (by omega), ob_some]
    by_cases a : (p : Int) % per s.sp = 0
    · rw [if_pos (by rw [a]; rfl)]
      exact X9_det77 w n k q h0 r1 r2 hr hl h9 (Or.inr ⟨rfl, a⟩)
    · rw [if_neg (by rw [il_0, ii_eq (by omega) (by omega) (by omega) (by omega)]; exact a)]
      exact X9_det77 w n k q h0 r1 r2 hr hl h9 (Or.inl ⟨rfl, a⟩)
  unfold f_X9_detail
  rw [w.1, ob_some, l0, ob_some, ob_some, X9_barOf w n k p0 (by omega), ob_some, ob_some, c0, ob_some, X9_width b0 g0, ob_some, wid_comm, ← hW, ob_some, il_1, ii_sub, X9_isNote w n k (by omega) (by omega), ob_some]
  by_cases e : lat s.md ((p : Int) - 1) = -1
  · have i0 : isN s ((p : Int) - 1) = 0 := if_pos e
    rw [if_pos (by rw [i0]; rfl)]
    exact E 0 (Or.inl ⟨rfl, Or.inl e⟩)
  · have i0 : isN s ((p : Int) - 1) = 1 := if_neg e
    rw [if_neg (by rw [i0]; decide +kernel), ob_some, il_2, ii_sub, X9_isNote w n k (by omega) (by omega), ob_some]
    by_cases g : lat s.md ((p : Int) - 2) = -1
    · have i1 : isN s ((p : Int) - 2) = 0 := if_pos g
      rw [if_pos (by rw [i1]; rfl)]
      exact E 0 (Or.inl ⟨rfl, Or.inr g⟩)
    · have i1 : isN s ((p : Int) - 2) = 1 := if_neg g
      rw [if_neg (by rw [i1]; decide +kernel)]
      exact E 1 (Or.inr ⟨rfl, e, g⟩)
end MDT
