/-! ===== the reference: rules of intervals ===== -/
section MRV
variable {hs : AH} {f : Nat → Int} {s : Sh}
theorem SOK.gvn (k : SOK s) {b : Int} (h0 : 0 ≤ b) (h1 : b < s.gv.length) : 42 ≤ lat s.gv b ∧ lat s.gv b ≤ 146 := by
  rw [lat_in h0]
  exact k.2.2.2.2.2.2.2.2.1 _ (lg_mem (by omega))
theorem NW.cn (w : NW hs f) (n : NoA f s) (k : SOK s) {b : Int} (h0 : 0 ≤ b) (h1 : b < s.gv.length) : f_X9_cantusAt 95 (ii b) hs = some (ii (lat s.gv b)) ∧ 42 ≤ lat s.gv b ∧ lat s.gv b ≤ 146 :=
  ⟨X9_cantusAt w n h0 h1 k.gl, k.gvn h0 h1⟩
theorem X9_weak160 (w : NW hs f) (n : NoA f s) (k : SOK s) {p g v : Int} (hg : 42 ≤ g ∧ g ≤ 146) (h0 : lat s.md p ≠ -1) (hv : v = 0 ∨ v = 1 ∧ lat s.md (p - 1) ≠ -1 ∧ lat s.md (p + 1) ≠ -1) :
    f_X9_weak_b160 95 (ii p) (ii g) (ii v) (ii s.sp) hs = some (ii (if v = 1 ∧ s.sp = 3 ∧ lat s.md (p - 1) = lat s.md (p + 1) then -1 else wid (lat s.md p) g)) := by
  obtain ⟨l0, b0⟩ := w.ln n k h0
  have spb := k.spb
  unfold f_X9_weak_b160
  rcases hv with e | ⟨e, h1, h2⟩
  · rw [if_pos (by rw [e]; rfl), w.1, ob_some, l0, ob_some, X9_width b0 hg, ob_some, if_neg (by omega)]
  · obtain ⟨l1, b1⟩ := w.ln n k h1
    obtain ⟨l2, b2⟩ := w.ln n k h2
    rw [if_neg (by rw [e]; decide +kernel)]
    by_cases c : s.sp = 3
    · rw [if_pos (by rw [c]; rfl), w.1, ob_some, il_1, ii_sub, ii_add, l1, ob_some, ob_some, l2, ob_some]
      by_cases d : lat s.md (p - 1) = lat s.md (p + 1)
      · rw [if_pos (by rw [d]), if_pos ⟨e, c, d⟩]; rfl
      · rw [if_neg (by rw [ii_eq (by omega) (by omega) (by omega) (by omega)]; exact d), if_neg (fun x => d x.2.2), ob_some, l0, ob_some, X9_width b0 hg, ob_some]
    · rw [if_neg (by rw [il_3, ii_eq (by omega) (by omega) (by omega) (by omega)]; exact c), if_neg (fun x => c x.2.1), w.1, ob_some, l0, ob_some, X9_width b0 hg, ob_some]
theorem X9_weak97 (w : NW hs f) (n : NoA f s) (k : SOK s) {p g v : Int} (hg : 42 ≤ g ∧ g ≤ 146) (h0 : lat s.md p ≠ -1) (hv : v = 0 ∨ v = 1 ∧ lat s.md (p - 1) ≠ -1 ∧ lat s.md (p + 1) ≠ -1) :
    f_X9_weak_b97 95 (ii p) (ii g) (ii v) hs = some (ii (if weak1 s p v = 0 then -1 else wid (lat s.md p) g)) := by
  obtain ⟨l0, b0⟩ := w.ln n k h0
  have spb := k.spb
  unfold f_X9_weak_b97
  rw [w.2.1, ob_some, w.k2 n, ob_some]
  unfold weak1
  rcases hv with e | ⟨e, h1, h2⟩
  · rw [if_pos (by rw [e]; rfl), X9_weak160 w n k hg h0 (Or.inl e), if_neg (by omega), if_pos e]
    unfold weak2 weak3
    by_cases c : s.sp = 2 <;> by_cases d : s.sp = 3 <;> simp [c, d, e]
  · obtain ⟨l1, b1⟩ := w.ln n k h1
    obtain ⟨l2, b2⟩ := w.ln n k h2
    have dm := dir_mul (lat s.md (p - 1)) (lat s.md p) (lat s.md p) (lat s.md (p + 1))
    have d1 := dir_3 (lat s.md (p - 1)) (lat s.md p)
    have d2 := dir_3 (lat s.md p) (lat s.md (p + 1))
    have hw : withS (depS s p) (arrS s p) = if dir (lat s.md (p - 1)) (lat s.md p) * dir (lat s.md p) (lat s.md (p + 1)) ≤ 0 then 0 else 1 := by
      unfold withS depS arrS
      rw [spn_on b0 b2, spn_on b1 b0]
      dsimp only
      rcases d1 with a | a | a <;> rcases d2 with b | b | b <;> rw [a, b] <;> rfl
    have E : f_X9_weak_b124 95 (ii p) (ii g) (ii v) (ii s.sp) hs = if withS (depS s p) (arrS s p) = 0 then f_X9_weak_b160 95 (ii p) (ii g) (ii v) (ii s.sp) hs else some (ii (-1)) := by
      unfold f_X9_weak_b124
      rw [w.1, ob_some, il_1, ii_sub, l1, ob_some, ob_some, l0, ob_some, X9_direction b1 b0, ob_some, ob_some, ob_some, ob_some, ii_add, l2, ob_some, X9_direction b0 b2, ob_some, ii_mul, hw]
      by_cases c : dir (lat s.md (p - 1)) (lat s.md p) * dir (lat s.md p) (lat s.md (p + 1)) ≤ 0
      · rw [if_pos (by rw [il_0, ii_le (by omega) (by omega) (by omega) (by omega)]; exact c), if_pos c, if_pos (by rfl)]
      · rw [if_neg (by rw [il_0, ii_le (by omega) (by omega) (by omega) (by omega)]; exact c), if_neg c, if_neg (by omega)]; rfl
    rw [if_neg (by rw [e]; decide +kernel), E, X9_weak160 w n k hg h0 (Or.inr ⟨e, h1, h2⟩), if_neg (show ¬ v = 0 by omega)]
    unfold weak2 weak3
    rw [if_neg (show ¬ v = 0 by omega), if_neg (show ¬ v = 0 by omega)]
    by_cases c : s.sp = 2
    · rw [if_pos (by rw [c]; rfl)]
      by_cases x : withS (depS s p) (arrS s p) = 0 <;> by_cases y : lat s.md (p - 1) = lat s.md (p + 1) <;> simp [x, y, c, e]
    · rw [if_neg (by rw [il_2, ii_eq (by omega) (by omega) (by omega) (by omega)]; exact c)]
      by_cases d : s.sp = 3
      · rw [if_pos (by rw [d]; rfl)]
        by_cases x : withS (depS s p) (arrS s p) = 0 <;> by_cases y : lat s.md (p - 1) = lat s.md (p + 1) <;> simp [x, y, c, d, e]
      · rw [if_neg (by rw [il_3, ii_eq (by omega) (by omega) (by omega) (by omega)]; exact d), if_neg (fun z => d z.2.1)]
        by_cases x : withS (depS s p) (arrS s p) = 0 <;> by_cases y : lat s.md (p - 1) = lat s.md (p + 1) <;> simp [x, y, c, d, e]
theorem spn_0 {a b : Int} (h : a = -1 ∨ b = -1) : spn a b = (0, 0, 0, 0, 0) := if_pos h
theorem X9_weak (w : NW hs f) (n : NoA f s) (k : SOK s) (q : Wl s) {p : Int} (h0 : lat s.md p ≠ -1) : f_X9_weak 95 (ii p) (ii s.md.length) hs = some (ii (if weakD s p = 0 then -1 else (har s p).2.2.1)) := by
  obtain ⟨l0, b0⟩ := w.ln n k h0
  obtain ⟨p0, p1⟩ := lat_lt h0
  have ml := k.ml
  have hb := q.2.1 p p0 p1
  have hb0 : 0 ≤ p / per s.sp := by rcases per_3 s.sp with e | e | e <;> rw [e] <;> omega
  have hb4 : 0 ≤ p % per s.sp ∧ p % per s.sp ≤ 4 := by rcases per_3 s.sp with e | e | e <;> rw [e] <;> omega
  obtain ⟨c0, g0⟩ := w.cn n k hb0 hb
  have hh : har s p = (1, sts (lat s.gv (p / per s.sp)) (lat s.md p), wid (lat s.gv (p / per s.sp)) (lat s.md p), dir (lat s.gv (p / per s.sp)) (lat s.md p), prf (lat s.gv (p / per s.sp)) (lat s.md p)) := spn_on g0 b0
  have hc : conS (har s p) = conS (spn (lat s.md p) (lat s.gv (p / per s.sp))) := by unfold har; rw [conS_comm g0 b0]
  have cb := conS_b (har s p)
  unfold f_X9_weak weakD
  rw [w.1, ob_some, X9_barOf w n k p0 (by omega), ob_some, ob_some, c0, ob_some, ob_some, X9_beatOf w n k p0 (by omega), ob_some]
  by_cases c : p % per s.sp = 0
  · rw [if_pos (by rw [c]; rfl), if_pos c, if_pos (by rfl)]; rfl
  rw [if_neg (by rw [il_0, ii_eq (by omega) (by omega) (by omega) (by omega)]; exact c), if_neg c, ob_some, l0, ob_some, X9_isConsonant b0 g0, ob_some, ← hc]
  by_cases d : conS (har s p) = 0
  · rw [if_pos (by rw [d]; rfl), if_pos d, ob_some, il_1, ii_sub, X9_isNote w n k (by omega) (by omega), ob_some]
    have fin : ∀ v, (v = 0 ∨ v = 1 ∧ lat s.md (p - 1) ≠ -1 ∧ lat s.md (p + 1) ≠ -1) → f_X9_weak_b97 95 (ii p) (ii (lat s.gv (p / per s.sp))) (ii v) hs = some (ii (if weak1 s p v = 0 then -1 else (har s p).2.2.1)) := by
      intro v hv
      rw [X9_weak97 w n k g0 h0 hv, hh, wid_comm]
    have nb := isN_b s (p - 1)
    have nb2 := isN_b s (p + 1)
    by_cases e : lat s.md (p - 1) = -1
    · have : isN s (p - 1) = 0 := if_pos e
      rw [this, if_pos (by rfl), show (0 : Int32) = ii 0 from rfl, fin 0 (Or.inl rfl)]
      have : stepS (arrS s p) = 0 := by unfold stepS arrS; rw [spn_0 (Or.inl e)]; rfl
      rw [if_pos this]
    · have h1 : isN s (p - 1) = 1 := if_neg e
      obtain ⟨l1, b1⟩ := w.ln n k e
      have s1 := sts_bd b1 b0
      have hs1 : stepS (arrS s p) = if sts (lat s.md (p - 1)) (lat s.md p) = 1 then 1 else 0 := by unfold stepS arrS; rw [spn_on b1 b0]
      rw [h1, if_neg (by decide +kernel), ob_some, ii_add, X9_isNote w n k (by omega) (by omega), ob_some]
      by_cases e2 : lat s.md (p + 1) = -1
      · have : isN s (p + 1) = 0 := if_pos e2
        rw [this, if_pos (by rfl), show (0 : Int32) = ii 0 from rfl, fin 0 (Or.inl rfl)]
        have : stepS (depS s p) = 0 := by unfold stepS depS; rw [spn_0 (Or.inr e2)]; rfl
        rw [if_pos this]
        by_cases y : stepS (arrS s p) = 0
        · rw [if_pos y]
        · rw [if_neg y]
      · have h2 : isN s (p + 1) = 1 := if_neg e2
        obtain ⟨l2, b2⟩ := w.ln n k e2
        have s2 := sts_bd b0 b2
        have hs2 : stepS (depS s p) = if sts (lat s.md p) (lat s.md (p + 1)) = 1 then 1 else 0 := by unfold stepS depS; rw [spn_on b0 b2]
        rw [h2, if_neg (by decide +kernel), ob_some, l1, ob_some, ob_some, ob_some, X9_steps b1 b0, ob_some, hs1, hs2]
        by_cases y : sts (lat s.md (p - 1)) (lat s.md p) = 1
        · rw [if_pos (by rw [y]), if_pos y, if_neg (show ¬ (1 : Int) = 0 by omega), ob_some, ob_some, ob_some, l2, ob_some, X9_steps b0 b2, ob_some]
          by_cases z : sts (lat s.md p) (lat s.md (p + 1)) = 1
          · rw [if_pos (by rw [z]), if_pos z, if_neg (show ¬ (1 : Int) = 0 by omega), fin 1 (Or.inr ⟨rfl, e, e2⟩)]
          · rw [if_neg (by rw [ii_eq (by omega) (by omega) (by omega) (by omega)]; exact z), if_neg z, if_pos rfl, show (0 : Int32) = ii 0 from rfl, fin 0 (Or.inl rfl)]
        · rw [if_neg (by rw [ii_eq (by omega) (by omega) (by omega) (by omega)]; exact y), if_neg y, if_pos rfl, show (0 : Int32) = ii 0 from rfl, fin 0 (Or.inl rfl)]
  · rw [if_neg (by rw [il_0, ii_eq (by omega) (by omega) (by omega) (by omega)]; exact d), if_neg d, if_pos (by rfl)]; rfl
end MRV
