/-! ===== the reference: the climax ===== -/
theorem svTop_ge {s : Sh} : ∀ (k j : Nat), j < k → lat s.md j ≠ -1 → pit (lat s.md j) ≤ svTop s k
  | 0, j, h, _ => by omega
  | k + 1, j, h, hn => by
    unfold svTop
    by_cases c : lat s.md k = -1
    · rw [if_pos c]
      by_cases e : j = k
      · rw [e] at hn; exact absurd c hn
      · exact svTop_ge k j (by omega) hn
    · rw [if_neg c]
      by_cases e : j = k
      · rw [e]
        by_cases d : svTop s k < pit (lat s.md k)
        · rw [if_pos d]; omega
        · rw [if_neg d]; omega
      · have := svTop_ge k j (by omega) hn
        by_cases d : svTop s k < pit (lat s.md k)
        · rw [if_pos d]; omega
        · rw [if_neg d]; omega
theorem svTop_in {s : Sh} : ∀ (k : Nat), svTop s k = 0 ∨ ∃ j : Nat, j < k ∧ lat s.md j ≠ -1 ∧ pit (lat s.md j) = svTop s k
  | 0 => Or.inl rfl
  | k + 1 => by
    have ih := svTop_in (s := s) k
    unfold svTop
    by_cases c : lat s.md k = -1
    · rw [if_pos c]
      rcases ih with h | ⟨j, h1, h2⟩
      · exact Or.inl h
      · exact Or.inr ⟨j, by omega, h2⟩
    · rw [if_neg c]
      by_cases d : svTop s k < pit (lat s.md k)
      · rw [if_pos d]; exact Or.inr ⟨k, by omega, c, rfl⟩
      · rw [if_neg d]
        rcases ih with h | ⟨j, h1, h2⟩
        · exact Or.inl h
        · exact Or.inr ⟨j, by omega, h2⟩
theorem sv2_rest {s : Sh} {top : Int} {k : Nat} (h : lat s.md k = -1 ∨ pit (lat s.md k) ≠ top) : sv2 s top (k + 1) = sv2 s top k := by
  show (if lat s.md k = -1 then sv2 s top k else if pit (lat s.md k) = top then _ else sv2 s top k) = _
  by_cases c : lat s.md k = -1
  · rw [if_pos c]
  · rw [if_neg c, if_neg (h.resolve_left c)]
theorem sv2_top {s : Sh} {top : Int} {k : Nat} (h1 : lat s.md k ≠ -1) (h2 : pit (lat s.md k) = top) : sv2 s top (k + 1) = (1, (if (sv2 s top k).1 = 0 then (sv2 s top k).2.1 else if tie s k = 0 then (if (sv2 s top k).2.1 = -1 then (k : Int) else (sv2 s top k).2.1) else (sv2 s top k).2.1), (sv2 s top k).2.2 + (if tie s k = 0 then 1 else 0)) := by
  show (if lat s.md k = -1 then sv2 s top k else if pit (lat s.md k) = top then _ else sv2 s top k) = _
  rw [if_neg h1, if_pos h2]
theorem sv2_stay {s : Sh} {top : Int} {i : Nat} (h : (sv2 s top i).2.1 ≠ -1) : ∀ d, (sv2 s top (i + d)).2.1 = (sv2 s top i).2.1
  | 0 => rfl
  | d + 1 => by
    have ih := sv2_stay h d
    by_cases c : lat s.md ((i + d : Nat) : Int) = -1 ∨ pit (lat s.md ((i + d : Nat) : Int)) ≠ top
    · rw [show i + (d + 1) = i + d + 1 from rfl, sv2_rest c, ih]
    · have c1 : lat s.md ((i + d : Nat) : Int) ≠ -1 := fun e => c (Or.inl e)
      have c2 : pit (lat s.md ((i + d : Nat) : Int)) = top := Classical.byContradiction (fun e => c (Or.inr e))
      rw [show i + (d + 1) = i + d + 1 from rfl, sv2_top c1 c2]
      dsimp only
      rw [ih, if_neg h]
      by_cases a : (sv2 s top (i + d)).1 = 0
      · rw [if_pos a]
      · rw [if_neg a]
        by_cases b : tie s ((i + d : Nat) : Int) = 0
        · rw [if_pos b]
        · rw [if_neg b]
theorem sv2_late {s : Sh} {top : Int} {i : Nat} (h : (sv2 s top i).2.1 = -1) : ∀ d, (sv2 s top (i + d)).2.1 = -1 ∨ (i : Int) ≤ (sv2 s top (i + d)).2.1
  | 0 => Or.inl h
  | d + 1 => by
    have ih := sv2_late h d
    by_cases c : lat s.md ((i + d : Nat) : Int) = -1 ∨ pit (lat s.md ((i + d : Nat) : Int)) ≠ top
    · rw [show i + (d + 1) = i + d + 1 from rfl, sv2_rest c]; exact ih
    · have c1 : lat s.md ((i + d : Nat) : Int) ≠ -1 := fun e => c (Or.inl e)
      have c2 : pit (lat s.md ((i + d : Nat) : Int)) = top := Classical.byContradiction (fun e => c (Or.inr e))
      rw [show i + (d + 1) = i + d + 1 from rfl, sv2_top c1 c2]
      dsimp only
      by_cases a : (sv2 s top (i + d)).1 = 0
      · rw [if_pos a]; exact ih
      · rw [if_neg a]
        by_cases b : tie s ((i + d : Nat) : Int) = 0
        · rw [if_pos b]
          by_cases e : (sv2 s top (i + d)).2.1 = -1
          · rw [if_pos e]; right; omega
          · rw [if_neg e]; exact ih
        · rw [if_neg b]; exact ih
theorem sv2_lt {s : Sh} {top : Int} : ∀ {i : Nat}, (sv2 s top i).2.1 ≠ -1 → (sv2 s top i).2.1 < i
  | 0, h => absurd rfl h
  | i + 1, h => by
    by_cases c : lat s.md (i : Int) = -1 ∨ pit (lat s.md (i : Int)) ≠ top
    · rw [sv2_rest c] at h ⊢
      have := sv2_lt h
      omega
    · have c1 : lat s.md (i : Int) ≠ -1 := fun e => c (Or.inl e)
      have c2 : pit (lat s.md (i : Int)) = top := Classical.byContradiction (fun e => c (Or.inr e))
      rw [sv2_top c1 c2] at h ⊢
      dsimp only at h ⊢
      by_cases e : (sv2 s top i).2.1 = -1
      · rw [e] at h ⊢
        by_cases a : (sv2 s top i).1 = 0
        · rw [if_pos a]; omega
        · rw [if_neg a]
          by_cases b : tie s (i : Int) = 0
          · rw [if_pos b, if_pos (by rfl)]; omega
          · rw [if_neg b]; omega
      · have ih := sv2_lt e
        by_cases a : (sv2 s top i).1 = 0
        · rw [if_pos a]; omega
        · rw [if_neg a, if_neg e]
          by_cases b : tie s (i : Int) = 0
          · rw [if_pos b]; omega
          · rw [if_neg b]; omega
theorem sv2_pit {s : Sh} {top : Int} : ∀ (i : Nat), (sv2 s top i).2.1 ≠ -1 → pit (lat s.md (sv2 s top i).2.1) = top
  | 0, h => absurd rfl h
  | i + 1, h => by
    by_cases c : lat s.md (i : Int) = -1 ∨ pit (lat s.md (i : Int)) ≠ top
    · rw [sv2_rest c] at h ⊢
      exact sv2_pit i h
    · have c1 : lat s.md (i : Int) ≠ -1 := fun e => c (Or.inl e)
      have c2 : pit (lat s.md (i : Int)) = top := Classical.byContradiction (fun e => c (Or.inr e))
      have ih := sv2_pit (s := s) (top := top) i
      rw [sv2_top c1 c2] at h ⊢
      dsimp only at h ⊢
      by_cases a : (sv2 s top i).1 = 0
      · rw [if_pos a] at h ⊢; exact ih h
      · rw [if_neg a] at h ⊢
        by_cases b : tie s (i : Int) = 0
        · rw [if_pos b] at h ⊢
          by_cases e : (sv2 s top i).2.1 = -1
          · rw [if_pos e]; exact c2
          · rw [if_neg e]; exact ih e
        · rw [if_neg b] at h ⊢; exact ih h
section MCL
variable {hs : AH} {f : Nat → Int} {s : Sh}
theorem X9_cl96 (w : NW hs f) (n : NoA f s) (k : SOK s) (o : Nat → Int32 → Int32 → Int32 → Int32 → Int32 → Int32 → AH → Option Int32) {v1 v2 v3 v5 : Int32} {c : Int} {i : Nat} (hi : lat s.md i ≠ -1) : f_X9_climax_b96 o 95 v1 v2 v3 (ii c) v5 (ii i) hs = o 95 v1 v2 v3 (ii (c + if tie s i = 0 then 1 else 0)) v5 (ii (i + 1 : Nat)) hs := by
  obtain ⟨i0, i1⟩ := lat_lt hi
  have tb := tie_b s i
  unfold f_X9_climax_b96
  rw [w.1, ob_some, X9_isTied w n k i0 i1 hi, ob_some]
  have e1 : ii (i : Int) + 1 = ii ((i + 1 : Nat) : Int) := by rw [il_1, ii_add]; rfl
  rw [e1]
  by_cases a : tie s i = 0
  · rw [if_pos (by rw [a]; rfl), if_pos a, il_1, ii_add]
  · rw [if_neg (by rw [il_0, ii_eq (by omega) (by omega) (by omega) (by omega)]; exact a), if_neg a, Int.add_zero]
/-- a higher note to come: no climax here -/
theorem X9_clA (w : NW hs f) (n : NoA f s) (k : SOK s) {p top : Int} (ht : 20 ≤ top ∧ top ≤ 90) (p0 : 0 ≤ p) (p1 : p < 45) : ∀ (d m i : Nat) (c v5 : Int), d < m → i + d = s.md.length → (0 ≤ v5 ∧ v5 ≤ 1) → (∃ j : Nat, i ≤ j ∧ j < s.md.length ∧ lat s.md j ≠ -1 ∧ top < pit (lat s.md j)) →
    f_X9_climax_b18 m 95 (ii p) (ii s.md.length) (ii top) (ii c) (ii v5) (ii i) hs = some (ii (-1)) := by
  have ml := k.ml
  intro d
  induction d with
  | zero => intro m i c v5 hm hi _ ⟨j, h⟩; omega
  | succ d ih =>
    intro m i c v5 hm hi hv ⟨j, j0, j1, j2, j3⟩
    obtain ⟨m, rfl⟩ : ∃ z, m = z + 1 := ⟨m - 1, by omega⟩
    have nb := isN_b s (i : Int)
    have e1 : ii (i : Int) + 1 = ii ((i + 1 : Nat) : Int) := by rw [il_1, ii_add]; rfl
    rw [f_X9_climax_b18.eq_2, if_neg (by rw [ii_le (by omega) (by omega) (by omega) (by omega)]; omega), w.1, ob_some, X9_isNote w n k (by omega) (by omega), ob_some, e1]
    by_cases a : lat s.md i = -1
    · have i0 : isN s (i : Int) = 0 := if_pos a
      have : j ≠ i := by intro e; rw [e] at j2; exact j2 a
      rw [i0, if_pos (by rfl)]
      exact ih m (i + 1) c v5 (by omega) (by omega) hv ⟨j, by omega, j1, j2, j3⟩
    · have i0 : isN s (i : Int) = 1 := if_neg a
      obtain ⟨l0, b0⟩ := w.ln n k a
      have pb := pit_bd b0
      have go : j ≠ i → ∀ v c', (0 ≤ v ∧ v ≤ 1) → f_X9_climax_b18 m 95 (ii p) (ii s.md.length) (ii top) (ii c') (ii v) (ii ((i + 1 : Nat) : Int)) hs = some (ii (-1)) :=
        fun hj v c' hv => ih m (i + 1) c' v (by omega) (by omega) hv ⟨j, by omega, j1, j2, j3⟩
      rw [i0, if_neg (by decide +kernel), ob_some, l0, ob_some, X9_pitchOf (by omega) (by omega), ob_some]
      by_cases b : pit (lat s.md i) ≤ top
      · have hj : j ≠ i := by intro e; rw [e] at j3; omega
        have go := go hj
        have g0 := go 0 
        have g1 := go 1
        rw [if_pos (by rw [ii_le (by omega) (by omega) (by omega) (by omega)]; exact b)]
        by_cases e : pit (lat s.md i) = top
        · obtain ⟨q0, q1⟩ := lat_lt a
          rw [if_pos (by rw [e])]
          by_cases y : p ≤ i
          · rw [if_pos (by rw [ii_le (by omega) (by omega) (by omega) (by omega)]; exact y), if_pos (by rw [ii_le (by omega) (by omega) (by omega) (by omega)]; exact y), X9_cl96 w n k _ a]
            exact go v5 _ hv
          · rw [if_neg (by rw [ii_le (by omega) (by omega) (by omega) (by omega)]; exact y)]
            by_cases z : v5 = 0
            · rw [if_pos (by rw [z]; rfl), if_neg (by rw [ii_le (by omega) (by omega) (by omega) (by omega)]; exact y), X9_cl96 w n k _ a]
              exact go 1 _ (by omega)
            · have tb := tie_b s (i : Int)
              rw [if_neg (by rw [il_0, ii_eq (by omega) (by omega) (by omega) (by omega)]; exact z), ob_some, X9_isTied w n k q0 q1 a, ob_some]
              by_cases x : tie s i = 0
              · rw [if_pos (by rw [x]; rfl)]; rfl
              · rw [if_neg (by rw [il_0, ii_eq (by omega) (by omega) (by omega) (by omega)]; exact x), if_neg (by rw [ii_le (by omega) (by omega) (by omega) (by omega)]; exact y), X9_cl96 w n k _ a]
                exact go 1 _ (by omega)
        · rw [if_neg (by rw [ii_eq (by omega) (by omega) (by omega) (by omega)]; exact e)]
          exact go v5 c hv
      · rw [if_neg (by rw [ii_le (by omega) (by omega) (by omega) (by omega)]; exact b)]; rfl
/-- no higher note -/
theorem X9_clB (w : NW hs f) (n : NoA f s) (k : SOK s) {p : Nat} {top : Int} (ht : 20 ≤ top ∧ top ≤ 90) (hp : p < s.md.length) (hn : lat s.md p ≠ -1) (hall : ∀ j : Nat, j < s.md.length → lat s.md j ≠ -1 → pit (lat s.md j) ≤ top) : ∀ (d m i : Nat), d < m → i + d = s.md.length → (sv2 s top (min i p)).2.1 = -1 →
    f_X9_climax_b18 m 95 (ii p) (ii s.md.length) (ii top) (ii (sv2 s top i).2.2) (ii (sv2 s top (min i p)).1) (ii i) hs = some (ii (if (sv2 s top p).2.1 = -1 ∧ (sv2 s top p).1 = 1 ∧ tie s p = 0 then (sv2 s top s.md.length).2.2 else -1)) := by
  have ml := k.ml
  intro d
  induction d with
  | zero =>
    intro m i hm hi hc
    obtain ⟨m, rfl⟩ : ∃ z, m = z + 1 := ⟨m - 1, by omega⟩
    obtain rfl : i = s.md.length := by omega
    rw [Nat.min_eq_right (by omega)] at hc ⊢
    have vb := (sv2_b s top p).1
    have tb := tie_b s (p : Int)
    rw [f_X9_climax_b18.eq_2, if_pos (by rw [ii_le (by omega) (by omega) (by omega) (by omega)]; omega)]
    by_cases a : (sv2 s top p).1 = 0
    · rw [if_pos (by rw [a]; rfl), if_neg (by omega)]; rfl
    · rw [if_neg (by rw [il_0, ii_eq (by omega) (by omega) (by omega) (by omega)]; exact a), w.1, ob_some, X9_isTied w n k (by omega) (by omega) hn, ob_some]
      by_cases b : tie s p = 0
      · rw [if_pos (by rw [b]; rfl), if_pos ⟨hc, by omega, b⟩]
      · rw [if_neg (by rw [il_0, ii_eq (by omega) (by omega) (by omega) (by omega)]; exact b), if_neg (fun x => b x.2.2)]; rfl
  | succ d ih =>
    intro m i hm hi hc
    obtain ⟨m, rfl⟩ : ∃ z, m = z + 1 := ⟨m - 1, by omega⟩
    have nb := isN_b s (i : Int)
    have e1 : ii (i : Int) + 1 = ii ((i + 1 : Nat) : Int) := by rw [il_1, ii_add]; rfl
    have cb := (sv2_b s top i).2.2
    rw [f_X9_climax_b18.eq_2, if_neg (by rw [ii_le (by omega) (by omega) (by omega) (by omega)]; omega), w.1, ob_some, X9_isNote w n k (by omega) (by omega), ob_some, e1]
    have skip : (lat s.md i = -1 ∨ pit (lat s.md i) ≠ top) → f_X9_climax_b18 m 95 (ii p) (ii s.md.length) (ii top) (ii (sv2 s top i).2.2) (ii (sv2 s top (min i p)).1) (ii ((i + 1 : Nat) : Int)) hs = some (ii (if (sv2 s top p).2.1 = -1 ∧ (sv2 s top p).1 = 1 ∧ tie s p = 0 then (sv2 s top s.md.length).2.2 else -1)) := by
      intro hr
      have er := sv2_rest hr
      have em : sv2 s top (min (i + 1) p) = sv2 s top (min i p) := by
        by_cases x : i < p
        · rw [Nat.min_eq_left (by omega), Nat.min_eq_left (by omega)]; exact er
        · rw [Nat.min_eq_right (by omega), Nat.min_eq_right (by omega)]
      have := ih m (i + 1) (by omega) (by omega) (by rw [em]; exact hc)
      rw [er, em] at this
      exact this
    by_cases a : lat s.md i = -1
    · have i0 : isN s (i : Int) = 0 := if_pos a
      rw [i0, if_pos (by rfl)]
      exact skip (Or.inl a)
    · have i0 : isN s (i : Int) = 1 := if_neg a
      obtain ⟨l0, b0⟩ := w.ln n k a
      have pb := pit_bd b0
      have hle := hall i (by omega) a
      obtain ⟨q0, q1⟩ := lat_lt a
      rw [i0, if_neg (by decide +kernel), ob_some, l0, ob_some, X9_pitchOf (by omega) (by omega), ob_some, if_pos (by rw [ii_le (by omega) (by omega) (by omega) (by omega)]; exact hle)]
      by_cases e : pit (lat s.md i) = top
      · rw [if_pos (by rw [e])]
        have st := sv2_top (k := i) a e
        have tb := tie_b s (i : Int)
        by_cases y : p ≤ i
        · rw [if_pos (by rw [ii_le (by omega) (by omega) (by omega) (by omega)]; omega), if_pos (by rw [ii_le (by omega) (by omega) (by omega) (by omega)]; omega), X9_cl96 w n k _ a]
          have em : min (i + 1) p = min i p := by omega
          have := ih m (i + 1) (by omega) (by omega) (by rw [em]; exact hc)
          rw [em, st] at this
          exact this
        · have hm1 : min i p = i := by omega
          have hm2 : min (i + 1) p = i + 1 := by omega
          rw [hm1] at hc ⊢
          have vb := (sv2_b s top i).1
          rw [if_neg (by rw [ii_le (by omega) (by omega) (by omega) (by omega)]; omega)]
          by_cases z : (sv2 s top i).1 = 0
          · rw [if_pos (by rw [z]; rfl), if_neg (by rw [ii_le (by omega) (by omega) (by omega) (by omega)]; omega), X9_cl96 w n k _ a]
            rw [z, if_pos (by rfl)] at st
            have := ih m (i + 1) (by omega) (by omega) (by rw [hm2, st]; exact hc)
            rw [hm2, st] at this
            exact this
          · rw [if_neg (by rw [il_0, ii_eq (by omega) (by omega) (by omega) (by omega)]; exact z), ob_some, X9_isTied w n k q0 q1 a, ob_some]
            rw [if_neg z] at st
            by_cases x : tie s i = 0
            · rw [if_pos (by rw [x]; rfl)]
              rw [if_pos x, if_pos hc] at st
              have h1 : (sv2 s top (i + 1)).2.1 = i := by rw [st]
              have h2 := sv2_stay (s := s) (top := top) (i := i + 1) (by rw [h1]; omega) (p - (i + 1))
              rw [show i + 1 + (p - (i + 1)) = p by omega, h1] at h2
              rw [if_neg (by omega)]; rfl
            · rw [if_neg (by rw [il_0, ii_eq (by omega) (by omega) (by omega) (by omega)]; exact x), if_neg (by rw [ii_le (by omega) (by omega) (by omega) (by omega)]; omega), X9_cl96 w n k _ a]
              rw [if_neg x] at st
              have := ih m (i + 1) (by omega) (by omega) (by rw [hm2, st]; exact hc)
              rw [hm2, st, if_neg x] at this
              rw [if_neg x]
              exact this
      · rw [if_neg (by rw [ii_eq (by omega) (by omega) (by omega) (by omega)]; exact e)]
        exact skip (Or.inr e)
theorem X9_climax (w : NW hs f) (n : NoA f s) (k : SOK s) {p : Nat} (hn : lat s.md p ≠ -1) : f_X9_climax 95 (ii p) (ii s.md.length) hs = some (ii (if (p : Int) = cpS s then cnS s else -1)) := by
  obtain ⟨l0, b0⟩ := w.ln n k hn
  obtain ⟨q0, q1⟩ := lat_lt hn
  have ml := k.ml
  have pb := pit_bd b0
  unfold f_X9_climax cpS cnS
  rw [w.1, ob_some, l0, ob_some, X9_pitchOf (by omega) (by omega), ob_some]
  have hge := svTop_ge s.md.length p (by omega) hn
  by_cases T : svTop s s.md.length = pit (lat s.md p)
  · have hB := X9_clB w n k pb (by omega) hn (fun j hj hn => by rw [← T]; exact svTop_ge _ j hj hn) s.md.length FUEL 0 (by unfold FUEL; omega) (by omega) (by rw [Nat.zero_min]; rfl)
    rw [Nat.zero_min] at hB
    rw [T]
    refine Eq.trans hB ?_
    have st := sv2_top (s := s) (k := p) hn rfl
    have vb := (sv2_b s (pit (lat s.md p)) p).1
    have wb := (sv2_b s (pit (lat s.md p)) p).2.1
    have tb := tie_b s (p : Int)
    congr 2
    by_cases c : (sv2 s (pit (lat s.md p)) p).2.1 = -1
    · by_cases g : (sv2 s (pit (lat s.md p)) p).1 = 1 ∧ tie s p = 0
      · rw [if_pos ⟨c, g⟩]
        rw [if_neg (by omega), if_pos g.2, if_pos c] at st
        have h1 : (sv2 s (pit (lat s.md p)) (p + 1)).2.1 = p := by rw [st]
        have h2 := sv2_stay (s := s) (i := p + 1) (by rw [h1]; omega) (s.md.length - (p + 1))
        rw [show p + 1 + (s.md.length - (p + 1)) = s.md.length by omega, h1] at h2
        rw [if_pos h2.symm]
      · rw [if_neg (fun x => g x.2)]
        have h1 : (sv2 s (pit (lat s.md p)) (p + 1)).2.1 = -1 := by
          rw [st]
          dsimp only
          by_cases z : (sv2 s (pit (lat s.md p)) p).1 = 0
          · rw [if_pos z]; exact c
          · rw [if_neg z]
            by_cases y : tie s p = 0
            · exact absurd ⟨by omega, y⟩ g
            · rw [if_neg y]; exact c
        have h2 := sv2_late (s := s) h1 (s.md.length - (p + 1))
        rw [show p + 1 + (s.md.length - (p + 1)) = s.md.length by omega] at h2
        rw [if_neg (by omega)]
    · rw [if_neg (fun x => c x.1)]
      have h2 := sv2_stay (s := s) c (s.md.length - p)
      rw [show p + (s.md.length - p) = s.md.length by omega] at h2
      have h3 : (sv2 s (pit (lat s.md p)) p).2.1 < p := sv2_lt c
      rw [if_neg (by omega)]
  · rcases svTop_in (s := s) s.md.length with h | ⟨j, j1, j2, j3⟩
    · omega
    · have hA := X9_clA w n k (p := (p : Int)) pb (by omega) (by omega) s.md.length FUEL 0 0 0 (by unfold FUEL; omega) (by omega) (by omega) ⟨j, by omega, j1, j2, by omega⟩
      refine Eq.trans hA ?_
      rw [if_neg]
      intro e
      have := sv2_pit (s := s) (top := svTop s s.md.length) s.md.length (by omega)
      rw [← e] at this
      omega
end MCL
