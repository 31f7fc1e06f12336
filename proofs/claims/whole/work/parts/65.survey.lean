/-! ===== the survey ===== -/
def svTop (s : Sh) : Nat → Int
  | 0 => 0
  | k + 1 => if lat s.md k = -1 then svTop s k else if svTop s k < pit (lat s.md k) then pit (lat s.md k) else svTop s k
def sv2 (s : Sh) (top : Int) : Nat → Int × Int × Int
  | 0 => (0, -1, 0)
  | k + 1 => if lat s.md k = -1 then sv2 s top k else if pit (lat s.md k) = top then (1, (if (sv2 s top k).1 = 0 then (sv2 s top k).2.1 else if tie s k = 0 then (if (sv2 s top k).2.1 = -1 then (k : Int) else (sv2 s top k).2.1) else (sv2 s top k).2.1), (sv2 s top k).2.2 + (if tie s k = 0 then 1 else 0)) else sv2 s top k
theorem svTop_b {s : Sh} (k : SOK s) : ∀ n, 0 ≤ svTop s n ∧ svTop s n ≤ 90
  | 0 => by unfold svTop; omega
  | n + 1 => by
    have h := svTop_b k n
    unfold svTop
    by_cases c : lat s.md n = -1
    · rw [if_pos c]; exact h
    · have b := pit_bd ((k.mdb n).resolve_left c)
      rw [if_neg c]
      exact if_b (by omega) h
theorem sv2_b (s : Sh) (top : Int) : ∀ n : Nat, (0 ≤ (sv2 s top n).1 ∧ (sv2 s top n).1 ≤ 1) ∧ (-1 ≤ (sv2 s top n).2.1 ∧ (sv2 s top n).2.1 ≤ n) ∧ (0 ≤ (sv2 s top n).2.2 ∧ (sv2 s top n).2.2 ≤ n)
  | 0 => by unfold sv2; decide
  | n + 1 => by
    obtain ⟨h1, h2, h3⟩ := sv2_b s top n
    unfold sv2
    by_cases c : lat s.md n = -1
    · rw [if_pos c]; exact ⟨h1, by omega, by omega⟩
    · rw [if_neg c]
      by_cases d : pit (lat s.md n) = top
      · rw [if_pos d]
        have b : 0 ≤ (if tie s n = 0 then (1 : Int) else 0) ∧ (if tie s n = 0 then (1 : Int) else 0) ≤ 1 := if_b b11 b00
        exact ⟨b11, if_b (by omega) (if_b (if_b (by omega) (by omega)) (by omega)), by dsimp only; omega⟩
      · rw [if_neg d]; exact ⟨h1, by omega, by omega⟩
def cpS (s : Sh) : Int := (sv2 s (svTop s s.md.length) s.md.length).2.1
def cnS (s : Sh) : Int := (sv2 s (svTop s s.md.length) s.md.length).2.2
section SURVEY
variable {a : Nat} {s : Sh} {sp : Nat → Spn}
theorem X1_sv2 (k : SOK s) {top : Int} (ht : 0 ≤ top ∧ top ≤ 90) : ∀ (d n i : Nat) (hs : AH) (x : Nat → Int), d < n → i + d = s.md.length → JuA hs a s x sp → x 15 = (sv2 s top i).2.1 → x 16 = (sv2 s top i).2.2 →
    ∃ hs' x', f_X1_survey_b72 n a (ii top) (ii (sv2 s top i).1) (ii i) hs = some hs' ∧ JuA hs' a s x' sp ∧ x' 15 = (sv2 s top s.md.length).2.1 ∧ x' 16 = (sv2 s top s.md.length).2.2 ∧ Out hs hs' a 16 := by
  have ml := k.ml
  intro d
  induction d with
  | zero =>
    intro n i hs x hn hi j x15 x16
    obtain ⟨n, rfl⟩ : ∃ z, n = z + 1 := ⟨n - 1, by omega⟩
    obtain rfl : i = s.md.length := by omega
    unfold f_X1_survey_b72
    rw [j.sh, ob_some, j.2.1.m, ob_some, j.2.1.2.2.1.chk, ob_some, X2_size j.2.1.2.2.1, ob_some, if_pos (Int32.le_refl _)]
    exact ⟨hs, x, rfl, j, x15, x16, Out.refl _ _ _⟩
  | succ d ih =>
    intro n i hs x hn hi j x15 x16
    obtain ⟨n, rfl⟩ : ∃ z, n = z + 1 := ⟨n - 1, by omega⟩
    obtain ⟨b1, b2, b3⟩ := sv2_b s top i
    have mi := k.mdi i
    have tb := tie_b s i
    unfold f_X1_survey_b72
    rw [j.sh, ob_some, j.2.1.m, ob_some, j.2.1.2.2.1.chk, ob_some, X2_size j.2.1.2.2.1, ob_some, if_neg (by rw [ii_le (by omega) (by omega) (by omega) (by omega)]; omega), ob_some, j.2.1.m, ob_some, j.2.1.2.2.1.chk, ob_some, X2_at j.2.1.2.2.1 (by omega) (by omega), ob_some]
    have ih' := fun (hs1 : AH) (x1 : Nat → Int) => ih n (i + 1) hs1 x1 (by omega) (by omega)
    have es : sv2 s top (i + 1) = if lat s.md i = -1 then sv2 s top i else if pit (lat s.md i) = top then (1, (if (sv2 s top i).1 = 0 then (sv2 s top i).2.1 else if tie s i = 0 then (if (sv2 s top i).2.1 = -1 then (i : Int) else (sv2 s top i).2.1) else (sv2 s top i).2.1), (sv2 s top i).2.2 + (if tie s i = 0 then 1 else 0)) else sv2 s top i := rfl
    rw [es] at ih'
    by_cases c : lat s.md i = -1
    · simp only [if_pos c] at ih'
      rw [if_pos (show ii (lat s.md i) = -1 by rw [c]; rfl), il_1, ii_add]
      exact ih' hs x j x15 x16
    · have pb := pit_bd ((k.mdb i).resolve_left c)
      rw [if_neg (show ¬ ii (lat s.md i) = -1 by rw [il_m1, ii_eq (by omega) (by omega) (by omega) (by omega)]; exact c), X8_pitchOf (by omega) (by omega), ob_some]
      simp only [if_neg c] at ih'
      by_cases e : pit (lat s.md i) = top
      · simp only [if_pos e] at ih'
        rw [if_pos (show ii (pit (lat s.md i)) = ii top by rw [e]), ob_some, j.2.1.chk, ob_some, X6_tie j.2.1 k (by omega) (by omega), ob_some]
        have step : ∀ (hs1 : AH) (x1 : Nat → Int) (c1 : Int), JuA hs1 a s x1 sp → x1 15 = c1 → x1 16 = (sv2 s top i).2.2 → (c1 = if (sv2 s top i).1 = 0 then (sv2 s top i).2.1 else if tie s i = 0 then (if (sv2 s top i).2.1 = -1 then (i : Int) else (sv2 s top i).2.1) else (sv2 s top i).2.1) → Out hs hs1 a 16 →
            ∃ hs' x', f_X1_survey_b146 (f_X1_survey_b72 n) a (ii top) (ii i) (ii (tie s i)) hs1 = some hs' ∧ JuA hs' a s x' sp ∧ x' 15 = (sv2 s top s.md.length).2.1 ∧ x' 16 = (sv2 s top s.md.length).2.2 ∧ Out hs hs' a 16 := by
          intro hs1 x1 c1 j1 y15 y16 hc o1
          have g16 := j1.i16
          rw [y16] at g16
          unfold f_X1_survey_b146
          rw [g16, ob_some]
          obtain ⟨hs2, e2, j2, o2⟩ := j1.put (k := 16) (by omega) ((sv2 s top i).2.2 + (if tie s i = 0 then 1 else 0))
          obtain ⟨hs3, x3, e3, j3, z15, z16, o3⟩ := ih' hs2 (uz x1 16 _) j2 (y15.trans hc) rfl
          refine ⟨hs3, x3, ?_, j3, z15, z16, o1.trans (o2.trans o3)⟩
          by_cases t : tie s i = 0
          · rw [if_pos (show ii (tie s i) = 0 by rw [t]; rfl), il_1, ii_add, ii_add]
            rw [if_pos t] at e2
            rw [e2, ob_some]
            exact e3
          · rw [if_neg (show ¬ ii (tie s i) = 0 by rw [il_0, ii_eq (by omega) (by omega) (by omega) (by omega)]; exact t), il_0, ii_add, il_1, ii_add]
            rw [if_neg t] at e2
            rw [e2, ob_some]
            exact e3
        by_cases w : (sv2 s top i).1 = 0
        · rw [if_pos (show ii (sv2 s top i).1 = 0 by rw [w]; rfl)]
          exact step hs x _ j x15 x16 (by rw [if_pos w]) (Out.refl _ _ _)
        · rw [if_neg (show ¬ ii (sv2 s top i).1 = 0 by rw [il_0, ii_eq (by omega) (by omega) (by omega) (by omega)]; exact w)]
          by_cases t : tie s i = 0
          · have g15 := j.i15
            rw [x15] at g15
            rw [if_pos (show ii (tie s i) = 0 by rw [t]; rfl), g15, ob_some]
            by_cases u : (sv2 s top i).2.1 = -1
            · obtain ⟨hs1, e1, j1, o1⟩ := j.put (k := 15) (by omega) (i : Int)
              rw [if_pos (show ii (sv2 s top i).2.1 = -1 by rw [u]; rfl), e1, ob_some]
              exact step hs1 (uz x 15 i) i j1 rfl x16 (by rw [if_neg w, if_pos t, if_pos u]) o1
            · rw [if_neg (show ¬ ii (sv2 s top i).2.1 = -1 by rw [il_m1, ii_eq (by omega) (by omega) (by omega) (by omega)]; exact u)]
              exact step hs x _ j x15 x16 (by rw [if_neg w, if_pos t, if_neg u]) (Out.refl _ _ _)
          · rw [if_neg (show ¬ ii (tie s i) = 0 by rw [il_0, ii_eq (by omega) (by omega) (by omega) (by omega)]; exact t)]
            exact step hs x _ j x15 x16 (by rw [if_neg w, if_neg t]) (Out.refl _ _ _)
      · simp only [if_neg e] at ih'
        rw [if_neg (show ¬ ii (pit (lat s.md i)) = ii top by rw [ii_eq (by omega) (by omega) (by omega) (by omega)]; exact e), il_1, ii_add]
        exact ih' hs x j x15 x16
theorem X1_sv1 (k : SOK s) : ∀ (d n i : Nat) (hs : AH) (x : Nat → Int), d < n → i + d = s.md.length → JuA hs a s x sp →
    ∃ hs' x', f_X1_survey_b4 n a (ii (svTop s i)) (ii i) hs = some hs' ∧ JuA hs' a s x' sp ∧ x' 15 = cpS s ∧ x' 16 = cnS s ∧ Out hs hs' a 16 := by
  have ml := k.ml
  intro d
  induction d with
  | zero =>
    intro n i hs x hn hi j
    obtain ⟨n, rfl⟩ : ∃ z, n = z + 1 := ⟨n - 1, by omega⟩
    obtain rfl : i = s.md.length := by omega
    unfold f_X1_survey_b4
    rw [j.sh, ob_some, j.2.1.m, ob_some, j.2.1.2.2.1.chk, ob_some, X2_size j.2.1.2.2.1, ob_some, if_pos (Int32.le_refl _), il_m1]
    obtain ⟨h1, e1, j1, o1⟩ := j.put (k := 15) (by omega) (-1)
    obtain ⟨h2, e2, j2, o2⟩ := j1.put (k := 16) (by omega) 0
    obtain ⟨h3, x3, e3, j3, y15, y16, o3⟩ := X1_sv2 k (top := svTop s s.md.length) (svTop_b k _) s.md.length FUEL 0 h2 _ (by unfold FUEL; omega) (by omega) j2 rfl rfl
    refine ⟨h3, x3, ?_, j3, y15, y16, o1.trans (o2.trans o3)⟩
    rw [e1, ob_some, il_0, e2, ob_some]
    exact e3
  | succ d ih =>
    intro n i hs x hn hi j
    obtain ⟨n, rfl⟩ : ∃ z, n = z + 1 := ⟨n - 1, by omega⟩
    have mi := k.mdi i
    have tb := svTop_b k i
    have ih' := ih n (i + 1) hs x (by omega) (by omega) j
    have es : svTop s (i + 1) = if lat s.md i = -1 then svTop s i else if svTop s i < pit (lat s.md i) then pit (lat s.md i) else svTop s i := rfl
    rw [es] at ih'
    unfold f_X1_survey_b4
    rw [j.sh, ob_some, j.2.1.m, ob_some, j.2.1.2.2.1.chk, ob_some, X2_size j.2.1.2.2.1, ob_some, if_neg (by rw [ii_le (by omega) (by omega) (by omega) (by omega)]; omega), ob_some, j.2.1.m, ob_some, j.2.1.2.2.1.chk, ob_some, X2_at j.2.1.2.2.1 (by omega) (by omega), ob_some]
    by_cases c : lat s.md i = -1
    · rw [if_pos c] at ih'
      rw [if_pos (show ii (lat s.md i) = -1 by rw [c]; rfl), il_1, ii_add]
      exact ih'
    · have pb := pit_bd ((k.mdb i).resolve_left c)
      rw [if_neg c] at ih'
      rw [if_neg (show ¬ ii (lat s.md i) = -1 by rw [il_m1, ii_eq (by omega) (by omega) (by omega) (by omega)]; exact c), ob_some, j.2.1.m, ob_some, j.2.1.2.2.1.chk, ob_some, X2_at j.2.1.2.2.1 (by omega) (by omega), ob_some, X8_pitchOf (by omega) (by omega), ob_some, ii_max (by omega) (by omega) (by omega) (by omega), il_1, ii_add]
      exact ih'
theorem X1_survey (k : SOK s) {hs : AH} {x : Nat → Int} (j : JuA hs a s x sp) : ∃ hs' x', f_X1_survey a hs = some hs' ∧ JuA hs' a s x' sp ∧ x' 15 = cpS s ∧ x' 16 = cnS s ∧ Out hs hs' a 16 := by
  have ml := k.ml
  unfold f_X1_survey
  exact X1_sv1 k s.md.length FUEL 0 hs x (by unfold FUEL; omega) (by omega) j
theorem cp_b (k : SOK s) : (-1 ≤ cpS s ∧ cpS s ≤ 60) ∧ (0 ≤ cnS s ∧ cnS s ≤ 60) := by
  have ml := k.ml
  obtain ⟨-, h1, h2⟩ := sv2_b s (svTop s s.md.length) s.md.length
  unfold cpS cnS
  exact ⟨by omega, by omega⟩
end SURVEY
