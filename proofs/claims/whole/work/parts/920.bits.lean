/-! ===== quotients: bits of doubles ===== -/
section FPQ
theorem nearest_mul {x y m : Nat} (hm : 0 < m) : FP.Core.nearest (x * m) (y * m) = FP.Core.nearest x y := by
  unfold FP.Core.nearest
  rw [Nat.mul_div_mul_right _ _ hm, Nat.mul_mod_mul_right, ← Nat.mul_assoc]
  by_cases c : 2 * (x % y) < y
  · rw [if_pos c, if_pos (Nat.mul_lt_mul_of_pos_right c hm)]
  · rw [if_neg c, if_neg (fun h => c (Nat.lt_of_mul_lt_mul_right h))]
    by_cases d : y < 2 * (x % y)
    · rw [if_pos d, if_pos (Nat.mul_lt_mul_of_pos_right d hm)]
    · rw [if_neg d, if_neg (fun h => d (Nat.lt_of_mul_lt_mul_right h))]
/-- the significand of a whole number, as a double has it -/
def sgf (a : Nat) : Nat := a * 2 ^ (52 - a.log2)
def tq (a b : Nat) : Nat := if sgf b ≤ sgf a then 0 else 1
def mK (a b : Nat) : Nat := 52 + b.log2 + tq a b - a.log2
def mV (a b : Nat) : Nat := (1074 - mK a b) * 2 ^ 52 + FP.Core.nearest (a * 2 ^ mK a b) b
theorem log_b {a : Nat} (h1 : 1 ≤ a) (h2 : a < 2 ^ 12) : a.log2 ≤ 11 := by
  have := (Nat.log2_lt (n := a) (k := 12) (by omega)).2 h2
  omega
theorem sgf_b {a : Nat} (h1 : 1 ≤ a) (h2 : a < 2 ^ 12) : 2 ^ 52 ≤ sgf a ∧ sgf a < 2 ^ 53 := by
  have hl := log_b h1 h2
  have g1 : 2 ^ a.log2 ≤ a := Nat.log2_self_le (by omega)
  have g2 : a < 2 ^ (a.log2 + 1) := Nat.lt_log2_self
  have hp : 0 < 2 ^ (52 - a.log2) := Nat.two_pow_pos _
  unfold sgf
  constructor
  · have := Nat.mul_le_mul_right (2 ^ (52 - a.log2)) g1
    rw [← Nat.pow_add, show a.log2 + (52 - a.log2) = 52 by omega] at this
    exact this
  · have := Nat.mul_lt_mul_of_pos_right g2 hp
    rw [← Nat.pow_add, show a.log2 + 1 + (52 - a.log2) = 53 by omega] at this
    exact this
theorem tq_01 (a b : Nat) : tq a b ≤ 1 := by
  unfold tq
  by_cases c : sgf b ≤ sgf a
  · rw [if_pos c]; omega
  · rw [if_neg c]; omega
theorem mK_eq {a b : Nat} (h1 : 1 ≤ a) (h2 : a < 2 ^ 12) (h3 : 1 ≤ b) (h4 : b < 2 ^ 12) : sgf a * 2 ^ (52 + tq a b) = a * 2 ^ mK a b * 2 ^ (52 - b.log2) := by
  have la := log_b h1 h2
  have lb := log_b h3 h4
  unfold sgf
  rw [Nat.mul_assoc, Nat.mul_assoc, ← Nat.pow_add, ← Nat.pow_add]
  congr 2
  unfold mK
  omega
theorem mK_b {a b : Nat} (h1 : 1 ≤ a) (h2 : a < 2 ^ 12) (h3 : 1 ≤ b) (h4 : b < 2 ^ 12) : 41 ≤ mK a b ∧ mK a b ≤ 64 ∧ b * 2 ^ 52 ≤ a * 2 ^ mK a b ∧ a * 2 ^ mK a b < b * 2 ^ 53 := by
  have la := log_b h1 h2
  have lb := log_b h3 h4
  have t := tq_01 a b
  have e := mK_eq h1 h2 h3 h4
  have sa := sgf_b h1 h2
  have sb := sgf_b h3 h4
  have hp : 0 < 2 ^ (52 - b.log2) := Nat.two_pow_pos _
  have L : sgf b * 2 ^ 52 ≤ sgf a * 2 ^ (52 + tq a b) ∧ sgf a * 2 ^ (52 + tq a b) < sgf b * 2 ^ 53 := by
    unfold tq
    by_cases c : sgf b ≤ sgf a
    · rw [if_pos c, Nat.add_zero]; omega
    · rw [if_neg c, show 52 + 1 = 53 from rfl]; omega
  rw [e] at L
  have eb : ∀ j, sgf b * 2 ^ j = b * 2 ^ j * 2 ^ (52 - b.log2) := fun j => by
    unfold sgf; rw [Nat.mul_assoc, Nat.mul_assoc, Nat.mul_comm (2 ^ j)]
  rw [eb, eb] at L
  refine ⟨by unfold mK; omega, by unfold mK; omega, Nat.le_of_mul_le_mul_right L.1 hp, Nat.lt_of_mul_lt_mul_right L.2⟩
theorem log_sgf {a : Nat} (h1 : 1 ≤ a) (h2 : a < 2 ^ 12) : (sgf a).log2 = 52 := by
  obtain ⟨g1, g2⟩ := sgf_b h1 h2
  have i1 := (Nat.log2_lt (n := sgf a) (k := 53) (by omega)).2 g2
  have i2 := (Nat.le_log2 (n := sgf a) (k := 52) (by omega)).2 g1
  omega
theorem near_b {a b : Nat} (h1 : 1 ≤ a) (h2 : a < 2 ^ 12) (h3 : 1 ≤ b) (h4 : b < 2 ^ 12) : 2 ^ 52 ≤ FP.Core.nearest (a * 2 ^ mK a b) b ∧ FP.Core.nearest (a * 2 ^ mK a b) b ≤ 2 ^ 53 := by
  obtain ⟨-, -, g1, g2⟩ := mK_b h1 h2 h3 h4
  generalize a * 2 ^ mK a b = X at g1 g2
  have q1 : 2 ^ 52 ≤ X / b := (Nat.le_div_iff_mul_le (by omega)).2 (by rw [Nat.mul_comm]; exact g1)
  have q2 : X / b < 2 ^ 53 := (Nat.div_lt_iff_lt_mul (by omega)).2 (by rw [Nat.mul_comm]; exact g2)
  unfold FP.Core.nearest
  by_cases c : 2 * (X % b) < b
  · rw [if_pos c]; omega
  · rw [if_neg c]
    by_cases d : b < 2 * (X % b)
    · rw [if_pos d]; omega
    · rw [if_neg d]; omega
theorem dquo {a b : Nat} (h1 : 1 ≤ a) (h2 : a < 2 ^ 12) (h3 : 1 ≤ b) (h4 : b < 2 ^ 12) : FP.Core.encode FP.Core.b64 (FP.Core.roundRatio FP.Core.b64 false (sgf a) (sgf b) (((a.log2 : Int) - 52) - ((b.log2 : Int) - 52))) = mV a b := by
  have la := log_b h1 h2
  have lb := log_b h3 h4
  have t := tq_01 a b
  obtain ⟨k1, k2, k3, k4⟩ := mK_b h1 h2 h3 h4
  obtain ⟨n1, n2⟩ := near_b h1 h2 h3 h4
  have sa := sgf_b h1 h2
  have sb := sgf_b h3 h4
  have hq : FP.Core.b64.qmin = -1074 := by decide
  have hm : FP.Core.b64.qmax = 971 := by decide
  have hlead : FP.Core.leading (sgf a) (sgf b) = -(tq a b : Int) := by
    unfold FP.Core.leading tq
    rw [log_sgf h1 h2, log_sgf h3 h4]
    simp only [Int.sub_self, Int.toNat_zero, Int.neg_zero, Nat.pow_zero, Nat.mul_one]
    by_cases c : sgf b ≤ sgf a
    · rw [if_pos c, if_pos c]; rfl
    · rw [if_neg c, if_neg c]; rfl
  have hqu : FP.Core.quantum FP.Core.b64 (sgf a) (sgf b) (((a.log2 : Int) - 52) - ((b.log2 : Int) - 52)) = (a.log2 : Int) - b.log2 - tq a b - 52 := by
    unfold FP.Core.quantum
    rw [hlead, hq]
    show max (-1074 : Int) (-(tq a b : Int) + (((a.log2 : Int) - 52) - ((b.log2 : Int) - 52)) - (((53 : Nat) : Int) - 1)) = _
    omega
  unfold FP.Core.roundRatio FP.Core.roundAt
  rw [if_neg (by omega), hqu]
  have hN : FP.Core.unitsNum (sgf a) (((a.log2 : Int) - 52) - ((b.log2 : Int) - 52)) ((a.log2 : Int) - b.log2 - tq a b - 52) = a * 2 ^ mK a b * 2 ^ (52 - b.log2) := by
    unfold FP.Core.unitsNum
    rw [← mK_eq h1 h2 h3 h4]
    congr 2
    omega
  have hD : FP.Core.unitsDen (sgf b) (((a.log2 : Int) - 52) - ((b.log2 : Int) - 52)) ((a.log2 : Int) - b.log2 - tq a b - 52) = b * 2 ^ (52 - b.log2) := by
    unfold FP.Core.unitsDen
    rw [show ((a.log2 : Int) - b.log2 - tq a b - 52 - (((a.log2 : Int) - 52) - ((b.log2 : Int) - 52))).toNat = 0 by omega, Nat.pow_zero, Nat.mul_one]
    rfl
  rw [hN, hD, nearest_mul (Nat.two_pow_pos _)]
  have hK : (1074 - mK a b : Nat) = ((a.log2 : Int) - b.log2 - tq a b + 1022).toNat := by unfold mK; omega
  unfold mV
  generalize FP.Core.nearest (a * 2 ^ mK a b) b = X at n1 n2
  unfold FP.Core.settle FP.Core.bound
  have ht : FP.Core.b64.tails = 2 ^ 52 := by decide
  have hp : FP.Core.b64.p = 53 := rfl
  by_cases c : X < 2 ^ 53
  · rw [hp, if_pos c, if_pos (by rw [hm]; omega)]
    unfold FP.Core.encode FP.Core.assemble
    dsimp only
    rw [ht, hq, if_neg (by omega)]
    have : ((a.log2 : Int) - b.log2 - tq a b - 52 - -1074).toNat + 1 = (1074 - mK a b) + 1 := by omega
    rw [this]
    simp only [Bool.toNat_false, Nat.zero_mul, Nat.zero_add]
    omega
  · have e : X = 2 ^ 53 := by omega
    rw [hp, if_neg c, if_pos (by rw [hm]; omega)]
    unfold FP.Core.encode FP.Core.assemble
    dsimp only
    rw [ht, hq, if_neg (by omega)]
    have : ((a.log2 : Int) - b.log2 - tq a b - 52 + 1 - -1074).toNat + 1 = (1074 - mK a b) + 2 := by omega
    rw [this, e]
    simp only [Bool.toNat_false, Nat.zero_mul, Nat.zero_add]
    omega
theorem i2d_tab2 : ∀ a b : Fin 64, 1 ≤ 64 * a.1 + b.1 → FP.Core.decode FP.Core.b64 (FP.i2d (ii (64 * a.1 + b.1 : Nat))).toNat = .fin false (sgf (64 * a.1 + b.1)) (((64 * a.1 + b.1).log2 : Int) - 52) := by decide +kernel
theorem i2d_tab (a : Fin 4096) (h : 1 ≤ a.1) : FP.Core.decode FP.Core.b64 (FP.i2d (ii a.1)).toNat = .fin false (sgf a.1) ((a.1.log2 : Int) - 52) := by
  have h2 := i2d_tab2 ⟨a.1 / 64, by omega⟩ ⟨a.1 % 64, by omega⟩
  dsimp only at h2
  rw [show 64 * (a.1 / 64) + a.1 % 64 = a.1 by omega] at h2
  exact h2 h
theorem i2d_0 : FP.Core.decode FP.Core.b64 (FP.i2d (ii 0)).toNat = .fin false 0 (-1074) := by decide +kernel
theorem ddiv_ii {a b : Nat} (h1 : 1 ≤ a) (h2 : a < 4096) (h3 : 1 ≤ b) (h4 : b < 4096) : FP.ddiv (FP.i2d (ii a)) (FP.i2d (ii b)) = UInt64.ofNat (mV a b) := by
  have d1 := i2d_tab ⟨a, h2⟩ h1
  have d2 := i2d_tab ⟨b, h4⟩ h3
  dsimp only at d1 d2
  show UInt64.ofNat (FP.Core.encode FP.Core.b64 (FP.Core.quotient FP.Core.b64 (FP.Core.decode FP.Core.b64 (FP.i2d (ii a)).toNat) (FP.Core.decode FP.Core.b64 (FP.i2d (ii b)).toNat))) = _
  rw [d1, d2]
  unfold FP.Core.quotient
  have sb := sgf_b h3 (by omega)
  dsimp only
  rw [if_neg (by omega), show (false != false) = false from rfl, dquo h1 (by omega) h3 (by omega)]
theorem ddiv_0 {b : Nat} (h3 : 1 ≤ b) (h4 : b < 4096) : FP.ddiv (FP.i2d (ii 0)) (FP.i2d (ii b)) = UInt64.ofNat 0 := by
  have d2 := i2d_tab ⟨b, h4⟩ h3
  dsimp only at d2
  show UInt64.ofNat (FP.Core.encode FP.Core.b64 (FP.Core.quotient FP.Core.b64 (FP.Core.decode FP.Core.b64 (FP.i2d (ii 0)).toNat) (FP.Core.decode FP.Core.b64 (FP.i2d (ii b)).toNat))) = _
  rw [i2d_0, d2]
  unfold FP.Core.quotient
  have sb := sgf_b h3 (by omega)
  dsimp only
  rw [if_neg (by omega), show FP.Core.roundRatio FP.Core.b64 (false != false) 0 (sgf b) (-1074 - ((b.log2 : Int) - 52)) = .fin false 0 FP.Core.b64.qmin from if_pos rfl]
  decide +kernel
end FPQ
