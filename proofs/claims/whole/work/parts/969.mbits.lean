/-! ===== quotients in longs ===== -/
def ll (z : Int) : Int64 := Int64.ofInt z
section LLQ
theorem ll_add (a b : Int) : ll a + ll b = ll (a + b) := (Int64.ofInt_add a b).symm
theorem ll_mul (a b : Int) : ll a * ll b = ll (a * b) := (Int64.ofInt_mul a b).symm
theorem ll_sub (a b : Int) : ll a - ll b = ll (a - b) := (Int64.ofInt_sub a b).symm
theorem ll_toInt {z : Int} (h0 : -9223372036854775808 ≤ z) (h1 : z ≤ 9223372036854775807) : (ll z).toInt = z := Int64.toInt_ofInt_of_le (by omega) (by omega)
theorem ll_cmp {a b : Int} (h0 : -9223372036854775808 ≤ a) (h1 : a ≤ 9223372036854775807) (h2 : -9223372036854775808 ≤ b) (h3 : b ≤ 9223372036854775807) : lg_cmp (ll a) (ll b) = ii (if b < a then 1 else if a = b then 0 else -1) := by
  unfold lg_cmp
  by_cases c : b < a
  · rw [if_pos c, if_pos (show ll b < ll a by rw [Int64.lt_iff_toInt_lt, ll_toInt h0 h1, ll_toInt h2 h3]; exact c)]; rfl
  · rw [if_neg c, if_neg (show ¬ ll b < ll a by rw [Int64.lt_iff_toInt_lt, ll_toInt h0 h1, ll_toInt h2 h3]; exact c)]
    by_cases d : a = b
    · rw [if_pos d, if_pos (by rw [d])]; rfl
    · rw [if_neg d, if_neg (by rw [← Int64.toInt_inj, ll_toInt h0 h1, ll_toInt h2 h3]; exact d)]; rfl
theorem ll_div {a b : Int} (h0 : 0 ≤ a) (h1 : a ≤ 9223372036854775807) (h2 : 0 < b) (h3 : b ≤ 9223372036854775807) : ll a / ll b = ll (a / b) := by
  have h := Int64.ofInt_tdiv (a := a) (b := b) (by show (-9223372036854775808 : Int) ≤ a; omega) (by show a ≤ (9223372036854775807 : Int); omega) (by show (-9223372036854775808 : Int) ≤ b; omega) (by show b ≤ (9223372036854775807 : Int); omega)
  rw [Int.tdiv_eq_ediv_of_nonneg h0] at h
  exact h.symm
theorem dL_ll {a b : Int} (h0 : 0 ≤ a) (h1 : a ≤ 9223372036854775807) (h2 : 0 < b) (h3 : b ≤ 9223372036854775807) : dL (ll a) (ll b) = some (ll (a / b)) := by
  unfold dL
  rw [if_neg (show ¬ ll b = 0 by rw [show (0 : Int64) = ll 0 from rfl, ← Int64.toInt_inj, ll_toInt (by omega) (by omega), ll_toInt (by omega) (by omega)]; omega), ll_div h0 h1 h2 h3]
theorem mL_ll {a b : Int} (h0 : 0 ≤ a) (h1 : a ≤ 9223372036854775807) (h2 : 0 < b) (h3 : b ≤ 9223372036854775807) : mL (ll a) (ll b) = some (ll (a % b)) := by
  unfold mL
  rw [if_neg (show ¬ ll b = 0 by rw [show (0 : Int64) = ll 0 from rfl, ← Int64.toInt_inj, ll_toInt (by omega) (by omega), ll_toInt (by omega) (by omega)]; omega), ll_div h0 h1 h2 h3, ll_mul, ll_sub, Int.emod_def, Int.mul_comm]
theorem shl1 (x : Int64) : lshl x 1 = x + x := by
  apply Int64.toBitVec_inj.1
  unfold lshl
  have e : (((1 : Int32).toInt64 &&& 63).toBitVec.smod 64) = 1#64 := by decide +kernel
  show x.toBitVec <<< (((1 : Int32).toInt64 &&& 63).toBitVec.smod 64) = x.toBitVec + x.toBitVec
  rw [e]
  apply BitVec.eq_of_toNat_eq
  rw [BitVec.toNat_add]
  show (x.toBitVec <<< (1#64).toNat).toNat = _
  rw [BitVec.toNat_shiftLeft, Nat.shiftLeft_eq]
  show x.toBitVec.toNat * 2 ^ 1 % 2 ^ 64 = _
  congr 1; omega
theorem and1 {q : Int} (h0 : 0 ≤ q) (h1 : q ≤ 9223372036854775807) : ll q &&& 1 = ll (q % 2) := by
  apply Int64.toBitVec_inj.1
  rw [Int64.toBitVec_and]
  apply BitVec.eq_of_toNat_eq
  rw [BitVec.toNat_and]
  show (BitVec.ofInt 64 q).toNat &&& 1 = (BitVec.ofInt 64 (q % 2)).toNat
  rw [Nat.and_one_is_mod, BitVec.toNat_ofInt, BitVec.toNat_ofInt]
  omega
theorem shl52 : ∀ z : Fin 64, lshl (Int32.toInt64 (ii (1000 + z.1 : Nat))) (ii 52) = ll (((1000 + z.1) * 2 ^ 52 : Nat)) := by decide +kernel
theorem one52 : lshl 1 (ii 52) = ll (2 ^ 52) := by decide +kernel
theorem qb107 {K X : Nat} (h1 : 41 ≤ K) (h2 : K ≤ 64) : f_X8_quotientBits_b107 (ii 52) (ii 1023) (ii (52 - (K : Int))) (ll X) = some (ll (((1074 - K) * 2 ^ 52 + X : Nat))) := by
  have h := shl52 ⟨74 - K, by omega⟩
  dsimp only at h
  rw [show 1000 + (74 - K) = 1074 - K by omega] at h
  unfold f_X8_quotientBits_b107
  rw [ii_add, il_1, ii_sub, show (52 - (K : Int)) + 1023 - 1 = ((1074 - K : Nat) : Int) from by omega, h, ll_add]
  rfl
theorem qb58 {a b : Nat} (a1 : 1 ≤ a) (a2 : a < 2 ^ 12) (b1 : 1 ≤ b) (b2 : b ≤ 512) : f_X8_quotientBits_b58 (ll b) (ii 52) (ii 1023) (ll ((a * 2 ^ mK a b : Nat))) (ii (52 - (mK a b : Int))) = some (ll (mV a b)) := by
  obtain ⟨k1, k2, k3, k4⟩ := mK_b a1 a2 b1 (show b < 2 ^ 12 by omega)
  unfold f_X8_quotientBits_b58 mV
  generalize mK a b = K at k1 k2 k3 k4
  generalize a * 2 ^ K = X at k3 k4
  have xb : X < 2 ^ 62 := by omega
  have r0 : X % b < b := Nat.mod_lt _ (by omega)
  have q0 : X / b < 2 ^ 53 := (Nat.div_lt_iff_lt_mul (by omega)).2 (by rw [Nat.mul_comm]; exact k4)
  rw [dL_ll (by omega) (by omega) (by omega) (by omega), ob_some, mL_ll (by omega) (by omega) (by omega) (by omega), ob_some]
  rw [show ((X : Int) / (b : Int)) = ((X / b : Nat) : Int) from (Int.natCast_ediv X b).symm, show ((X : Int) % (b : Int)) = ((X % b : Nat) : Int) from (Int.natCast_emod X b).symm]
  unfold FP.Core.nearest
  generalize X / b = Q at q0
  generalize X % b = Rm at r0
  rw [show (2 : Int64) = ll 2 from rfl, ll_mul, ll_cmp (by omega) (by omega) (by omega) (by omega)]
  have e1 : ll ((Q : Nat) : Int) + 1 = ll ((Q + 1 : Nat) : Int) := by rw [show (1 : Int64) = ll 1 from rfl, ll_add]; rfl
  rw [e1, and1 (by omega) (by omega), show (1 : Int64) = ll 1 from rfl, ll_cmp (by omega) (by omega) (by omega) (by omega)]
  by_cases c : b < 2 * (Rm)
  · rw [if_pos (show (b : Int) < 2 * ((Rm : Nat) : Int) by omega), if_pos (by decide +kernel), qb107 k1 k2, if_neg (by omega), if_pos c]
  · rw [if_neg (show ¬ (b : Int) < 2 * ((Rm : Nat) : Int) by omega)]
    by_cases d : 2 * (Rm) = b
    · rw [if_pos (show 2 * ((Rm : Nat) : Int) = (b : Int) by omega), if_neg (by decide +kernel), if_pos (by rfl), if_neg (show ¬ 2 * (Rm) < b by omega), if_neg c]
      by_cases e : Q % 2 = 1
      · rw [if_neg (show ¬ (1 : Int) < ((Q : Nat) : Int) % 2 by omega), if_pos (show ((Q : Nat) : Int) % 2 = 1 by omega), if_pos (by rfl), qb107 k1 k2, e]
      · rw [if_neg (show ¬ (1 : Int) < ((Q : Nat) : Int) % 2 by omega), if_neg (show ¬ ((Q : Nat) : Int) % 2 = 1 by omega), if_neg (by decide +kernel), qb107 k1 k2, show Q % 2 = 0 by omega, Nat.add_zero]
    · rw [if_neg (show ¬ 2 * ((Rm : Nat) : Int) = (b : Int) by omega), if_neg (by decide +kernel), if_neg (by decide +kernel), qb107 k1 k2, if_pos (show 2 * (Rm) < b by omega)]
theorem qb24 {a b : Nat} (a1 : 1 ≤ a) (a2 : a < 2 ^ 12) (b1 : 1 ≤ b) (b2 : b ≤ 512) : ∀ (d n k : Nat), d < n → k + d = mK a b → f_X8_quotientBits_b24 n (ll b) (ii 52) (ii 1023) (ll ((a * 2 ^ k : Nat))) (ii (52 - (k : Int))) (ii k) = some (ll (mV a b)) := by
  obtain ⟨k1, k2, k3, k4⟩ := mK_b a1 a2 b1 (show b < 2 ^ 12 by omega)
  intro d
  induction d with
  | zero =>
    intro n k hn hk
    obtain ⟨n, rfl⟩ : ∃ z, n = z + 1 := ⟨n - 1, by omega⟩
    have e : k = mK a b := by omega
    rw [f_X8_quotientBits_b24.eq_2, e]
    by_cases c : 64 ≤ mK a b
    · rw [if_pos (by rw [show (64 : Int32) = ii 64 from rfl, ii_le (by omega) (by omega) (by omega) (by omega)]; omega), qb58 a1 a2 b1 b2]
    · have xb : a * 2 ^ mK a b < 2 ^ 62 := by omega
      have q1 : 2 ^ 52 ≤ a * 2 ^ mK a b / b := (Nat.le_div_iff_mul_le (by omega)).2 (by rw [Nat.mul_comm]; exact k3)
      have q0 : a * 2 ^ mK a b / b < 2 ^ 53 := (Nat.div_lt_iff_lt_mul (by omega)).2 (by rw [Nat.mul_comm (2 ^ 53)]; exact k4)
      rw [if_neg (by rw [show (64 : Int32) = ii 64 from rfl, ii_le (by omega) (by omega) (by omega) (by omega)]; omega), dL_ll (by omega) (by omega) (by omega) (by omega), ob_some, one52, show (((a * 2 ^ mK a b : Nat) : Int) / (b : Int)) = ((a * 2 ^ mK a b / b : Nat) : Int) from (Int.natCast_ediv _ b).symm]
      generalize a * 2 ^ mK a b / b = Q at q0 q1
      rw [ll_cmp (by omega) (by omega) (by omega) (by omega)]
      by_cases y : (2 ^ 52 : Int) < Q
      · rw [if_pos y, if_pos (by decide +kernel), qb58 a1 a2 b1 b2]
      · rw [if_neg y, if_pos (show (Q : Int) = 2 ^ 52 by omega), if_pos (by decide +kernel), qb58 a1 a2 b1 b2]
  | succ d ih =>
    intro n k hn hk
    obtain ⟨n, rfl⟩ : ∃ z, n = z + 1 := ⟨n - 1, by omega⟩
    have hp : a * 2 ^ (k + 1) ≤ a * 2 ^ mK a b := Nat.mul_le_mul_left a (Nat.pow_le_pow_right (by omega) (by omega))
    have e2 : a * 2 ^ (k + 1) = 2 * (a * 2 ^ k) := by rw [Nat.pow_succ]; rw [← Nat.mul_assoc, Nat.mul_comm]
    have xl : a * 2 ^ k < b * 2 ^ 52 := by omega
    have q0 : a * 2 ^ k / b < 2 ^ 52 := (Nat.div_lt_iff_lt_mul (by omega)).2 (by rw [Nat.mul_comm (2 ^ 52)]; exact xl)
    have I := ih n (k + 1) (by omega) (by omega)
    rw [f_X8_quotientBits_b24.eq_2, if_neg (by rw [show (64 : Int32) = ii 64 from rfl, ii_le (by omega) (by omega) (by omega) (by omega)]; omega), dL_ll (by omega) (by omega) (by omega) (by omega), ob_some, one52, show (((a * 2 ^ k : Nat) : Int) / (b : Int)) = ((a * 2 ^ k / b : Nat) : Int) from (Int.natCast_ediv _ b).symm]
    generalize a * 2 ^ k / b = Q at q0
    rw [ll_cmp (by omega) (by omega) (by omega) (by omega), if_neg (show ¬ (2 ^ 52 : Int) < Q by omega), if_neg (show ¬ (Q : Int) = 2 ^ 52 by omega), if_neg (by decide +kernel), shl1, ll_add, show Int32.ofInt (-1) = ii (-1) from rfl, ii_add, il_1, ii_add, show ((a * 2 ^ k : Nat) : Int) + ((a * 2 ^ k : Nat) : Int) = ((a * 2 ^ (k + 1) : Nat) : Int) from by rw [e2]; omega, show (52 - (k : Int)) + -1 = 52 - ((k + 1 : Nat) : Int) from by omega, show (k : Int) + 1 = ((k + 1 : Nat) : Int) from rfl]
    exact I
theorem X8_quot {a b : Nat} (a2 : a < 2 ^ 12) (b1 : 1 ≤ b) (b2 : b ≤ 512) : f_X8_quotientBits (Int32.toInt64 (ii a)) (Int32.toInt64 (ii b)) 52 1023 = some (if a = 0 then 0 else ll (mV a b)) := by
  have ea : Int32.toInt64 (ii a) = ll a := Int32.toInt64_ofInt (by show (-2147483648 : Int) ≤ a; omega) (by show (a : Int) ≤ 2147483647; omega)
  have eb : Int32.toInt64 (ii b) = ll b := Int32.toInt64_ofInt (by show (-2147483648 : Int) ≤ b; omega) (by show (b : Int) ≤ 2147483647; omega)
  unfold f_X8_quotientBits
  rw [ea, eb, show (0 : Int64) = ll 0 from rfl, ll_cmp (by omega) (by omega) (by omega) (by omega)]
  by_cases c : a = 0
  · rw [if_pos c, if_neg (show ¬ (0 : Int) < a by omega), if_pos (show (a : Int) = 0 by omega), if_pos (by decide +kernel)]
  · rw [if_neg c, if_pos (show (0 : Int) < a by omega), if_neg (by decide +kernel), ll_cmp (by omega) (by omega) (by omega) (by omega), if_pos (show (0 : Int) < b by omega), if_pos (by decide +kernel)]
    obtain ⟨k1, k2, -, -⟩ := mK_b (show 1 ≤ a by omega) a2 b1 (show b < 2 ^ 12 by omega)
    have h := qb24 (show 1 ≤ a by omega) a2 b1 b2 (mK a b) FUEL 0 (by unfold FUEL; omega) (by omega)
    rw [Nat.pow_zero, Nat.mul_one] at h
    exact h
theorem ord_self (d : FP.Core.Datum) (h : d ≠ .nan) : FP.Core.order d d = some .eq := by
  cases d with
  | nan => exact absurd rfl h
  | inf s => unfold FP.Core.order; dsimp only; congr 1; simp
  | fin s c q => unfold FP.Core.order; dsimp only; congr 1; simp
theorem mV_b {a b : Nat} (a1 : 1 ≤ a) (a2 : a < 2 ^ 12) (b1 : 1 ≤ b) (b2 : b < 2 ^ 12) : 1011 * 2 ^ 52 ≤ mV a b ∧ mV a b ≤ 1035 * 2 ^ 52 := by
  obtain ⟨k1, k2, -, -⟩ := mK_b a1 a2 b1 b2
  obtain ⟨n1, n2⟩ := near_b a1 a2 b1 b2
  unfold mV
  omega
theorem d2l {V : Nat} (h1 : 1011 * 2 ^ 52 ≤ V) (h2 : V ≤ 1035 * 2 ^ 52) : f_Jxe99ae_doubleToLongBits_ccdee (UInt64.ofNat V) = some (ll V) := by
  have hn : (UInt64.ofNat V).toNat = V := by rw [UInt64.toNat_ofNat']; omega
  have hd : FP.Core.decode FP.Core.b64 V ≠ .nan := by
    unfold FP.Core.decode FP.Core.fieldE FP.Core.fieldT
    rw [show FP.Core.b64.tails = 2 ^ 52 from by decide, show FP.Core.b64.exps = 2048 from by decide, if_neg (by omega), if_neg (by omega)]
    exact FP.Core.Datum.noConfusion
  have hc : FP.dcmp (UInt64.ofNat V) (UInt64.ofNat V) = some .eq := by
    show FP.Core.order (FP.Core.decode FP.Core.b64 (UInt64.ofNat V).toNat) (FP.Core.decode FP.Core.b64 (UInt64.ofNat V).toNat) = _
    rw [hn]
    exact ord_self _ hd
  unfold f_Jxe99ae_doubleToLongBits_ccdee f_Jxe99ae_isNaN_b9ae7
  rw [hc, if_pos (by rfl), ob_some, if_pos (by rfl)]
  congr 1
theorem ddv_bits {a b : Nat} (a2 : a < 2 ^ 12) (b1 : 1 ≤ b) (b2 : b < 2 ^ 12) : ((ddv (FP.i2d (ii a)) (FP.i2d (ii b))).bind fun x => f_Jxe99ae_doubleToLongBits_ccdee x) = some (if a = 0 then 0 else ll (mV a b)) := by
  unfold ddv
  by_cases c : a = 0
  · rw [c, show ((0 : Nat) : Int) = 0 from rfl, ddiv_0 b1 (by omega), if_pos (by decide +kernel), ob_some, if_pos rfl]
    decide +kernel
  · obtain ⟨v1, v2⟩ := mV_b (show 1 ≤ a by omega) a2 b1 b2
    rw [ddiv_ii (show 1 ≤ a by omega) (by omega) b1 (by omega), if_neg c, if_pos, ob_some, d2l v1 v2]
    rw [UInt64.le_iff_toNat_le, UInt64.toNat_and, UInt64.toNat_ofNat']
    have h1 := Nat.and_le_left (n := mV a b % 2 ^ 64) (m := (0x7fffffffffffffff : UInt64).toNat)
    have h2 : (0x7ff0000000000000 : UInt64).toNat = 9218868437227405312 := by decide +kernel
    omega
/-- the float's bits -/
noncomputable def cbZ (a b : Int) : Int := (((f_X8_quotientBits (Int32.toInt64 (ii a)) (Int32.toInt64 (ii b)) 23 127).getD 0).toInt32).toInt
theorem cb_tab : ∀ a b : Fin 12, 1 ≤ b.1 → a.1 ≤ b.1 → (f_X8_quotientBits (Int32.toInt64 (ii a.1)) (Int32.toInt64 (ii b.1)) 23 127).isSome = true ∧ ((fdv (FP.i2f (ii a.1)) (FP.i2f (ii b.1))).bind fun x => f_Jxf58ca_floatToIntBits_5c35a x) = some (((f_X8_quotientBits (Int32.toInt64 (ii a.1)) (Int32.toInt64 (ii b.1)) 23 127).getD 0).toInt32) := by decide +kernel
end LLQ
