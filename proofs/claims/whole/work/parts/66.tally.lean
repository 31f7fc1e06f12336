/-! ===== faults counted, added up, found ===== -/
/-- is there a fault of rule r at p -/
def flt (s : Sh) (p : Int) (r : Nat) : Int := detC s (cpS s) (cnS s) p r
/-- some value added over the rules up to r at p; over the notes up to p -/
def sumR (g : Int → Nat → Int) (p : Int) : Nat → Int
  | 0 => 0
  | r + 1 => sumR g p r + g p (r + 1)
def sumP (g : Int → Nat → Int) : Nat → Int
  | 0 => 0
  | p + 1 => sumP g p + sumR g p 16
theorem sumR_b {g : Int → Nat → Int} {p : Int} {B : Int} (h : ∀ r, 0 ≤ g p r ∧ g p r ≤ B) : ∀ r : Nat, 0 ≤ sumR g p r ∧ sumR g p r ≤ B * r
  | 0 => by unfold sumR; simp
  | r + 1 => by
    have h1 := sumR_b h r
    have h2 := h (r + 1)
    unfold sumR
    rw [Int.natCast_add, Int.mul_add]
    simp
    omega
theorem sumP_b {g : Int → Nat → Int} {B : Int} (h : ∀ p r, 0 ≤ g p r ∧ g p r ≤ B) : ∀ p : Nat, 0 ≤ sumP g p ∧ sumP g p ≤ B * 16 * p
  | 0 => by unfold sumP; simp
  | p + 1 => by
    have h1 := sumP_b h p
    have h2 := sumR_b (h p) 16
    unfold sumP
    rw [Int.natCast_add, Int.mul_add]
    simp at h2 ⊢
    omega
def costG (s : Sh) (p : Int) (r : Nat) : Int := if flt s p r = -1 then 0 else if 0 ≤ lg s.wt r then lg s.wt r else 0
def tallG (s : Sh) (wr wb : Int) (p : Int) (r : Nat) : Int := if (wr = -1 ∨ wr = r) ∧ (wb = -1 ∨ wb = p / per s.sp) then (if flt s p r = -1 then 0 else 1) else 0
theorem costG_b {s : Sh} (k : SOK s) (p : Int) (r : Nat) : 0 ≤ costG s p r ∧ costG s p r ≤ 9 := by
  have b := k.wtb r
  unfold costG
  refine if_b (by omega) ?_
  by_cases h : 0 ≤ lg s.wt r
  · rw [if_pos h]; omega
  · rw [if_neg h]; omega
theorem tallG_b (s : Sh) (wr wb : Int) (p : Int) (r : Nat) : 0 ≤ tallG s wr wb p r ∧ tallG s wr wb p r ≤ 1 := if_b (if_b b00 b11) b00
section TALLY
variable {a : Nat} {s : Sh}
theorem Lkd.ju {hs : AH} {p cp cn : Int} (L : Lkd hs a s p cp cn) : ∃ x, JuA hs a s x (spL s p) ∧ x 15 = cp ∧ x 16 = cn ∧ x 10 = p / per s.sp := by
  obtain ⟨x, j, y9, y10, y11, y12, y13, y14, y15, y16⟩ := L
  exact ⟨x, j, y15, y16, y10⟩
theorem flt_b (k : SOK s) {hs : AH} {p : Nat} (hp : p < s.md.length) (L : Lkd hs a s p (cpS s) (cnS s)) {r : Nat} (h1 : 1 ≤ r) (h2 : r ≤ 16) : f_X1_detailOf a (ii r) hs = some (ii (flt s p r)) := by
  have ml := k.ml
  obtain ⟨c1, c2⟩ := cp_b k
  exact X1_detailOf k L (by omega) (by omega) c1 c2 h1 h2
end TALLY
