/-! ===== the reference: lines read ===== -/
def CB (b : List Int) : Prop := b.length ≤ 180 ∧ ∀ x ∈ b, 33 ≤ x ∧ x ≤ 126
def sgB (b : List Int) (p : Nat) : Int := if b.length ≤ p then -1 else lg b p
theorem sgB_pat {b : List Int} (k : CB b) (p : Nat) : (p < b.length → sgB b p = pat b p ∧ 33 ≤ pat b p ∧ pat b p ≤ 126) ∧ (b.length ≤ p → sgB b p = -1 ∧ pat b p = 0) := by
  unfold sgB pat
  constructor
  · intro h
    rw [if_neg (by omega), if_pos (by omega), Int.toNat_natCast]
    exact ⟨rfl, k.2 _ (lg_mem h)⟩
  · intro h
    rw [if_pos h, if_neg (by omega)]
    exact ⟨rfl, rfl⟩
theorem sgB_b {b : List Int} (k : CB b) (p : Nat) : -1 ≤ sgB b p ∧ sgB b p ≤ 126 := by
  by_cases c : p < b.length
  · have := (sgB_pat k p).1 c; omega
  · have := (sgB_pat k p).2 (by omega); omega
/-- the reader's state: at place p -/
def RS (hs : AH) (x : Nat → Int) (b : List Int) (p : Nat) : Prop := MO hs x ∧ x 9 = p ∧ x 7 = b.length ∧ LisA hs 99 180 b
section MRD
variable {b : List Int} {hs : AH} {x : Nat → Int} {p : Nat}
theorem RS.sign (r : RS hs x b p) (k : CB b) (hp : p ≤ 400) : f_X9_sign 95 hs = some (ii (sgB b p)) := by
  obtain ⟨M, x9, x7, B, A, hB⟩ := r
  have kl := k.1
  unfold f_X9_sign sgB
  rw [M.i9, ob_some, M.i7, ob_some, x9, x7]
  by_cases c : b.length ≤ p
  · rw [if_pos (by rw [ii_le (by omega) (by omega) (by omega) (by omega)]; omega), if_pos c]; rfl
  · rw [if_neg (by rw [ii_le (by omega) (by omega) (by omega) (by omega)]; omega), if_neg c, M.r6, ob_some, ob_some, A.get (by omega) (by omega) (by omega), ob_some, Int.toNat_natCast, hB p (by omega)]
theorem RS.step (r : RS hs x b p) (q : Nat) : ∃ hs', pI hs 95 9 9 (ii q) = some hs' ∧ RS hs' (uz x 9 q) b q ∧ Ou hs hs' [95] := by
  obtain ⟨M, x9, x7, B⟩ := r
  obtain ⟨g, e, M1, o⟩ := M.put (k := 9) (by decide) (q : Int)
  exact ⟨g, e, ⟨M1, uz_eq _ _ _, by rw [uz_ne (by decide)]; exact x7, B.ou o (by decide)⟩, o⟩
theorem uz_uz (x : Nat → Int) (i : Nat) (v w : Int) : uz (uz x i v) i w = uz x i w := by
  funext j
  unfold uz
  by_cases c : j = i
  · rw [if_pos c, if_pos c]
  · rw [if_neg c, if_neg c, if_neg c]
theorem uz_id {x : Nat → Int} {i : Nat} {v : Int} (h : x i = v) : uz x i v = x := by
  funext j
  unfold uz
  by_cases c : j = i
  · rw [if_pos c, c, h]
  · rw [if_neg c]
theorem RS.takes (r : RS hs x b p) (k : CB b) (hp : p ≤ 400) {c : Int} (hc : 1 ≤ c ∧ c ≤ 126) : (pat b p = c → ∃ hs', f_X9_takes 95 (ii c) hs = some (1, hs') ∧ RS hs' (uz x 9 (p + 1 : Nat)) b (p + 1) ∧ Ou hs hs' [95]) ∧ (pat b p ≠ c → f_X9_takes 95 (ii c) hs = some (0, hs)) := by
  have sb := sgB_b k p
  have e : (sgB b p = c) ↔ pat b p = c := by
    by_cases d : p < b.length
    · rw [((sgB_pat k p).1 d).1]
    · obtain ⟨e1, e2⟩ := (sgB_pat k p).2 (by omega)
      rw [e1, e2]; omega
  unfold f_X9_takes
  rw [r.1.chk, ob_some, r.sign k hp, ob_some]
  constructor
  · intro h
    obtain ⟨g, e1, r1, o⟩ := r.step (p + 1)
    refine ⟨g, ?_, r1, o⟩
    rw [if_pos (by rw [e.2 h]), r.1.i9, r.2.1, ob_some, il_1, ii_add, show (p : Int) + 1 = (p + 1 : Nat) from rfl, e1, ob_some]
  · intro h
    rw [if_neg (by rw [ii_eq (by omega) (by omega) (by omega) (by omega)]; exact fun y => h (e.1 y))]
theorem RS.n64 (r : RS hs x b p) (k : CB b) (hp : p ≤ 390) {l t : Int} : (pat b p < 50 ∨ 54 < pat b p → f_X9_noteHere_b64 95 (ii l) (ii t) hs = some (-1, hs)) ∧ (¬ (pat b p < 50 ∨ 54 < pat b p) → ∃ hs', f_X9_noteHere_b64 95 (ii l) (ii t) hs = some (ii (3 * (7 * (pat b p - 48) + l) + t + 1), hs') ∧ RS hs' (uz x 9 (p + 1 : Nat)) b (p + 1) ∧ Ou hs hs' [95]) := by
  have sb := sgB_b k p
  unfold f_X9_noteHere_b64
  rw [r.1.chk, ob_some, r.sign k (by omega), ob_some, show (50 : Int32) = ii 50 from rfl, show (54 : Int32) = ii 54 from rfl, X9_in (by omega) (by omega) (by omega) (by omega) (by omega) (by omega), ob_some]
  constructor
  · intro h
    have : ¬ (50 ≤ sgB b p ∧ sgB b p ≤ 54) := by
      by_cases d : p < b.length
      · rw [((sgB_pat k p).1 d).1]; omega
      · rw [((sgB_pat k p).2 (by omega)).1]; omega
    rw [inI_0 this, if_pos (by rfl)]
  · intro h
    have hpl : p < b.length := by
      by_cases d : p < b.length
      · exact d
      · have := ((sgB_pat k p).2 (by omega)).2; omega
    obtain ⟨s1, s2⟩ := (sgB_pat k p).1 hpl
    obtain ⟨g, e1, r1, o⟩ := r.step (p + 1)
    obtain ⟨B, A, hB⟩ := r1.2.2.2
    have kl := k.1
    have hl : lg b p = pat b p := by unfold sgB at s1; rw [if_neg (by omega)] at s1; exact s1
    refine ⟨g, ?_, r1, o⟩
    rw [inI_1 (by rw [s1]; omega), if_neg (by decide +kernel), r.1.r6, ob_some, r.1.i9, r.2.1, ob_some, il_1, ii_add, show (p : Int) + 1 = (p + 1 : Nat) from rfl, e1, ob_some, A.get (by omega) (by omega) (by omega), ob_some, Int.toNat_natCast, hB p hpl, hl, il_3, il_7, show (48 : Int32) = ii 48 from rfl, ii_sub, ii_mul, ii_add, ii_mul, ii_add, ii_add]
def ntZ (o : Option Int) : Int := match o with
  | some c => c
  | none => -1
theorem RS.note (r : RS hs x b p) (k : CB b) (hp : p ≤ 300) : ∃ hs', f_X9_noteHere 95 hs = some (ii (ntZ (rdNote b p).1), hs') ∧ RS hs' (uz x 9 (rdNote b p).2) b (rdNote b p).2 ∧ Ou hs hs' [95] := by
  have sb := sgB_b k p
  have nb : ∃ l : Int, f_X9_noteHere 95 hs = f_X9_noteHere_b20 95 (ii l) hs ∧ (-1 ≤ l ∧ l ≤ 6) ∧ l = letNo (pat b p) := by
    unfold f_X9_noteHere
    rw [r.1.chk, ob_some, r.sign k (by omega), ob_some]
    by_cases d : p < b.length
    · obtain ⟨s1, s2, s3⟩ := (sgB_pat k p).1 d
      refine ⟨letNo (pat b p), ?_, letNo_bd _, rfl⟩
      rw [s1, if_pos (by rw [il_0, ii_le (by omega) (by omega) (by omega) (by omega)]; omega), ob_some, ob_some, str_chk (by omega), ob_some, let_53 (by omega) (by omega), ob_some]
    · obtain ⟨s1, s2⟩ := (sgB_pat k p).2 (by omega)
      refine ⟨-1, ?_, by omega, by rw [s2]; rfl⟩
      rw [s1, if_neg (by decide +kernel)]
      rfl
  obtain ⟨l, e0, lb, el⟩ := nb
  rw [e0]
  unfold f_X9_noteHere_b20 rdNote
  rw [← el]
  by_cases c : l < 0
  · rw [if_neg (by rw [il_0, ii_le (by omega) (by omega) (by omega) (by omega)]; omega), if_pos c]
    refine ⟨hs, rfl, ?_, Ou.refl _ _⟩
    rw [uz_id r.2.1]; exact r
  · rw [if_pos (by rw [il_0, ii_le (by omega) (by omega) (by omega) (by omega)]; omega), if_neg c]
    obtain ⟨g1, e1, r1, o1⟩ := r.step (p + 1)
    rw [r.1.i9, r.2.1, ob_some, il_1, ii_add, show (p : Int) + 1 = (p + 1 : Nat) from rfl, e1, ob_some, r1.1.chk, ob_some]
    obtain ⟨t1, t2⟩ := r1.takes k (by omega) (c := 35) (by omega)
    rw [show (35 : Int32) = ii 35 from rfl]
    by_cases d : pat b (p + 1 : Nat) = 35
    · obtain ⟨g2, e2, r2, o2⟩ := t1 d
      obtain ⟨n1, n2⟩ := r2.n64 k (by omega) (l := l) (t := 1)
      rw [e2, ob_some]
      dsimp only
      rw [if_neg (by decide +kernel), if_pos d]
      by_cases e : pat b (p + 1 + 1 : Nat) < 50 ∨ 54 < pat b (p + 1 + 1 : Nat)
      · rw [if_pos (show pat b ((p : Int) + 2) < 50 ∨ 54 < pat b ((p : Int) + 2) from e)]
        refine ⟨g2, n1 e, ?_, o1.trans o2⟩
        rw [uz_uz] at r2; exact r2
      · obtain ⟨g3, e3, r3, o3⟩ := n2 e
        rw [if_neg (show ¬ (pat b ((p : Int) + 2) < 50 ∨ 54 < pat b ((p : Int) + 2)) from e)]
        refine ⟨g3, e3, ?_, o1.trans (o2.trans o3)⟩
        rw [uz_uz, uz_uz] at r3; exact r3
    · rw [t2 d, ob_some]
      dsimp only
      rw [if_pos (by rfl), if_neg d, r1.1.chk, ob_some]
      obtain ⟨t1, t2⟩ := r1.takes k (by omega) (c := 98) (by omega)
      rw [show (98 : Int32) = ii 98 from rfl]
      by_cases d2 : pat b (p + 1 : Nat) = 98
      · obtain ⟨g2, e2, r2, o2⟩ := t1 d2
        obtain ⟨n1, n2⟩ := r2.n64 k (by omega) (l := l) (t := -1)
        rw [e2, ob_some]
        dsimp only
        rw [if_neg (by decide +kernel), if_pos d2]
        by_cases e : pat b (p + 1 + 1 : Nat) < 50 ∨ 54 < pat b (p + 1 + 1 : Nat)
        · rw [if_pos (show pat b ((p : Int) + 2) < 50 ∨ 54 < pat b ((p : Int) + 2) from e)]
          refine ⟨g2, n1 e, ?_, o1.trans o2⟩
          rw [uz_uz] at r2; exact r2
        · obtain ⟨g3, e3, r3, o3⟩ := n2 e
          rw [if_neg (show ¬ (pat b ((p : Int) + 2) < 50 ∨ 54 < pat b ((p : Int) + 2)) from e)]
          refine ⟨g3, e3, ?_, o1.trans (o2.trans o3)⟩
          rw [uz_uz, uz_uz] at r3; exact r3
      · obtain ⟨n1, n2⟩ := r1.n64 k (by omega) (l := l) (t := 0)
        rw [t2 d2, ob_some]
        dsimp only
        rw [if_pos (by rfl), if_neg d2]
        by_cases e : pat b (p + 1 : Nat) < 50 ∨ 54 < pat b (p + 1 : Nat)
        · rw [if_pos e]
          exact ⟨g1, n1 e, r1, o1⟩
        · obtain ⟨g3, e3, r3, o3⟩ := n2 e
          rw [if_neg e]
          refine ⟨g3, e3, ?_, o1.trans o3⟩
          rw [uz_uz] at r3; exact r3
end MRD
