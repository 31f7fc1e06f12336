/-! ===== the face: append ===== -/
theorem and255 (x : Int32) : ∃ z, x &&& 255 = ii z ∧ 0 ≤ z ∧ z ≤ 255 := by
  have h : (x &&& 255).toBitVec.toNat ≤ 255 := by
    rw [Int32.toBitVec_and, BitVec.toNat_and]
    exact Nat.and_le_right
  refine ⟨(x &&& 255).toInt, (ii_of _).symm, ?_, ?_⟩
  · show 0 ≤ (x &&& 255).toBitVec.toInt
    rw [BitVec.toInt_eq_toNat_of_lt (by omega)]
    omega
  · show (x &&& 255).toBitVec.toInt ≤ 255
    rw [BitVec.toInt_eq_toNat_of_lt (by omega)]
    omega
/-- a byte of an int -/
noncomputable def byt (v : Int32) (k : Nat) : Int := ((v >>> (ii (8 * (k : Int)) &&& 31)) &&& 255).toInt
theorem byt_ii (v : Int32) (k : Nat) : (v >>> (ii (8 * (k : Int)) &&& 31)) &&& 255 = ii (byt v k) := (ii_of _).symm
theorem byt_b (v : Int32) (k : Nat) : 0 ≤ byt v k ∧ byt v k ≤ 255 := by
  obtain ⟨z, e, h0, h1⟩ := and255 (v >>> (ii (8 * (k : Int)) &&& 31))
  unfold byt
  rw [e, ii_toInt (by omega) (by omega)]
  exact ⟨h0, h1⟩
def okB (v : Int32) (k : Nat) : Prop := ∀ j, j < k → byt v j = 0 ∨ (33 ≤ byt v j ∧ byt v j ≤ 126)
theorem okB_succ {v : Int32} {k : Nat} : okB v (k + 1) ↔ (byt v k = 0 ∨ (33 ≤ byt v k ∧ byt v k ≤ 126)) ∧ okB v k := by
  constructor
  · exact fun h => ⟨h k (by omega), fun j hj => h j (by omega)⟩
  · rintro ⟨h1, h2⟩ j hj
    by_cases e : j = k
    · rw [e]; exact h1
    · exact h2 j (by omega)
noncomputable def app (v : Int32) : Nat → List Int
  | 0 => []
  | k + 1 => (if byt v k = 0 then [] else [byt v k]) ++ app v k
theorem app_le (v : Int32) : ∀ k, (app v k).length ≤ k
  | 0 => Nat.le_refl _
  | k + 1 => by
    have := app_le v k
    show ((if byt v k = 0 then [] else [byt v k]) ++ app v k).length ≤ k + 1
    by_cases h : byt v k = 0
    · rw [if_pos h]; simp; omega
    · rw [if_neg h]; simp; omega
theorem app_ok {v : Int32} : ∀ {k}, okB v k → ∀ x ∈ app v k, 33 ≤ x ∧ x ≤ 126
  | 0, _, x, hx => by cases hx
  | k + 1, h, x, hx => by
    obtain ⟨h1, h2⟩ := okB_succ.1 h
    have hx : x ∈ ((if byt v k = 0 then [] else [byt v k]) ++ app v k) := hx
    rcases List.mem_append.1 hx with g | g
    · by_cases e : byt v k = 0
      · rw [if_pos e] at g; cases g
      · rw [if_neg e] at g
        rw [List.mem_singleton.1 g]
        omega
    · exact app_ok h2 x g
section FACEB
variable {hs : AH} {t : St}
theorem CoA.page (h : CoA hs t) : PgA hs 88 t.buf := by
  obtain ⟨ln, w, nm, pl, h7, hw⟩ := h.2.2.2.2.2.2.1
  exact h7.2.1
theorem CoA.setBuf {hs' : AH} (h : CoA hs t) {b : List Int} (hp : PgA hs' 88 b) (o : Out hs hs' 88 2) : CoA hs' (t.1, t.2.1, t.2.2.1, t.2.2.2.1, b, t.2.2.2.2.2) := by
  obtain ⟨ln, w, nm, pl, h7, hw⟩ := h.2.2.2.2.2.2.1
  exact h.setRd ⟨o.at h7.1 (by omega), hp, h7.2.2.1.out o (by omega), h7.2.2.2.out o (by omega)⟩ hw (o.mono (by omega) (by omega))
theorem X8_ap94 (v : Int32) : ∀ (k n : Nat) (hs : AH) (t : St), k < n → k ≤ 4 → okB v k → t.buf.length + (app v k).length ≤ 180 → CoA hs t →
    ∃ hs', f_X8_append_b94 n 0 v (ii (8 * (k : Int) - 8)) hs = some (.inl (ii (t.buf ++ app v k).length), hs') ∧ CoA hs' (t.1, t.2.1, t.2.2.1, t.2.2.2.1, t.buf ++ app v k, t.2.2.2.2.2) ∧ Out hs hs' 0 95 := by
  intro k
  induction k with
  | zero =>
    intro n hs t hn hk ho hl h
    obtain ⟨n, rfl⟩ : ∃ z, n = z + 1 := ⟨n - 1, by omega⟩
    refine ⟨hs, ?_, by rw [show app v 0 = [] from rfl, List.append_nil]; exact h, Out.refl _ _ _⟩
    rw [f_X8_append_b94.eq_2, if_pos (by rw [il_0, ii_lt (by omega) (by omega) (by omega) (by omega)]; omega), h.r7, ob_some, h.page.chk, ob_some, X3_size h.page, ob_some, show app v 0 = [] from rfl, List.append_nil]
  | succ k ih =>
    intro n hs t hn hk ho hl h
    obtain ⟨n, rfl⟩ : ∃ z, n = z + 1 := ⟨n - 1, by omega⟩
    obtain ⟨h1, h2⟩ := okB_succ.1 ho
    have bb := byt_b v k
    have e1 : (8 * ((k + 1 : Nat) : Int) - 8) = 8 * (k : Int) := by omega
    have e2 : Int32.ofInt (-8) = ii (-8) := rfl
    rw [f_X8_append_b94.eq_2, if_neg (by rw [il_0, ii_lt (by omega) (by omega) (by omega) (by omega)]; omega), e1, byt_ii, e2, ii_add, show 8 * (k : Int) + -8 = 8 * (k : Int) - 8 from by omega]
    by_cases c : byt v k = 0
    · have e3 : app v (k + 1) = app v k := by show (if byt v k = 0 then [] else [byt v k]) ++ app v k = _; rw [if_pos c]; rfl
      rw [e3] at hl ⊢
      rw [if_pos (by rw [c]; rfl)]
      exact ih n hs t (by omega) (by omega) h2 hl h
    · have e3 : app v (k + 1) = byt v k :: app v k := by show (if byt v k = 0 then [] else [byt v k]) ++ app v k = _; rw [if_neg c]; rfl
      rw [e3] at hl ⊢
      simp only [List.length_cons] at hl
      rw [if_neg (by rw [il_0, ii_eq (by omega) (by omega) (by omega) (by omega)]; exact c), h.r7, ob_some, h.page.chk, ob_some, i2c_ch (by omega) (by omega)]
      obtain ⟨g1, f1, p1, o1⟩ := X3_put h.page (v := byt v k) (by omega) (by omega)
      have e4 : padd t.buf (byt v k) = t.buf ++ [byt v k] := if_pos (by omega)
      rw [e4] at p1
      have q1 := h.setBuf p1 o1
      have hl2 : (t.buf ++ [byt v k]).length + (app v k).length ≤ 180 := by simp only [List.length_append, List.length_cons, List.length_nil]; omega
      obtain ⟨g2, f2, q2, o2⟩ := ih n g1 (t.1, t.2.1, t.2.2.1, t.2.2.2.1, t.buf ++ [byt v k], t.2.2.2.2.2) (by omega) (by omega) h2 hl2 q1
      have e5 : t.buf ++ [byt v k] ++ app v k = t.buf ++ byt v k :: app v k := by simp
      rw [f1, ob_some]
      refine ⟨g2, by rw [← e5]; exact f2, by rw [← e5]; exact q2, (o1.mono (by omega) (by omega)).trans o2⟩
theorem X8_ap5 (h : CoA hs t) (v : Int32) : ∀ (k n : Nat) (S : Int), k < n → k ≤ 4 → 0 ≤ S → S + k ≤ 4 →
    (¬ okB v k → f_X8_append_b5 n 0 v (ii S) (ii (8 * (k : Int) - 8)) hs = some (.inr 1, hs)) ∧
    (okB v k → f_X8_append_b5 n 0 v (ii S) (ii (8 * (k : Int) - 8)) hs = if (t.buf.length : Int) + S + (app v k).length ≤ 180 then f_X8_append_b94 FUEL 0 v (ii 24) hs else some (.inr 2, hs)) := by
  have pl := h.page.le
  intro k
  induction k with
  | zero =>
    intro n S hn hk s0 s1
    obtain ⟨n, rfl⟩ : ∃ z, n = z + 1 := ⟨n - 1, by omega⟩
    refine ⟨fun c => absurd (fun j hj => by omega) c, fun _ => ?_⟩
    rw [f_X8_append_b5.eq_2, if_pos (by rw [il_0, ii_lt (by omega) (by omega) (by omega) (by omega)]; omega), h.r7, ob_some, h.page.chk, ob_some, X3_size h.page, ob_some, show app v 0 = [] from rfl, ii_add, show (180 : Int32) = ii 180 from rfl]
    by_cases c : (t.buf.length : Int) + S ≤ 180
    · rw [if_pos (by rw [ii_le (by omega) (by omega) (by omega) (by omega)]; exact c), if_pos (by simp only [List.length_nil]; omega)]
      rfl
    · rw [if_neg (by rw [ii_le (by omega) (by omega) (by omega) (by omega)]; exact c), if_neg (by simp only [List.length_nil]; omega)]
  | succ k ih =>
    intro n S hn hk s0 s1
    obtain ⟨n, rfl⟩ : ∃ z, n = z + 1 := ⟨n - 1, by omega⟩
    have bb := byt_b v k
    have e1 : (8 * ((k + 1 : Nat) : Int) - 8) = 8 * (k : Int) := by omega
    have e2 : Int32.ofInt (-8) = ii (-8) := rfl
    have e3 : 8 * (k : Int) + -8 = 8 * (k : Int) - 8 := by omega
    rw [f_X8_append_b5.eq_2, if_neg (by rw [il_0, ii_lt (by omega) (by omega) (by omega) (by omega)]; omega), e1, byt_ii]
    have al : (app v (k + 1)).length = (if byt v k = 0 then 0 else 1) + (app v k).length := by
      show ((if byt v k = 0 then [] else [byt v k]) ++ app v k).length = _
      by_cases c : byt v k = 0
      · rw [if_pos c, if_pos c]; simp
      · rw [if_neg c, if_neg c]; simp; omega
    have step0 : byt v k = 0 → f_X8_append_b47 (f_X8_append_b5 n) 0 v (ii S) (ii (8 * (k : Int))) (ii (byt v k)) hs = f_X8_append_b5 n 0 v (ii S) (ii (8 * (k : Int) - 8)) hs := by
      intro c
      unfold f_X8_append_b47
      rw [if_pos (by rw [c]; rfl), e2, ii_add, e3, il_0, ii_add, Int.add_zero]
    have step1 : ¬ byt v k = 0 → f_X8_append_b47 (f_X8_append_b5 n) 0 v (ii S) (ii (8 * (k : Int))) (ii (byt v k)) hs = f_X8_append_b5 n 0 v (ii (S + 1)) (ii (8 * (k : Int) - 8)) hs := by
      intro c
      unfold f_X8_append_b47
      rw [if_neg (by rw [il_0, ii_eq (by omega) (by omega) (by omega) (by omega)]; exact c), e2, ii_add, e3, il_1, ii_add]
    by_cases c : byt v k = 0
    · rw [if_pos (by rw [c]; rfl), step0 c]
      obtain ⟨i1, i2⟩ := ih n S (by omega) (by omega) s0 (by omega)
      rw [al, if_pos c, okB_succ, Nat.zero_add]
      exact ⟨fun d => i1 (fun e => d ⟨Or.inl c, e⟩), fun d => i2 d.2⟩
    · rw [if_neg (by rw [il_0, ii_eq (by omega) (by omega) (by omega) (by omega)]; exact c), step1 c]
      by_cases d : byt v k < 33
      · rw [if_pos (by rw [show (33 : Int32) = ii 33 from rfl, ii_lt (by omega) (by omega) (by omega) (by omega)]; exact d)]
        exact ⟨fun _ => rfl, fun e => by have := (okB_succ.1 e).1; omega⟩
      · rw [if_neg (by rw [show (33 : Int32) = ii 33 from rfl, ii_lt (by omega) (by omega) (by omega) (by omega)]; exact d)]
        by_cases e : byt v k ≤ 126
        · rw [if_pos (by rw [show (126 : Int32) = ii 126 from rfl, ii_le (by omega) (by omega) (by omega) (by omega)]; exact e)]
          obtain ⟨i1, i2⟩ := ih n (S + 1) (by omega) (by omega) (by omega) (by omega)
          rw [al, if_neg c, okB_succ]
          refine ⟨fun x => i1 (fun y => x ⟨Or.inr (by omega), y⟩), fun x => ?_⟩
          rw [i2 x.2, show ((1 + (app v k).length : Nat) : Int) = 1 + ((app v k).length : Int) from by omega, show (t.buf.length : Int) + (S + 1) + (app v k).length = (t.buf.length : Int) + S + (1 + ((app v k).length : Int)) from by omega]
        · rw [if_neg (by rw [show (126 : Int32) = ii 126 from rfl, ii_le (by omega) (by omega) (by omega) (by omega)]; exact e)]
          exact ⟨fun _ => rfl, fun x => by have := (okB_succ.1 x).1; omega⟩
def canAppend (t : St) (v : Int32) : Prop := okB v 4 ∧ t.buf.length + (app v 4).length ≤ 180
theorem X8_append (h : CoA hs t) (v : Int32) : (¬ okB v 4 → f_X8_append 0 v hs = some (.inr 1, hs)) ∧ (okB v 4 → ¬ t.buf.length + (app v 4).length ≤ 180 → f_X8_append 0 v hs = some (.inr 2, hs)) ∧
    (canAppend t v → ∃ hs', f_X8_append 0 v hs = some (.inl (ii (t.buf ++ app v 4).length), hs') ∧ CoA hs' (t.1, t.2.1, t.2.2.1, t.2.2.2.1, t.buf ++ app v 4, t.2.2.2.2.2) ∧ Out hs hs' 0 95) := by
  obtain ⟨a1, a2⟩ := X8_ap5 h v 4 FUEL 0 (by unfold FUEL; omega) (by omega) (by omega) (by omega)
  have e : f_X8_append 0 v hs = f_X8_append_b5 FUEL 0 v (ii 0) (ii (8 * ((4 : Nat) : Int) - 8)) hs := rfl
  rw [e]
  refine ⟨a1, fun c d => ?_, fun c => ?_⟩
  · rw [a2 c, if_neg (by omega)]
  · obtain ⟨g, f1, q, o⟩ := X8_ap94 v 4 FUEL hs t (by unfold FUEL; omega) (by omega) c.1 c.2 h
    refine ⟨g, ?_, q, o⟩
    rw [a2 c.1, if_pos (by have := c.2; omega)]
    exact f1
end FACEB
