/-! ===== the reference: the array of what is now, read ===== -/
/-- an array of ints, by what it holds -/
def RA (hs : AH) (a n : Nat) (f : Nat → Int) : Prop := ∃ g, hs[a]? = some (.inl (0, n, .inl g)) ∧ ∀ j, j < n → g j = ii (f j)
def updZ (f : Nat → Int) (k : Nat) (v : Int) : Nat → Int := fun j => if j = k then v else f j
theorem updZ_eq (f : Nat → Int) (k : Nat) (v : Int) : updZ f k v k = v := if_pos rfl
theorem updZ_ne {f : Nat → Int} {k j : Nat} {v : Int} (h : j ≠ k) : updZ f k v j = f j := if_neg h
theorem RA.get {hs : AH} {a n : Nat} {f : Nat → Int} (h : RA hs a n f) {z : Int} (h0 : 0 ≤ z) (h1 : z < n) (hn : n ≤ 2147483647) : aN 0 hs a (ii z) = some (ii (f z.toNat)) := by
  obtain ⟨g, h, hg⟩ := h
  rw [aN_of h h0 h1 hn, hg z.toNat (by omega)]
theorem RA.put {hs : AH} {a n : Nat} {f : Nat → Int} (h : RA hs a n f) {z : Int} (v : Int) (h0 : 0 ≤ z) (h1 : z < n) (hn : n ≤ 2147483647) : ∃ hs', sN 0 hs a (ii z) (ii v) = some hs' ∧ RA hs' a n (updZ f z.toNat v) ∧ Out hs hs' a 1 := by
  obtain ⟨g, h, hg⟩ := h
  refine ⟨_, sN_of _ h h0 h1 hn, ⟨_, set_at h, fun j hj => ?_⟩, Out.set _ _ _⟩
  unfold upd updZ
  by_cases e : j = z.toNat
  · rw [if_pos e, if_pos e]
  · rw [if_neg e, if_neg e]; exact hg j hj
theorem RA.out {hs hs' : AH} {a n b m : Nat} {f : Nat → Int} (h : RA hs a n f) (o : Out hs hs' b m) (hd : a < b ∨ b + m ≤ a) : RA hs' a n f := by
  obtain ⟨g, h, hg⟩ := h
  exact ⟨g, o.at h hd, hg⟩
theorem RA.cong {hs : AH} {a n : Nat} {f f' : Nat → Int} (h : RA hs a n f) (e : ∀ j, j < n → f j = f' j) : RA hs a n f' := by
  obtain ⟨g, h, hg⟩ := h
  exact ⟨g, h, fun j hj => by rw [hg j hj, e j hj]⟩
/-- the array of what is now, but for the number of the made line's notes -/
def NoA (f : Nat → Int) (s : Sh) : Prop := f 0 = s.gv.length ∧ f 2 = s.sp ∧ f 3 = s.bl ∧ (∀ j, j < 3 → f (4 + j) = lg s.st j) ∧ (∀ r, 1 ≤ r → r ≤ 16 → f (6 + r) = lg s.wt r) ∧ (∀ j, j < s.gv.length → f (23 + j) = lg s.gv j) ∧ ∀ j, j < s.md.length → f (35 + j) = lg s.md j
/-- the cells that the reading methods read -/
def NW (hs : AH) (f : Nat → Int) : Prop := chk hs 95 9 = some () ∧ gR hs 95 9 1 = some 96 ∧ RA hs 96 80 f
section MR
variable {hs : AH} {f : Nat → Int} {s : Sh}
theorem NW.get (w : NW hs f) {z : Int} (h0 : 0 ≤ z) (h1 : z < 80) : aN 0 hs 96 (ii z) = some (ii (f z.toNat)) := w.2.2.get h0 (by omega) (by omega)
theorem NW.k0 (w : NW hs f) (n : NoA f s) : aN 0 hs 96 0 = some (ii s.gv.length) := by
  have h := w.get (z := 0) (by omega) (by omega)
  rw [← n.1]; exact h
theorem NW.k1 (w : NW hs f) : aN 0 hs 96 1 = some (ii (f 1)) := w.get (z := 1) (by omega) (by omega)
theorem NW.k2 (w : NW hs f) (n : NoA f s) : aN 0 hs 96 2 = some (ii s.sp) := by
  have h := w.get (z := 2) (by omega) (by omega)
  rw [← n.2.1]; exact h
theorem NW.k3 (w : NW hs f) (n : NoA f s) : aN 0 hs 96 3 = some (ii s.bl) := by
  have h := w.get (z := 3) (by omega) (by omega)
  rw [← n.2.2.1]; exact h
theorem NW.k4 (w : NW hs f) (n : NoA f s) : aN 0 hs 96 4 = some (ii (lg s.st 0)) := by
  have h := w.get (z := 4) (by omega) (by omega)
  rw [← n.2.2.2.1 0 (by omega)]; exact h
theorem NW.k5 (w : NW hs f) (n : NoA f s) : aN 0 hs 96 5 = some (ii (lg s.st 1)) := by
  have h := w.get (z := 5) (by omega) (by omega)
  rw [← n.2.2.2.1 1 (by omega)]; exact h
theorem NW.k6 (w : NW hs f) (n : NoA f s) : aN 0 hs 96 6 = some (ii (lg s.st 2)) := by
  have h := w.get (z := 6) (by omega) (by omega)
  rw [← n.2.2.2.1 2 (by omega)]; exact h
theorem NW.kw (w : NW hs f) (n : NoA f s) {r : Int} (h1 : 1 ≤ r) (h2 : r ≤ 16) : aN 0 hs 96 (6 + ii r) = some (ii (lg s.wt r.toNat)) := by
  have h := w.get (z := 6 + r) (by omega) (by omega)
  rw [il_6, ii_add, h, ← n.2.2.2.2.1 r.toNat (by omega) (by omega), show (6 + r).toNat = 6 + r.toNat from by omega]
theorem X9_per (w : NW hs f) (n : NoA f s) (k : SOK s) : f_X9_per 95 hs = some (ii (per s.sp)) := by
  have := k.spb
  unfold f_X9_per per
  simp only [↓ob_some, ↓ob_of (w.2.1), ↓ob_of (w.k2 n)]
  by_cases c : s.sp = 3
  · rw [if_pos (by rw [c]; rfl), if_neg (by omega), if_pos c]; rfl
  · rw [if_neg (by rw [il_3, ii_eq (by omega) (by omega) (by omega) (by omega)]; exact c)]
    by_cases d : s.sp = 1
    · rw [if_pos (by rw [d]; rfl), if_pos d]; rfl
    · rw [if_neg (by rw [il_1, ii_eq (by omega) (by omega) (by omega) (by omega)]; exact d), if_neg d, if_neg c]; rfl
theorem X9_barOf (w : NW hs f) (n : NoA f s) (k : SOK s) {p : Int} (h0 : 0 ≤ p) (h1 : p ≤ 100) : f_X9_barOf 95 (ii p) hs = some (ii (p / per s.sp)) := by
  have hp := per_3 s.sp
  unfold f_X9_barOf dI
  rw [w.1, ob_some, X9_per w n k, ob_some, if_neg (by rw [il_0, ii_eq (by omega) (by omega) (by omega) (by omega)]; omega), ob_some, ii_div (by omega) (by omega) (by omega) (by omega)]
theorem X9_beatOf (w : NW hs f) (n : NoA f s) (k : SOK s) {p : Int} (h0 : 0 ≤ p) (h1 : p ≤ 100) : f_X9_beatOf 95 (ii p) hs = some (ii (p % per s.sp)) := by
  have hp := per_3 s.sp
  unfold f_X9_beatOf mI
  rw [w.1, ob_some, X9_per w n k, ob_some, if_neg (by rw [il_0, ii_eq (by omega) (by omega) (by omega) (by omega)]; omega), ob_some, ii_mod (by omega) (by omega) (by omega) (by omega)]
theorem X9_line (w : NW hs f) (n : NoA f s) {p : Int} (h0 : 0 ≤ p) (h1 : p < s.md.length) (ml : s.md.length ≤ 45) : f_X9_line 95 (ii p) hs = some (ii (lat s.md p)) := by
  unfold f_X9_line
  rw [w.2.1, ob_some, show (35 : Int32) = ii 35 from rfl, ii_add, w.get (by omega) (by omega), ob_some, show (35 + p).toNat = 35 + p.toNat from by omega, n.2.2.2.2.2.2 p.toNat (by omega), lat_in h0]
theorem X9_cantusAt (w : NW hs f) (n : NoA f s) {b : Int} (h0 : 0 ≤ b) (h1 : b < s.gv.length) (gl : s.gv.length ≤ 12) : f_X9_cantusAt 95 (ii b) hs = some (ii (lat s.gv b)) := by
  unfold f_X9_cantusAt
  rw [w.2.1, ob_some, show (23 : Int32) = ii 23 from rfl, ii_add, w.get (by omega) (by omega), ob_some, show (23 + b).toNat = 23 + b.toNat from by omega, n.2.2.2.2.2.1 b.toNat (by omega), lat_in h0]
theorem X9_hasLine (w : NW hs f) {m : Nat} (hm : f 1 = m) (ml : m ≤ 45) : f_X9_hasLine 95 hs = some (ii (if m = 0 then 0 else 1)) := by
  unfold f_X9_hasLine
  rw [w.2.1, ob_some, w.k1, ob_some, hm]
  by_cases c : m = 0
  · rw [if_pos (by rw [c]; decide +kernel), if_pos c]; rfl
  · rw [if_neg (by rw [il_0, ii_le (by omega) (by omega) (by omega) (by omega)]; omega), if_neg c]; rfl
theorem X9_place (w : NW hs f) (n : NoA f s) (k : SOK s) {b c : Int} (b1 : -2147483648 ≤ b) (b2 : b ≤ 2147483647) (c1 : -2147483648 ≤ c) (c2 : c ≤ 2147483647) : f_X9_place 95 (ii b) (ii c) hs = some (ii (plc s b c)) := by
  have gl := k.gl
  have hp := per_3 s.sp
  unfold f_X9_place f_X9_place_b42 plc
  simp only [↓ob_some, ↓ob_of (w.2.1), ↓ob_of (w.k0 n), ↓ob_of (w.1), ↓ob_of (X9_per w n k)]
  rw [il_1, ii_sub, il_0, X9_in b1 b2 (by omega) (by omega) (by omega) (by omega), ob_some]
  by_cases d : 0 ≤ b ∧ b ≤ (s.gv.length : Int) - 1
  · rw [inI_1 d, if_neg (by decide +kernel)]
    by_cases e : b = (s.gv.length : Int) - 1
    · rw [if_pos (by rw [← e]), X9_in c1 c2 (by omega) (by omega) (by omega) (by omega), ob_some, if_pos e]
      by_cases g : 0 ≤ c ∧ c ≤ 0
      · rw [inI_1 g, if_neg (by decide +kernel), ii_mul, ii_add, if_pos (by omega)]
      · rw [inI_0 g, if_pos rfl, if_neg (by omega)]; rfl
    · rw [if_neg (by rw [ii_eq (by omega) (by omega) (by omega) (by omega)]; exact e), ii_sub, X9_in c1 c2 (by omega) (by omega) (by omega) (by omega), ob_some, if_neg e]
      by_cases g : 0 ≤ c ∧ c ≤ per s.sp - 1
      · rw [inI_1 g, if_neg (by decide +kernel), ii_mul, ii_add, if_pos (by omega)]
      · rw [inI_0 g, if_pos rfl, if_neg (by omega)]; rfl
  · rw [inI_0 d, if_pos rfl, if_neg (by omega)]; rfl
/-- is there a note at the place -/
def isN (s : Sh) (p : Int) : Int := if lat s.md p = -1 then 0 else 1
theorem isN_b (s : Sh) (p : Int) : 0 ≤ isN s p ∧ isN s p ≤ 1 := by
  unfold isN
  by_cases c : lat s.md p = -1
  · rw [if_pos c]; omega
  · rw [if_neg c]; omega
theorem X9_isNote (w : NW hs f) (n : NoA f s) (k : SOK s) {p : Int} (h0 : -100 ≤ p) (h1 : p ≤ 100) : f_X9_isNote 95 (ii p) (ii s.md.length) hs = some (ii (isN s p)) := by
  have ml := k.ml
  have mb := k.mdi p
  unfold f_X9_isNote isN
  rw [il_m1, il_1, ii_sub, il_0, X9_in (by omega) (by omega) (by omega) (by omega) (by omega) (by omega), ob_some]
  by_cases c : 0 ≤ p ∧ p ≤ (s.md.length : Int) - 1
  · rw [inI_1 c, if_neg (by decide +kernel), w.1, ob_some, X9_line w n (by omega) (by omega) ml, ob_some]
    by_cases d : lat s.md p = -1
    · rw [if_pos (by rw [d]), if_pos d]
    · rw [if_neg (by rw [ii_eq (by omega) (by omega) (by omega) (by omega)]; exact d), if_neg d]
  · rw [inI_0 c, if_pos rfl]
    have : lat s.md p = -1 := by
      by_cases d : p < 0
      · exact lat_neg d
      · exact lat_out (by omega)
    rw [if_pos this]
theorem X9_isTied (w : NW hs f) (n : NoA f s) (k : SOK s) {p : Int} (h0 : 0 ≤ p) (h1 : p < s.md.length) (hn : lat s.md p ≠ -1) : f_X9_isTied 95 (ii p) hs = some (ii (tie s p)) := by
  have spb := k.spb
  have ml := k.ml
  have m1 := k.mdi p
  have m2 := k.mdi (p - 1)
  unfold f_X9_isTied tie
  rw [w.2.1, ob_some, w.k2 n, ob_some]
  by_cases c : s.sp = 4
  · rw [if_pos (by rw [c]; rfl)]
    by_cases d : p ≤ 0
    · rw [if_pos (by rw [il_0, ii_le (by omega) (by omega) (by omega) (by omega)]; exact d), if_neg (by omega)]; rfl
    · rw [if_neg (by rw [il_0, ii_le (by omega) (by omega) (by omega) (by omega)]; exact d), w.1, ob_some, X9_beatOf w n k (by omega) (by omega), ob_some]
      have hp : per s.sp = 2 := by rw [c]; rfl
      rw [hp]
      by_cases e : p % 2 = 0
      · rw [if_pos (by rw [e]; rfl), ob_some, X9_line w n h0 h1 ml, ob_some, ob_some, il_1, ii_sub, X9_line w n (by omega) (by omega) ml, ob_some]
        by_cases g : lat s.md p = lat s.md (p - 1)
        · rw [if_pos (by rw [g]), if_pos ⟨c, by omega, e, hn, g⟩]
        · rw [if_neg (by rw [ii_eq (by omega) (by omega) (by omega) (by omega)]; exact g), if_neg (fun x => g x.2.2.2.2)]; rfl
      · rw [if_neg (by rw [il_0, ii_eq (by omega) (by omega) (by omega) (by omega)]; exact e), if_neg (fun x => e x.2.2.1)]; rfl
  · rw [if_neg (by rw [il_4, ii_eq (by omega) (by omega) (by omega) (by omega)]; exact c), if_neg (fun x => c x.1)]; rfl
end MR
