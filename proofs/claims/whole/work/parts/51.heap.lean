/-! ===== cells read and written, by what they hold ===== -/
def uz (c : Nat → Int) (i : Nat) (v : Int) : Nat → Int := fun j => if j = i then v else c j
theorem uz_same (c : Nat → Int) (i : Nat) (v : Int) : uz c i v i = v := if_pos rfl
theorem uz_ne {c : Nat → Int} {i j : Nat} {v : Int} (h : j ≠ i) : uz c i v j = c j := if_neg h
theorem upd_ii (c : Nat → Int) (i : Nat) (v : Int) : upd (fun j => ii (c j)) i (ii v) = fun j => ii (uz c i v j) := by
  funext j
  unfold upd uz
  by_cases h : j = i
  · rw [if_pos h, if_pos h]
  · rw [if_neg h, if_neg h]
/-- only the cells from a on, n of them, may differ -/
def Out (hs hs' : AH) (a n : Nat) : Prop := ∀ k, (k < a ∨ a + n ≤ k) → hs'[k]? = hs[k]?
theorem Out.refl (hs : AH) (a n : Nat) : Out hs hs a n := fun _ _ => rfl
theorem Out.trans {h1 h2 h3 : AH} {a n : Nat} (x : Out h1 h2 a n) (y : Out h2 h3 a n) : Out h1 h3 a n := fun k hk => (y k hk).trans (x k hk)
theorem Out.mono {h1 h2 : AH} {a n b m : Nat} (x : Out h1 h2 a n) (h : b ≤ a) (h' : a + n ≤ b + m) : Out h1 h2 b m := fun k hk => x k (by omega)
theorem Out.at {h1 h2 : AH} {a n k : Nat} {e : AE} (x : Out h1 h2 a n) (h : h1[k]? = some e) (hk : k < a ∨ a + n ≤ k) : h2[k]? = some e := (x k hk).trans h
theorem Out.set (hs : AH) (k : Nat) (e : AE) : Out hs (hs.set k e) k 1 := fun j hj => List.getElem?_set_ne (by omega)
theorem set_at {hs : AH} {k : Nat} {e e' : AE} (h : hs[k]? = some e) : (hs.set k e')[k]? = some e' := List.getElem?_set_self (List.getElem?_eq_some_iff.mp h).1
theorem gV_of {hs : AH} {a ci k : Nat} {fs : List Value} {v : Value} (h : hs[a]? = some (.inr (ci, fs))) (hk : fs[k]? = some v) : gV hs a ci k = some v := by
  unfold gV; rw [h]; show (if ci = ci then _ else _) = _; rw [if_pos rfl]; exact hk
theorem gI_of {hs : AH} {a ci k : Nat} {fs : List Value} {x : Int32} (h : hs[a]? = some (.inr (ci, fs))) (hk : fs[k]? = some (.int x)) : gI hs a ci k = some x := by
  unfold gI; rw [gV_of h hk]
theorem gR_of {hs : AH} {a ci k : Nat} {fs : List Value} {x : Nat} (h : hs[a]? = some (.inr (ci, fs))) (hk : fs[k]? = some (.ref x)) : gR hs a ci k = some x := by
  unfold gR; rw [gV_of h hk]
theorem chk_of {hs : AH} {a ci : Nat} {fs : List Value} (h : hs[a]? = some (.inr (ci, fs))) : chk hs a ci = some () := by
  unfold chk; rw [h]; show (if ci = ci then _ else _) = _; rw [if_pos rfl]
theorem pV_of {hs : AH} {a ci k : Nat} {fs : List Value} (v : Value) (h : hs[a]? = some (.inr (ci, fs))) (hk : k < fs.length) : pV hs a ci k v = some (hs.set a (.inr (ci, fs.set k v))) := by
  unfold pV; rw [h]; show (if ci = ci ∧ k < fs.length then _ else _) = _; rw [if_pos ⟨rfl, hk⟩]
theorem pI_of {hs : AH} {a ci k : Nat} {fs : List Value} (x : Int32) (h : hs[a]? = some (.inr (ci, fs))) (hk : k < fs.length) : pI hs a ci k x = some (hs.set a (.inr (ci, fs.set k (.int x)))) := pV_of _ h hk
theorem pR_of {hs : AH} {a ci k : Nat} {fs : List Value} (x : Nat) (h : hs[a]? = some (.inr (ci, fs))) (hk : k < fs.length) : pR hs a ci k x = some (hs.set a (.inr (ci, fs.set k (.ref x)))) := pV_of _ h hk
theorem pZ_of {hs : AH} {a ci k : Nat} {fs : List Value} {x : Int} (h : hs[a]? = some (.inr (ci, fs))) (hk : k < fs.length) (hx : x = 0 ∨ x = 1) : pZ hs a ci k (ii x) = some (hs.set a (.inr (ci, fs.set k (.int (ii x))))) := by
  unfold pZ
  rw [if_pos (by rcases hx with rfl | rfl; exact Or.inl rfl; exact Or.inr rfl)]
  exact pV_of _ h hk
theorem aN_of {t : Nat} {hs : AH} {a n : Nat} {f : Nat → Int32} {z : Int} (h : hs[a]? = some (.inl (t, n, .inl f))) (h0 : 0 ≤ z) (h1 : z < n) (hn : n ≤ 2147483647) : aN t hs a (ii z) = some (f z.toNat) := by
  unfold aN; rw [h]; show (if t = t ∧ 0 ≤ ii z ∧ (ii z).toNatClampNeg < n then _ else _) = _
  rw [if_pos ⟨rfl, by rw [il_0, ii_le (by omega) (by omega) (by omega) (by omega)]; exact h0, by rw [ii_nat (by omega) (by omega)]; omega⟩, ii_nat (by omega) (by omega)]
theorem sN_of {t : Nat} {hs : AH} {a n : Nat} {f : Nat → Int32} {z : Int} (v : Int32) (h : hs[a]? = some (.inl (t, n, .inl f))) (h0 : 0 ≤ z) (h1 : z < n) (hn : n ≤ 2147483647) : sN t hs a (ii z) v = some (hs.set a (.inl (t, n, .inl (upd f z.toNat v)))) := by
  unfold sN; rw [h]; show (if t = t ∧ 0 ≤ ii z ∧ (ii z).toNatClampNeg < n then _ else _) = _
  rw [if_pos ⟨rfl, by rw [il_0, ii_le (by omega) (by omega) (by omega) (by omega)]; exact h0, by rw [ii_nat (by omega) (by omega)]; omega⟩, ii_nat (by omega) (by omega)]
/-! an array of ints -/
def AnA (t : Nat) (hs : AH) (a n : Nat) (c : Nat → Int) : Prop := hs[a]? = some (.inl (t, n, .inl (fun j => ii (c j))))
theorem AnA.get {t : Nat} {hs : AH} {a n : Nat} {c : Nat → Int} {z : Int} (h : AnA t hs a n c) (h0 : 0 ≤ z) (h1 : z < n) (hn : n ≤ 2147483647) : aN t hs a (ii z) = some (ii (c z.toNat)) := aN_of h h0 h1 hn
theorem AnA.put {t : Nat} {hs : AH} {a n : Nat} {c : Nat → Int} {z v : Int} (h : AnA t hs a n c) (h0 : 0 ≤ z) (h1 : z < n) (hn : n ≤ 2147483647) : ∃ hs', sN t hs a (ii z) (ii v) = some hs' ∧ AnA t hs' a n (uz c z.toNat v) ∧ Out hs hs' a 1 :=
  ⟨_, sN_of _ h h0 h1 hn, (set_at h).trans (by rw [upd_ii]), Out.set _ _ _⟩
theorem AnA.out {t : Nat} {hs hs' : AH} {a n b m : Nat} {c : Nat → Int} (h : AnA t hs a n c) (o : Out hs hs' b m) (hd : a < b ∨ b + m ≤ a) : AnA t hs' a n c := o.at h hd
/-! a line -/
structure Ln where
  c : Nat → Int
  n : Nat
def LnA (hs : AH) (a : Nat) (x : Ln) : Prop := hs[a]? = some (.inr (2, [.ref (a + 1), .int (ii x.n)])) ∧ AnA 0 hs (a + 1) 45 x.c ∧ x.n ≤ 45
def Ln.at (x : Ln) (z : Int) : Int := if 0 ≤ z ∧ z < x.n then x.c z.toNat else -1
theorem LnA.gI {hs : AH} {a : Nat} {x : Ln} (h : LnA hs a x) : gI hs a 2 1 = some (ii x.n) := gI_of h.1 rfl
theorem LnA.gR {hs : AH} {a : Nat} {x : Ln} (h : LnA hs a x) : gR hs a 2 0 = some (a + 1) := gR_of h.1 rfl
theorem LnA.chk {hs : AH} {a : Nat} {x : Ln} (h : LnA hs a x) : chk hs a 2 = some () := chk_of h.1
theorem LnA.out {hs hs' : AH} {a b m : Nat} {x : Ln} (h : LnA hs a x) (o : Out hs hs' b m) (hd : a + 2 ≤ b ∨ b + m ≤ a) : LnA hs' a x := ⟨o.at h.1 (by omega), h.2.1.out o (by omega), h.2.2⟩
theorem LnA.pI {hs : AH} {a : Nat} {x : Ln} (h : LnA hs a x) (n : Nat) (hn : n ≤ 45) : ∃ hs', pI hs a 2 1 (ii n) = some hs' ∧ LnA hs' a ⟨x.c, n⟩ ∧ Out hs hs' a 2 :=
  ⟨_, pI_of _ h.1 (by decide), ⟨set_at h.1, (Out.set _ _ _).at h.2.1 (by omega), hn⟩, (Out.set _ _ _).mono (by omega) (by omega)⟩
theorem LnA.sN {hs : AH} {a : Nat} {x : Ln} {z v : Int} (h : LnA hs a x) (h0 : 0 ≤ z) (h1 : z < 45) : ∃ hs', sN 0 hs (a + 1) (ii z) (ii v) = some hs' ∧ LnA hs' a ⟨uz x.c z.toNat v, x.n⟩ ∧ Out hs hs' a 2 := by
  obtain ⟨hs', e, h2, o⟩ := h.2.1.put (z := z) (v := v) h0 h1 (by decide)
  exact ⟨hs', e, ⟨o.at h.1 (by omega), h2, h.2.2⟩, o.mono (by omega) (by omega)⟩
theorem X2_size {hs : AH} {a : Nat} {x : Ln} (h : LnA hs a x) : f_X2_size a hs = some (ii x.n) := by
  unfold f_X2_size; rw [h.gI]; rfl
theorem X2_at {hs : AH} {a : Nat} {x : Ln} {z : Int} (h : LnA hs a x) (h1 : -2147483648 ≤ z) (h2 : z ≤ 2147483647) : f_X2_at a (ii z) hs = some (ii (x.at z)) := by
  have hn := h.2.2
  unfold f_X2_at Ln.at
  simp (disch := omega) only [il_0, il_m1, ii_lt, ii_le, h.gI, h.gR, ob_some]
  by_cases c1 : z < 0
  · rw [if_pos c1, if_neg (by omega)]
  · rw [if_neg c1]
    by_cases c2 : (x.n : Int) ≤ z
    · rw [if_pos c2, if_neg (by omega)]
    · rw [if_neg c2, if_pos (by omega), h.2.1.get (by omega) (by omega) (by decide)]; rfl
def Ln.add (x : Ln) (v : Int) : Ln := if x.n < 45 then ⟨uz x.c x.n v, x.n + 1⟩ else x
theorem X2_add {hs : AH} {a : Nat} {x : Ln} {v : Int} (h : LnA hs a x) : ∃ hs', f_X2_add a (ii v) hs = some hs' ∧ LnA hs' a (x.add v) ∧ Out hs hs' a 2 := by
  have hn := h.2.2
  unfold f_X2_add Ln.add
  simp (disch := omega) only [il_0, il_45, ii_lt, ii_le, h.gI, h.gR, ob_some]
  rw [if_neg (by omega)]
  by_cases c2 : x.n < 45
  · rw [if_neg (by omega), if_pos c2]
    obtain ⟨hs1, e1, l1, o1⟩ := h.sN (z := x.n) (v := v) (by omega) (by omega)
    obtain ⟨hs2, e2, l2, o2⟩ := l1.pI (x.n + 1) (by omega)
    refine ⟨hs2, ?_, l2, o1.trans o2⟩
    rw [e1, ob_some, l1.gI, ob_some, il_1, ii_add]
    show (AH_pI hs1 a x.n).bind _ = _
    sorry
  · rw [if_pos (by omega), if_neg c2]
    exact ⟨hs, rfl, h, Out.refl _ _ _⟩
