/-! ===== the reference's state ===== -/
def XA (x : Nat → Int) (t : St) (th : Int) : Prop := x 0 = th ∧ x 3 = t.isS ∧ x 5 = t.his.length ∧ x 7 = t.buf.length ∧ x 8 = t.err ∧ x 12 = t.sug.length
/-- an array that holds a sheet -/
def LoA (f : Nat → Int) (s : Sh) : Prop := NoA f s ∧ f 1 = s.md.length
def NowA (hs : AH) (s : Sh) : Prop := ∃ f, RA hs 96 80 f ∧ LoA f s
def SavA (hs : AH) (i : Int) (s : Sh) : Prop := ∃ f, RA hs 97 80 f ∧ (i = 1 → LoA f s)
def KepA (hs : AH) (l : List Sh) : Prop := ∃ f, RA hs 98 480 f ∧ ∀ i s, l[i]? = some s → LoA (fun k => f (80 * i + k)) s
def LisA (hs : AH) (a n : Nat) (l : List Int) : Prop := ∃ f, RA hs a n f ∧ ∀ j, j < l.length → f j = lg l j
def AnyA (hs : AH) (a n : Nat) : Prop := ∃ f, RA hs a n f
/-- the cells 95 to 104 -/
def MoA (hs : AH) (t : St) (th : Int) : Prop := (∃ x, MO hs x ∧ XA x t th) ∧ NowA hs t.now ∧ SavA hs t.isS t.sav ∧ KepA hs t.his ∧ LisA hs 99 180 t.buf ∧ LisA hs 101 12 t.sug ∧ AnyA hs 100 45 ∧ AnyA hs 102 12 ∧ AnyA hs 103 2880 ∧ AnyA hs 104 200
section MST
variable {hs hs' : AH} {t : St} {th : Int} {l : List Nat}
theorem NowA.ou {s : Sh} (h : NowA hs s) (o : Ou hs hs' l) (hd : 96 ∉ l) : NowA hs' s := by
  obtain ⟨f, a, b⟩ := h
  exact ⟨f, a.ou o hd, b⟩
theorem SavA.ou {i : Int} {s : Sh} (h : SavA hs i s) (o : Ou hs hs' l) (hd : 97 ∉ l) : SavA hs' i s := by
  obtain ⟨f, a, b⟩ := h
  exact ⟨f, a.ou o hd, b⟩
theorem KepA.ou {s : List Sh} (h : KepA hs s) (o : Ou hs hs' l) (hd : 98 ∉ l) : KepA hs' s := by
  obtain ⟨f, a, b⟩ := h
  exact ⟨f, a.ou o hd, b⟩
theorem LisA.ou {a n : Nat} {s : List Int} (h : LisA hs a n s) (o : Ou hs hs' l) (hd : a ∉ l) : LisA hs' a n s := by
  obtain ⟨f, a, b⟩ := h
  exact ⟨f, a.ou o hd, b⟩
theorem AnyA.ou {a n : Nat} (h : AnyA hs a n) (o : Ou hs hs' l) (hd : a ∉ l) : AnyA hs' a n := by
  obtain ⟨f, b⟩ := h
  exact ⟨f, b.ou o hd⟩
theorem MoA.out {b m : Nat} (h : MoA hs t th) (o : Out hs hs' b m) (hd : b + m ≤ 95 ∨ 105 ≤ b) : MoA hs' t th := by
  obtain ⟨⟨x, h1, hx⟩, ⟨f2, a2, h2⟩, ⟨f3, a3, h3⟩, ⟨f4, a4, h4⟩, ⟨f5, a5, h5⟩, ⟨f6, a6, h6⟩, ⟨f7, a7⟩, ⟨f8, a8⟩, ⟨f9, a9⟩, f10, a10⟩ := h
  exact ⟨⟨x, o.at h1 (by omega), hx⟩, ⟨f2, a2.out o (by omega), h2⟩, ⟨f3, a3.out o (by omega), h3⟩, ⟨f4, a4.out o (by omega), h4⟩, ⟨f5, a5.out o (by omega), h5⟩, ⟨f6, a6.out o (by omega), h6⟩, ⟨f7, a7.out o (by omega)⟩, ⟨f8, a8.out o (by omega)⟩, ⟨f9, a9.out o (by omega)⟩, f10, a10.out o (by omega)⟩
/-- the object's ints replaced -/
theorem MoA.obj (h : MoA hs t th) {x : Nat → Int} {t' : St} {th' : Int} (m : MO hs' x) (a : XA x t' th') (o : Ou hs hs' [95]) (e1 : t'.now = t.now) (e2 : t'.isS = t.isS) (e3 : t'.sav = t.sav) (e4 : t'.his = t.his) (e5 : t'.buf = t.buf) (e6 : t'.sug = t.sug) : MoA hs' t' th' := by
  obtain ⟨-, h2, h3, h4, h5, h6, h7, h8, h9, h10⟩ := h
  refine ⟨⟨x, m, a⟩, ?_, ?_, ?_, ?_, ?_, h7.ou o (by decide), h8.ou o (by decide), h9.ou o (by decide), h10.ou o (by decide)⟩
  · rw [e1]; exact h2.ou o (by decide)
  · rw [e2, e3]; exact h3.ou o (by decide)
  · rw [e4]; exact h4.ou o (by decide)
  · rw [e5]; exact h5.ou o (by decide)
  · rw [e6]; exact h6.ou o (by decide)
theorem MoA.setTh (h : MoA hs t th) (v : Int) : ∃ hs', pI hs 95 9 0 (ii v) = some hs' ∧ MoA hs' t v ∧ Ou hs hs' [95] := by
  have hh := h
  obtain ⟨⟨x, m, a0, a3, a5, a7, a8, a12⟩, -⟩ := h
  obtain ⟨g, e, m1, o⟩ := m.put (k := 0) (by decide) v
  refine ⟨g, e, hh.obj (t' := t) m1 ⟨uz_eq _ _ _, ?_, ?_, ?_, ?_, ?_⟩ o rfl rfl rfl rfl rfl rfl, o⟩ <;> rw [uz_ne (by decide)] <;> assumption
theorem MoA.begin (h : MoA hs t th) : ∃ hs', pI hs 95 9 0 0 = some hs' ∧ MoA hs' t 0 ∧ Ou hs hs' [95] := h.setTh 0
theorem MoA.raise (h : MoA hs t th) (v : Int) : ∃ hs', f_X9_raises 95 (ii v) hs = some (ii 0, hs') ∧ MoA hs' t v ∧ Ou hs hs' [95] := by
  obtain ⟨g, e, m, o⟩ := h.setTh v
  refine ⟨g, ?_, m, o⟩
  unfold f_X9_raises
  rw [e, ob_some]
  rfl
theorem MoA.chk (h : MoA hs t th) : chk hs 95 9 = some () := by
  obtain ⟨⟨x, m, a⟩, -⟩ := h
  exact m.chk
theorem MoA.thr (h : MoA hs t th) : f_X9_thrown 95 hs = some (ii th) := by
  obtain ⟨⟨x, m, a, -⟩, -⟩ := h
  unfold f_X9_thrown
  rw [m.i0, ob_some, a]
theorem MoA.i3 (h : MoA hs t th) : gI hs 95 9 3 = some (ii t.isS) := by
  obtain ⟨⟨x, m, a0, a3, -⟩, -⟩ := h
  rw [m.i3, a3]
theorem MoA.i5 (h : MoA hs t th) : gI hs 95 9 5 = some (ii t.his.length) := by
  obtain ⟨⟨x, m, a0, a3, a5, -⟩, -⟩ := h
  rw [m.i5, a5]
theorem MoA.i7 (h : MoA hs t th) : gI hs 95 9 7 = some (ii t.buf.length) := by
  obtain ⟨⟨x, m, a0, a3, a5, a7, -⟩, -⟩ := h
  rw [m.i7, a7]
theorem MoA.i8 (h : MoA hs t th) : gI hs 95 9 8 = some (ii t.err) := by
  obtain ⟨⟨x, m, a0, a3, a5, a7, a8, -⟩, -⟩ := h
  rw [m.i8, a8]
theorem MoA.i12 (h : MoA hs t th) : gI hs 95 9 12 = some (ii t.sug.length) := by
  obtain ⟨⟨x, m, a0, a3, a5, a7, a8, a12⟩, -⟩ := h
  rw [m.i12, a12]
theorem MoA.r1 (h : MoA hs t th) : gR hs 95 9 1 = some 96 := by
  obtain ⟨⟨x, m, a⟩, -⟩ := h
  exact m.r1
theorem MoA.nw (h : MoA hs t th) : ∃ f, NW hs f ∧ NoA f t.now ∧ f 1 = t.now.md.length := by
  obtain ⟨⟨x, m, -⟩, ⟨f, a, n, h1⟩, -⟩ := h
  exact ⟨f, m.nw a, n, h1⟩
end MST
def anR (r : Int ⊕ Nat) : Int := match r with
  | .inl z => z
  | .inr _ => 0
/-- the law's number of an exception: its place in the list -/
def cod : List Nat → Nat → Int
  | [], _ => 0
  | a :: l, e => if e = a then 1 else cod l e + 1
def cdR (cl : List Nat) (r : Int ⊕ Nat) : Int := match r with
  | .inl _ => 0
  | .inr e => cod cl e
def M9 (f9 : AH → Option (Int32 × AH)) (cl : List Nat) (r : Int ⊕ Nat) (t t' : St) : Prop := ∀ hs th, MoA hs t th → ∃ hs', f9 hs = some (ii (anR r), hs') ∧ MoA hs' t' (cdR cl r) ∧ Out hs hs' 95 10
theorem Ou.m {hs hs' : AH} (o : Ou hs hs' [95]) : Out hs hs' 95 10 := o.out (fun k hk => by rw [List.mem_singleton.1 hk]; omega)
/-- a method that begins with no exception -/
theorem M9.of {f9 : AH → Option (Int32 × AH)} {g9 : AH → Option (Int32 × AH)} {cl : List Nat} {r : Int ⊕ Nat} {t t' : St} (e : ∀ hs, f9 hs = (pI hs 95 9 0 0).bind g9) (h : ∀ hs, MoA hs t 0 → ∃ hs', g9 hs = some (ii (anR r), hs') ∧ MoA hs' t' (cdR cl r) ∧ Out hs hs' 95 10) : M9 f9 cl r t t' := by
  intro hs th hm
  obtain ⟨g1, e1, m1, o1⟩ := hm.begin
  obtain ⟨g2, e2, m2, o2⟩ := h g1 m1
  exact ⟨g2, by rw [e, e1, ob_some, e2], m2, o1.m.trans o2⟩
theorem MoA.fail {hs : AH} {t : St} {th : Int} (h : MoA hs t th) (v : Int) : ∃ hs', ((f_X9_raises 95 (ii v) hs).bind fun q => some (q.1, q.2)) = some (ii 0, hs') ∧ MoA hs' t v ∧ Out hs hs' 95 10 := by
  obtain ⟨g, e, m, o⟩ := h.raise v
  exact ⟨g, by rw [e, ob_some], m, o.m⟩
