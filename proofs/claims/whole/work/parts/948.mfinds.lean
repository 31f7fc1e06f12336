/-! ===== the reference: its object, its faults found ===== -/
/-- only the cells of a list may differ -/
def Ou (hs hs' : AH) (l : List Nat) : Prop := ∀ k, k ∉ l → hs'[k]? = hs[k]?
theorem Ou.refl (hs : AH) (l : List Nat) : Ou hs hs l := fun _ _ => rfl
theorem Ou.trans {h1 h2 h3 : AH} {l : List Nat} (x : Ou h1 h2 l) (y : Ou h2 h3 l) : Ou h1 h3 l := fun k hk => (y k hk).trans (x k hk)
theorem Ou.mono {h1 h2 : AH} {l m : List Nat} (x : Ou h1 h2 l) (h : ∀ k ∈ l, k ∈ m) : Ou h1 h2 m := fun k hk => x k (fun g => hk (h k g))
theorem Out.ou {h1 h2 : AH} {a : Nat} (o : Out h1 h2 a 1) : Ou h1 h2 [a] := fun k hk => o k (by
  have : k ≠ a := fun e => hk (by rw [e]; exact List.mem_singleton.2 rfl)
  omega)
theorem Ou.out {h1 h2 : AH} {l : List Nat} (x : Ou h1 h2 l) {a n : Nat} (h : ∀ k ∈ l, a ≤ k ∧ k < a + n) : Out h1 h2 a n := fun k hk => x k (fun g => by have := h k g; omega)
theorem Ou.at {h1 h2 : AH} {l : List Nat} {k : Nat} {e : AE} (x : Ou h1 h2 l) (h : h1[k]? = some e) (hk : k ∉ l) : h2[k]? = some e := (x k hk).trans h
theorem RA.ou {hs hs' : AH} {a n : Nat} {f : Nat → Int} {l : List Nat} (h : RA hs a n f) (o : Ou hs hs' l) (hd : a ∉ l) : RA hs' a n f := by
  obtain ⟨g, h, hg⟩ := h
  exact ⟨g, o.at h hd, hg⟩
/-- the reference's object: its ints at 0 (thrown), 3 (is it saved), 5 (kept), 7 (signs), 8 (error), 9 (place), 12 (suggestion), 15 (faults) -/
def MO (hs : AH) (x : Nat → Int) : Prop := hs[95]? = some (.inr (9, [.int (ii (x 0)), .ref 96, .ref 97, .int (ii (x 3)), .ref 98, .int (ii (x 5)), .ref 99, .int (ii (x 7)), .int (ii (x 8)), .int (ii (x 9)), .ref 100, .ref 101, .int (ii (x 12)), .ref 102, .ref 103, .int (ii (x 15)), .ref 104]))
section MOB
variable {hs : AH} {x : Nat → Int}
theorem MO.chk (h : MO hs x) : chk hs 95 9 = some () := chk_of h
theorem MO.r1 (h : MO hs x) : gR hs 95 9 1 = some 96 := gR_of h rfl
theorem MO.r2 (h : MO hs x) : gR hs 95 9 2 = some 97 := gR_of h rfl
theorem MO.r4 (h : MO hs x) : gR hs 95 9 4 = some 98 := gR_of h rfl
theorem MO.r6 (h : MO hs x) : gR hs 95 9 6 = some 99 := gR_of h rfl
theorem MO.r10 (h : MO hs x) : gR hs 95 9 10 = some 100 := gR_of h rfl
theorem MO.r11 (h : MO hs x) : gR hs 95 9 11 = some 101 := gR_of h rfl
theorem MO.r13 (h : MO hs x) : gR hs 95 9 13 = some 102 := gR_of h rfl
theorem MO.r14 (h : MO hs x) : gR hs 95 9 14 = some 103 := gR_of h rfl
theorem MO.r16 (h : MO hs x) : gR hs 95 9 16 = some 104 := gR_of h rfl
theorem MO.i0 (h : MO hs x) : gI hs 95 9 0 = some (ii (x 0)) := gI_of h rfl
theorem MO.i3 (h : MO hs x) : gI hs 95 9 3 = some (ii (x 3)) := gI_of h rfl
theorem MO.i5 (h : MO hs x) : gI hs 95 9 5 = some (ii (x 5)) := gI_of h rfl
theorem MO.i7 (h : MO hs x) : gI hs 95 9 7 = some (ii (x 7)) := gI_of h rfl
theorem MO.i8 (h : MO hs x) : gI hs 95 9 8 = some (ii (x 8)) := gI_of h rfl
theorem MO.i9 (h : MO hs x) : gI hs 95 9 9 = some (ii (x 9)) := gI_of h rfl
theorem MO.i12 (h : MO hs x) : gI hs 95 9 12 = some (ii (x 12)) := gI_of h rfl
theorem MO.i15 (h : MO hs x) : gI hs 95 9 15 = some (ii (x 15)) := gI_of h rfl
theorem MO.put (h : MO hs x) {k : Nat} (hk : k = 0 ∨ k = 5 ∨ k = 7 ∨ k = 8 ∨ k = 9 ∨ k = 12 ∨ k = 15) (v : Int) : ∃ hs', pI hs 95 9 k (ii v) = some hs' ∧ MO hs' (uz x k v) ∧ Ou hs hs' [95] := by
  rcases hk with rfl | rfl | rfl | rfl | rfl | rfl | rfl
  · obtain ⟨g, e, a, o⟩ := pI_x (k := 0) (ii v) h (Nat.le_of_ble_eq_true rfl)
    exact ⟨g, e, a, o.ou⟩
  · obtain ⟨g, e, a, o⟩ := pI_x (k := 5) (ii v) h (Nat.le_of_ble_eq_true rfl)
    exact ⟨g, e, a, o.ou⟩
  · obtain ⟨g, e, a, o⟩ := pI_x (k := 7) (ii v) h (Nat.le_of_ble_eq_true rfl)
    exact ⟨g, e, a, o.ou⟩
  · obtain ⟨g, e, a, o⟩ := pI_x (k := 8) (ii v) h (Nat.le_of_ble_eq_true rfl)
    exact ⟨g, e, a, o.ou⟩
  · obtain ⟨g, e, a, o⟩ := pI_x (k := 9) (ii v) h (Nat.le_of_ble_eq_true rfl)
    exact ⟨g, e, a, o.ou⟩
  · obtain ⟨g, e, a, o⟩ := pI_x (k := 12) (ii v) h (Nat.le_of_ble_eq_true rfl)
    exact ⟨g, e, a, o.ou⟩
  · obtain ⟨g, e, a, o⟩ := pI_x (k := 15) (ii v) h (Nat.le_of_ble_eq_true rfl)
    exact ⟨g, e, a, o.ou⟩
theorem MO.putZ (h : MO hs x) : ∃ hs', pZ hs 95 9 3 1 = some hs' ∧ MO hs' (uz x 3 1) ∧ Ou hs hs' [95] := by
  obtain ⟨g, e, a, o⟩ := pZ_x (k := 3) (x := 1) h (Nat.le_of_ble_eq_true rfl) (Or.inr rfl)
  exact ⟨g, e, a, o.ou⟩
theorem MO.ou {hs' : AH} {l : List Nat} (h : MO hs x) (o : Ou hs hs' l) (hd : 95 ∉ l) : MO hs' x := o.at h hd
theorem MO.cong {y : Nat → Int} (h : MO hs x) (e : ∀ j, x j = y j) : MO hs y := by
  rw [show y = x from funext (fun j => (e j).symm)]; exact h
theorem MO.nw (h : MO hs x) {f : Nat → Int} (a : RA hs 96 80 f) : NW hs f := ⟨h.chk, h.r1, a⟩
end MOB
/-- what the array of faults holds -/
def Enc (s : Sh) (M : Nat → Int) (l : List (Nat × Nat)) : Prop := ∀ i y, l[i]? = some y → M (4 * i) = y.2 ∧ M (4 * i + 1) = y.1 / per s.sp ∧ M (4 * i + 2) = y.1 % per s.sp ∧ M (4 * i + 3) = flt s y.1 y.2
def Fs (hs0 hs : AH) (x : Nat → Int) (f : Nat → Int) (s : Sh) (l : List (Nat × Nat)) : Prop := MO hs (uz x 15 l.length) ∧ RA hs 96 80 f ∧ (∃ M, RA hs 103 2880 M ∧ Enc s M l) ∧ Ou hs0 hs [95, 103]
theorem flR_le {s : Sh} {p : Nat} : ∀ r, (flR s p r).length ≤ r
  | 0 => Nat.le_refl _
  | r + 1 => by
    have := flR_le (s := s) (p := p) r
    show (flR s p r ++ (if flt s p (r + 1) = -1 then [] else [(p, r + 1)])).length ≤ _
    rw [List.length_append]
    by_cases c : flt s p (r + 1) = -1
    · rw [if_pos c]; simp; omega
    · rw [if_neg c]; simp; omega
theorem flP_le {s : Sh} : ∀ p, (flP s p).length ≤ 16 * p
  | 0 => Nat.le_refl _
  | p + 1 => by
    have h1 := flP_le (s := s) p
    have h2 := flR_le (s := s) (p := p) 16
    show (flP s p ++ flR s p 16).length ≤ _
    rw [List.length_append]; omega
theorem flR_rest {s : Sh} {p : Nat} (h : lat s.md p = -1) : ∀ r, flR s p r = []
  | 0 => rfl
  | r + 1 => by
    show flR s p r ++ (if flt s p (r + 1) = -1 then [] else [(p, r + 1)]) = []
    rw [flR_rest h r, if_pos (show flt s p (r + 1) = -1 from if_pos h)]
    rfl
section MFI
variable {hs0 : AH} {x f : Nat → Int} {s : Sh}
theorem X9_fi59 (n : NoA f s) (k : SOK s) {hs : AH} {l : List (Nat × Nat)} (F : Fs hs0 hs x f s l) (hl : l.length < 720) {p r : Nat} (hp : p < 45) (o14 : Nat → Int32 → Int32 → AH → Option AH) (o21 : Nat → Int32 → Int32 → Int32 → AH → Option AH) {L : Int32} :
    (flt s p r = -1 → f_X9_finds_b59 o14 o21 95 L (ii p) (ii r) (ii (flt s p r)) hs = o21 95 L (ii p) (ii (r + 1 : Nat)) hs) ∧
    (flt s p r ≠ -1 → (-1 ≤ flt s p r ∧ flt s p r ≤ 100) → ∃ hs', f_X9_finds_b59 o14 o21 95 L (ii p) (ii r) (ii (flt s p r)) hs = o21 95 L (ii p) (ii (r + 1 : Nat)) hs' ∧ Fs hs0 hs' x f s (l ++ [(p, r)])) := by
  have e1 : ii (r : Int) + 1 = ii ((r + 1 : Nat) : Int) := by rw [il_1, ii_add]; rfl
  have hp3 := per_3 s.sp
  unfold f_X9_finds_b59
  rw [e1]
  constructor
  · intro c
    rw [if_pos (by rw [c]; rfl)]
  · intro c fb
    rw [if_neg (by rw [il_m1, ii_eq (by omega) (by omega) (by omega) (by omega)]; exact c)]
    obtain ⟨M0, A, ⟨M, B, E⟩, O⟩ := F
    have h15 : uz x 15 (l.length : Int) 15 = l.length := uz_eq _ _ _
    have G15 := M0.i15
    rw [h15] at G15
    obtain ⟨h1, f1, M1, o1⟩ := M0.put (k := 15) (by decide) ((l.length : Int) + 1)
    have B1 := B.ou o1 (by decide)
    have A1 := A.ou o1 (by decide)
    obtain ⟨h2, f2, B2, o2⟩ := B1.put (z := 4 * l.length) (r : Int) (by omega) (by omega) (by omega)
    have o2' := o2.ou
    have M2 := M1.ou o2' (by decide)
    have A2 := A1.ou o2' (by decide)
    obtain ⟨h3, f3, B3, o3⟩ := B2.put (z := 4 * l.length + 1) ((p : Int) / per s.sp) (by omega) (by omega) (by omega)
    have o3' := o3.ou
    have M3 := M2.ou o3' (by decide)
    have A3 := A2.ou o3' (by decide)
    obtain ⟨h4, f4, B4, o4⟩ := B3.put (z := 4 * l.length + 2) ((p : Int) % per s.sp) (by omega) (by omega) (by omega)
    have o4' := o4.ou
    have M4 := M3.ou o4' (by decide)
    have A4 := A3.ou o4' (by decide)
    obtain ⟨h5, f5, B5, o5⟩ := B4.put (z := 4 * l.length + 3) (flt s p r) (by omega) (by omega) (by omega)
    have o5' := o5.ou
    have M5 := M4.ou o5' (by decide)
    have A5 := A4.ou o5' (by decide)
    have E4 : (4 : Int32) * ii (l.length : Int) = ii (4 * (l.length : Int)) := by rw [il_4, ii_mul]
    have E41 : ii (4 * (l.length : Int)) + 1 = ii (4 * (l.length : Int) + 1) := by rw [il_1, ii_add]
    have E42 : ii (4 * (l.length : Int)) + 2 = ii (4 * (l.length : Int) + 2) := by rw [il_2, ii_add]
    have E43 : ii (4 * (l.length : Int)) + 3 = ii (4 * (l.length : Int) + 3) := by rw [il_3, ii_add]
    have Eo : ii (l.length : Int) + 1 = ii ((l.length : Int) + 1) := by rw [il_1, ii_add]
    refine ⟨h5, ?_, ?_, A5, ⟨_, B5, ?_⟩, ?_⟩
    · rw [G15, ob_some, Eo, f1, ob_some, M1.r14, ob_some, E4, f2, ob_some, M2.r14, ob_some, M2.chk, ob_some, X9_barOf (M2.nw A2) n k (by omega) (by omega), ob_some, E41, f3, ob_some, M3.r14, ob_some, M3.chk, ob_some, X9_beatOf (M3.nw A3) n k (by omega) (by omega), ob_some, E42, f4, ob_some, M4.r14, ob_some, E43, f5, ob_some]
    · refine M5.cong (fun j => ?_)
      unfold uz
      by_cases e : j = 15
      · rw [if_pos e, if_pos e]; simp
      · rw [if_neg e, if_neg e, if_neg e]
    · intro i y hy
      have t0 : (4 * (l.length : Int)).toNat = 4 * l.length := by omega
      have t1 : (4 * (l.length : Int) + 1).toNat = 4 * l.length + 1 := by omega
      have t2 : (4 * (l.length : Int) + 2).toNat = 4 * l.length + 2 := by omega
      have t3 : (4 * (l.length : Int) + 3).toNat = 4 * l.length + 3 := by omega
      rw [t0, t1, t2, t3]
      by_cases e : i < l.length
      · rw [List.getElem?_append_left e] at hy
        obtain ⟨a1, a2, a3, a4⟩ := E i y hy
        refine ⟨?_, ?_, ?_, ?_⟩ <;> rw [updZ_ne (by omega), updZ_ne (by omega), updZ_ne (by omega), updZ_ne (by omega)] <;> assumption
      · have hi : i = l.length := by
          obtain ⟨h0, -⟩ := List.getElem?_eq_some_iff.1 hy
          simp at h0; omega
        rw [hi, List.getElem?_append_right (Nat.le_refl _), Nat.sub_self] at hy
        cases hy
        rw [hi]
        refine ⟨?_, ?_, ?_, ?_⟩
        · rw [updZ_ne (by omega), updZ_ne (by omega), updZ_ne (by omega), updZ_eq]
        · rw [updZ_ne (by omega), updZ_ne (by omega), updZ_eq]
        · rw [updZ_ne (by omega), updZ_eq]
        · rw [updZ_eq]
    · exact O.trans ((o1.mono (by decide)).trans ((o2'.mono (by decide)).trans ((o3'.mono (by decide)).trans ((o4'.mono (by decide)).trans (o5'.mono (by decide))))))
theorem X9_fi21 (n : NoA f s) (k : SOK s) (q : Wl s) (hl : ∀ p : Int, 0 ≤ p → p < s.md.length → (p / per s.sp = (s.gv.length : Int) - 1 ↔ p = (s.md.length : Int) - 1)) {p : Nat} (h0 : lat s.md p ≠ -1) (o14 : Nat → Int32 → Int32 → AH → Option AH) : ∀ (d m r : Nat) (hs : AH), d < m → r + d = 17 → 1 ≤ r → Fs hs0 hs x f s (flP s p ++ flR s p (r - 1)) →
    ∃ hs', f_X9_finds_b21 o14 m 95 (ii s.md.length) (ii p) (ii r) hs = o14 95 (ii s.md.length) (ii (p + 1 : Nat)) hs' ∧ Fs hs0 hs' x f s (flP s (p + 1)) := by
  have ml := k.ml
  obtain ⟨p0, p1⟩ := lat_lt h0
  intro d
  induction d with
  | zero =>
    intro m r hs hm hr r1 F
    obtain ⟨m, rfl⟩ : ∃ z, m = z + 1 := ⟨m - 1, by omega⟩
    obtain rfl : r = 17 := by omega
    refine ⟨hs, ?_, F⟩
    rw [f_X9_finds_b21.eq_2, if_pos (by decide +kernel), il_1, ii_add]
    rfl
  | succ d ih =>
    intro m r hs hm hr r1 F
    obtain ⟨m, rfl⟩ : ∃ z, m = z + 1 := ⟨m - 1, by omega⟩
    have F' := F
    obtain ⟨M0, A, -, -⟩ := F
    have w := M0.nw A
    obtain ⟨l0, b0⟩ := w.ln n k h0
    have hlen : (flP s p ++ flR s p (r - 1)).length < 720 := by
      have a1 := flP_le (s := s) p
      have a2 := flR_le (s := s) (p := p) (r - 1)
      rw [List.length_append]; omega
    obtain ⟨g1, g2⟩ := X9_fi59 n k F' hlen (p := p) (r := r) (by omega) o14 (f_X9_finds_b21 o14 m) (L := ii s.md.length)
    have er : flR s p r = flR s p (r - 1) ++ (if flt s p r = -1 then [] else [(p, r)]) := by
      obtain ⟨z, rfl⟩ : ∃ z, r = z + 1 := ⟨r - 1, by omega⟩
      rfl
    have wb := k.wtb r
    have fb : -1 ≤ flt s p r ∧ flt s p r ≤ 100 := flt_bd k (by omega) r
    have key : ∃ hs', f_X9_finds_b59 o14 (f_X9_finds_b21 o14 m) 95 (ii s.md.length) (ii p) (ii r) (ii (flt s p r)) hs = o14 95 (ii s.md.length) (ii (p + 1 : Nat)) hs' ∧ Fs hs0 hs' x f s (flP s (p + 1)) := by
      by_cases c : flt s p r = -1
      · rw [g1 c]
        refine ih m (r + 1) hs (by omega) (by omega) (by omega) ?_
        rw [if_pos c, List.append_nil] at er
        rw [show r + 1 - 1 = r from rfl, er]; exact F'
      · obtain ⟨hs', e, F2⟩ := g2 c fb
        rw [e]
        refine ih m (r + 1) hs' (by omega) (by omega) (by omega) ?_
        rw [if_neg c] at er
        rw [show r + 1 - 1 = r from rfl, er, ← List.append_assoc]; exact F2
    rw [f_X9_finds_b21.eq_2, if_neg (by rw [il_16, ii_lt (by omega) (by omega) (by omega) (by omega)]; omega), w.1, ob_some, l0, ob_some, if_neg (by rw [il_m1, ii_eq (by omega) (by omega) (by omega) (by omega)]; exact h0), w.2.1, ob_some, w.kw n (by omega) (by omega), ob_some]
    by_cases c : lg s.wt r = 0
    · have f1 : flt s p r = -1 := by unfold flt detC; rw [if_neg h0, if_pos c]
      rw [f1] at key
      rw [if_pos (by rw [Int.toNat_natCast, c]; rfl)]
      exact key
    · rw [if_neg (by rw [Int.toNat_natCast, il_0, ii_eq (by omega) (by omega) (by omega) (by omega)]; exact c), ob_some, X9_detail w n k q h0 r1 (by omega) c (fun _ => hl p p0 p1), ob_some]
      exact key
theorem X9_fi14 (n : NoA f s) (k : SOK s) (q : Wl s) (hl : ∀ p : Int, 0 ≤ p → p < s.md.length → (p / per s.sp = (s.gv.length : Int) - 1 ↔ p = (s.md.length : Int) - 1)) : ∀ (d m p : Nat) (hs : AH), d < m → p + d = s.md.length → Fs hs0 hs x f s (flP s p) →
    ∃ hs', f_X9_finds_b14 m 95 (ii s.md.length) (ii p) hs = some hs' ∧ Fs hs0 hs' x f s (flP s s.md.length) := by
  have ml := k.ml
  intro d
  induction d with
  | zero =>
    intro m p hs hm hp F
    obtain ⟨m, rfl⟩ : ∃ z, m = z + 1 := ⟨m - 1, by omega⟩
    obtain rfl : p = s.md.length := by omega
    exact ⟨hs, by rw [f_X9_finds_b14.eq_2, if_pos (by rw [ii_le (by omega) (by omega) (by omega) (by omega)]; omega)], F⟩
  | succ d ih =>
    intro m p hs hm hp F
    obtain ⟨m, rfl⟩ : ∃ z, m = z + 1 := ⟨m - 1, by omega⟩
    rw [f_X9_finds_b14.eq_2, if_neg (by rw [ii_le (by omega) (by omega) (by omega) (by omega)]; omega)]
    by_cases c : lat s.md p = -1
    · have w := F.1.nw F.2.1
      have E : f_X9_finds_b21 (f_X9_finds_b14 m) FUEL 95 (ii s.md.length) (ii p) 1 hs = f_X9_finds_b14 m 95 (ii s.md.length) (ii (p + 1 : Nat)) hs := by
        rw [show FUEL = 999999 + 1 from rfl, f_X9_finds_b21.eq_2, if_neg (by decide +kernel), w.1, ob_some, X9_line w n (by omega) (by omega) ml, ob_some, if_pos (by rw [c]; rfl), il_1, ii_add]
        rfl
      rw [E]
      refine ih m (p + 1) hs (by omega) (by omega) ?_
      have : flP s (p + 1) = flP s p := by
        show flP s p ++ flR s p 16 = _
        rw [flR_rest c, List.append_nil]
      rw [this]; exact F
    · obtain ⟨h1, e1, F1⟩ := X9_fi21 n k q hl c (f_X9_finds_b14 m) 16 FUEL 1 hs (by unfold FUEL; omega) (by omega) (by omega) (by show Fs hs0 hs x f s (flP s p ++ []); rw [List.append_nil]; exact F)
      obtain ⟨h2, e2, F2⟩ := ih m (p + 1) h1 (by omega) (by omega) F1
      exact ⟨h2, by rw [← e2]; exact e1, F2⟩
theorem X9_finds {hs : AH} {M : Nat → Int} (h : MO hs x) (a : RA hs 96 80 f) (m : RA hs 103 2880 M) (n : NoA f s) (h1 : f 1 = s.md.length) (k : SOK s) (q : Wl s) (hl : ∀ p : Int, 0 ≤ p → p < s.md.length → (p / per s.sp = (s.gv.length : Int) - 1 ↔ p = (s.md.length : Int) - 1)) :
    ∃ hs', f_X9_finds 95 hs = some hs' ∧ Fs hs hs' x f s (flP s s.md.length) := by
  obtain ⟨g1, e1, M1, o1⟩ := h.put (k := 15) (by decide) 0
  have A1 := a.ou o1 (by decide)
  obtain ⟨g2, e2, F2⟩ := X9_fi14 (hs0 := hs) n k q hl s.md.length FUEL 0 g1 (by have := k.ml; unfold FUEL; omega) (by omega) ⟨M1, A1, ⟨M, m.ou o1 (by decide), fun i y hy => by cases hy⟩, o1.mono (by decide)⟩
  refine ⟨g2, ?_, F2⟩
  unfold f_X9_finds
  rw [show pI hs 95 9 15 0 = _ from e1, ob_some, M1.r1, ob_some, (M1.nw A1).k1, ob_some, h1]
  exact e2
end MFI
