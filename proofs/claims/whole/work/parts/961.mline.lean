/-! ===== the reference: a line read; cantus ===== -/
theorem LisA.push {hs : AH} {a n : Nat} {l : List Int} (h : LisA hs a n l) (hl : l.length < n) (hn : n ≤ 1000) (v : Int) : ∃ hs', sN 0 hs a (ii l.length) (ii v) = some hs' ∧ LisA hs' a n (l ++ [v]) ∧ Ou hs hs' [a] := by
  obtain ⟨W, A, hw⟩ := h
  obtain ⟨g, e, a1, o⟩ := A.put (z := (l.length : Int)) v (by omega) (by omega) (by omega)
  refine ⟨g, e, ⟨_, a1, fun j hj => ?_⟩, o.ou⟩
  rw [Int.toNat_natCast]
  by_cases c : j = l.length
  · rw [c, updZ_eq, lg_push]
  · have : j < l.length := by rw [List.length_append] at hj; simp at hj; omega
    rw [updZ_ne c, lg_push_lt this]; exact hw j this
theorem LisA.get {hs : AH} {a n : Nat} {l : List Int} (h : LisA hs a n l) (hl : l.length ≤ n) (hn : n ≤ 1000) {z : Int} (z0 : 0 ≤ z) (z1 : z < l.length) : aN 0 hs a (ii z) = some (ii (lg l z.toNat)) := by
  obtain ⟨W, A, hw⟩ := h
  rw [A.get z0 (by omega) (by omega), hw _ (by omega)]
theorem AnyA.nil {hs : AH} {a n : Nat} (h : AnyA hs a n) : LisA hs a n [] := by
  obtain ⟨W, A⟩ := h
  exact ⟨W, A, fun j hj => by cases hj⟩
theorem LisA.any {hs : AH} {a n : Nat} {l : List Int} (h : LisA hs a n l) : AnyA hs a n := by
  obtain ⟨W, A, -⟩ := h
  exact ⟨W, A⟩
def lnZ (o : Option (List Int)) : Int := match o with
  | some l => l.length
  | none => -1
section MLI
variable {b : List Int}
theorem RS.ou {hs hs' : AH} {x : Nat → Int} {p : Nat} {l : List Nat} (r : RS hs x b p) (o : Ou hs hs' l) (h1 : 95 ∉ l) (h2 : 99 ∉ l) : RS hs' x b p :=
  ⟨r.1.ou o h1, r.2.1, r.2.2.1, r.2.2.2.ou o h2⟩
theorem RS.loop (k : CB b) {least most : Nat} (hle : least ≤ 45) (hmo : most ≤ 45) : ∀ (f m : Nat) (hs : AH) (x : Nat → Int) (l : List Int) (p : Nat), b.length - p < f → f ≤ m → l.length ≤ most → p ≤ b.length → RS hs x b p → LisA hs 100 45 l →
    ∃ hs' l', f_X9_readLine_b61 m 95 (ii least) (ii most) (ii l.length) hs = some (ii (lnZ (rdEnd least (rdMore b most f l p)).1), hs') ∧ RS hs' (uz x 9 (rdEnd least (rdMore b most f l p)).2) b (rdEnd least (rdMore b most f l p)).2 ∧ LisA hs' 100 45 l' ∧ rdGot (rdEnd least (rdMore b most f l p)) l' ∧ Ou hs hs' [95, 100] := by
  intro f
  induction f with
  | zero => intro m hs x l p hf; omega
  | succ f ih =>
    intro m hs x l p hf hm hl hp r R
    obtain ⟨m, rfl⟩ : ∃ z, m = z + 1 := ⟨m - 1, by omega⟩
    have kl := k.1
    rw [f_X9_readLine_b61.eq_2, r.1.i9, ob_some, r.1.i7, ob_some, r.2.1, r.2.2.1]
    unfold rdMore
    by_cases c : b.length ≤ p
    · rw [if_pos (by rw [ii_le (by omega) (by omega) (by omega) (by omega)]; omega), if_pos c]
      unfold rdEnd
      dsimp only
      by_cases d : l.length < least
      · rw [if_neg (by rw [ii_le (by omega) (by omega) (by omega) (by omega)]; omega), if_pos d]
        refine ⟨hs, l, rfl, by rw [uz_id r.2.1]; exact r, R, fun y hy => (by cases hy), Ou.refl _ _⟩
      · rw [if_pos (by rw [ii_le (by omega) (by omega) (by omega) (by omega)]; omega), if_neg d]
        refine ⟨hs, l, rfl, by rw [uz_id r.2.1]; exact r, R, fun y hy => (by cases hy; rfl), Ou.refl _ _⟩
    · rw [if_neg (by rw [ii_le (by omega) (by omega) (by omega) (by omega)]; omega), if_neg c]
      have fail : ∃ hs' l', some ((-1 : Int32), hs) = some (ii (lnZ (rdEnd least ((none, p) : Option (List Int) × Nat)).1), hs') ∧ RS hs' (uz x 9 (rdEnd least ((none, p) : Option (List Int) × Nat)).2) b (rdEnd least ((none, p) : Option (List Int) × Nat)).2 ∧ LisA hs' 100 45 l' ∧ rdGot (rdEnd least ((none, p) : Option (List Int) × Nat)) l' ∧ Ou hs hs' [95, 100] :=
        ⟨hs, l, rfl, by show RS hs (uz x 9 p) b p; rw [uz_id r.2.1]; exact r, R, fun y hy => (by cases hy), Ou.refl _ _⟩
      by_cases d : l.length = most
      · rw [if_pos (by rw [d]), if_neg (by omega)]
        exact fail
      · rw [if_neg (by rw [ii_eq (by omega) (by omega) (by omega) (by omega)]; omega), r.1.chk, ob_some]
        obtain ⟨t1, t2⟩ := r.takes k (by omega) (c := 44) (by omega)
        rw [show (44 : Int32) = ii 44 from rfl]
        by_cases e : pat b p = 44
        · obtain ⟨g1, e1, r1, o1⟩ := t1 e
          have pin := pat_in (show pat b (p : Int) ≠ 0 by omega)
          obtain ⟨g2, e2, r2, o2⟩ := r1.note k (by omega)
          rw [uz_uz] at r2
          have O2 : Ou hs g2 [95, 100] := (o1.trans o2).mono (by decide)
          have R2 := R.ou (o1.trans o2) (by decide)
          rw [e1, ob_some]
          dsimp only
          rw [if_neg (by decide +kernel), r1.1.chk, ob_some, e2, ob_some, if_pos (show pat b (p : Int) = 44 ∧ l.length < most from ⟨e, by omega⟩)]
          dsimp only
          cases hr : (rdNote b (p + 1)).1 with
          | none =>
            rw [show ii (ntZ none) = (-1 : Int32) from rfl, if_pos rfl]
            exact ⟨g2, l, rfl, r2, R2, fun y hy => (by cases hy), O2⟩
          | some z =>
            obtain ⟨z1, z2, z3, z4⟩ := rdNote_some hr
            obtain ⟨g3, e3, R3, o3⟩ := R2.push (by omega) (by omega) z
            have r3 := r2.ou o3 (by decide) (by decide)
            have ll : (l ++ [z]).length = l.length + 1 := by rw [List.length_append]; rfl
            obtain ⟨g4, l4, e4, r4, R4, w4, o4⟩ := ih m g3 _ (l ++ [z]) _ (by omega) (by omega) (by omega) z4 r3 R3
            rw [uz_uz] at r4
            refine ⟨g4, l4, ?_, r4, R4, w4, O2.trans ((o3.mono (by decide)).trans o4)⟩
            show (if ii z = -1 then _ else _) = _
            rw [if_neg (by rw [il_m1, ii_eq (by omega) (by omega) (by omega) (by omega)]; omega), r2.1.r10, ob_some, show ii (ntZ (some z)) = ii z from rfl, e3, ob_some, il_1, ii_add, show (l.length : Int) + 1 = ((l ++ [z]).length : Nat) from by rw [ll]; rfl]
            exact e4
        · rw [t2 e, ob_some]
          dsimp only
          rw [if_pos (by rfl), if_neg (fun x => e x.1)]
          exact fail
theorem RS.line (k : CB b) {least most : Nat} (hle : least ≤ 45) (hmo : most ≤ 45) (h1 : 1 ≤ most) {rest : Int} (hrest : rest = 0 ∨ rest = 1) {hs : AH} {x : Nat → Int} (M : MO hs x) (x7 : x 7 = b.length) (B : LisA hs 99 180 b) (R : LisA hs 100 45 []) :
    ∃ hs' l', f_X9_readLine 95 (ii least) (ii most) (ii rest) hs = some (ii (lnZ (rdLine b rest least most).1), hs') ∧ RS hs' (uz x 9 (rdLine b rest least most).2) b (rdLine b rest least most).2 ∧ LisA hs' 100 45 l' ∧ rdGot (rdLine b rest least most) l' ∧ Ou hs hs' [95, 100] := by
  obtain ⟨g0, e0, r0, o0⟩ : ∃ g, pI hs 95 9 9 (ii ((0 : Nat) : Int)) = some g ∧ RS g (uz x 9 ((0 : Nat) : Int)) b 0 ∧ Ou hs g [95] := by
    obtain ⟨g, e, M1, o⟩ := M.put (k := 9) (by decide) ((0 : Nat) : Int)
    exact ⟨g, e, ⟨M1, uz_eq _ _ _, by rw [uz_ne (by decide)]; exact x7, B.ou o (by decide)⟩, o⟩
  have R0 := R.ou o0 (by decide)
  have kl := k.1
  have z1 : ∀ v : Int, ([] ++ [v] : List Int) = [v] := fun v => rfl
  unfold f_X9_readLine rdLine
  rw [show pI hs 95 9 9 0 = _ from e0, ob_some]
  have b35 : ¬ (¬ rest = 0 ∧ pat b 0 = 45) → ∃ hs' l', f_X9_readLine_b35 95 (ii least) (ii most) 0 g0 = some (ii (lnZ (rdEnd least (match (rdNote b 0).1 with
    | none => (none, (rdNote b 0).2)
    | some c => rdMore b most 181 [c] (rdNote b 0).2)).1), hs') ∧ RS hs' (uz x 9 (rdEnd least (match (rdNote b 0).1 with
    | none => (none, (rdNote b 0).2)
    | some c => rdMore b most 181 [c] (rdNote b 0).2)).2) b (rdEnd least (match (rdNote b 0).1 with
    | none => (none, (rdNote b 0).2)
    | some c => rdMore b most 181 [c] (rdNote b 0).2)).2 ∧ LisA hs' 100 45 l' ∧ rdGot (rdEnd least (match (rdNote b 0).1 with
    | none => (none, (rdNote b 0).2)
    | some c => rdMore b most 181 [c] (rdNote b 0).2)) l' ∧ Ou hs hs' [95, 100] := by
    intro _
    obtain ⟨g2, e2, r2, o2⟩ := r0.note k (by omega)
    rw [uz_uz] at r2
    have O2 : Ou hs g2 [95, 100] := (o0.trans o2).mono (by decide)
    have R2 := R0.ou o2 (by decide)
    unfold f_X9_readLine_b35
    rw [r0.1.chk, ob_some, e2, ob_some]
    dsimp only
    cases hr : (rdNote b 0).1 with
    | none =>
      rw [show ii (ntZ none) = (-1 : Int32) from rfl, if_pos rfl]
      exact ⟨g2, [], rfl, r2, R2, fun y hy => (by cases hy), O2⟩
    | some z =>
      obtain ⟨z1, z2, z3, z4⟩ := rdNote_some hr
      obtain ⟨g3, e3, R3, o3⟩ := R2.push (by simp) (by omega) z
      have r3 := r2.ou o3 (by decide) (by decide)
      obtain ⟨g4, l4, e4, r4, R4, w4, o4⟩ := RS.loop k hle hmo 181 FUEL g3 _ [z] _ (by omega) (by unfold FUEL; omega) (by simp; omega) z4 r3 R3
      rw [uz_uz] at r4
      refine ⟨g4, l4, ?_, r4, R4, w4, O2.trans ((o3.mono (by decide)).trans o4)⟩
      show (if ii z = -1 then _ else _) = _
      rw [if_neg (by rw [il_m1, ii_eq (by omega) (by omega) (by omega) (by omega)]; omega), r2.1.r10, ob_some, show ii (ntZ (some z)) = ii z from rfl, show sN 0 g2 100 0 (ii z) = _ from e3, ob_some]
      exact e4
  rcases hrest with rfl | rfl
  · rw [if_pos (by rfl), if_neg (by omega)]
    exact b35 (by omega)
  · obtain ⟨t1, t2⟩ := r0.takes k (by omega) (c := 45) (by omega)
    rw [if_neg (by decide +kernel), r0.1.chk, ob_some, show (45 : Int32) = ii 45 from rfl]
    by_cases d : pat b ((0 : Nat) : Int) = 45
    · obtain ⟨g1, e1, r1, o1⟩ := t1 d
      rw [uz_uz] at r1
      have pin := pat_in (show pat b ((0 : Nat) : Int) ≠ 0 by omega)
      have R1 := R0.ou o1 (by decide)
      obtain ⟨g3, e3, R3, o3⟩ := R1.push (by simp) (by omega) (-1)
      have r3 := r1.ou o3 (by decide) (by decide)
      obtain ⟨g4, l4, e4, r4, R4, w4, o4⟩ := RS.loop k hle hmo 181 FUEL g3 _ [-1] 1 (by omega) (by unfold FUEL; omega) (by simp; omega) (by omega) r3 R3
      rw [uz_uz] at r4
      rw [e1, ob_some]
      dsimp only
      rw [if_neg (by decide +kernel), if_pos (show ¬ (1 : Int) = 0 ∧ pat b 0 = 45 from ⟨by omega, d⟩)]
      refine ⟨g4, l4, ?_, r4, R4, w4, (o0.mono (by decide)).trans ((o1.mono (by decide)).trans ((o3.mono (by decide)).trans o4))⟩
      rw [r1.1.r10, ob_some, show sN 0 g1 100 0 (-1) = _ from e3, ob_some]
      exact e4
    · have nd : ¬ (¬ (1 : Int) = 0 ∧ pat b 0 = 45) := fun y => d y.2
      rw [t2 d, ob_some]
      dsimp only
      rw [if_pos (by rfl), if_neg nd]
      exact b35 nd
end MLI
