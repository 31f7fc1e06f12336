/-! ===== the reference: what is kept before a change ===== -/
theorem LoA.cong {f f' : Nat → Int} {s : Sh} (h : LoA f s) (gl : s.gv.length ≤ 12) (ml : s.md.length ≤ 45) (e : ∀ j, j < 80 → f' j = f j) : LoA f' s := by
  obtain ⟨⟨n0, n2, n3, n4, n5, n6, n7⟩, n1⟩ := h
  refine ⟨⟨?_, ?_, ?_, fun j hj => ?_, fun r r1 r2 => ?_, fun j hj => ?_, fun j hj => ?_⟩, ?_⟩
  · rw [e 0 (by omega)]; exact n0
  · rw [e 2 (by omega)]; exact n2
  · rw [e 3 (by omega)]; exact n3
  · rw [e _ (by omega)]; exact n4 j hj
  · rw [e _ (by omega)]; exact n5 r r1 r2
  · rw [e _ (by omega)]; exact n6 j hj
  · rw [e _ (by omega)]; exact n7 j hj
  · rw [e 1 (by omega)]; exact n1
section MKE
theorem X9_ch51 {N : Nat → Int} {n : Nat} (hn : n ≤ 5) : ∀ (d m v : Nat) (hs : AH) (x K : Nat → Int), d < m → v + d = 80 → MO hs x → x 5 = n → RA hs 96 80 N → RA hs 98 480 K →
    ∃ hs' K', f_X9_changes_b51 m 95 (ii v) hs = some hs' ∧ MO hs' (uz x 5 (n + 1)) ∧ RA hs' 98 480 K' ∧ (∀ j, j < 80 * n + v → K' j = K j) ∧ (∀ j, v ≤ j → j < 80 → K' (80 * n + j) = N j) ∧ Ou hs hs' [95, 98] := by
  intro d
  induction d with
  | zero =>
    intro m v hs x K hm hv M hx A B
    obtain ⟨m, rfl⟩ : ∃ z, m = z + 1 := ⟨m - 1, by omega⟩
    obtain ⟨g, e, M1, o⟩ := M.put (k := 5) (by decide) ((n : Int) + 1)
    refine ⟨g, K, ?_, M1, B.ou o (by decide), fun j _ => rfl, fun j h1 h2 => by omega, o.mono (by decide)⟩
    obtain rfl : v = 80 := by omega
    rw [f_X9_changes_b51.eq_2, if_pos (by decide +kernel), M.i5, hx, ob_some, il_1, ii_add, e, ob_some]
  | succ d ih =>
    intro m v hs x K hm hv M hx A B
    obtain ⟨m, rfl⟩ : ∃ z, m = z + 1 := ⟨m - 1, by omega⟩
    obtain ⟨g, e, B1, o⟩ := B.put (z := 80 * (n : Int) + v) (N v) (by omega) (by omega) (by omega)
    have o' := o.ou
    obtain ⟨g2, K', e2, M2, B2, p1, p2, o2⟩ := ih m (v + 1) g x _ (by omega) (by omega) (M.ou o' (by decide)) hx (A.ou o' (by decide)) B1
    have t0 : (80 * (n : Int) + v).toNat = 80 * n + v := by omega
    rw [t0] at p1
    refine ⟨g2, K', ?_, M2, B2, fun j hj => ?_, fun j h1 h2 => ?_, (o'.mono (by decide)).trans o2⟩
    · rw [f_X9_changes_b51.eq_2, if_neg (by rw [il_80, ii_le (by omega) (by omega) (by omega) (by omega)]; omega), M.r4, ob_some, M.i5, hx, ob_some, M.r1, ob_some, A.get (by omega) (by omega) (by omega), ob_some, il_80, ii_mul, ii_add, Int.toNat_natCast, e, ob_some, il_1, ii_add]
      exact e2
    · rw [p1 j (by omega), updZ_ne (by omega)]
    · by_cases c : j = v
      · rw [c, p1 _ (by omega), updZ_eq]
      · exact p2 j (by omega) h2
theorem X9_ch11 {N : Nat → Int} {n : Int} : ∀ (d m v : Nat) (hs : AH) (x K : Nat → Int), d < m → v + d = 400 → MO hs x → x 5 = n → RA hs 96 80 N → RA hs 98 480 K →
    ∃ hs' K', f_X9_changes_b11 m 95 (ii v) hs = f_X9_changes_b51 FUEL 95 0 hs' ∧ MO hs' (uz x 5 (n - 1)) ∧ RA hs' 96 80 N ∧ RA hs' 98 480 K' ∧ (∀ j, j < v → K' j = K j) ∧ (∀ j, v ≤ j → j < 400 → K' j = K (j + 80)) ∧ Ou hs hs' [95, 98] := by
  intro d
  induction d with
  | zero =>
    intro m v hs x K hm hv M hx A B
    obtain ⟨m, rfl⟩ : ∃ z, m = z + 1 := ⟨m - 1, by omega⟩
    obtain ⟨g, e, M1, o⟩ := M.put (k := 5) (by decide) (n - 1)
    refine ⟨g, K, ?_, M1, A.ou o (by decide), B.ou o (by decide), fun j _ => rfl, fun j h1 h2 => by omega, o.mono (by decide)⟩
    obtain rfl : v = 400 := by omega
    rw [f_X9_changes_b11.eq_2, if_pos (by decide +kernel), M.i5, hx, ob_some, il_1, ii_sub, e, ob_some]
  | succ d ih =>
    intro m v hs x K hm hv M hx A B
    obtain ⟨m, rfl⟩ : ∃ z, m = z + 1 := ⟨m - 1, by omega⟩
    obtain ⟨g, e, B1, o⟩ := B.put (z := (v : Int)) (K (v + 80)) (by omega) (by omega) (by omega)
    have o' := o.ou
    obtain ⟨g2, K', e2, M2, A2, B2, p1, p2, o2⟩ := ih m (v + 1) g x _ (by omega) (by omega) (M.ou o' (by decide)) hx (A.ou o' (by decide)) B1
    rw [Int.toNat_natCast] at p1 p2
    refine ⟨g2, K', ?_, M2, A2, B2, fun j hj => ?_, fun j h1 h2 => ?_, (o'.mono (by decide)).trans o2⟩
    · rw [f_X9_changes_b11.eq_2, if_neg (by rw [il_400, ii_le (by omega) (by omega) (by omega) (by omega)]; omega), M.r4, ob_some, ob_some, il_80, ii_add, B.get (z := (v : Int) + 80) (by omega) (by omega) (by omega), ob_some, show ((v : Int) + 80).toNat = v + 80 from by omega, e, ob_some, il_1, ii_add]
      exact e2
    · rw [p1 j (by omega), updZ_ne (by omega)]
    · by_cases c : j = v
      · rw [c, p1 _ (by omega), updZ_eq]
      · rw [p2 j (by omega) h2, updZ_ne (by omega)]
variable {hs : AH} {t : St} {th : Int}
theorem MoA.changes (h : MoA hs t th) (k : SOK t.now) (hl : t.his.length ≤ 6) (kh : ∀ s ∈ t.his, SOK s) : ∃ hs', f_X9_changes 95 hs = some hs' ∧ MoA hs' (t.1, t.2.1, t.2.2.1, kpt t.his t.now, t.2.2.2.2) th ∧ Ou hs hs' [95, 98] := by
  obtain ⟨⟨x, M, a0, a3, a5, a7, a8, a12⟩, ⟨N, A, LN⟩, h3, ⟨K, B, LK⟩, h5, h6, h7, h8, h9, h10⟩ := h
  have fin : ∀ (hs' : AH) (y K' : Nat → Int) (v : Int), MO hs' y → y 0 = x 0 → y 3 = x 3 → y 7 = x 7 → y 8 = x 8 → y 12 = x 12 → y 5 = v → v = (kpt t.his t.now).length → RA hs' 98 480 K' → (∀ i s, (kpt t.his t.now)[i]? = some s → LoA (fun j => K' (80 * i + j)) s) → Ou hs hs' [95, 98] → MoA hs' (t.1, t.2.1, t.2.2.1, kpt t.his t.now, t.2.2.2.2) th := by
    intro hs' y K' v m b0 b3 b7 b8 b12 b5 bv B' L o
    exact ⟨⟨y, m, by rw [b0]; exact a0, by rw [b3]; exact a3, by rw [b5]; exact bv, by rw [b7]; exact a7, by rw [b8]; exact a8, by rw [b12]; exact a12⟩, ⟨N, A.ou o (by decide), LN⟩, h3.ou o (by decide), ⟨K', B', L⟩, h5.ou o (by decide), h6.ou o (by decide), h7.ou o (by decide), h8.ou o (by decide), h9.ou o (by decide), h10.ou o (by decide)⟩
  unfold f_X9_changes
  rw [M.i5, a5, ob_some]
  by_cases c : t.his.length = 6
  · rw [if_pos (by rw [c]; rfl)]
    have hk : kpt t.his t.now = t.his.tail ++ [t.now] := by unfold kpt; rw [if_pos c]
    obtain ⟨g1, K1, e1, M1, A1, B1, -, p1, o1⟩ := X9_ch11 (n := 6) 400 FUEL 0 hs x K (by unfold FUEL; omega) (by omega) M (by rw [a5, c]; rfl) A B
    obtain ⟨g2, K2, e2, M2, B2, p2, p3, o2⟩ := X9_ch51 (n := 5) (by omega) 80 FUEL 0 g1 _ K1 (by unfold FUEL; omega) (by omega) M1 (uz_eq _ _ _) A1 B1
    have lt : t.his.tail.length = 5 := by rw [List.length_tail]; omega
    refine ⟨g2, ?_, fin g2 _ K2 _ M2 ?_ ?_ ?_ ?_ ?_ (uz_eq _ _ _) ?_ B2 ?_ (o1.trans o2), o1.trans o2⟩
    · rw [show f_X9_changes_b11 FUEL 95 0 hs = _ from e1]
      exact e2
    all_goals first | (rw [uz_ne (by decide), uz_ne (by decide)]) | skip
    · rw [hk, List.length_append, lt]; rfl
    · intro i s hs'
      rw [hk] at hs'
      by_cases d : i < 5
      · rw [List.getElem?_append_left (by omega), List.getElem?_tail] at hs'
        have ks := kh s (List.mem_of_getElem? hs')
        refine (LK (i + 1) s hs').cong ks.gl ks.ml (fun j hj => ?_)
        rw [p2 _ (by omega), p1 _ (by omega) (by omega)]
        congr 1; omega
      · have hi : i = 5 := by
          obtain ⟨h0, -⟩ := List.getElem?_eq_some_iff.1 hs'
          rw [List.length_append, lt] at h0; simp at h0; omega
        rw [hi, List.getElem?_append_right (by omega), lt] at hs'
        cases hs'
        refine LN.cong k.gl k.ml (fun j hj => ?_)
        rw [hi, p3 j (by omega) hj]
  · rw [if_neg (by rw [il_6, ii_eq (by omega) (by omega) (by omega) (by omega)]; omega)]
    have hk : kpt t.his t.now = t.his ++ [t.now] := by unfold kpt; rw [if_neg c]
    obtain ⟨g2, K2, e2, M2, B2, p2, p3, o2⟩ := X9_ch51 (n := t.his.length) (by omega) 80 FUEL 0 hs x K (by unfold FUEL; omega) (by omega) M a5 A B
    refine ⟨g2, e2, fin g2 _ K2 _ M2 ?_ ?_ ?_ ?_ ?_ (uz_eq _ _ _) ?_ B2 ?_ o2, o2⟩
    all_goals first | (rw [uz_ne (by decide)]) | skip
    · rw [hk, List.length_append]; rfl
    · intro i s hs'
      rw [hk] at hs'
      by_cases d : i < t.his.length
      · rw [List.getElem?_append_left d] at hs'
        have ks := kh s (List.mem_of_getElem? hs')
        refine (LK i s hs').cong ks.gl ks.ml (fun j hj => ?_)
        rw [p2 _ (by omega)]
      · have hi : i = t.his.length := by
          obtain ⟨h0, -⟩ := List.getElem?_eq_some_iff.1 hs'
          rw [List.length_append] at h0; simp at h0; omega
        rw [hi, List.getElem?_append_right (Nat.le_refl _), Nat.sub_self] at hs'
        cases hs'
        refine LN.cong k.gl k.ml (fun j hj => ?_)
        rw [hi, p3 j (by omega) hj]
theorem MoA.setNow {hs' : AH} (h : MoA hs t th) {f : Nat → Int} {s : Sh} (a : RA hs' 96 80 f) (n : LoA f s) (o : Ou hs hs' [96]) : MoA hs' (s, t.2) th := by
  obtain ⟨⟨x, m, ax⟩, -, h3, h4, h5, h6, h7, h8, h9, h10⟩ := h
  exact ⟨⟨x, m.ou o (by decide), ax⟩, ⟨f, a, n⟩, h3.ou o (by decide), h4.ou o (by decide), h5.ou o (by decide), h6.ou o (by decide), h7.ou o (by decide), h8.ou o (by decide), h9.ou o (by decide), h10.ou o (by decide)⟩
theorem MoA.put (h : MoA hs t th) {z v : Int} {s : Sh} (z0 : 0 ≤ z) (z1 : z < 80) (hs' : ∀ f, LoA f t.now → LoA (updZ f z.toNat v) s) : ∃ g, sN 0 hs 96 (ii z) (ii v) = some g ∧ MoA g (s, t.2) th ∧ Ou hs g [96] := by
  obtain ⟨-, ⟨f, a, n⟩, -⟩ := id h
  obtain ⟨g, e, a1, o⟩ := a.put (z := z) v z0 z1 (by omega)
  exact ⟨g, e, h.setNow a1 (hs' f n) o.ou, o.ou⟩
theorem MoA.sets (h : MoA hs t th) (k : SOK t.now) (hl : t.his.length ≤ 6) (kh : ∀ s ∈ t.his, SOK s) {z v a : Int} {s : Sh} (z0 : 0 ≤ z) (z1 : z < 80) (ha : ∀ f, LoA f t.now → f z.toNat = a) (hs' : ∀ f, LoA f t.now → LoA (updZ f z.toNat v) s) : ∃ g, f_X9_sets 95 (ii z) (ii v) hs = some (ii a, g) ∧ MoA g (s, t.2.1, t.2.2.1, kpt t.his t.now, t.2.2.2.2) th ∧ Out hs g 95 10 := by
  obtain ⟨g1, e1, m1, o1⟩ := h.changes k hl kh
  obtain ⟨f, nw, n⟩ := m1.nw
  obtain ⟨g2, e2, m2, o2⟩ := m1.put (z := z) (v := v) (s := s) z0 z1 hs'
  refine ⟨g2, ?_, m2, (o1.out (fun k hk => by simp at hk; omega)).trans (o2.out (fun k hk => by simp at hk; omega))⟩
  unfold f_X9_sets
  rw [h.chk, ob_some, e1, ob_some, nw.2.1, ob_some, nw.get z0 z1, ob_some, ob_some, e2, ob_some, ha f n]
end MKE
