/-! ===== the reference's calls: undo, save, restore ===== -/
section MUN
variable {t : St}
theorem X9_un_loop {n : Nat} (hn : n ≤ 5) : ∀ (d m v : Nat) (hs : AH) (x N K : Nat → Int), d < m → v + d = 80 → MO hs x → x 5 = n → RA hs 96 80 N → RA hs 98 480 K →
    ∃ hs' N', f_X9_undo_b30 m 95 (ii v) hs = some (ii n, hs') ∧ MO hs' x ∧ RA hs' 96 80 N' ∧ (∀ j, j < v → N' j = N j) ∧ (∀ j, v ≤ j → j < 80 → N' j = K (80 * n + j)) ∧ Ou hs hs' [96] := by
  intro d
  induction d with
  | zero =>
    intro m v hs x N K hm hv M hx A B
    obtain ⟨m, rfl⟩ : ∃ z, m = z + 1 := ⟨m - 1, by omega⟩
    refine ⟨hs, N, ?_, M, A, fun j _ => rfl, fun j h1 h2 => by omega, Ou.refl _ _⟩
    obtain rfl : v = 80 := by omega
    rw [f_X9_undo_b30.eq_2, if_pos (by decide +kernel), M.i5, hx, ob_some]
  | succ d ih =>
    intro m v hs x N K hm hv M hx A B
    obtain ⟨m, rfl⟩ : ∃ z, m = z + 1 := ⟨m - 1, by omega⟩
    obtain ⟨g, e, A1, o⟩ := A.put (z := (v : Int)) (K (80 * n + v)) (by omega) (by omega) (by omega)
    have o' := o.ou
    obtain ⟨g2, N', e2, M2, A2, p1, p2, o2⟩ := ih m (v + 1) g x _ K (by omega) (by omega) (M.ou o' (by decide)) hx A1 (B.ou o' (by decide))
    rw [Int.toNat_natCast] at p1
    refine ⟨g2, N', ?_, M2, A2, fun j hj => ?_, fun j h1 h2 => ?_, o'.trans o2⟩
    · rw [f_X9_undo_b30.eq_2, if_neg (by rw [il_80, ii_le (by omega) (by omega) (by omega) (by omega)]; omega), M.r1, ob_some, M.r4, ob_some, M.i5, hx, ob_some, il_80, ii_mul, ii_add, B.get (z := 80 * (n : Int) + v) (by omega) (by omega) (by omega), ob_some, show (80 * (n : Int) + v).toNat = 80 * n + v from by omega, e, ob_some, il_1, ii_add]
      exact e2
    · rw [p1 j (by omega), updZ_ne (by omega)]
    · by_cases c : j = v
      · rw [c, p1 _ (by omega), updZ_eq]
      · exact p2 j (by omega) h2
theorem X9_undo_0 (hl : t.his = []) : M9 (f_X9_undo 95) [2] (.inr 2) t t := by
  refine M9.of (fun hs => rfl) (fun hs h => ?_)
  rw [h.i5, hl, ob_some, if_pos (by rfl), h.chk, ob_some]
  exact h.fail 1
theorem X9_undo (k : StOK t) {l : List Sh} {s : Sh} (hl : t.his = l ++ [s]) : M9 (f_X9_undo 95) [2] (.inl l.length) t (s, t.2.1, t.2.2.1, l, t.2.2.2.2) := by
  refine M9.of (fun hs => rfl) (fun hs h => ?_)
  have ks := k.kh s (by rw [hl]; simp)
  have h6 := k.2.2.2.1
  have hlen : t.his.length = l.length + 1 := by rw [hl]; simp
  obtain ⟨⟨x, M, a0, a3, a5, a7, a8, a12⟩, ⟨N, A, LN⟩, h3, ⟨K, B, LK⟩, h5, h6', h7, h8, h9, h10⟩ := h
  obtain ⟨g1, e1, M1, o1⟩ := M.put (k := 5) (by decide) (l.length : Int)
  obtain ⟨g2, N', e2, M2, A2, p1, p2, o2⟩ := X9_un_loop (n := l.length) (by omega) 80 FUEL 0 g1 _ N K (by unfold FUEL; omega) (by omega) M1 (uz_eq _ _ _) (A.ou o1 (by decide)) (B.ou o1 (by decide))
  have o : Ou hs g2 [95, 96] := (o1.mono (by decide)).trans (o2.mono (by decide))
  refine ⟨g2, ?_, ⟨⟨_, M2, ?_, ?_, uz_eq _ _ _, ?_, ?_, ?_⟩, ⟨N', A2, ?_⟩, h3.ou o (by decide), ⟨K, B.ou o (by decide), fun i s' hi => ?_⟩, h5.ou o (by decide), h6'.ou o (by decide), h7.ou o (by decide), h8.ou o (by decide), h9.ou o (by decide), h10.ou o (by decide)⟩, o.out (fun k hk => by simp at hk; omega)⟩
  · rw [M.i5, a5, hlen, ob_some, if_neg (by rw [il_0, ii_eq (by omega) (by omega) (by omega) (by omega)]; omega), ob_some, il_1, ii_sub, show ((l.length + 1 : Nat) : Int) - 1 = l.length from by omega, e1, ob_some]
    exact e2
  · rw [uz_ne (by decide)]; exact a0
  · rw [uz_ne (by decide)]; exact a3
  · rw [uz_ne (by decide)]; exact a7
  · rw [uz_ne (by decide)]; exact a8
  · rw [uz_ne (by decide)]; exact a12
  · refine (LK l.length s (by rw [hl]; simp)).cong ks.gl ks.ml (fun j hj => ?_)
    exact p2 j (by omega) hj
  · refine LK i s' ?_
    rw [hl, List.getElem?_append_left]
    · exact hi
    · obtain ⟨h0, -⟩ := List.getElem?_eq_some_iff.1 hi
      exact h0
theorem X9_sv_loop {N : Nat → Int} {s : Sh} (n : LoA N s) : ∀ (d m v : Nat) (hs : AH) (x S : Nat → Int), d < m → v + d = 80 → MO hs x → RA hs 96 80 N → RA hs 97 80 S →
    ∃ hs' S', f_X9_save_b12 m 95 (ii v) hs = some (ii s.gv.length, hs') ∧ MO hs' x ∧ RA hs' 97 80 S' ∧ (∀ j, j < v → S' j = S j) ∧ (∀ j, v ≤ j → j < 80 → S' j = N j) ∧ Ou hs hs' [97] := by
  intro d
  induction d with
  | zero =>
    intro m v hs x S hm hv M A B
    obtain ⟨m, rfl⟩ : ∃ z, m = z + 1 := ⟨m - 1, by omega⟩
    refine ⟨hs, S, ?_, M, B, fun j _ => rfl, fun j h1 h2 => by omega, Ou.refl _ _⟩
    obtain rfl : v = 80 := by omega
    rw [f_X9_save_b12.eq_2, if_pos (by decide +kernel), M.r1, ob_some, (M.nw A).k0 n.1, ob_some]
  | succ d ih =>
    intro m v hs x S hm hv M A B
    obtain ⟨m, rfl⟩ : ∃ z, m = z + 1 := ⟨m - 1, by omega⟩
    obtain ⟨g, e, B1, o⟩ := B.put (z := (v : Int)) (N v) (by omega) (by omega) (by omega)
    have o' := o.ou
    obtain ⟨g2, S', e2, M2, B2, p1, p2, o2⟩ := ih m (v + 1) g x _ (by omega) (by omega) (M.ou o' (by decide)) (A.ou o' (by decide)) B1
    rw [Int.toNat_natCast] at p1
    refine ⟨g2, S', ?_, M2, B2, fun j hj => ?_, fun j h1 h2 => ?_, o'.trans o2⟩
    · rw [f_X9_save_b12.eq_2, if_neg (by rw [il_80, ii_le (by omega) (by omega) (by omega) (by omega)]; omega), M.r2, ob_some, M.r1, ob_some, A.get (by omega) (by omega) (by omega), ob_some, Int.toNat_natCast, e, ob_some, il_1, ii_add]
      exact e2
    · rw [p1 j (by omega), updZ_ne (by omega)]
    · by_cases c : j = v
      · rw [c, p1 _ (by omega), updZ_eq]
      · exact p2 j (by omega) h2
theorem X9_save (k : StOK t) {cl : List Nat} : M9 (f_X9_save 95) cl (.inl t.now.gv.length) t (t.1, t.1, 1, t.2.2.2) := by
  refine M9.of (fun hs => rfl) (fun hs h => ?_)
  obtain ⟨⟨x, M, a0, a3, a5, a7, a8, a12⟩, ⟨N, A, LN⟩, ⟨S, B, -⟩, h4, h5, h6', h7, h8, h9, h10⟩ := h
  obtain ⟨g1, e1, M1, o1⟩ := M.putZ
  obtain ⟨g2, S', e2, M2, B2, p1, p2, o2⟩ := X9_sv_loop LN 80 FUEL 0 g1 _ S (by unfold FUEL; omega) (by omega) M1 (A.ou o1 (by decide)) (B.ou o1 (by decide))
  have o : Ou hs g2 [95, 97] := (o1.mono (by decide)).trans (o2.mono (by decide))
  refine ⟨g2, ?_, ⟨⟨_, M2, ?_, uz_eq _ _ _, ?_, ?_, ?_, ?_⟩, ⟨N, A.ou o (by decide), LN⟩, ⟨S', B2, fun _ => LN.cong k.1.1.gl k.1.1.ml (fun j hj => p2 j (by omega) hj)⟩, h4.ou o (by decide), h5.ou o (by decide), h6'.ou o (by decide), h7.ou o (by decide), h8.ou o (by decide), h9.ou o (by decide), h10.ou o (by decide)⟩, o.out (fun k hk => by simp at hk; omega)⟩
  · rw [e1, ob_some]
    exact e2
  · rw [uz_ne (by decide)]; exact a0
  · rw [uz_ne (by decide)]; exact a5
  · rw [uz_ne (by decide)]; exact a7
  · rw [uz_ne (by decide)]; exact a8
  · rw [uz_ne (by decide)]; exact a12
theorem X9_re_loop {S : Nat → Int} {s : Sh} (n : LoA S s) (gl : s.gv.length ≤ 12) (ml : s.md.length ≤ 45) : ∀ (d m v : Nat) (hs : AH) (x N : Nat → Int), d < m → v + d = 80 → MO hs x → RA hs 96 80 N → RA hs 97 80 S → (∀ j, j < v → N j = S j) →
    ∃ hs' N', f_X9_restore_b24 m 95 (ii v) hs = some (ii s.gv.length, hs') ∧ MO hs' x ∧ RA hs' 96 80 N' ∧ LoA N' s ∧ Ou hs hs' [96] := by
  intro d
  induction d with
  | zero =>
    intro m v hs x N hm hv M A B hN
    obtain ⟨m, rfl⟩ : ∃ z, m = z + 1 := ⟨m - 1, by omega⟩
    obtain rfl : v = 80 := by omega
    have LN : LoA N s := n.cong gl ml hN
    refine ⟨hs, N, ?_, M, A, LN, Ou.refl _ _⟩
    rw [f_X9_restore_b24.eq_2, if_pos (by decide +kernel), M.r1, ob_some, (M.nw A).k0 LN.1, ob_some]
  | succ d ih =>
    intro m v hs x N hm hv M A B hN
    obtain ⟨m, rfl⟩ : ∃ z, m = z + 1 := ⟨m - 1, by omega⟩
    obtain ⟨g, e, A1, o⟩ := A.put (z := (v : Int)) (S v) (by omega) (by omega) (by omega)
    have o' := o.ou
    obtain ⟨g2, N', e2, M2, A2, LN, o2⟩ := ih m (v + 1) g x _ (by omega) (by omega) (M.ou o' (by decide)) A1 (B.ou o' (by decide)) (fun j hj => by
      rw [Int.toNat_natCast]
      by_cases c : j = v
      · rw [c, updZ_eq]
      · rw [updZ_ne c]; exact hN j (by omega))
    refine ⟨g2, N', ?_, M2, A2, LN, o'.trans o2⟩
    rw [f_X9_restore_b24.eq_2, if_neg (by rw [il_80, ii_le (by omega) (by omega) (by omega) (by omega)]; omega), M.r1, ob_some, M.r2, ob_some, B.get (by omega) (by omega) (by omega), ob_some, Int.toNat_natCast, e, ob_some, il_1, ii_add]
    exact e2
theorem X9_restore (k : StOK t) : M9 (f_X9_restore 95) [2] (if t.isS = 0 then .inr 2 else .inl t.sav.gv.length) t (if t.isS = 0 then t else t.keep t.sav) := by
  refine M9.of (fun hs => rfl) (fun hs h => ?_)
  have hi := k.2.2.1
  rw [h.i3, ob_some]
  by_cases c : t.isS = 0
  · rw [if_pos (by rw [c]; rfl), if_pos c, if_pos c, h.chk, ob_some]
    exact h.fail 1
  · rw [if_neg (by rw [il_0, ii_eq (by omega) (by omega) (by omega) (by omega)]; exact c), if_neg c, if_neg c, h.chk, ob_some]
    obtain ⟨g1, e1, m1, o1⟩ := h.changes k.1.1 k.2.2.2.1 k.kh
    obtain ⟨⟨x, M, ax⟩, ⟨N, A, LN⟩, ⟨S, B, LS⟩, -⟩ := id m1
    obtain ⟨g2, N', e2, M2, A2, LN2, o2⟩ := X9_re_loop (LS (by show t.isS = 1; omega)) k.2.1.1.gl k.2.1.1.ml 80 FUEL 0 g1 x N (by unfold FUEL; omega) (by omega) M A B (fun j hj => by omega)
    refine ⟨g2, ?_, m1.setNow A2 LN2 o2, (o1.out (fun k hk => by simp at hk; omega)).trans (o2.out (fun k hk => by simp at hk; omega))⟩
    rw [e1, ob_some]
    exact e2
end MUN
