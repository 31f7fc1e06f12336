/-! ===== the reference's calls: search ===== -/
section MSQ
theorem X9_s32 {x N : Nat → Int} : ∀ (d m v : Nat) (hs : AH) (R : Nat → Int), d < m → v + d = 45 → MO hs x → RA hs 96 80 N → RA hs 100 45 R → (∀ j, j < v → R j = N (35 + j)) →
    ∃ hs' R', f_X9_search_b32 m 95 (ii v) hs = ((chk hs' 95 9).bind fun _ => (f_X9_searches 95 hs').bind fun q2 => f_X9_search_b66 FUEL 95 q2.1 0 q2.2) ∧ MO hs' x ∧ RA hs' 96 80 N ∧ RA hs' 100 45 R' ∧ (∀ j, j < 45 → R' j = N (35 + j)) ∧ Ou hs hs' [100] := by
  intro d
  induction d with
  | zero =>
    intro m v hs R hm hv M A B hR
    obtain ⟨m, rfl⟩ : ∃ z, m = z + 1 := ⟨m - 1, by omega⟩
    obtain rfl : v = 45 := by omega
    exact ⟨hs, R, by rw [f_X9_search_b32.eq_2, if_pos (by decide +kernel)], M, A, B, hR, Ou.refl _ _⟩
  | succ d ih =>
    intro m v hs R hm hv M A B hR
    obtain ⟨m, rfl⟩ : ∃ z, m = z + 1 := ⟨m - 1, by omega⟩
    obtain ⟨g, e, B1, o⟩ := B.put (z := (v : Int)) (N (35 + v)) (by omega) (by omega) (by omega)
    rw [Int.toNat_natCast] at B1
    obtain ⟨g2, R2, e2, M2, A2, B2, r2, o2⟩ := ih m (v + 1) g _ (by omega) (by omega) (M.ou o.ou (by decide)) (A.ou o.ou (by decide)) B1 (fun j hj => by
      by_cases c : j = v
      · rw [c, updZ_eq]
      · rw [updZ_ne c]; exact hR j (by omega))
    refine ⟨g2, R2, ?_, M2, A2, B2, r2, o.ou.trans o2⟩
    rw [f_X9_search_b32.eq_2, if_neg (by rw [show (45 : Int32) = ii 45 from rfl, ii_le (by omega) (by omega) (by omega) (by omega)]; omega), M.r10, ob_some, M.r1, ob_some, show (35 : Int32) = ii 35 from rfl, ii_add, A.get (z := 35 + (v : Int)) (by omega) (by omega) (by omega), ob_some, show (35 + (v : Int)).toNat = 35 + v from by omega, e, ob_some, il_1, ii_add]
    exact e2
theorem X9_s66 {x N0 R : Nat → Int} (hR : ∀ j, j < 45 → R j = N0 (35 + j)) {r : Int32} : ∀ (d m v : Nat) (hs : AH) (N : Nat → Int), d < m → v + d = 45 → MO hs x → RA hs 96 80 N → RA hs 100 45 R → (∀ j, j < 35 + v → N j = N0 j) →
    ∃ hs' N', f_X9_search_b66 m 95 r (ii v) hs = (if r = -1 then ((chk hs' 95 9).bind fun _ => (f_X9_raises 95 2 hs').bind fun q5 => some (q5.1, q5.2)) else ((gR hs' 95 9 1).bind fun x1 => (aN 0 hs' x1 0).bind fun x2 => (pI hs' 95 9 12 x2).bind fun hs3 => f_X9_search_b116 FUEL 95 r 0 hs3)) ∧ MO hs' x ∧ RA hs' 96 80 N' ∧ (∀ j, j < 80 → N' j = N0 j) ∧ Ou hs hs' [96] := by
  intro d
  induction d with
  | zero =>
    intro m v hs N hm hv M A B hN
    obtain ⟨m, rfl⟩ : ∃ z, m = z + 1 := ⟨m - 1, by omega⟩
    obtain rfl : v = 45 := by omega
    exact ⟨hs, N, by rw [f_X9_search_b66.eq_2, if_pos (by decide +kernel)], M, A, hN, Ou.refl _ _⟩
  | succ d ih =>
    intro m v hs N hm hv M A B hN
    obtain ⟨m, rfl⟩ : ∃ z, m = z + 1 := ⟨m - 1, by omega⟩
    obtain ⟨g, e, A1, o⟩ := A.put (z := 35 + (v : Int)) (R v) (by omega) (by omega) (by omega)
    rw [show (35 + (v : Int)).toNat = 35 + v from by omega] at A1
    obtain ⟨g2, N2, e2, M2, A2, n2, o2⟩ := ih m (v + 1) g _ (by omega) (by omega) (M.ou o.ou (by decide)) A1 (B.ou o.ou (by decide)) (fun j hj => by
      by_cases c : j = 35 + v
      · rw [c, updZ_eq, hR v (by omega)]
      · rw [updZ_ne c]; exact hN j (by omega))
    refine ⟨g2, N2, ?_, M2, A2, n2, o.ou.trans o2⟩
    rw [f_X9_search_b66.eq_2, if_neg (by rw [show (45 : Int32) = ii 45 from rfl, ii_le (by omega) (by omega) (by omega) (by omega)]; omega), M.r1, ob_some, M.r10, ob_some, B.get (by omega) (by omega) (by omega), ob_some, Int.toNat_natCast, show (35 : Int32) = ii 35 from rfl, ii_add, e, ob_some, il_1, ii_add]
    exact e2
theorem X9_s116 {x T : Nat → Int} {n : Nat} (hn : n ≤ 12) (hx : x 12 = n) {r : Int32} : ∀ (d m v : Nat) (hs : AH) (S : Nat → Int), d < m → v + d = n → MO hs x → RA hs 102 12 T → RA hs 101 12 S → (∀ j, j < v → S j = T j) →
    ∃ hs' S', f_X9_search_b116 m 95 r (ii v) hs = some (r, hs') ∧ MO hs' x ∧ RA hs' 101 12 S' ∧ (∀ j, j < n → S' j = T j) ∧ Ou hs hs' [101] := by
  intro d
  induction d with
  | zero =>
    intro m v hs S hm hv M A B hS
    obtain ⟨m, rfl⟩ : ∃ z, m = z + 1 := ⟨m - 1, by omega⟩
    obtain rfl : v = n := by omega
    exact ⟨hs, S, by rw [f_X9_search_b116.eq_2, M.i12, hx, ob_some, if_pos (by rw [ii_le (by omega) (by omega) (by omega) (by omega)]; omega)], M, B, hS, Ou.refl _ _⟩
  | succ d ih =>
    intro m v hs S hm hv M A B hS
    obtain ⟨m, rfl⟩ : ∃ z, m = z + 1 := ⟨m - 1, by omega⟩
    obtain ⟨g, e, B1, o⟩ := B.put (z := (v : Int)) (T v) (by omega) (by omega) (by omega)
    rw [Int.toNat_natCast] at B1
    obtain ⟨g2, S2, e2, M2, B2, s2, o2⟩ := ih m (v + 1) g _ (by omega) (by omega) (M.ou o.ou (by decide)) (A.ou o.ou (by decide)) B1 (fun j hj => by
      by_cases c : j = v
      · rw [c, updZ_eq]
      · rw [updZ_ne c]; exact hS j (by omega))
    refine ⟨g2, S2, ?_, M2, B2, s2, o.ou.trans o2⟩
    rw [f_X9_search_b116.eq_2, M.i12, hx, ob_some, if_neg (by rw [ii_le (by omega) (by omega) (by omega) (by omega)]; omega), M.r11, ob_some, M.r13, ob_some, A.get (by omega) (by omega) (by omega), ob_some, Int.toNat_natCast, e, ob_some, il_1, ii_add]
    exact e2
variable {t : St}
abbrev St.wsug (t : St) (g : List Int) : St := (t.1, t.2.1, t.2.2.1, t.2.2.2.1, t.2.2.2.2.1, t.2.2.2.2.2.1, g)
theorem X9_search (k : StOK t) : M9 (f_X9_search 95) [2, 6] (opSearch t.now) t (t.wsug (skNew t)) := by
  have gl := k.1.1.gl
  have spb := k.1.1.spb
  refine M9.of (fun hs => rfl) (fun hs h => ?_)
  obtain ⟨fN, nw, n, -⟩ := h.nw
  unfold opSearch skNew
  by_cases c : t.now.gv.length = 0
  · rw [if_pos c, if_pos c, nw.2.1, ob_some, nw.k0 n, ob_some, if_pos (by rw [c]; rfl), h.chk, ob_some]
    exact h.fail 1
  have g2 : 2 ≤ t.now.gv.length := by have := k.1.2.1; omega
  by_cases d : t.now.sp = 1
  · obtain ⟨⟨x, M, a0, a3, a5, a7, a8, a12⟩, ⟨N, A, LN⟩, h3, h4, h5, ⟨S, Sa, hS⟩, ⟨R, Ra⟩, ⟨T, Ta⟩, h9, h10⟩ := id h
    obtain ⟨g1, R1, e1, M1, A1, Ra1, r1, o1⟩ := X9_s32 45 FUEL 0 hs R (by unfold FUEL; omega) (by omega) M A Ra (fun j hj => by omega)
    have Ta1 := Ta.ou o1 (by decide)
    obtain ⟨g2', e2, Ta2, o2⟩ := Ta1.put (z := 0) 41 (by omega) (by omega) (by omega)
    have M2 := M1.ou o2.ou (by decide)
    have A2 := A1.ou o2.ou (by decide)
    have Ra2 := Ra1.ou o2.ou (by decide)
    have n0 : NoA N (wm t.now ([].take (0 : Int).toNat)) := by
      obtain ⟨⟨b0, b2, b3, b4, b5, b6, b7⟩, -⟩ := LN
      exact ⟨b0, b2, b3, b4, b5, b6, fun j hj => by cases hj⟩
    obtain ⟨g3, T3, N3, e3, ⟨M3, Ta3, A3⟩, p3, q3, o3⟩ := X9_srch k.1.1 d g2 6003 FUEL g2' x _ N [] 0 42 0 0 (by omega) (by unfold FUEL; omega) (by omega) (by omega) (by simp) (by simp) (fun y hy => by cases hy) (fun _ => by omega) (by omega) (by omega) (by omega) ⟨M2, Ta2, A2⟩ n0 (fun j hj => by omega) (fun _ => by rw [show (0 : Int).toNat = 0 from rfl, updZ_eq]; rfl)
    have Ra3 := Ra2.ou o3 (by decide)
    change f_X9_searches_b21 FUEL 95 (ii ((t.now.gv.length : Int) - 1)) (ii 0) (ii 0) g2' = some (ii (skN t.now).1, g3) at e3
    change (skN t.now).1 ≠ -1 → (skN t.now).2.length = t.now.gv.length ∧ ∀ j, j < t.now.gv.length → T3 j = lg (skN t.now).2 j at q3
    obtain ⟨g4, N4, e4, M4, A4, n4, o4⟩ := X9_s66 (r := ii (skN t.now).1) r1 45 FUEL 0 g3 N3 (by unfold FUEL; omega) (by omega) M3 A3 Ra3 (fun j hj => p3 j (by omega))
    have LN4 : LoA N4 t.now := LN.cong gl k.1.1.ml n4
    have O4 : Ou hs g4 [95, 96, 100, 101, 102] := (o1.mono (by decide)).trans ((o2.ou.mono (by decide)).trans ((o3.mono (by decide)).trans (o4.mono (by decide))))
    have O4' : Ou hs g4 [96, 100, 102] := (o1.mono (by decide)).trans ((o2.ou.mono (by decide)).trans ((o3.mono (by decide)).trans (o4.mono (by decide))))
    have m4 : MoA g4 t 0 := ⟨⟨x, M4, a0, a3, a5, a7, a8, a12⟩, ⟨N4, A4, LN4⟩, h3.ou O4 (by decide), h4.ou O4 (by decide), h5.ou O4 (by decide), ⟨S, Sa.ou O4' (by decide), hS⟩, ⟨R1, Ra3.ou o4 (by decide)⟩, ⟨T3, Ta3.ou o4 (by decide)⟩, h9.ou O4 (by decide), h10.ou O4 (by decide)⟩
    have kb : -1 ≤ (skN t.now).1 ∧ (skN t.now).1 ≤ 0 + (6003 : Nat) := skF_b 6003 [] 0 42 0 (by omega)
    have SE : f_X9_searches 95 g1 = some (ii (skN t.now).1, g3) := by
      unfold f_X9_searches
      rw [M1.r1, ob_some, (M1.nw A1).k0 LN.1, ob_some, M1.r13, ob_some, show sN 0 g1 102 0 41 = _ from e2, ob_some, il_1, ii_sub]
      exact e3
    have whole : ((gR hs 95 9 1).bind fun x2 => (aN 0 hs x2 0).bind fun x3 => if x3 = 0 then ((chk hs 95 9).bind fun u4 => (f_X9_raises 95 1 hs).bind fun q5 => some (q5.1, q5.2)) else ((gR hs 95 9 1).bind fun x6 => (aN 0 hs x6 2).bind fun x7 => if x7 = 1 then f_X9_search_b32 FUEL 95 0 hs else ((chk hs 95 9).bind fun u8 => (f_X9_raises 95 1 hs).bind fun q9 => some (q9.1, q9.2)))) = (if ii (skN t.now).1 = -1 then ((chk g4 95 9).bind fun _ => (f_X9_raises 95 2 g4).bind fun q5 => some (q5.1, q5.2)) else ((gR g4 95 9 1).bind fun x1 => (aN 0 g4 x1 0).bind fun x2 => (pI g4 95 9 12 x2).bind fun hs3 => f_X9_search_b116 FUEL 95 (ii (skN t.now).1) 0 hs3)) := by
      rw [nw.2.1, ob_some, nw.k0 n, ob_some, if_neg (by rw [il_0, ii_eq (by omega) (by omega) (by omega) (by omega)]; omega), ob_some, nw.k2 n, ob_some, if_pos (by rw [d]; rfl), show f_X9_search_b32 FUEL 95 0 hs = _ from e1, M1.chk, ob_some, SE, ob_some]
      exact e4
    rw [if_neg c, if_pos d, if_neg c, if_pos d]
    by_cases e : (skN t.now).1 = -1
    · obtain ⟨g5, e5, m5, o5⟩ := m4.fail 2
      rw [if_pos e, if_pos e]
      refine ⟨g5, ?_, m5, (O4.out (fun k hk => by simp at hk; omega)).trans o5⟩
      refine whole.trans ?_
      rw [if_pos (by rw [e]; rfl), m4.chk, ob_some]
      exact e5
    · obtain ⟨q3a, q3b⟩ := q3 e
      obtain ⟨g5, e5, M5, o5⟩ := M4.put (k := 12) (by decide) (t.now.gv.length : Int)
      obtain ⟨g6, S6, e6, M6, Sa6, s6, o6⟩ := X9_s116 (n := t.now.gv.length) gl (uz_eq _ _ _) (r := ii (skN t.now).1) t.now.gv.length FUEL 0 g5 S (by unfold FUEL; omega) (by omega) M5 ((Ta3.ou o4 (by decide)).ou o5 (by decide)) ((Sa.ou O4' (by decide)).ou o5 (by decide)) (fun j hj => by omega)
      rw [if_neg e, if_neg e]
      have O6 : Ou g4 g6 [95, 101] := (o5.mono (by decide)).trans (o6.mono (by decide))
      have O : Ou hs g6 [95, 96, 100, 101, 102] := O4.trans (O6.mono (by decide))
      refine ⟨g6, ?_, ⟨⟨_, M6, ?_, ?_, ?_, ?_, ?_, ?_⟩, ⟨N4, A4.ou O6 (by decide), LN4⟩, h3.ou O (by decide), h4.ou O (by decide), h5.ou O (by decide), ⟨S6, Sa6, fun j hj => ?_⟩, ⟨R1, (Ra3.ou o4 (by decide)).ou O6 (by decide)⟩, ⟨T3, (Ta3.ou o4 (by decide)).ou O6 (by decide)⟩, h9.ou O (by decide), h10.ou O (by decide)⟩, O.out (fun k hk => by simp at hk; omega)⟩
      · refine whole.trans ?_
        rw [if_neg (by rw [il_m1, ii_eq (by omega) (by omega) (by omega) (by omega)]; exact e), M4.r1, ob_some, (M4.nw A4).k0 LN4.1, ob_some, e5, ob_some]
        exact e6
      · rw [uz_ne (by decide)]; exact a0
      · rw [uz_ne (by decide)]; exact a3
      · rw [uz_ne (by decide)]; exact a5
      · rw [uz_ne (by decide)]; exact a7
      · rw [uz_ne (by decide)]; exact a8
      · rw [uz_eq]
        show (t.now.gv.length : Int) = ((skN t.now).2.length : Nat)
        rw [q3a]
      · have hj : j < (skN t.now).2.length := hj
        rw [s6 j (by omega)]
        exact q3b j (by omega)
  · rw [if_neg c, if_neg d, if_neg c, if_neg d, nw.2.1, ob_some, nw.k0 n, ob_some, if_neg (by rw [il_0, ii_eq (by omega) (by omega) (by omega) (by omega)]; omega), ob_some, nw.k2 n, ob_some, if_neg (by rw [il_1, ii_eq (by omega) (by omega) (by omega) (by omega)]; exact d), h.chk, ob_some]
    exact h.fail 1
end MSQ
