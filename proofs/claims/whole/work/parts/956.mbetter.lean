/-! ===== the reference's calls: better notes ===== -/
theorem Full.set {s : Sh} (k : Full s) {p : Nat} {v : Int} (hp : p < s.md.length) (hv : 42 ≤ v ∧ v ≤ 146) : Full (wm s (s.md.set p v)) := by
  refine ⟨wm_set_ok k.1 hv, k.2.1, ?_, fun j hj e => ?_⟩
  · rcases k.2.2.1 with z | z
    · omega
    · exact Or.inr ⟨z.1, by show ((s.md.set p v).length : Int) = _; rw [List.length_set]; exact z.2⟩
  · have hj : j < (s.md.set p v).length := hj
    rw [List.length_set] at hj
    have e : lg (s.md.set p v) j = -1 := e
    by_cases c : j = p
    · rw [c, lg_set hp] at e; omega
    · rw [lg_set_ne c] at e
      exact k.2.2.2 j hj e
section MBE
variable {t : St} {th : Int}
theorem MoA.costOf {hs : AH} (h : MoA hs t th) (k : Full t.now) {p v : Int} (p0 : 0 ≤ p) (p1 : p < t.now.md.length) (hv : 42 ≤ v ∧ v ≤ 146) : ∃ g, f_X9_costOf 95 (ii p) (ii v) hs = some (ii (costR t.now p v), g) ∧ MoA g t th ∧ Out hs g 95 10 := by
  have ml := k.1.ml
  have gl := k.1.gl
  obtain ⟨f, nw, n, h1⟩ := h.nw
  have hz : (35 + p).toNat = 35 + p.toNat := by omega
  have hp : p.toNat < t.now.md.length := by omega
  have k2 := k.set hp hv
  obtain ⟨g1, e1, m1, o1⟩ := h.put (z := 35 + p) (v := v) (by omega) (by omega) (fun f n => by rw [hz]; exact n.md gl hp v)
  have hm2 : ¬ (wm t.now (t.now.md.set p.toNat v)).md.length = 0 := by
    show ¬ (t.now.md.set p.toNat v).length = 0
    rw [List.length_set]; omega
  obtain ⟨g2, e2, m2, o2⟩ := m1.costNow k2 hm2
  obtain ⟨g3, e3, m3, o3⟩ := m2.put (z := 35 + p) (v := lat t.now.md p) (by omega) (by omega) (fun f n => by rw [hz]; exact n.md gl (p := p.toNat) (by show p.toNat < (t.now.md.set p.toNat v).length; rw [List.length_set]; exact hp) (lat t.now.md p))
  have es : wm (wm t.now (t.now.md.set p.toNat v)) ((t.now.md.set p.toNat v).set p.toNat (lat t.now.md p)) = t.now := by
    show (t.now.gv, (t.now.md.set p.toNat v).set p.toNat (lat t.now.md p), t.now.sp, t.now.bl, t.now.st, t.now.wt) = t.now
    rw [lat_in p0, set_set_back hp]
  have m3 : MoA g3 t th := by
    have e : ((wm (wm t.now (t.now.md.set p.toNat v)) ((t.now.md.set p.toNat v).set p.toNat (lat t.now.md p)), t.2) : St) = t := by rw [es]
    rw [← e]; exact m3
  have ec : sumP (costG (wm t.now (t.now.md.set p.toNat v))) (wm t.now (t.now.md.set p.toNat v)).md.length = costR t.now p v := by
    show sumP (costG (wm t.now (t.now.md.set p.toNat v))) (t.now.md.set p.toNat v).length = _
    rw [List.length_set]; rfl
  refine ⟨g3, ?_, m3, (o1.out (fun k hk => by simp at hk; omega)).trans ((o2.out (fun k hk => by simp at hk; omega)).trans (o3.out (fun k hk => by simp at hk; omega)))⟩
  unfold f_X9_costOf
  rw [h.chk, ob_some, X9_line nw n p0 p1 ml, ob_some, h.r1, ob_some, show (35 : Int32) = ii 35 from rfl, ii_add, e1, ob_some, m1.chk, ob_some, show f_X9_costNow 95 g1 = _ from e2, ob_some]
  dsimp only
  rw [m2.r1, ob_some, e3, ob_some]
  show some (ii (sumP (costG (wm t.now (t.now.md.set p.toNat v))) (wm t.now (t.now.md.set p.toNat v)).md.length), g3) = _
  rw [ec]
theorem X9_inRange {hs : AH} {f : Nat → Int} {s : Sh} (w : NW hs f) (n : NoA f s) (k : SOK s) {c : Int} (hc : 42 ≤ c ∧ c ≤ 146) : f_X9_isInRange 95 (ii c) hs = some (ii (allow s (pit c))) := by
  have s0 := k.stb 0
  have s1 := k.stb 1
  have pb := pit_bd hc
  unfold f_X9_isInRange
  rw [X9_pitchOf (by omega) (by omega), ob_some, w.2.1, ob_some, w.k4 n, ob_some, ob_some, w.k5 n, ob_some, X9_in (by omega) (by omega) (by omega) (by omega) (by omega) (by omega), ob_some, bool_nar _ (inI_b _ _ _)]
  rfl
theorem X9_bet_loop (k : Full t.now) {p : Int} (p0 : 0 ≤ p) (p1 : p < t.now.md.length) : ∀ (d m : Nat) (hs : AH) (c best least : Int), d < m → c + d = 147 → 42 ≤ c → (-1 ≤ best ∧ best ≤ 146) → (0 ≤ least ∧ least ≤ 100000) → MoA hs t 0 →
    ∃ hs', f_X9_better_b61 m 95 (ii p) (ii best) (ii least) (ii c) hs = some (ii (anR (if betF t.now p d c best least = -1 then .inr 4 else .inl (betF t.now p d c best least))), hs') ∧ MoA hs' t (cdR [2, 3, 4] (if betF t.now p d c best least = -1 then .inr 4 else .inl (betF t.now p d c best least))) ∧ Out hs hs' 95 10 := by
  intro d
  induction d with
  | zero =>
    intro m hs c best least hm hc c0 hb hl h
    obtain ⟨m, rfl⟩ : ∃ z, m = z + 1 := ⟨m - 1, by omega⟩
    rw [f_X9_better_b61.eq_2, if_pos (by rw [show (146 : Int32) = ii 146 from rfl, ii_lt (by omega) (by omega) (by omega) (by omega)]; omega)]
    show ∃ hs', _ = some (ii (anR (if best = -1 then .inr 4 else .inl best)), hs') ∧ MoA hs' t (cdR [2, 3, 4] (if best = -1 then .inr 4 else .inl best)) ∧ Out hs hs' 95 10
    by_cases e : best = -1
    · rw [if_pos (by rw [e]; rfl), if_pos e, h.chk, ob_some]
      exact h.fail 3
    · rw [if_neg (by rw [il_m1, ii_eq (by omega) (by omega) (by omega) (by omega)]; exact e), if_neg e]
      exact ⟨hs, rfl, h, Out.refl _ _ _⟩
  | succ d ih =>
    intro m hs c best least hm hc c0 hb hl h
    obtain ⟨m, rfl⟩ : ∃ z, m = z + 1 := ⟨m - 1, by omega⟩
    obtain ⟨f, nw, n, h1⟩ := h.nw
    have cc : 42 ≤ c ∧ c ≤ 146 := by omega
    have ab := allow_b t.now (pit c)
    have cb := costR_b k.1 (p := p) cc
    have e1 : ii c + 1 = ii (c + 1) := by rw [il_1, ii_add]
    rw [f_X9_better_b61.eq_2, if_neg (by rw [show (146 : Int32) = ii 146 from rfl, ii_lt (by omega) (by omega) (by omega) (by omega)]; omega), h.chk, ob_some, X9_inRange nw n k.1 cc, ob_some, e1]
    unfold betF
    by_cases e : allow t.now (pit c) = 0
    · rw [if_pos (by rw [e]; rfl), if_pos e]
      exact ih m hs (c + 1) best least (by omega) (by omega) (by omega) hb hl h
    · rw [if_neg (by rw [il_0, ii_eq (by omega) (by omega) (by omega) (by omega)]; exact e), if_neg e, ob_some]
      obtain ⟨g1, f1, q1, o1⟩ := h.costOf k p0 p1 cc
      rw [f1, ob_some]
      dsimp only
      by_cases g : best = -1
      · obtain ⟨g2, f2, q2, o2⟩ := ih m g1 (c + 1) c (costR t.now p c) (by omega) (by omega) (by omega) (by omega) cb q1
        rw [if_pos (by rw [g]; rfl), if_pos g]
        exact ⟨g2, f2, q2, o1.trans o2⟩
      · rw [if_neg (by rw [il_m1, ii_eq (by omega) (by omega) (by omega) (by omega)]; exact g), if_neg g]
        by_cases i : costR t.now p c < least
        · obtain ⟨g2, f2, q2, o2⟩ := ih m g1 (c + 1) c (costR t.now p c) (by omega) (by omega) (by omega) (by omega) cb q1
          rw [if_pos (by rw [ii_lt (by omega) (by omega) (by omega) (by omega)]; exact i), if_pos i]
          exact ⟨g2, f2, q2, o1.trans o2⟩
        · obtain ⟨g2, f2, q2, o2⟩ := ih m g1 (c + 1) best least (by omega) (by omega) (by omega) hb hl q1
          rw [if_neg (by rw [ii_lt (by omega) (by omega) (by omega) (by omega)]; exact i), if_neg i]
          exact ⟨g2, f2, q2, o1.trans o2⟩
theorem X9_better (k : Full t.now) {b c : Int} (b1 : -2147483648 ≤ b) (b2 : b ≤ 2147483647) (c1 : -2147483648 ≤ c) (c2 : c ≤ 2147483647) : M9 (f_X9_better 95 (ii b) (ii c)) [2, 3, 4] (opBetter t.now b c) t t := by
  refine M9.of (fun hs => rfl) (fun hs h => ?_)
  obtain ⟨f, nw, n, h1⟩ := h.nw
  have ml := k.1.ml
  have pb := plc_b k.1 b c
  unfold opBetter
  rw [h.chk, ob_some, X9_hasLine nw h1 ml, ob_some]
  by_cases e : t.now.md.length = 0
  · rw [if_pos e, if_pos e, if_pos (by rfl), ob_some]
    exact h.fail 1
  rw [if_neg e, if_neg e, if_neg (by decide +kernel), ob_some, X9_place nw n k.1 b1 b2 c1 c2, ob_some]
  by_cases i : plc t.now b c = -1
  · rw [if_pos (by rw [i]; rfl), if_pos i, ob_some]
    exact h.fail 2
  obtain ⟨p0, p1, -⟩ := plc_in k i e
  have mb := k.1.mdb (plc t.now b c)
  rw [if_neg (by rw [il_m1, ii_eq (by omega) (by omega) (by omega) (by omega)]; exact i), if_neg i, ob_some, X9_line nw n p0 p1 ml, ob_some]
  by_cases x : lat t.now.md (plc t.now b c) = -1
  · rw [if_pos (by rw [x]; rfl), if_pos x, ob_some]
    exact h.fail 3
  · rw [if_neg (by rw [il_m1, ii_eq (by omega) (by omega) (by omega) (by omega)]; exact x), if_neg x, il_m1, il_0, show (42 : Int32) = ii 42 from rfl]
    exact X9_bet_loop k p0 p1 105 FUEL hs 42 (-1) 0 (by unfold FUEL; omega) (by omega) (by omega) (by omega) (by omega) h
theorem X9_costWith (k : Full t.now) {b c v : Int} (b1 : -2147483648 ≤ b) (b2 : b ≤ 2147483647) (c1 : -2147483648 ≤ c) (c2 : c ≤ 2147483647) (v1 : -2147483648 ≤ v) (v2 : v ≤ 2147483647) : M9 (f_X9_costWith 95 (ii b) (ii c) (ii v)) [2, 3, 1, 4] (opCostWith t.now b c v) t t := by
  refine M9.of (fun hs => rfl) (fun hs h => ?_)
  obtain ⟨f, nw, n, h1⟩ := h.nw
  have ml := k.1.ml
  have pb := plc_b k.1 b c
  unfold opCostWith
  rw [h.chk, ob_some, X9_hasLine nw h1 ml, ob_some]
  by_cases e : t.now.md.length = 0
  · rw [if_pos e, if_pos e, if_pos (by rfl), ob_some]
    exact h.fail 1
  rw [if_neg e, if_neg e, if_neg (by decide +kernel), ob_some, X9_place nw n k.1 b1 b2 c1 c2, ob_some]
  by_cases i : plc t.now b c = -1
  · rw [if_pos (by rw [i]; rfl), if_pos i, ob_some]
    exact h.fail 2
  obtain ⟨p0, p1, -⟩ := plc_in k i e
  have mb := k.1.mdb (plc t.now b c)
  rw [if_neg (by rw [il_m1, ii_eq (by omega) (by omega) (by omega) (by omega)]; exact i), if_neg i, X9_isCode v1 v2, ob_some]
  by_cases g : 42 ≤ v ∧ v ≤ 146
  · rw [inI_1 g, if_neg (by decide +kernel), if_pos g, ob_some, X9_line nw n p0 p1 ml, ob_some]
    by_cases x : lat t.now.md (plc t.now b c) = -1
    · rw [if_pos (by rw [x]; rfl), if_pos x, ob_some]
      exact h.fail 4
    · obtain ⟨g1, f1, q1, o1⟩ := h.costOf k p0 p1 g
      rw [if_neg (by rw [il_m1, ii_eq (by omega) (by omega) (by omega) (by omega)]; exact x), if_neg x, ob_some, f1, ob_some]
      exact ⟨g1, rfl, q1, o1⟩
  · rw [inI_0 g, if_pos (by rfl), if_neg g, ob_some]
    exact h.fail 3
end MBE
