/-! ===== the face: search, costWith, better ===== -/
noncomputable def skN (s : Sh) : Int × List Int := skF s 6003 [] 0 42 0
noncomputable def opSearch (s : Sh) : Int ⊕ Nat := if s.gv.length = 0 then .inr 2 else if s.sp = 1 then (if (skN s).1 = -1 then .inr 6 else .inl (skN s).1) else .inr 2
noncomputable def skNew (t : St) : List Int := if t.now.gv.length = 0 then t.sug else if t.now.sp = 1 then (if (skN t.now).1 = -1 then t.sug else (skN t.now).2) else t.sug
theorem skF_b {s : Sh} : ∀ (f : Nat) (l : List Int) (bar nx tr : Int), 0 ≤ tr → -1 ≤ (skF s f l bar nx tr).1 ∧ (skF s f l bar nx tr).1 ≤ tr + f
  | 0, l, bar, nx, tr, h => by show -1 ≤ (-1 : Int) ∧ (-1 : Int) ≤ tr + ((0 : Nat) : Int); omega
  | f + 1, l, bar, nx, tr, h => by
    unfold skF
    have e1 := skF_b (s := s) f l (bar - 1) (lat l (bar - 1) + 1) tr h
    have e2 := skF_b (s := s) f (l.take bar.toNat ++ [candF s bar (147 - nx).toNat nx]) bar (candF s bar (147 - nx).toNat nx + 1) (tr + 1) (by omega)
    have e3 := skF_b (s := s) f (l.take bar.toNat ++ [candF s bar (147 - nx).toNat nx]) (bar + 1) 42 (tr + 1) (by omega)
    by_cases a : bar < 0
    · rw [if_pos a]; dsimp only; omega
    rw [if_neg a]
    by_cases a : 3000 ≤ tr
    · rw [if_pos a]; dsimp only; omega
    rw [if_neg a]
    by_cases a : candF s bar (147 - nx).toNat nx = -1
    · rw [if_pos a]; omega
    rw [if_neg a]
    by_cases a : fitI (wm s (l.take bar.toNat ++ [candF s bar (147 - nx).toNat nx])) bar = 0
    · rw [if_pos a]; omega
    rw [if_neg a]
    by_cases a : bar = (s.gv.length : Int) - 1
    · rw [if_pos a]; dsimp only; omega
    · rw [if_neg a]; omega
section FACEG
variable {hs : AH} {t : St}
theorem X8_search (h : CoA hs t) (k : Full t.now) : ∃ hs', f_X8_search 0 hs = some (cvR (opSearch t.now), hs') ∧ CoA hs' (t.1, t.2.1, t.2.2.1, t.2.2.2.1, t.2.2.2.2.1, t.2.2.2.2.2.1, skNew t) ∧ Out hs hs' 0 95 := by
  have spb := k.1.spb
  unfold f_X8_search opSearch skNew
  rw [h.chk, ob_some, X8_requireCantus h k.1]
  by_cases c : t.now.gv.length = 0
  · rw [if_pos c, if_pos c, if_pos c]
    exact ⟨hs, rfl, h, Out.refl _ _ _⟩
  rw [if_neg c, if_neg c, if_neg c, xb_l, h.r1, ob_some, h.sh.chk, ob_some, X6_species h.sh, ob_some]
  by_cases d : t.now.sp = 1
  · rw [if_pos (by rw [d]; rfl), if_pos d, if_pos d, h.r4, ob_some, ob_some]
    have hh := h
    obtain ⟨-, -, -, -, ⟨s0, x0, sp0, z, ks, c0, c1⟩, hg, -⟩ := h
    obtain ⟨g1, x1, sp1, e1, z1, o1, d0, d1, l1, v1⟩ := X5_seek z ks hh.sh k.1 (by omega) (by omega) c0 c1
    change f_X5_seek 68 2 hs = some (ii (skN t.now).1, g1) at e1
    change SeA g1 68 (wm t.now (skN t.now).2) x1 sp1 at z1
    change (skN t.now).2.length ≤ 13 at l1
    change ∀ y ∈ (skN t.now).2, 42 ≤ y ∧ y ≤ 146 at v1
    have kw : SOK (wm t.now (skN t.now).2) := wm_ok k.1 (by omega) (fun y hy => Or.inr (v1 y hy))
    have q1 := hh.setSeek z1 kw d0 d1 o1
    have kb : -1 ≤ (skN t.now).1 ∧ (skN t.now).1 ≤ 0 + (6003 : Nat) := skF_b 6003 [] 0 42 0 (by omega)
    rw [z.chk, ob_some, e1, ob_some]
    dsimp only
    by_cases e : (skN t.now).1 = -1
    · rw [if_pos (by rw [e]; rfl), if_pos e, if_pos e]
      exact ⟨g1, rfl, q1, o1.mono (by omega) (by omega)⟩
    · rw [if_neg (by rw [il_m1, ii_eq (by omega) (by omega) (by omega) (by omega)]; exact e), if_neg e, if_neg e]
      have hg1 : LnA g1 85 t.sug := q1.2.2.2.2.2.1
      have hl : LnA g1 73 (skN t.now).2 := z1.sq.2.2.1
      obtain ⟨g2, e2, m2, o2⟩ := X2_copyFrom (a := 85) (b := 73) (by omega) hg1 hl
      have q2 := q1.setSug m2 o2
      refine ⟨g2, ?_, q2, (o1.mono (by omega) (by omega)).trans (o2.mono (by omega) (by omega))⟩
      rw [q1.r5, ob_some, q1.r4, ob_some, z1.chk, ob_some, X5_line z1, ob_some, hg1.chk, ob_some, e2, ob_some]
      rfl
  · rw [if_neg (by rw [il_1, ii_eq (by omega) (by omega) (by omega) (by omega)]; exact d), if_neg d, if_neg d]
    exact ⟨hs, rfl, h, Out.refl _ _ _⟩
/-- the cost with another note -/
def costR (s : Sh) (p v : Int) : Int := sumP (costG (wm s (s.md.set p.toNat v))) s.md.length
theorem set_set_back {l : List Int} {j : Nat} {v : Int} (h : j < l.length) : (l.set j v).set j (lg l j) = l := by
  refine lg_ext (by simp) (fun i hi => ?_)
  by_cases e : i = j
  · subst e; rw [lg_set (by simp; omega)]
  · rw [lg_set_ne e, lg_set_ne e]
theorem mem_set_ok {l : List Int} {j : Nat} {v x : Int} (h : x ∈ l.set j v) : x ∈ l ∨ x = v := by
  rcases List.mem_or_eq_of_mem_set h with g | g
  · exact Or.inl g
  · exact Or.inr g
theorem wm_set_ok {s : Sh} (k : SOK s) {j : Nat} {v : Int} (hv : 42 ≤ v ∧ v ≤ 146) : SOK (wm s (s.md.set j v)) :=
  wm_ok k (by have := k.ml; simp; omega) (fun y hy => by
    rcases mem_set_ok hy with g | g
    · exact k.2.2.2.2.2.2.2.2.2.2.1 y g
    · right; omega)
theorem X8_costIf (h : CoA hs t) (k : SOK t.now) {p v : Int} (p0 : 0 ≤ p) (p1 : p < t.now.md.length) (hv : 42 ≤ v ∧ v ≤ 146) : ∃ hs', f_X8_costIfReplaced 0 (ii p) (ii v) hs = some (ii (costR t.now p v), hs') ∧ CoA hs' t ∧ Out hs hs' 0 95 := by
  have ml := k.ml
  unfold f_X8_costIfReplaced
  obtain ⟨g1, e1, m1, o1⟩ := X2_put (a := 5) (z := p) (v := v) h.sh.2.2.1 (by omega) (by omega)
  rw [if_pos p0] at m1
  have S1 : ShA g1 2 (wm t.now (t.now.md.set p.toNat v)) := shgm h.sh (h.sh.2.1.out o1 (by omega)) m1 (o1.mono (by omega) (by omega))
  have q1 := h.setS S1 (o1.mono (by omega) (by omega))
  have kw := wm_set_ok k (j := p.toNat) hv
  have r0 := q1.r0
  obtain ⟨x, sp, j⟩ := q1.2.1
  obtain ⟨g2, x2, sp2, e2, j2, o2⟩ := X1_wholeCost kw j
  have q2 := q1.setJ j2 o2
  obtain ⟨g3, e3, m3, o3⟩ := X2_put (a := 5) (z := p) (v := lat t.now.md p) q2.sh.2.2.1 (by omega) (by omega)
  rw [if_pos p0, lat_in p0] at m3
  have em : (t.now.md.set p.toNat v).set p.toNat (lg t.now.md p.toNat) = t.now.md := set_set_back (by omega)
  change LnA g3 5 ((t.now.md.set p.toNat v).set p.toNat (lg t.now.md p.toNat)) at m3
  rw [em] at m3
  have S3 : ShA g3 2 (wm (wm t.now (t.now.md.set p.toNat v)) t.now.md) := shgm q2.sh (q2.sh.2.1.out o3 (by omega)) m3 (o3.mono (by omega) (by omega))
  have q3 := q2.setS S3 (o3.mono (by omega) (by omega))
  refine ⟨g3, ?_, q3, (o1.mono (by omega) (by omega)).trans ((o2.mono (by omega) (by omega)).trans (o3.mono (by omega) (by omega)))⟩
  have ec : sumP (costG (wm t.now (t.now.md.set p.toNat v))) (wm t.now (t.now.md.set p.toNat v)).md.length = costR t.now p v := by
    show sumP (costG (wm t.now (t.now.md.set p.toNat v))) (t.now.md.set p.toNat v).length = _
    rw [List.length_set]; rfl
  rw [ec] at e2
  rw [h.r1, ob_some, h.sh.m, ob_some, h.sh.2.2.1.chk, ob_some, e1, ob_some]
  dsimp only
  rw [r0, ob_some, j.chk, ob_some, e2, ob_some]
  dsimp only
  rw [q2.r1, ob_some, q2.sh.m, ob_some, q2.sh.2.2.1.chk, ob_some, e3, ob_some]
def opCostWith (s : Sh) (b c v : Int) : Int ⊕ Nat := if s.md.length = 0 then .inr 2 else if plc s b c = -1 then .inr 3 else if 42 ≤ v ∧ v ≤ 146 then (if lat s.md (plc s b c) = -1 then .inr 4 else .inl (costR s (plc s b c) v)) else .inr 1
theorem lat_lt {l : List Int} {z : Int} (h : ¬ lat l z = -1) : 0 ≤ z ∧ z < l.length := by
  constructor
  · by_cases c : z < 0
    · exact absurd (lat_neg c) h
    · omega
  · by_cases c : (l.length : Int) ≤ z
    · exact absurd (lat_out c) h
    · omega
theorem X8_costWith (h : CoA hs t) (k : Full t.now) {b c v : Int} (b1 : -2147483648 ≤ b) (b2 : b ≤ 2147483647) (c1 : -2147483648 ≤ c) (c2 : c ≤ 2147483647) (v1 : -2147483648 ≤ v) (v2 : v ≤ 2147483647) : ∃ hs', f_X8_costWith 0 (ii b) (ii c) (ii v) hs = some (cvR (opCostWith t.now b c v), hs') ∧ CoA hs' t ∧ Out hs hs' 0 95 := by
  have pb := plc_b k.1 b c
  unfold f_X8_costWith opCostWith
  rw [h.chk, ob_some, X8_requirePlace h k.1 b1 b2 c1 c2]
  by_cases e : t.now.md.length = 0
  · rw [if_pos e, if_pos e]
    exact ⟨hs, rfl, h, Out.refl _ _ _⟩
  rw [if_neg e, if_neg e]
  by_cases f : plc t.now b c = -1
  · rw [if_pos f, if_pos f]
    exact ⟨hs, rfl, h, Out.refl _ _ _⟩
  rw [if_neg f, if_neg f, xb_l, h.chk, ob_some, X8_requireCode v1 v2]
  by_cases g : 42 ≤ v ∧ v ≤ 146
  · rw [if_pos g, if_pos g, xb_l, h.chk, ob_some, X8_requireNote h k.1 (by omega) (by omega)]
    by_cases i : lat t.now.md (plc t.now b c) = -1
    · rw [if_pos i, if_pos i]
      exact ⟨hs, rfl, h, Out.refl _ _ _⟩
    · obtain ⟨i1, i2⟩ := lat_lt i
      obtain ⟨g1, e1, q1, o1⟩ := X8_costIf h k.1 i1 i2 g
      rw [if_neg i, if_neg i, xb_l, h.chk, ob_some, e1, ob_some]
      exact ⟨g1, rfl, q1, o1⟩
  · rw [if_neg g, if_neg g]
    exact ⟨hs, rfl, h, Out.refl _ _ _⟩
/-- the best note from c on, with the best so far and its cost -/
def betF (s : Sh) (p : Int) : Nat → Int → Int → Int → Int
  | 0, _, best, _ => best
  | d + 1, c, best, least => if allow s (pit c) = 0 then betF s p d (c + 1) best least else if best = -1 then betF s p d (c + 1) c (costR s p c) else if costR s p c < least then betF s p d (c + 1) c (costR s p c) else betF s p d (c + 1) best least
theorem costR_b {s : Sh} (k : SOK s) {p v : Int} (hv : 42 ≤ v ∧ v ≤ 146) : 0 ≤ costR s p v ∧ costR s p v ≤ 100000 := by
  have h := sumP_b (fun p' r => costG_b (wm_set_ok k (j := p.toNat) hv) p' r) s.md.length
  have ml := k.ml
  unfold costR
  omega
theorem X8_bet_loop (k : SOK t.now) {p : Int} (p0 : 0 ≤ p) (p1 : p < t.now.md.length) : ∀ (d n : Nat) (hs : AH) (c best least : Int), d < n → c + d = 147 → 42 ≤ c → (-1 ≤ best ∧ best ≤ 146) → (0 ≤ least ∧ least ≤ 100000) → CoA hs t →
    ∃ hs', f_X8_better_b22 n 0 (ii p) (ii best) (ii least) (ii c) hs = some (cvR (if betF t.now p d c best least = -1 then .inr 4 else .inl (betF t.now p d c best least)), hs') ∧ CoA hs' t ∧ Out hs hs' 0 95 := by
  intro d
  induction d with
  | zero =>
    intro n hs c best least hn hc c0 hb hl h
    obtain ⟨n, rfl⟩ : ∃ z, n = z + 1 := ⟨n - 1, by omega⟩
    refine ⟨hs, ?_, h, Out.refl _ _ _⟩
    rw [f_X8_better_b22.eq_2, if_pos (by rw [show (146 : Int32) = ii 146 from rfl, ii_lt (by omega) (by omega) (by omega) (by omega)]; omega)]
    show _ = some (cvR (if best = -1 then .inr 4 else .inl best), hs)
    by_cases e : best = -1
    · rw [if_pos (by rw [e]; rfl), if_pos e]; rfl
    · rw [if_neg (by rw [il_m1, ii_eq (by omega) (by omega) (by omega) (by omega)]; exact e), if_neg e]; rfl
  | succ d ih =>
    intro n hs c best least hn hc c0 hb hl h
    obtain ⟨n, rfl⟩ : ∃ z, n = z + 1 := ⟨n - 1, by omega⟩
    have cc : 42 ≤ c ∧ c ≤ 146 := by omega
    have pp := pit_bd cc
    have ab := allow_b t.now (pit c)
    have cb := costR_b k (p := p) cc
    rw [f_X8_better_b22.eq_2, if_neg (by rw [show (146 : Int32) = ii 146 from rfl, ii_lt (by omega) (by omega) (by omega) (by omega)]; omega), h.r1, ob_some, X8_pitchOf (by omega) (by omega), ob_some, h.sh.chk, ob_some, X6_allow h.sh k (by omega) (by omega), ob_some]
    unfold betF
    rw [il_m1, il_1, ii_add]
    by_cases e : allow t.now (pit c) = 0
    · rw [if_pos (by rw [e]; rfl), if_pos e]
      exact ih n hs (c + 1) best least (by omega) (by omega) (by omega) hb hl h
    · rw [if_neg (by rw [il_0, ii_eq (by omega) (by omega) (by omega) (by omega)]; exact e), if_neg e, h.chk, ob_some]
      obtain ⟨g1, e1, q1, o1⟩ := X8_costIf h k p0 p1 cc
      rw [e1, ob_some]
      dsimp only
      by_cases f : best = -1
      · obtain ⟨g2, e2, q2, o2⟩ := ih n g1 (c + 1) c (costR t.now p c) (by omega) (by omega) (by omega) (by omega) cb q1
        rw [if_pos (by rw [f]), if_pos f]
        exact ⟨g2, e2, q2, o1.trans o2⟩
      · rw [if_neg (by rw [ii_eq (by omega) (by omega) (by omega) (by omega)]; exact f), if_neg f]
        by_cases g : costR t.now p c < least
        · obtain ⟨g2, e2, q2, o2⟩ := ih n g1 (c + 1) c (costR t.now p c) (by omega) (by omega) (by omega) (by omega) cb q1
          rw [if_neg (by rw [ii_le (by omega) (by omega) (by omega) (by omega)]; omega), if_pos g]
          exact ⟨g2, e2, q2, o1.trans o2⟩
        · obtain ⟨g2, e2, q2, o2⟩ := ih n g1 (c + 1) best least (by omega) (by omega) (by omega) hb hl q1
          rw [if_pos (by rw [ii_le (by omega) (by omega) (by omega) (by omega)]; omega), if_neg g]
          exact ⟨g2, e2, q2, o1.trans o2⟩
def opBetter (s : Sh) (b c : Int) : Int ⊕ Nat := if s.md.length = 0 then .inr 2 else if plc s b c = -1 then .inr 3 else if lat s.md (plc s b c) = -1 then .inr 4 else if betF s (plc s b c) 105 42 (-1) 0 = -1 then .inr 4 else .inl (betF s (plc s b c) 105 42 (-1) 0)
theorem X8_better (h : CoA hs t) (k : Full t.now) {b c : Int} (b1 : -2147483648 ≤ b) (b2 : b ≤ 2147483647) (c1 : -2147483648 ≤ c) (c2 : c ≤ 2147483647) : ∃ hs', f_X8_better 0 (ii b) (ii c) hs = some (cvR (opBetter t.now b c), hs') ∧ CoA hs' t ∧ Out hs hs' 0 95 := by
  have pb := plc_b k.1 b c
  unfold f_X8_better opBetter
  rw [h.chk, ob_some, X8_requirePlace h k.1 b1 b2 c1 c2]
  by_cases e : t.now.md.length = 0
  · rw [if_pos e, if_pos e]
    exact ⟨hs, rfl, h, Out.refl _ _ _⟩
  rw [if_neg e, if_neg e]
  by_cases f : plc t.now b c = -1
  · rw [if_pos f, if_pos f]
    exact ⟨hs, rfl, h, Out.refl _ _ _⟩
  rw [if_neg f, if_neg f, xb_l, h.chk, ob_some, X8_requireNote h k.1 (by omega) (by omega)]
  by_cases i : lat t.now.md (plc t.now b c) = -1
  · rw [if_pos i, if_pos i]
    exact ⟨hs, rfl, h, Out.refl _ _ _⟩
  · obtain ⟨i1, i2⟩ := lat_lt i
    rw [if_neg i, if_neg i, xb_l, il_m1, il_0, show (42 : Int32) = ii 42 from rfl]
    exact X8_bet_loop k.1 i1 i2 105 FUEL hs 42 (-1) 0 (by unfold FUEL; omega) (by omega) (by omega) (by omega) (by omega) h
end FACEG
