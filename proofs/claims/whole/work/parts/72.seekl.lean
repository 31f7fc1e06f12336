/-! ===== the seeker's loop ===== -/
noncomputable def fitI (s : Sh) (bar : Int) : Int := @ite Int (fitP s bar) (Classical.propDecidable _) 1 0
theorem fitI_1 {s : Sh} {bar : Int} (h : fitP s bar) : fitI s bar = 1 := if_pos h
theorem fitI_0 {s : Sh} {bar : Int} (h : ¬ fitP s bar) : fitI s bar = 0 := if_neg h
theorem candF_wm {s : Sh} {l : List Int} {bar : Int} : ∀ (d : Nat) (c : Int), candF (wm s l) bar d c = candF s bar d c
  | 0, c => rfl
  | d + 1, c => by
    show (if candS s bar c = 1 then c else candF (wm s l) bar d (c + 1)) = (if candS s bar c = 1 then c else candF s bar d (c + 1))
    rw [candF_wm d (c + 1)]
theorem candF_in {s : Sh} {bar : Int} : ∀ (d : Nat) (c : Int), candF s bar d c = -1 ∨ (c ≤ candF s bar d c ∧ candF s bar d c < c + d ∧ candS s bar (candF s bar d c) = 1)
  | 0, c => Or.inl rfl
  | d + 1, c => by
    have h := candF_in (s := s) (bar := bar) d (c + 1)
    have e : candF s bar (d + 1) c = if candS s bar c = 1 then c else candF s bar d (c + 1) := rfl
    rw [e]
    by_cases z : candS s bar c = 1
    · rw [if_pos z]; exact Or.inr ⟨by omega, by omega, z⟩
    · rw [if_neg z]
      rcases h with h | ⟨h1, h2, h3⟩
      · exact Or.inl h
      · exact Or.inr ⟨by omega, by omega, h3⟩
/-- the search from a made line, a bar, the next code and the number of trials on -/
noncomputable def skF (s : Sh) : Nat → List Int → Int → Int → Int → Int × List Int
  | 0, l, _, _, _ => (-1, l)
  | f + 1, l, bar, nx, tr => if bar < 0 then (-1, l) else if 3000 ≤ tr then (-1, l) else if candF s bar (147 - nx).toNat nx = -1 then skF s f l (bar - 1) (lat l (bar - 1) + 1) tr else
    if fitI (wm s (l.take bar.toNat ++ [candF s bar (147 - nx).toNat nx])) bar = 0 then skF s f (l.take bar.toNat ++ [candF s bar (147 - nx).toNat nx]) bar (candF s bar (147 - nx).toNat nx + 1) (tr + 1) else
    if bar = (s.gv.length : Int) - 1 then (tr + 1, l.take bar.toNat ++ [candF s bar (147 - nx).toNat nx]) else skF s f (l.take bar.toNat ++ [candF s bar (147 - nx).toNat nx]) (bar + 1) 42 (tr + 1)
section SEEKL
variable {a : Nat} {s : Sh}
theorem X5_seek_loop (k : SOK s) (hg : 1 ≤ s.gv.length) : ∀ (f n : Nat) (hs : AH) (x : Nat → Int) (sp : Nat → Spn) (l : List Int) (bar nx tr turn : Int), (f : Int) + turn = 6003 → f ≤ n → -1 ≤ bar → bar < s.gv.length → bar ≤ l.length → l.length ≤ 13 → (∀ y ∈ l, 42 ≤ y ∧ y ≤ 146) → (0 ≤ bar → 42 ≤ nx ∧ nx ≤ 147) → (0 ≤ tr ∧ tr ≤ 3000) → 0 ≤ turn → turn + bar ≤ 2 * tr →
    (-1 ≤ x 15 ∧ x 15 ≤ 60) → (0 ≤ x 16 ∧ x 16 ≤ 60) → SeA hs a (wm s l) x sp → (-10 ≤ nx ∧ nx ≤ 1000) →
    ∃ hs' x' sp', f_X5_seek_b29 n a (ii bar) (ii nx) (ii tr) (ii turn) hs = some (ii (skF s f l bar nx tr).1, hs') ∧ SeA hs' a (wm s (skF s f l bar nx tr).2) x' sp' ∧ Out hs hs' a 17 ∧ (-1 ≤ x' 15 ∧ x' 15 ≤ 60) ∧ (0 ≤ x' 16 ∧ x' 16 ≤ 60) ∧ (skF s f l bar nx tr).2.length ≤ 13 ∧ ∀ y ∈ (skF s f l bar nx tr).2, 42 ≤ y ∧ y ≤ 146 := by
  have gl := k.gl
  intro f
  induction f with
  | zero => intro n hs x sp l bar nx tr turn hf hn b1 b2 b3 l1 l2 nb tb t0 tt; omega
  | succ f ih =>
    intro n hs x sp l bar nx tr turn hf hn b1 b2 b3 l1 l2 nb tb t0 tt c0 c1 h nw
    obtain ⟨n, rfl⟩ : ∃ z, n = z + 1 := ⟨n - 1, by omega⟩
    have kl : SOK (wm s l) := wm_ok k (by omega) (fun y hy => Or.inr (l2 y hy))
    have es : skF s (f + 1) l bar nx tr = if bar < 0 then (-1, l) else if 3000 ≤ tr then (-1, l) else if candF s bar (147 - nx).toNat nx = -1 then skF s f l (bar - 1) (lat l (bar - 1) + 1) tr else
      if fitI (wm s (l.take bar.toNat ++ [candF s bar (147 - nx).toNat nx])) bar = 0 then skF s f (l.take bar.toNat ++ [candF s bar (147 - nx).toNat nx]) bar (candF s bar (147 - nx).toNat nx + 1) (tr + 1) else
      if bar = (s.gv.length : Int) - 1 then (tr + 1, l.take bar.toNat ++ [candF s bar (147 - nx).toNat nx]) else skF s f (l.take bar.toNat ++ [candF s bar (147 - nx).toNat nx]) (bar + 1) 42 (tr + 1) := rfl
    rw [es]
    by_cases hb : bar < 0
    · simp only [if_pos hb]
      refine ⟨hs, x, sp, ?_, h, Out.refl _ _ _, c0, c1, l1, l2⟩
      unfold f_X5_seek_b29
      by_cases z : 6000 < turn
      · rw [if_pos (by rw [il_6000, ii_lt (by omega) (by omega) (by omega) (by omega)]; exact z)]
        rfl
      · rw [if_neg (by rw [il_6000, ii_lt (by omega) (by omega) (by omega) (by omega)]; exact z), if_pos (by rw [il_0, ii_lt (by omega) (by omega) (by omega) (by omega)]; exact hb)]
        rfl
    · simp only [if_neg hb]
      by_cases ht : 3000 ≤ tr
      · simp only [if_pos ht]
        refine ⟨hs, x, sp, ?_, h, Out.refl _ _ _, c0, c1, l1, l2⟩
        unfold f_X5_seek_b29
        rw [if_neg (by rw [il_6000, ii_lt (by omega) (by omega) (by omega) (by omega)]; omega), if_neg (by rw [il_0, ii_lt (by omega) (by omega) (by omega) (by omega)]; exact hb), if_pos (by rw [il_3000, ii_le (by omega) (by omega) (by omega) (by omega)]; exact ht)]
        rfl
      · simp only [if_neg ht]
        obtain ⟨n1, n2⟩ := nb (by omega)
        have cb := candF_in (s := s) (bar := bar) (147 - nx).toNat nx
        have ec := X5_candidateFrom kl (bar := bar) (c := nx) (by omega) h (by omega) (by omega)
        rw [candF_wm] at ec
        generalize candF s bar (147 - nx).toNat nx = c at cb ec
        unfold f_X5_seek_b29
        rw [if_neg (by rw [il_6000, ii_lt (by omega) (by omega) (by omega) (by omega)]; omega), if_neg (by rw [il_0, ii_lt (by omega) (by omega) (by omega) (by omega)]; exact hb), if_neg (by rw [il_3000, ii_le (by omega) (by omega) (by omega) (by omega)]; exact ht), h.chk, ob_some, ec, ob_some]
        by_cases hc : c = -1
        · simp only [if_pos hc]
          have lb : lat l (bar - 1) = -1 ∨ (42 ≤ lat l (bar - 1) ∧ lat l (bar - 1) ≤ 146) := kl.mdb (bar - 1)
          have lb2 : 0 ≤ bar - 1 → 42 ≤ lat l (bar - 1) ∧ lat l (bar - 1) ≤ 146 := fun z => by
            rw [lat_in z]; exact l2 _ (lg_mem (by omega))
          obtain ⟨h1, x1, sp1, e1, q1, o1, r⟩ := ih n hs x sp l (bar - 1) (lat l (bar - 1) + 1) tr (turn + 1) (by omega) (by omega) (by omega) (by omega) (by omega) l1 l2 (fun z => by have := lb2 z; omega) tb (by omega) (by omega) c0 c1 h (by omega)
          refine ⟨h1, x1, sp1, ?_, q1, o1, r⟩
          rw [if_pos (by rw [hc]; rfl), h.sh, ob_some, h.sq.m, ob_some, h.sq.2.2.1.chk, ob_some, show Int32.ofInt (-1) = ii (-1) from rfl, ii_add, show bar + -1 = bar - 1 by omega, X2_at h.sq.2.2.1 (by omega) (by omega), ob_some, il_1, ii_add, ii_add]
          exact e1
        · simp only [if_neg hc]
          have c42 : 42 ≤ c ∧ c ≤ 146 := by omega
          obtain ⟨bn, rfl⟩ : ∃ z : Nat, bar = z := ⟨bar.toNat, by omega⟩
          obtain ⟨h1, x1, sp1, q1, o1, d0, d1, r⟩ := X5_fits kl h (bar := bn) (c := c) (by show bn ≤ l.length; omega) (by omega) c42 c0 c1
          rw [Int.toNat_natCast]
          have ew : wm (wm s l) ((wm s l).md.take bn ++ [c]) = wm s (l.take bn ++ [c]) := rfl
          rw [ew] at q1 r
          have ll : (l.take bn ++ [c]).length = bn + 1 := by simp; omega
          have lv : ∀ y ∈ l.take bn ++ [c], 42 ≤ y ∧ y ≤ 146 := fun y hy => by
            rcases List.mem_append.mp hy with z | z
            · exact l2 y (List.mem_of_mem_take z)
            · simp at z; omega
          rw [if_neg (by rw [il_m1, ii_eq (by omega) (by omega) (by omega) (by omega)]; exact hc)]
          rcases r with ⟨e1, p1⟩ | ⟨e1, p1⟩
          · simp only [fitI_1 p1]
            rw [if_neg (by decide), ob_some, e1, ob_some]
            dsimp only
            rw [if_neg (show ¬ ii 1 = 0 by decide +kernel), q1.sh, ob_some, q1.sq.g, ob_some, q1.sq.2.1.chk, ob_some, X2_size q1.sq.2.1, ob_some, il_1, ii_sub, ii_add, ii_add, ii_add]
            have gl2 : (wm s (l.take bn ++ [c])).gv.length = s.gv.length := rfl
            rw [gl2]
            by_cases e : (bn : Int) = (s.gv.length : Int) - 1
            · rw [if_pos e, if_pos (by rw [e])]
              exact ⟨h1, x1, sp1, rfl, q1, o1, d0, d1, by dsimp only; omega, lv⟩
            · rw [if_neg e, if_neg (by rw [ii_eq (by omega) (by omega) (by omega) (by omega)]; exact e)]
              obtain ⟨h2, x2, sp2, e2, q2, o2, r⟩ := ih n h1 x1 sp1 (l.take bn ++ [c]) ((bn : Int) + 1) 42 (tr + 1) (turn + 1) (by omega) (by omega) (by omega) (by omega) (by omega) (by omega) lv (fun z => by omega) (by omega) (by omega) (by omega) d0 d1 q1 (by omega)
              exact ⟨h2, x2, sp2, e2, q2, o1.trans o2, r⟩
          · simp only [fitI_0 p1, if_true]
            rw [ob_some, e1, ob_some]
            dsimp only
            rw [if_pos (show ii 0 = 0 from rfl), il_1, ii_add, ii_add, ii_add]
            obtain ⟨h2, x2, sp2, e2, q2, o2, r⟩ := ih n h1 x1 sp1 (l.take bn ++ [c]) (bn : Int) (c + 1) (tr + 1) (turn + 1) (by omega) (by omega) (by omega) (by omega) (by omega) (by omega) lv (fun z => by omega) (by omega) (by omega) (by omega) d0 d1 q1 (by omega)
            exact ⟨h2, x2, sp2, e2, q2, o1.trans o2, r⟩
end SEEKL
