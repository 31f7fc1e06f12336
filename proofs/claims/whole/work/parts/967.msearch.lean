/-! ===== the reference's calls: search ===== -/
theorem NoA.pre {f : Nat → Int} {s : Sh} {l l' : List Int} (n : NoA f (wm s l)) (hl : l'.length ≤ l.length) (h : ∀ j, j < l'.length → lg l' j = lg l j) : NoA f (wm s l') := by
  obtain ⟨n0, n2, n3, n4, n5, n6, n7⟩ := n
  refine ⟨n0, n2, n3, n4, n5, n6, fun j hj => ?_⟩
  have hj : j < l'.length := hj
  show f (35 + j) = lg l' j
  rw [h j hj]
  exact n7 j (by show j < l.length; omega)
theorem NoA.app1 {f : Nat → Int} {s : Sh} {l : List Int} {c : Int} (n : NoA f (wm s l)) (gl : s.gv.length ≤ 12) : NoA (updZ f (35 + l.length) c) (wm s (l ++ [c])) := by
  obtain ⟨n0, n2, n3, n4, n5, n6, n7⟩ := n
  refine ⟨?_, ?_, ?_, fun j hj => ?_, fun r r1 r2 => ?_, fun j hj => ?_, fun j hj => ?_⟩
  · rw [updZ_ne (by omega)]; exact n0
  · rw [updZ_ne (by omega)]; exact n2
  · rw [updZ_ne (by omega)]; exact n3
  · rw [updZ_ne (by omega)]; exact n4 j hj
  · rw [updZ_ne (by omega)]; exact n5 r r1 r2
  · have hj : j < s.gv.length := hj
    rw [updZ_ne (by omega)]; exact n6 j hj
  · have hj : j < (l ++ [c]).length := hj
    show updZ f (35 + l.length) c (35 + j) = lg (l ++ [c]) j
    by_cases e : j = l.length
    · rw [e, updZ_eq, lg_push]
    · have : j < l.length := by rw [List.length_append] at hj; simp at hj; omega
      rw [updZ_ne (by omega), lg_push_lt this]
      exact n7 j this
theorem z01 {z : Int} (h : 0 ≤ z ∧ z ≤ 1) (c : ¬ z = 1) : z = 0 := by omega
section MSR
variable {s : Sh}
theorem X9_isCand {hs : AH} {f : Nat → Int} {l : List Int} (w : NW hs f) (n : NoA f (wm s l)) (k : SOK (wm s l)) {c : Int} (hc : 42 ≤ c ∧ c ≤ 146) {bar : Int} (b0 : -1 ≤ bar) (b1 : bar ≤ 20) : f_X9_isCandidate 95 (ii c) (ii bar) hs = some (ii (candS s bar c)) := by
  have gl : s.gv.length ≤ 12 := k.gl
  have ab := allow_b s (pit c)
  have IR : f_X9_isInRange 95 (ii c) hs = some (ii (allow s (pit c))) := X9_inRange w n k hc
  unfold f_X9_isCandidate candS
  rw [X9_alt (by omega) (by omega), ob_some, w.1, ob_some, IR, ob_some]
  by_cases a : allow s (pit c) = 0
  · rw [if_pos (by rw [a]; rfl), a]
    by_cases x : c % 3 - 1 = 0
    · rw [if_pos x]; rfl
    · rw [if_neg x]
      by_cases y : c % 3 - 1 = 1
      · rw [if_pos y]
        by_cases z : bar = (s.gv.length : Int) - 2
        · rw [if_pos z]; rfl
        · rw [if_neg z]; rfl
      · rw [if_neg y]; rfl
  · have a1 : allow s (pit c) = 1 := by omega
    rw [if_neg (by rw [il_0, ii_eq (by omega) (by omega) (by omega) (by omega)]; exact a), a1]
    by_cases x : c % 3 - 1 = 0
    · rw [if_pos (by rw [x]; rfl), if_pos x]; rfl
    · rw [if_neg (by rw [il_0, ii_eq (by omega) (by omega) (by omega) (by omega)]; exact x), if_neg x]
      by_cases y : c % 3 - 1 = 1
      · have k0' := w.k0 n
        have k0 : aN 0 hs 96 0 = some (ii s.gv.length) := k0'
        rw [if_pos (by rw [y]; rfl), if_pos y, w.2.1, ob_some, k0, ob_some]
        by_cases z : bar = (s.gv.length : Int) - 2
        · rw [if_pos (by rw [il_2, ii_sub, z]), if_pos z]; rfl
        · rw [if_neg (by rw [il_2, ii_sub, ii_eq (by omega) (by omega) (by omega) (by omega)]; exact z), if_neg z]; rfl
      · rw [if_neg (by rw [il_1, ii_eq (by omega) (by omega) (by omega) (by omega)]; exact y), if_neg y]; rfl
/-- the state of the search: its array of what was tried, what is now -/
def Sr (hs : AH) (x T N : Nat → Int) : Prop := MO hs x ∧ RA hs 102 12 T ∧ RA hs 96 80 N
theorem X9_scan {l : List Int} (k : SOK (wm s l)) {bar : Nat} (hb : bar < 12) {L tr : Int32} : ∀ (d m : Nat) (nx : Int) (hs : AH) (x T N : Nat → Int), d < m → nx + d = 147 → 42 ≤ nx → Sr hs x T N → NoA N (wm s l) → T bar = nx - 1 →
    (candF s bar d nx = -1 → ∃ hs' T' m', m ≤ m' + d + 1 ∧ f_X9_searches_b21 m 95 L (ii bar) tr hs = f_X9_searches_b21 m' 95 L (ii ((bar : Int) - 1)) tr hs' ∧ Sr hs' x T' N ∧ (∀ j, j ≠ bar → T' j = T j) ∧ Ou hs hs' [102]) ∧
    (candF s bar d nx ≠ -1 → ∃ hs' T' m', m ≤ m' + d ∧ 1 ≤ m' ∧ f_X9_searches_b21 m 95 L (ii bar) tr hs = f_X9_searches_b21 m' 95 L (ii bar) tr hs' ∧ Sr hs' x T' N ∧ T' bar = candF s bar d nx - 1 ∧ (∀ j, j ≠ bar → T' j = T j) ∧ Ou hs hs' [102]) := by
  intro d
  induction d with
  | zero =>
    intro m nx hs x T N hm hn n0 S n hT
    obtain ⟨m, rfl⟩ : ∃ z, m = z + 1 := ⟨m - 1, by omega⟩
    refine ⟨fun _ => ?_, fun h => absurd rfl h⟩
    obtain ⟨M, B, A⟩ := S
    obtain ⟨g, e, B1, o⟩ := B.put (z := (bar : Int)) nx (by omega) (by omega) (by omega)
    have M1 := M.ou o.ou (by decide)
    rw [Int.toNat_natCast] at B1
    refine ⟨g, _, m, by omega, ?_, ⟨M1, B1, A.ou o.ou (by decide)⟩, fun j hj => updZ_ne hj, o.ou⟩
    rw [f_X9_searches_b21.eq_2, if_neg (by rw [il_0, ii_lt (by omega) (by omega) (by omega) (by omega)]; omega), M.r13, ob_some, B.get (by omega) (by omega) (by omega), ob_some, Int.toNat_natCast, hT, il_1, ii_add, show nx - 1 + 1 = nx from by omega, e, ob_some, M1.r13, ob_some, B1.get (by omega) (by omega) (by omega), ob_some, Int.toNat_natCast, updZ_eq, if_neg (by rw [show (146 : Int32) = ii 146 from rfl, ii_le (by omega) (by omega) (by omega) (by omega)]; omega), show Int32.ofInt (-1) = ii (-1) from rfl, ii_add]
    rfl
  | succ d ih =>
    intro m nx hs x T N hm hn n0 S n hT
    obtain ⟨m, rfl⟩ : ∃ z, m = z + 1 := ⟨m - 1, by omega⟩
    have cb := candS_b s bar nx
    by_cases c : candS s bar nx = 1
    · have ec : candF s bar (d + 1) nx = nx := by show (if candS s bar nx = 1 then nx else candF s bar d (nx + 1)) = nx; rw [if_pos c]
      rw [ec]
      exact ⟨fun h => by omega, fun _ => ⟨hs, T, m + 1, by omega, by omega, rfl, S, hT, fun j _ => rfl, Ou.refl _ _⟩⟩
    · have ec : candF s bar (d + 1) nx = candF s bar d (nx + 1) := by show (if candS s bar nx = 1 then nx else candF s bar d (nx + 1)) = _; rw [if_neg c]
      obtain ⟨M, B, A⟩ := S
      obtain ⟨g, e, B1, o⟩ := B.put (z := (bar : Int)) nx (by omega) (by omega) (by omega)
      have M1 := M.ou o.ou (by decide)
      have A1 := A.ou o.ou (by decide)
      rw [Int.toNat_natCast] at B1
      obtain ⟨i1, i2⟩ := ih m (nx + 1) g x _ N (by omega) (by omega) (by omega) ⟨M1, B1, A1⟩ n (by rw [updZ_eq]; omega)
      have c0 : candS s bar nx = 0 := z01 cb c
      have G1 := B1.get (z := (bar : Int)) (by omega) (by omega) (by omega)
      rw [Int.toNat_natCast, updZ_eq] at G1
      have st : f_X9_searches_b21 (m + 1) 95 L (ii bar) tr hs = f_X9_searches_b21 m 95 L (ii bar) tr g := by
        rw [f_X9_searches_b21.eq_2, if_neg (by rw [il_0, ii_lt (by omega) (by omega) (by omega) (by omega)]; omega), M.r13, ob_some, B.get (by omega) (by omega) (by omega), ob_some, Int.toNat_natCast, hT, il_1, ii_add, show nx - 1 + 1 = nx from by omega, e, ob_some, M1.r13, ob_some, G1, ob_some, if_pos (by rw [show (146 : Int32) = ii 146 from rfl, ii_le (by omega) (by omega) (by omega) (by omega)]; omega), ob_some, G1, ob_some, M1.chk, ob_some, X9_isCand (M1.nw A1) n k (by omega) (by omega) (by omega), ob_some, if_pos (by rw [c0]; rfl)]
      rw [ec, st]
      constructor
      · intro h
        obtain ⟨g2, T2, m2, a, b, S2, t2, o2⟩ := i1 h
        exact ⟨g2, T2, m2, by omega, b, S2, fun j hj => by rw [t2 j hj, updZ_ne hj], o.ou.trans o2⟩
      · intro h
        obtain ⟨g2, T2, m2, a, a1, b, S2, tb, t2, o2⟩ := i2 h
        exact ⟨g2, T2, m2, by omega, a1, b, S2, tb, fun j hj => by rw [t2 j hj, updZ_ne hj], o.ou.trans o2⟩
theorem take_app_lg {l : List Int} {bar : Nat} {c : Int} (hb : bar ≤ l.length) : (l.take bar ++ [c]).length = bar + 1 ∧ (∀ j, j < bar → lg (l.take bar ++ [c]) j = lg l j) ∧ lg (l.take bar ++ [c]) bar = c := by
  have hl : (l.take bar).length = bar := by rw [List.length_take]; omega
  refine ⟨by rw [List.length_append, hl]; rfl, fun j hj => ?_, ?_⟩
  · rw [lg_push_lt (by omega), lg_take hj]
  · have := lg_push (l := l.take bar) (v := c)
    rw [hl] at this
    exact this
/-- the search: what it answers, and that at success it has tried its line -/
theorem X9_srch (k : SOK s) (h1 : s.sp = 1) (hg2 : 2 ≤ s.gv.length) : ∀ (f m : Nat) (hs : AH) (x T N : Nat → Int) (l : List Int) (bar nx tr turn : Int), (f : Int) + turn = 6003 → 108 * f + 1 ≤ m → -1 ≤ bar → bar < s.gv.length → bar ≤ l.length → l.length ≤ 13 → (∀ y ∈ l, 42 ≤ y ∧ y ≤ 146) → (0 ≤ bar → 42 ≤ nx ∧ nx ≤ 147) → (0 ≤ tr ∧ tr < 3000) → 0 ≤ turn → turn + bar ≤ 2 * tr →
    Sr hs x T N → NoA N (wm s (l.take bar.toNat)) → (∀ j : Nat, (j : Int) < bar → T j = lg l j) → (0 ≤ bar → T bar.toNat = nx - 1) →
    ∃ hs' T' N', f_X9_searches_b21 m 95 (ii ((s.gv.length : Int) - 1)) (ii bar) (ii tr) hs = some (ii (skF s f l bar nx tr).1, hs') ∧ Sr hs' x T' N' ∧ (∀ j, j < 35 → N' j = N j) ∧ ((skF s f l bar nx tr).1 ≠ -1 → (skF s f l bar nx tr).2.length = s.gv.length ∧ ∀ j, j < s.gv.length → T' j = lg (skF s f l bar nx tr).2 j) ∧ Ou hs hs' [96, 102] := by
  have gl := k.gl
  intro f
  induction f with
  | zero =>
    intro m hs x T N l bar nx tr turn h0 hm hb0 hb1 hb2 hl hv hnx htr ht htb
    omega
  | succ f ih =>
    intro m hs x T N l bar nx tr turn h0 hm hb0 hb1 hb2 hl hv hnx htr ht htb S n hT hTb
    unfold skF
    by_cases a : bar < 0
    · obtain ⟨m, rfl⟩ : ∃ z, m = z + 1 := ⟨m - 1, by omega⟩
      rw [if_pos a]
      refine ⟨hs, T, N, ?_, S, fun j _ => rfl, fun h => absurd rfl h, Ou.refl _ _⟩
      rw [f_X9_searches_b21.eq_2, if_pos (by rw [il_0, ii_lt (by omega) (by omega) (by omega) (by omega)]; exact a)]
      rfl
    rw [if_neg a, if_neg (show ¬ 3000 ≤ tr by omega)]
    obtain ⟨nx0, nx1⟩ := hnx (by omega)
    have hTb := hTb (by omega)
    obtain ⟨B, rfl⟩ : ∃ z : Nat, bar = z := ⟨bar.toNat, by omega⟩
    rw [Int.toNat_natCast] at n hTb ⊢
    have hBl : B ≤ l.length := by omega
    have hB12 : B < 12 := by omega
    have kl : ∀ l' : List Int, l'.length ≤ 45 → (∀ y ∈ l', 42 ≤ y ∧ y ≤ 146) → SOK (wm s l') := fun l' a b => wm_ok k a (fun y hy => Or.inr (b y hy))
    have kt := kl (l.take B) (by rw [List.length_take]; omega) (fun y hy => hv y (List.mem_of_mem_take hy))
    obtain ⟨c1, c2⟩ := X9_scan (s := s) kt hB12 (L := ii ((s.gv.length : Int) - 1)) (tr := ii tr) (147 - nx).toNat m nx hs x T N (by omega) (by omega) nx0 S n hTb
    by_cases c : candF s B (147 - nx).toNat nx = -1
    · obtain ⟨g1, T1, m1, e0, e1, S1, t1, o1⟩ := c1 c
      rw [if_pos c, e1]
      have hnx' : 0 ≤ (B : Int) - 1 → 42 ≤ lat l ((B : Int) - 1) + 1 ∧ lat l ((B : Int) - 1) + 1 ≤ 147 := by
        intro h
        rw [lat_in h]
        have := hv _ (lg_mem (l := l) (j := ((B : Int) - 1).toNat) (by omega))
        omega
      obtain ⟨g2, T2, N2, e2, S2, p2, q2, o2⟩ := ih m1 g1 x T1 N l ((B : Int) - 1) (lat l ((B : Int) - 1) + 1) tr (turn + 1) (by omega) (by omega) (by omega) (by omega) (by omega) hl hv hnx' htr (by omega) (by omega) S1
        (n.pre (by rw [List.length_take, List.length_take]; omega) (fun j hj => by
          rw [List.length_take] at hj
          rw [lg_take (by omega), lg_take (by omega)]))
        (fun j hj => by rw [t1 j (by omega)]; exact hT j (by omega))
        (fun h => by
          rw [t1 _ (by omega), hT _ (by omega), lat_in h]; omega)
      exact ⟨g2, T2, N2, e2, S2, p2, q2, (o1.mono (by decide)).trans o2⟩
    · obtain ⟨g1, T1, m1, e0, m1p, e1, S1, tb, t1, o1⟩ := c2 c
      rw [if_neg c, e1]
      obtain ⟨m2, rfl⟩ : ∃ z, m1 = z + 1 := ⟨m1 - 1, by omega⟩
      generalize hC : candF s B (147 - nx).toNat nx = C at c tb ⊢
      have ci := candF_in (s := s) (bar := (B : Int)) (147 - nx).toNat nx
      rw [hC] at ci
      have ci := ci.resolve_left c
      have cc : 42 ≤ C ∧ C ≤ 146 := by omega
      obtain ⟨M1, B1, A1⟩ := S1
      -- the trial
      obtain ⟨g2, f2, B2, o2⟩ := B1.put (z := (B : Int)) C (by omega) (by omega) (by omega)
      have M2 := M1.ou o2.ou (by decide)
      have A2 := A1.ou o2.ou (by decide)
      rw [Int.toNat_natCast] at B2
      obtain ⟨g3, f3, A3, o3⟩ := A2.put (z := 35 + (B : Int)) C (by omega) (by omega) (by omega)
      have M3 := M2.ou o3.ou (by decide)
      have B3 := B2.ou o3.ou (by decide)
      have hz : (35 + (B : Int)).toNat = 35 + B := by omega
      rw [hz] at A3
      obtain ⟨l1, l2, l3⟩ := take_app_lg (c := C) hBl
      have tl : (l.take B).length = B := by rw [List.length_take]; omega
      have n3 : NoA (updZ N (35 + B) C) (wm s (l.take B ++ [C])) := by
        have := n.app1 (c := C) gl
        rw [tl] at this
        exact this
      have hv3 : ∀ y ∈ l.take B ++ [C], 42 ≤ y ∧ y ≤ 146 := by
        intro y hy
        rcases List.mem_append.1 hy with g | g
        · exact hv y (List.mem_of_mem_take g)
        · rw [List.mem_singleton.1 g]; exact cc
      have k3 := kl (l.take B ++ [C]) (by omega) hv3
      have q3 : Wl (wm s (l.take B ++ [C])) := by
        refine ⟨fun j hj e => ?_, fun p p0 p1 => ?_, hg2⟩
        · have := hv3 _ (lg_mem (l := l.take B ++ [C]) (j := j) hj)
          have e : lg (l.take B ++ [C]) j = -1 := e
          omega
        · have p1 : p < ((l.take B ++ [C]).length : Int) := p1
          show p / per s.sp < (s.gv.length : Int)
          rw [show per s.sp = 1 by rw [h1]; rfl, Int.ediv_one]; omega
      have F := X9_fits (M3.nw A3) n3 k3 q3 h1 (bar := B) l1 (by show B < s.gv.length; omega) (fun p hp => by
        have := hv3 _ (lg_mem (l := l.take B ++ [C]) (j := p) (by omega))
        show lat (l.take B ++ [C]) p ≠ -1
        rw [lat_nat]; omega)
      have sb : fitI (wm s (l.take B ++ [C])) B = 0 ∨ fitI (wm s (l.take B ++ [C])) B = 1 := by
        by_cases y : fitP (wm s (l.take B ++ [C])) B
        · exact Or.inr (fitI_1 y)
        · exact Or.inl (fitI_0 y)
      have csb := candS_b s B C
      have O3 : Ou hs g3 [96, 102] := (o1.mono (by decide)).trans ((o2.ou.mono (by decide)).trans (o3.ou.mono (by decide)))
      have T3 : ∀ j : Nat, j < B → updZ T1 B C j = lg (l.take B ++ [C]) j := fun j hj => by
        rw [updZ_ne (by omega), t1 j (by omega), hT j (by omega), l2 j hj]
      have N3 : ∀ j, j < 35 → updZ N (35 + B) C j = N j := fun j hj => updZ_ne (by omega)
      have G2 := B2.get (z := (B : Int)) (by omega) (by omega) (by omega)
      rw [Int.toNat_natCast, updZ_eq] at G2
      have Bc : ii (B : Int) + 1 = ii ((B : Int) + 1) := by rw [il_1, ii_add]
      have Tc : ii tr + 1 = ii (tr + 1) := by rw [il_1, ii_add]
      rw [f_X9_searches_b21.eq_2, if_neg (by rw [il_0, ii_lt (by omega) (by omega) (by omega) (by omega)]; omega), M1.r13, ob_some, B1.get (by omega) (by omega) (by omega), ob_some, Int.toNat_natCast, tb, show ii (C - 1) + 1 = ii C from by rw [il_1, ii_add]; congr 1; omega, f2, ob_some, M2.r13, ob_some, G2, ob_some, if_pos (by rw [show (146 : Int32) = ii 146 from rfl, ii_le (by omega) (by omega) (by omega) (by omega)]; omega), ob_some, G2, ob_some, M2.chk, ob_some, X9_isCand (M2.nw A2) n kt cc (by omega) (by omega), ob_some, if_neg (by rw [ci.2.2]; decide +kernel), M2.r1, ob_some, ob_some, G2, ob_some, show (35 : Int32) = ii 35 from rfl, ii_add, f3, ob_some, M3.chk, ob_some, F, ob_some, Tc, Bc]
      by_cases y : fitI (wm s (l.take B ++ [C])) B = 0
      · rw [if_pos (by rw [y]; rfl), if_pos y]
        by_cases z : tr + 1 = 3000
        · rw [if_pos (by rw [z]; rfl)]
          have sk : skF s f (l.take B ++ [C]) B (C + 1) (tr + 1) = (-1, l.take B ++ [C]) := by
            obtain ⟨f', rfl⟩ : ∃ z, f = z + 1 := ⟨f - 1, by omega⟩
            unfold skF
            rw [if_neg (show ¬ (B : Int) < 0 by omega), if_pos (show 3000 ≤ tr + 1 by omega)]
          rw [sk]
          exact ⟨g3, _, _, rfl, ⟨M3, B3, A3⟩, N3, fun h => absurd rfl h, O3⟩
        · rw [if_neg (by rw [show (3000 : Int32) = ii 3000 from rfl, ii_eq (by omega) (by omega) (by omega) (by omega)]; exact z)]
          obtain ⟨g4, T4, N4, e4, S4, p4, q4, o4⟩ := ih m2 g3 x _ _ (l.take B ++ [C]) (B : Int) (C + 1) (tr + 1) (turn + 1) (by omega) (by omega) (by omega) (by omega) (by omega) (by omega) hv3 (fun _ => by omega) (by omega) (by omega) (by omega) ⟨M3, B3, A3⟩
            (n3.pre (by rw [List.length_take]; omega) (fun j hj => by
              rw [List.length_take, Int.toNat_natCast] at hj
              rw [Int.toNat_natCast, lg_take (by omega)]))
            (fun j hj => T3 j (by omega))
            (fun _ => by rw [Int.toNat_natCast, updZ_eq]; omega)
          exact ⟨g4, T4, N4, e4, S4, fun j hj => by rw [p4 j hj, N3 j hj], q4, O3.trans o4⟩
      · rw [if_neg (by rw [il_0, ii_eq (by omega) (by omega) (by omega) (by omega)]; exact y), if_neg y]
        by_cases z : (B : Int) = (s.gv.length : Int) - 1
        · rw [if_pos (by rw [z]), if_pos z]
          refine ⟨g3, _, _, rfl, ⟨M3, B3, A3⟩, N3, fun _ => ⟨by dsimp only; omega, fun j hj => ?_⟩, O3⟩
          by_cases u : j = B
          · rw [u, updZ_eq]; exact l3.symm
          · exact T3 j (by omega)
        · rw [if_neg (by rw [ii_eq (by omega) (by omega) (by omega) (by omega)]; exact z), if_neg z]
          obtain ⟨g4, f4, B4, o4⟩ := B3.put (z := (B : Int) + 1) 41 (by omega) (by omega) (by omega)
          have M4 := M3.ou o4.ou (by decide)
          have A4 := A3.ou o4.ou (by decide)
          have hz4 : ((B : Int) + 1).toNat = B + 1 := by omega
          rw [hz4] at B4
          have O4 : Ou hs g4 [96, 102] := O3.trans (o4.ou.mono (by decide))
          rw [M3.r13, ob_some, show (41 : Int32) = ii 41 from rfl, f4, ob_some]
          by_cases u : tr + 1 = 3000
          · rw [if_pos (by rw [u]; rfl)]
            have sk : skF s f (l.take B ++ [C]) ((B : Int) + 1) 42 (tr + 1) = (-1, l.take B ++ [C]) := by
              obtain ⟨f', rfl⟩ : ∃ z, f = z + 1 := ⟨f - 1, by omega⟩
              unfold skF
              rw [if_neg (show ¬ (B : Int) + 1 < 0 by omega), if_pos (show 3000 ≤ tr + 1 by omega)]
            rw [sk]
            exact ⟨g4, _, _, rfl, ⟨M4, B4, A4⟩, N3, fun h => absurd rfl h, O4⟩
          · rw [if_neg (by rw [show (3000 : Int32) = ii 3000 from rfl, ii_eq (by omega) (by omega) (by omega) (by omega)]; exact u)]
            obtain ⟨g5, T5, N5, e5, S5, p5, q5, o5⟩ := ih m2 g4 x _ _ (l.take B ++ [C]) ((B : Int) + 1) 42 (tr + 1) (turn + 1) (by omega) (by omega) (by omega) (by omega) (by omega) (by omega) hv3 (fun _ => by omega) (by omega) (by omega) (by omega) ⟨M4, B4, A4⟩
              (n3.pre (by rw [List.length_take]; omega) (fun j hj => by
                rw [List.length_take, hz4] at hj
                rw [hz4, lg_take (by omega)]))
              (fun j hj => by
                rw [updZ_ne (by omega)]
                by_cases v : j = B
                · rw [v, updZ_eq]; exact l3.symm
                · exact T3 j (by omega))
              (fun _ => by rw [hz4, updZ_eq]; rfl)
            exact ⟨g5, T5, N5, e5, S5, fun j hj => by rw [p5 j hj, N3 j hj], q5, O4.trans o5⟩
end MSR
