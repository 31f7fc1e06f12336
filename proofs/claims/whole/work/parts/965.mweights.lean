/-! ===== the reference's calls: weights ===== -/
def NoWt (f : Nat → Int) (s : Sh) (w : List Int) : Prop := f 0 = s.gv.length ∧ f 1 = s.md.length ∧ f 2 = s.sp ∧ f 3 = s.bl ∧ (∀ j, j < 3 → f (4 + j) = lg s.st j) ∧ (∀ r, 1 ≤ r → r ≤ 16 → f (6 + r) = if lg w r = -1 then lg s.wt r else lg w r) ∧ (∀ j, j < s.gv.length → f (23 + j) = lg s.gv j) ∧ ∀ j, j < s.md.length → f (35 + j) = lg s.md j
theorem NoWt.of {f : Nat → Int} {s : Sh} (n : LoA f s) : NoWt f s w0 := by
  obtain ⟨⟨n0, n2, n3, n4, n5, n6, n7⟩, n1⟩ := n
  refine ⟨n0, n1, n2, n3, n4, fun r r1 r2 => ?_, n6, n7⟩
  have : lg w0 r = -1 := by
    have h : ∀ j : Fin 17, lg w0 j.1 = -1 := by decide
    exact h ⟨r, by omega⟩
  rw [if_pos this]; exact n5 r r1 r2
theorem NoWt.lo {f : Nat → Int} {s : Sh} {w : List Int} (k : SOK s) (n : NoWt f s w) : LoA f (wv s (wtSet s.wt w 16)) := by
  obtain ⟨n0, n1, n2, n3, n4, n5, n6, n7⟩ := n
  refine ⟨⟨n0, n2, n3, n4, fun r r1 r2 => ?_, n6, n7⟩, n1⟩
  show f (6 + r) = lg (wtSet s.wt w 16) r
  rw [n5 r r1 r2, wtSet_lg k.2.1 r 16 (by omega)]
  by_cases c : lg w r = -1
  · rw [if_pos c, if_neg (fun x => x.2.2 c)]
  · rw [if_neg c, if_pos ⟨r1, r2, c⟩]
theorem NoWt.set {f : Nat → Int} {s : Sh} {w : List Int} (n : NoWt f s w) (hw : w.length = 17) {r : Nat} {d : Int} (r1 : 1 ≤ r) (r2 : r ≤ 16) (d0 : 0 ≤ d) : NoWt (updZ f (6 + r) d) s (w.set r d) := by
  obtain ⟨n0, n1, n2, n3, n4, n5, n6, n7⟩ := n
  refine ⟨?_, ?_, ?_, ?_, fun j hj => ?_, fun q q1 q2 => ?_, fun j hj => ?_, fun j hj => ?_⟩
  · rw [updZ_ne (by omega)]; exact n0
  · rw [updZ_ne (by omega)]; exact n1
  · rw [updZ_ne (by omega)]; exact n2
  · rw [updZ_ne (by omega)]; exact n3
  · rw [updZ_ne (by omega)]; exact n4 j hj
  · by_cases c : q = r
    · rw [c, updZ_eq, lg_set (by omega), if_neg (by omega)]
    · rw [updZ_ne (by omega), lg_set_ne c]; exact n5 q q1 q2
  · rw [updZ_ne (by omega)]; exact n6 j hj
  · rw [updZ_ne (by omega)]; exact n7 j hj
def cnZ (o : Option (List Int × Int)) : Int := match o with
  | some y => y.2
  | none => -1
section MNA
variable {b : List Int}
theorem X9_named_loop (k : CB b) {v1 : Int} (hv : v1 = 0 ∨ v1 = 1) {s : Sh} : ∀ (f m : Nat) (hs : AH) (x N : Nat → Int) (w : List Int) (cnt : Int) (p : Nat) (o : Option (List Int × Int)) (q : Nat), wtMore b f w cnt p o q → f ≤ m → p ≤ b.length → RS hs x b p → RA hs 96 80 N → w.length = 17 → (v1 = 1 → NoWt N s w) →
    ∃ hs' N', f_X9_named_b7 m 95 (ii v1) (ii cnt) hs = some (ii (cnZ o), hs') ∧ RS hs' (uz x 9 q) b q ∧ RA hs' 96 80 N' ∧ (v1 = 0 → N' = N) ∧ (v1 = 1 → ∀ y, o = some y → NoWt N' s y.1) ∧ Ou hs hs' [95, 96] := by
  have kl := k.1
  intro f
  induction f with
  | zero => intro m hs x N w cnt p o q h; exact absurd h (by intro h; exact h)
  | succ f ih =>
    intro m hs x N w cnt p o q h hm hp S A hw hN
    obtain ⟨m, rfl⟩ : ∃ z, m = z + 1 := ⟨m - 1, by omega⟩
    obtain ⟨o1, q1, h1, h2⟩ := h
    obtain ⟨r, hr, h1⟩ := h1
    have r17 := isRule_17 hr
    obtain ⟨e, g1, m', R, S1, O1, e1⟩ := X9_run k (f_X9_named_b7 m) (v1 := ii v1) (v2 := ii cnt) (p := p) (b.length - p) FUEL p hs x (by unfold FUEL; omega) (by omega) (Nat.le_refl _) S (fun j j1 j2 => by omega)
    have A1 := A.ou O1 (by decide)
    have O1' : Ou hs g1 [95, 96] := O1.mono (by decide)
    have sb := sgB_b k e
    have ne := R.2.2.2
    have hlet : ¬ (97 ≤ sgB b e ∧ sgB b e ≤ 122) := by
      by_cases y : e < b.length
      · rw [((sgB_pat k e).1 y).1]; exact ne
      · rw [((sgB_pat k e).2 (by omega)).1]; omega
    have hpe := R.1
    have hel := R.2.1
    have es : ii (e : Int) - ii (p : Int) = ii ((e - p : Nat) : Int) := by rw [ii_sub]; congr 1; omega
    rw [f_X9_named_b7.eq_2, S.1.i9, S.2.1, ob_some, e1, f_X9_named_b12.eq_2, S1.1.chk, ob_some, S1.sign k (by omega), ob_some, show (97 : Int32) = ii 97 from rfl, show (122 : Int32) = ii 122 from rfl, X9_in (by omega) (by omega) (by omega) (by omega) (by omega) (by omega), ob_some, inI_0 hlet, if_pos (by rfl), S1.1.i9, S1.2.1, ob_some, ob_some, es, X9_ruleAt k R S1 hr, ob_some]
    by_cases c : r = 0
    · rw [if_pos c] at h1
      obtain ⟨rfl, rfl⟩ := h1
      obtain ⟨rfl, rfl⟩ := h2
      obtain ⟨g2, e2, S2, o2⟩ := S1.step q
      rw [uz_uz] at S2
      refine ⟨g2, N, ?_, S2, A1.ou o2 (by decide), fun _ => rfl, (fun _ y hy => by cases hy), O1'.trans (o2.mono (by decide))⟩
      rw [if_pos (by rw [c]; rfl), e2, ob_some]
      rfl
    · rw [if_neg c] at h1
      have hh : hereW b (nm r) p := by unfold isRule at hr; rw [if_neg c] at hr; exact hr.2.2.1
      have r1 : 1 ≤ r := by omega
      have el := ((run_here R (nm_az r1 r17)).1 hh).1
      have ee : e = p + (nm r).length := by omega
      rw [← ee] at h1
      obtain ⟨t1, t2⟩ := S1.takes k (by omega) (c := 61) (by omega)
      rw [if_neg (by rw [il_0, ii_eq (by omega) (by omega) (by omega) (by omega)]; omega), ob_some, show (61 : Int32) = ii 61 from rfl]
      by_cases c1 : ¬ pat b (e : Nat) = 61
      · rw [if_pos c1] at h1
        obtain ⟨rfl, rfl⟩ := h1
        obtain ⟨rfl, rfl⟩ := h2
        rw [t2 c1, ob_some]
        dsimp only
        rw [if_pos (by rfl)]
        exact ⟨g1, N, rfl, S1, A1, fun _ => rfl, (fun _ y hy => by cases hy), O1'⟩
      · rw [if_neg c1] at h1
        obtain ⟨g2, e2, S2, o2⟩ := t1 (Classical.byContradiction c1)
        rw [uz_uz] at S2
        have sb2 := sgB_b k (e + 1)
        have A2 := A1.ou o2 (by decide)
        have O2 : Ou hs g2 [95, 96] := O1'.trans (o2.mono (by decide))
        have ple := pat_in (show pat b (e : Int) ≠ 0 by omega)
        rw [e2, ob_some]
        dsimp only
        rw [if_neg (by decide +kernel), S2.1.chk, ob_some, S2.sign k (by omega), ob_some, show (48 : Int32) = ii 48 from rfl, show (57 : Int32) = ii 57 from rfl, X9_in (by omega) (by omega) (by omega) (by omega) (by omega) (by omega), ob_some]
        by_cases c2 : pat b (e + 1 : Nat) < 48 ∨ 57 < pat b (e + 1 : Nat)
        · rw [if_pos c2] at h1
          obtain ⟨rfl, rfl⟩ := h1
          obtain ⟨rfl, rfl⟩ := h2
          have hd : ¬ (48 ≤ sgB b (e + 1) ∧ sgB b (e + 1) ≤ 57) := by
            by_cases y : e + 1 < b.length
            · rw [((sgB_pat k (e + 1)).1 y).1]; omega
            · rw [((sgB_pat k (e + 1)).2 (by omega)).1]; omega
          rw [inI_0 hd, if_pos (by rfl)]
          exact ⟨g2, N, rfl, S2, A2, fun _ => rfl, (fun _ y hy => by cases hy), O2⟩
        · rw [if_neg c2] at h1
          obtain ⟨rfl, rfl⟩ := h1
          have ple2 := pat_in (show pat b ((e + 1 : Nat) : Int) ≠ 0 by omega)
          obtain ⟨s1, s2, s3⟩ := (sgB_pat k (e + 1)).1 (by omega)
          dsimp only at h2
          -- the value written, if it is
          have wr : ∃ g3 N3, (if ii v1 = 0 then f_X9_named_b110 (f_X9_named_b7 m) 95 (ii v1) (ii cnt) g2 else (gR g2 95 9 1).bind fun x12 => (some ()).bind fun u13 => (some (ii (sgB b (e + 1)))).bind fun x14 => (sN 0 g2 x12 (6 + ii r) (x14 - ii 48)).bind fun hs15 => f_X9_named_b110 (f_X9_named_b7 m) 95 (ii v1) (ii cnt) hs15) = f_X9_named_b110 (f_X9_named_b7 m) 95 (ii v1) (ii cnt) g3 ∧ RS g3 (uz x 9 (e + 1 : Nat)) b (e + 1) ∧ RA g3 96 80 N3 ∧ (v1 = 0 → N3 = N) ∧ (v1 = 1 → NoWt N3 s (w.set r (pat b (e + 1 : Nat) - 48))) ∧ Ou hs g3 [95, 96] := by
            rcases hv with rfl | rfl
            · exact ⟨g2, N, by rw [if_pos (by rfl)], S2, A2, fun _ => rfl, fun h => by omega, O2⟩
            · obtain ⟨g3, e3, A3, o3⟩ := A2.put (z := 6 + (r : Int)) (pat b (e + 1 : Nat) - 48) (by omega) (by omega) (by omega)
              have hz : (6 + (r : Int)).toNat = 6 + r := by omega
              rw [hz] at A3
              refine ⟨g3, _, ?_, S2.ou o3.ou (by decide) (by decide), A3, fun h => by omega, fun _ => (hN rfl).set hw r1 r17 (by omega), O2.trans (o3.ou.mono (by decide))⟩
              rw [if_neg (by decide +kernel), S2.1.r1, ob_some, ob_some, ob_some, s1, ii_sub, il_6, ii_add, e3, ob_some]
          obtain ⟨g3, N3, e3, S3, A3, n0, n1, O3⟩ := wr
          rw [inI_1 (by rw [s1]; omega), if_neg (by decide +kernel), e3]
          unfold f_X9_named_b110
          obtain ⟨g4, e4, S4, o4⟩ := S3.step (e + 1 + 1)
          rw [uz_uz] at S4
          have A4 := A3.ou o4 (by decide)
          have O4 : Ou hs g4 [95, 96] := O3.trans (o4.mono (by decide))
          rw [S3.1.i9, S3.2.1, ob_some, il_1, ii_add, show ((e + 1 : Nat) : Int) + 1 = ((e + 1 + 1 : Nat) : Int) from rfl, e4, ob_some, S4.1.i9, S4.2.1, ob_some, S4.1.i7, S4.2.2.1, ob_some, ii_add]
          have h2 : if e + 1 + 1 = b.length then o = some (w.set r (pat b ((e + 1 : Nat) : Int) - 48), cnt + 1) ∧ q = e + 1 + 1 else if pat b ((e + 1 + 1 : Nat) : Int) = 44 then wtMore b f (w.set r (pat b ((e + 1 : Nat) : Int) - 48)) (cnt + 1) (e + 1 + 1 + 1) o q else o = none ∧ q = e + 1 + 1 := h2
          by_cases c3 : e + 1 + 1 = b.length
          · rw [if_pos c3] at h2
            obtain ⟨rfl, rfl⟩ := h2
            rw [if_pos (by rw [c3])]
            exact ⟨g4, N3, rfl, S4, A4, n0, (fun h y hy => by cases hy; exact n1 h), O4⟩
          · rw [if_neg c3] at h2
            obtain ⟨t1, t2⟩ := S4.takes k (by omega) (c := 44) (by omega)
            rw [if_neg (by rw [ii_eq (by omega) (by omega) (by omega) (by omega)]; omega), S4.1.chk, ob_some, show (44 : Int32) = ii 44 from rfl]
            by_cases c4 : pat b (e + 1 + 1 : Nat) = 44
            · rw [if_pos c4] at h2
              obtain ⟨g5, e5, S5, o5⟩ := t1 c4
              rw [uz_uz] at S5
              have ple3 := pat_in (show pat b ((e + 1 + 1 : Nat) : Int) ≠ 0 by omega)
              obtain ⟨g6, N6, e6, S6, A6, i0, i1, o6⟩ := ih m g5 _ N3 _ _ _ o q h2 (by omega) (by omega) S5 (A4.ou o5 (by decide)) (by rw [List.length_set]; exact hw) n1
              rw [uz_uz] at S6
              rw [e5, ob_some]
              dsimp only
              rw [if_neg (by decide +kernel)]
              exact ⟨g6, N6, e6, S6, A6, fun h => (i0 h).trans (n0 h), i1, O4.trans ((o5.mono (by decide)).trans o6)⟩
            · rw [if_neg c4] at h2
              obtain ⟨rfl, rfl⟩ := h2
              rw [t2 c4, ob_some]
              dsimp only
              rw [if_pos (by rfl)]
              exact ⟨g4, N3, rfl, S4, A4, n0, (fun _ y hy => by cases hy), O4⟩
variable {t : St} {th : Int} {hs : AH}
theorem MoA.named (h : MoA hs t th) (k : CB t.buf) {o : Option (List Int × Int)} {q : Nat} (hw : wtMore t.buf 181 w0 0 0 o q) :
    (∃ hs', f_X9_named 95 0 hs = some (ii (cnZ o), hs') ∧ MoA hs' t th ∧ gI hs' 95 9 9 = some (ii q) ∧ Ou hs hs' [95, 96]) ∧
    (SOK t.now → ∀ y, o = some y → ∃ hs', f_X9_named 95 1 hs = some (ii y.2, hs') ∧ MoA hs' (wv t.now (wtSet t.now.wt y.1 16), t.2) th ∧ gI hs' 95 9 9 = some (ii q) ∧ Ou hs hs' [95, 96]) := by
  obtain ⟨⟨x, M, a0, a3, a5, a7, a8, a12⟩, ⟨N, A, n⟩, h3, h4, h5, h6, h7, h8, h9, h10⟩ := h
  obtain ⟨g0, e0, M0, o0⟩ := M.put (k := 9) (by decide) ((0 : Nat) : Int)
  have S0 : RS g0 (uz x 9 ((0 : Nat) : Int)) t.buf 0 := ⟨M0, uz_eq _ _ _, by rw [uz_ne (by decide)]; exact a7, h5.ou o0 (by decide)⟩
  have fin : ∀ (g : AH) (q : Nat) (s : Sh) (N' : Nat → Int), RS g (uz (uz x 9 ((0 : Nat) : Int)) 9 q) t.buf q → RA g 96 80 N' → LoA N' s → Ou g0 g [95, 96] → MoA g (s, t.2) th ∧ gI g 95 9 9 = some (ii q) ∧ Ou hs g [95, 96] := by
    intro g q s N' S A' n' og
    have O : Ou hs g [95, 96] := (o0.mono (by decide)).trans og
    refine ⟨⟨⟨_, S.1, ?_, ?_, ?_, ?_, ?_, ?_⟩, ⟨N', A', n'⟩, h3.ou O (by decide), h4.ou O (by decide), h5.ou O (by decide), h6.ou O (by decide), h7.ou O (by decide), h8.ou O (by decide), h9.ou O (by decide), h10.ou O (by decide)⟩, by rw [S.1.i9, uz_eq], O⟩
    · rw [uz_ne (by decide), uz_ne (by decide)]; exact a0
    · rw [uz_ne (by decide), uz_ne (by decide)]; exact a3
    · rw [uz_ne (by decide), uz_ne (by decide)]; exact a5
    · rw [uz_ne (by decide), uz_ne (by decide)]; exact a7
    · rw [uz_ne (by decide), uz_ne (by decide)]; exact a8
    · rw [uz_ne (by decide), uz_ne (by decide)]; exact a12
  have A0 := A.ou o0 (by decide)
  constructor
  · obtain ⟨g, N', e, S, A', i0, -, o'⟩ := X9_named_loop k (v1 := 0) (Or.inl rfl) (s := t.now) 181 FUEL g0 _ N w0 0 0 o q hw (by unfold FUEL; omega) (by omega) S0 A0 w0_ok.1 (fun h => by omega)
    obtain ⟨f1, f2, f3⟩ := fin g q t.now N' S A' (by rw [i0 rfl]; exact n) o'
    refine ⟨g, ?_, f1, f2, f3⟩
    unfold f_X9_named
    rw [show pI hs 95 9 9 0 = _ from e0, ob_some]
    exact e
  · intro ks y hy
    obtain ⟨g, N', e, S, A', -, i1, o'⟩ := X9_named_loop k (v1 := 1) (Or.inr rfl) (s := t.now) 181 FUEL g0 _ N w0 0 0 o q hw (by unfold FUEL; omega) (by omega) S0 A0 w0_ok.1 (fun _ => NoWt.of n)
    obtain ⟨f1, f2, f3⟩ := fin g q (wv t.now (wtSet t.now.wt y.1 16)) N' S A' ((i1 rfl y hy).lo ks) o'
    refine ⟨g, ?_, f1, f2, f3⟩
    unfold f_X9_named
    rw [hy] at e
    rw [show pI hs 95 9 9 0 = _ from e0, ob_some]
    exact e
theorem X9_weights (k : StOK t) {o : Option (List Int × Int)} {q : Nat} (hw : wtMore t.buf 181 w0 0 0 o q) :
    (o = none → M9 (f_X9_weights 95) [1] (.inr 1) t (t.emp q)) ∧
    (∀ y, o = some y → M9 (f_X9_weights 95) [1] (.inl y.2) t (wv t.now (wtSet t.now.wt y.1 16), t.2.1, t.2.2.1, kpt t.his t.now, [], -1, t.2.2.2.2.2.2)) := by
  obtain ⟨-, mo⟩ := wtMore_ok 181 w0 0 0 o q hw w0_ok.1 w0_ok.2 (by omega) (by have := k.cb.1; omega) (by omega)
  constructor
  · intro c
    refine M9.of (fun hs => rfl) (fun hs h => ?_)
    obtain ⟨g1, e1, m1, q1, o1⟩ := (h.named k.cb hw).1
    obtain ⟨g2, e2, m2, o2⟩ := m1.empt q1 (v := 1) (Or.inr rfl)
    rw [if_neg (by omega)] at m2
    obtain ⟨g3, e3, m3, o3⟩ := m2.fail 1
    refine ⟨g3, ?_, m3, (o1.out (fun k hk => by simp at hk; omega)).trans ((o2.m).trans o3)⟩
    rw [h.chk, ob_some, e1, ob_some, c]
    dsimp only
    rw [if_pos (by rfl), if_pos (by rfl)]
    unfold f_X9_weights_b37
    rw [m1.chk, ob_some, show f_X9_empties 95 1 g1 = _ from e2, ob_some, if_pos (by rfl), m2.chk, ob_some]
    exact e3
  · intro y c
    obtain ⟨y1, y2, y3, y4⟩ := mo y c
    refine M9.of (fun hs => rfl) (fun hs h => ?_)
    obtain ⟨g1, e1, m1, q1, o1⟩ := (h.named k.cb hw).1
    obtain ⟨g2, e2, m2, o2⟩ := m1.changes k.1.1 k.2.2.2.1 k.kh
    obtain ⟨g3, e3, m3, q3, o3⟩ := (m2.named (t := (t.1, t.2.1, t.2.2.1, kpt t.his t.now, t.2.2.2.2)) k.cb hw).2 k.1.1 y c
    obtain ⟨g4, e4, m4, o4⟩ := m3.empt q3 (v := 0) (Or.inl rfl)
    rw [if_pos rfl] at m4
    refine ⟨g4, ?_, m4, (o1.out (fun k hk => by simp at hk; omega)).trans ((o2.out (fun k hk => by simp at hk; omega)).trans ((o3.out (fun k hk => by simp at hk; omega)).trans o4.m))⟩
    have hne : ¬ ii (cnZ o) = (-1 : Int32) := by
      rw [c]
      show ¬ ii y.2 = -1
      rw [il_m1, ii_eq (by omega) (by omega) (by omega) (by omega)]; omega
    rw [h.chk, ob_some, e1, ob_some]
    dsimp only
    rw [if_neg hne, m1.chk, ob_some, e2, ob_some, m2.chk, ob_some, e3, ob_some, if_neg hne]
    unfold f_X9_weights_b37
    dsimp only
    rw [m3.chk, ob_some, show f_X9_empties 95 0 g3 = _ from e4, ob_some, if_neg hne, c]
    rfl
end MNA
