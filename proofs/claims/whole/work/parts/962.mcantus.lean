/-! ===== the reference's calls: cantus, counterpoint, adopt ===== -/
abbrev St.emp (t : St) (e : Int) : St := (t.1, t.2.1, t.2.2.1, t.2.2.2.1, [], e, t.2.2.2.2.2.2)
def NoC (f : Nat → Int) (s : Sh) (x : List Int) (v : Nat) : Prop := f 0 = x.length ∧ f 1 = 0 ∧ f 2 = s.sp ∧ f 3 = s.bl ∧ (∀ j, j < 3 → f (4 + j) = lg s.st j) ∧ (∀ r, 1 ≤ r → r ≤ 16 → f (6 + r) = lg s.wt r) ∧ ∀ j, j < v → f (23 + j) = lg x j
def NoL (f : Nat → Int) (s : Sh) (x : List Int) (v : Nat) : Prop := f 0 = s.gv.length ∧ f 1 = x.length ∧ f 2 = s.sp ∧ f 3 = s.bl ∧ (∀ j, j < 3 → f (4 + j) = lg s.st j) ∧ (∀ r, 1 ≤ r → r ≤ 16 → f (6 + r) = lg s.wt r) ∧ (∀ j, j < s.gv.length → f (23 + j) = lg s.gv j) ∧ ∀ j, j < v → f (35 + j) = lg x j
section MCA
variable {hs : AH} {t : St} {th : Int}
theorem MoA.readLine (h : MoA hs t th) (k : CB t.buf) {least most : Nat} (hle : least ≤ 45) (hmo : most ≤ 45) (h1 : 1 ≤ most) {rest : Int} (hrest : rest = 0 ∨ rest = 1) :
    ∃ hs' l', f_X9_readLine 95 (ii least) (ii most) (ii rest) hs = some (ii (lnZ (rdLine t.buf rest least most).1), hs') ∧ MoA hs' t th ∧ gI hs' 95 9 9 = some (ii (rdLine t.buf rest least most).2) ∧ LisA hs' 100 45 l' ∧ rdGot (rdLine t.buf rest least most) l' ∧ Ou hs hs' [95, 100] := by
  obtain ⟨⟨x, M, a0, a3, a5, a7, a8, a12⟩, h2, h3, h4, h5, h6, h7, h8, h9, h10⟩ := h
  obtain ⟨g, l', e, r, R, w, o⟩ := RS.line k hle hmo h1 hrest M a7 h5 h7.nil
  refine ⟨g, l', e, ⟨⟨_, r.1, ?_, ?_, ?_, ?_, ?_, ?_⟩, h2.ou o (by decide), h3.ou o (by decide), h4.ou o (by decide), h5.ou o (by decide), h6.ou o (by decide), R.any, h8.ou o (by decide), h9.ou o (by decide), h10.ou o (by decide)⟩, ?_, R, w, o⟩
  · rw [uz_ne (by decide)]; exact a0
  · rw [uz_ne (by decide)]; exact a3
  · rw [uz_ne (by decide)]; exact a5
  · rw [uz_ne (by decide)]; exact a7
  · rw [uz_ne (by decide)]; exact a8
  · rw [uz_ne (by decide)]; exact a12
  · rw [r.1.i9, uz_eq]
theorem MoA.empt (h : MoA hs t th) {q : Int} (hq : gI hs 95 9 9 = some (ii q)) {v : Int} (hv : v = 0 ∨ v = 1) : ∃ g, f_X9_empties 95 (ii v) hs = some g ∧ MoA g (t.emp (if v = 0 then -1 else q)) th ∧ Ou hs g [95] := by
  have key : ∀ e : Int, ∃ g1 g2, pI hs 95 9 8 (ii e) = some g1 ∧ pI g1 95 9 7 0 = some g2 ∧ MoA g2 (t.emp e) th ∧ Ou hs g2 [95] := by
    intro e
    obtain ⟨⟨x, M, a0, a3, a5, a7, a8, a12⟩, h2, h3, h4, ⟨B, A, hB⟩, h6, h7, h8, h9, h10⟩ := h
    obtain ⟨g1, e1, M1, o1⟩ := M.put (k := 8) (by decide) e
    obtain ⟨g2, e2, M2, o2⟩ := M1.put (k := 7) (by decide) 0
    have o := o1.trans o2
    refine ⟨g1, g2, e1, e2, ⟨⟨_, M2, ?_, ?_, ?_, ?_, ?_, ?_⟩, h2.ou o (by decide), h3.ou o (by decide), h4.ou o (by decide), ⟨B, A.ou o (by decide), fun j hj => by cases hj⟩, h6.ou o (by decide), h7.ou o (by decide), h8.ou o (by decide), h9.ou o (by decide), h10.ou o (by decide)⟩, o⟩
    · rw [uz_ne (by decide), uz_ne (by decide)]; exact a0
    · rw [uz_ne (by decide), uz_ne (by decide)]; exact a3
    · rw [uz_ne (by decide), uz_ne (by decide)]; exact a5
    · rw [uz_eq]; rfl
    · rw [uz_ne (by decide), uz_eq]
    · rw [uz_ne (by decide), uz_ne (by decide)]; exact a12
  unfold f_X9_empties
  rcases hv with rfl | rfl
  · obtain ⟨g1, g2, e1, e2, m, o⟩ := key (-1)
    exact ⟨g2, by rw [if_pos (by rfl), il_m1, e1, ob_some, e2, ob_some], m, o⟩
  · obtain ⟨g1, g2, e1, e2, m, o⟩ := key q
    exact ⟨g2, by rw [if_neg (by decide +kernel), hq, ob_some, e1, ob_some, e2, ob_some], m, o⟩
theorem X9_ca_loop {s : Sh} {x : List Int} (hx : x.length ≤ 12) : ∀ (d m v : Nat) (hs : AH) (y N : Nat → Int), d < m → v + d = x.length → MO hs y → RA hs 96 80 N → LisA hs 100 45 x → NoC N s x v →
    ∃ hs' N', f_X9_cantus_b59 m 95 (ii x.length) (ii v) hs = some (ii x.length, hs') ∧ RA hs' 96 80 N' ∧ NoC N' s x x.length ∧ Ou hs hs' [96] := by
  intro d
  induction d with
  | zero =>
    intro m v hs y N hm hv M A R n
    obtain ⟨m, rfl⟩ : ∃ z, m = z + 1 := ⟨m - 1, by omega⟩
    obtain rfl : v = x.length := by omega
    exact ⟨hs, N, by rw [f_X9_cantus_b59.eq_2, if_pos (by rw [ii_le (by omega) (by omega) (by omega) (by omega)]; omega)], A, n, Ou.refl _ _⟩
  | succ d ih =>
    intro m v hs y N hm hv M A R n
    obtain ⟨m, rfl⟩ : ∃ z, m = z + 1 := ⟨m - 1, by omega⟩
    obtain ⟨g, e, A1, o⟩ := A.put (z := 23 + (v : Int)) (lg x v) (by omega) (by omega) (by omega)
    have o' := o.ou
    have hz : (23 + (v : Int)).toNat = 23 + v := by omega
    rw [hz] at A1
    obtain ⟨g2, N', e2, A2, n2, o2⟩ := ih m (v + 1) g y _ (by omega) (by omega) (M.ou o' (by decide)) A1 (R.ou o' (by decide)) (by
      obtain ⟨n0, n1, n3, n4, n5, n6, n7⟩ := n
      refine ⟨?_, ?_, ?_, ?_, fun j hj => ?_, fun r r1 r2 => ?_, fun j hj => ?_⟩
      · rw [updZ_ne (by omega)]; exact n0
      · rw [updZ_ne (by omega)]; exact n1
      · rw [updZ_ne (by omega)]; exact n3
      · rw [updZ_ne (by omega)]; exact n4
      · rw [updZ_ne (by omega)]; exact n5 j hj
      · rw [updZ_ne (by omega)]; exact n6 r r1 r2
      · by_cases c : j = v
        · rw [c, updZ_eq]
        · rw [updZ_ne (by omega)]; exact n7 j (by omega))
    refine ⟨g2, N', ?_, A2, n2, o'.trans o2⟩
    rw [f_X9_cantus_b59.eq_2, if_neg (by rw [ii_le (by omega) (by omega) (by omega) (by omega)]; omega), M.r1, ob_some, M.r10, ob_some, R.get (by omega) (by omega) (by omega) (by omega), ob_some, Int.toNat_natCast, show (23 : Int32) = ii 23 from rfl, ii_add, e, ob_some, il_1, ii_add]
    exact e2
theorem NoC.lo {f : Nat → Int} {s : Sh} {x : List Int} (n : NoC f s x x.length) : LoA f (x, [], s.sp, s.bl, s.st, s.wt) := by
  obtain ⟨n0, n1, n3, n4, n5, n6, n7⟩ := n
  exact ⟨⟨n0, n3, n4, n5, n6, n7, fun j hj => by cases hj⟩, n1⟩
theorem NoL.lo {f : Nat → Int} {s : Sh} {x : List Int} (n : NoL f s x x.length) : LoA f (wm s x) := by
  obtain ⟨n0, n1, n3, n4, n5, n6, n7, n8⟩ := n
  exact ⟨⟨n0, n3, n4, n5, n6, n7, n8⟩, n1⟩
theorem NoL.of {f : Nat → Int} {s : Sh} {x : List Int} (n : LoA f s) : NoL (updZ f 1 x.length) s x 0 := by
  obtain ⟨⟨n0, n2, n3, n4, n5, n6, n7⟩, n1⟩ := n
  refine ⟨?_, updZ_eq _ _ _, ?_, ?_, fun j hj => ?_, fun r r1 r2 => ?_, fun j hj => ?_, fun j hj => by omega⟩ <;> rw [updZ_ne (by omega)]
  · exact n0
  · exact n2
  · exact n3
  · exact n4 j hj
  · exact n5 r r1 r2
  · exact n6 j hj
theorem NoL.step {f : Nat → Int} {s : Sh} {x : List Int} {v : Nat} (n : NoL f s x v) (gl : s.gv.length ≤ 12) : NoL (updZ f (35 + v) (lg x v)) s x (v + 1) := by
  obtain ⟨n0, n1, n3, n4, n5, n6, n7, n8⟩ := n
  refine ⟨?_, ?_, ?_, ?_, fun j hj => ?_, fun r r1 r2 => ?_, fun j hj => ?_, fun j hj => ?_⟩
  · rw [updZ_ne (by omega)]; exact n0
  · rw [updZ_ne (by omega)]; exact n1
  · rw [updZ_ne (by omega)]; exact n3
  · rw [updZ_ne (by omega)]; exact n4
  · rw [updZ_ne (by omega)]; exact n5 j hj
  · rw [updZ_ne (by omega)]; exact n6 r r1 r2
  · rw [updZ_ne (by omega)]; exact n7 j hj
  · by_cases c : j = v
    · rw [c, updZ_eq]
    · rw [updZ_ne (by omega)]; exact n8 j (by omega)
theorem X9_cp_loop {s : Sh} (gl : s.gv.length ≤ 12) {x : List Int} (hx : x.length ≤ 45) : ∀ (d m v : Nat) (hs : AH) (y N : Nat → Int), d < m → v + d = x.length → MO hs y → RA hs 96 80 N → LisA hs 100 45 x → NoL N s x v →
    ∃ hs' N', f_X9_counterpoint_b96 m 95 (ii x.length) (ii v) hs = ((chk hs' 95 9).bind fun _ => (f_X9_faultsNow 95 hs').bind fun q2 => some (q2.1, q2.2)) ∧ RA hs' 96 80 N' ∧ NoL N' s x x.length ∧ Ou hs hs' [96] := by
  intro d
  induction d with
  | zero =>
    intro m v hs y N hm hv M A R n
    obtain ⟨m, rfl⟩ : ∃ z, m = z + 1 := ⟨m - 1, by omega⟩
    obtain rfl : v = x.length := by omega
    exact ⟨hs, N, by rw [f_X9_counterpoint_b96.eq_2, if_pos (by rw [ii_le (by omega) (by omega) (by omega) (by omega)]; omega)], A, n, Ou.refl _ _⟩
  | succ d ih =>
    intro m v hs y N hm hv M A R n
    obtain ⟨m, rfl⟩ : ∃ z, m = z + 1 := ⟨m - 1, by omega⟩
    obtain ⟨g, e, A1, o⟩ := A.put (z := 35 + (v : Int)) (lg x v) (by omega) (by omega) (by omega)
    have o' := o.ou
    have hz : (35 + (v : Int)).toNat = 35 + v := by omega
    rw [hz] at A1
    obtain ⟨g2, N', e2, A2, n2, o2⟩ := ih m (v + 1) g y _ (by omega) (by omega) (M.ou o' (by decide)) A1 (R.ou o' (by decide)) (n.step gl)
    refine ⟨g2, N', ?_, A2, n2, o'.trans o2⟩
    rw [f_X9_counterpoint_b96.eq_2, if_neg (by rw [ii_le (by omega) (by omega) (by omega) (by omega)]; omega), M.r1, ob_some, M.r10, ob_some, R.get (by omega) (by omega) (by omega) (by omega), ob_some, Int.toNat_natCast, show (35 : Int32) = ii 35 from rfl, ii_add, e, ob_some, il_1, ii_add]
    exact e2
theorem X9_ad_loop {s : Sh} (gl : s.gv.length ≤ 12) {x : List Int} (hx : x.length ≤ 12) : ∀ (d m v : Nat) (hs : AH) (y N : Nat → Int), d < m → v + d = x.length → MO hs y → y 12 = x.length → RA hs 96 80 N → LisA hs 101 12 x → NoL N s x v →
    ∃ hs' N', f_X9_adopt_b72 m 95 (ii v) hs = ((chk hs' 95 9).bind fun _ => (f_X9_faultsNow 95 hs').bind fun q2 => some (q2.1, q2.2)) ∧ RA hs' 96 80 N' ∧ NoL N' s x x.length ∧ Ou hs hs' [96] := by
  intro d
  induction d with
  | zero =>
    intro m v hs y N hm hv M hy A R n
    obtain ⟨m, rfl⟩ : ∃ z, m = z + 1 := ⟨m - 1, by omega⟩
    obtain rfl : v = x.length := by omega
    exact ⟨hs, N, by rw [f_X9_adopt_b72.eq_2, M.i12, hy, ob_some, if_pos (by rw [ii_le (by omega) (by omega) (by omega) (by omega)]; omega)], A, n, Ou.refl _ _⟩
  | succ d ih =>
    intro m v hs y N hm hv M hy A R n
    obtain ⟨m, rfl⟩ : ∃ z, m = z + 1 := ⟨m - 1, by omega⟩
    obtain ⟨g, e, A1, o⟩ := A.put (z := 35 + (v : Int)) (lg x v) (by omega) (by omega) (by omega)
    have o' := o.ou
    have hz : (35 + (v : Int)).toNat = 35 + v := by omega
    rw [hz] at A1
    obtain ⟨g2, N', e2, A2, n2, o2⟩ := ih m (v + 1) g y _ (by omega) (by omega) (M.ou o' (by decide)) hy A1 (R.ou o' (by decide)) (n.step gl)
    refine ⟨g2, N', ?_, A2, n2, o'.trans o2⟩
    rw [f_X9_adopt_b72.eq_2, M.i12, hy, ob_some, if_neg (by rw [ii_le (by omega) (by omega) (by omega) (by omega)]; omega), M.r1, ob_some, M.r11, ob_some, R.get (by omega) (by omega) (by omega) (by omega), ob_some, Int.toNat_natCast, show (35 : Int32) = ii 35 from rfl, ii_add, e, ob_some, il_1, ii_add]
    exact e2
theorem StOK.cb (k : StOK t) : CB t.buf := ⟨k.2.2.2.2.2.1, k.2.2.2.2.2.2.1⟩
theorem X9_cantus (k : StOK t) :
    ((rdLine t.buf 0 2 12).1 = none → M9 (f_X9_cantus 95) [1] (.inr 1) t (t.emp (rdLine t.buf 0 2 12).2)) ∧
    (∀ x, (rdLine t.buf 0 2 12).1 = some x → M9 (f_X9_cantus 95) [1] (.inl x.length) t ((x, [], t.now.sp, t.now.bl, t.now.st, t.now.wt), t.2.1, t.2.2.1, kpt t.his t.now, [], -1, t.2.2.2.2.2.2)) := by
  constructor
  · intro c
    refine M9.of (fun hs => rfl) (fun hs h => ?_)
    obtain ⟨g1, l, e1, m1, q1, R1, w1, o1⟩ := h.readLine k.cb (least := 2) (most := 12) (by omega) (by omega) (by omega) (rest := 0) (Or.inl rfl)
    rw [c] at e1
    obtain ⟨g2, e2, m2, o2⟩ := m1.empt q1 (v := 1) (Or.inr rfl)
    rw [if_neg (by omega)] at m2
    obtain ⟨g3, e3, m3, o3⟩ := m2.fail 1
    refine ⟨g3, ?_, m3, (o1.out (fun k hk => by simp at hk; omega)).trans ((o2.m).trans o3)⟩
    rw [h.chk, ob_some, show f_X9_readLine 95 2 12 0 hs = _ from e1, ob_some]
    dsimp only
    rw [if_pos (by rfl)]
    unfold f_X9_cantus_b25
    rw [m1.chk, ob_some, show f_X9_empties 95 1 g1 = _ from e2, ob_some, if_pos (by rfl), m2.chk, ob_some]
    exact e3
  · intro x c
    refine M9.of (fun hs => rfl) (fun hs h => ?_)
    obtain ⟨xv, x2, x12⟩ := rdLine_ok c (by omega)
    obtain ⟨g1, l, e1, m1, q1, R1, w1, o1⟩ := h.readLine k.cb (least := 2) (most := 12) (by omega) (by omega) (by omega) (rest := 0) (Or.inl rfl)
    have hlx : l = x := w1 x c
    rw [c] at e1
    rw [hlx] at R1
    obtain ⟨g2, e2, m2, o2⟩ := m1.empt q1 (v := 0) (Or.inl rfl)
    rw [if_pos rfl] at m2
    have R2 := R1.ou o2 (by decide)
    obtain ⟨g3, e3, m3, o3⟩ := m2.changes k.1.1 k.2.2.2.1 k.kh
    have R3 := R2.ou o3 (by decide)
    obtain ⟨⟨y, M, ay⟩, ⟨N, A, n⟩, -⟩ := id m3
    obtain ⟨g4, e4, A4, o4⟩ := A.put (z := 0) (x.length : Int) (by omega) (by omega) (by omega)
    have M4 := M.ou o4.ou (by decide)
    obtain ⟨g5, e5, A5, o5⟩ := A4.put (z := 1) 0 (by omega) (by omega) (by omega)
    have M5 := M4.ou o5.ou (by decide)
    have O5 : Ou g3 g5 [96] := o4.ou.trans o5.ou
    have n5 : NoC (updZ (updZ N 0 x.length) 1 0) t.now x 0 := by
      obtain ⟨⟨n0, n2, n3, n4, n5, n6, n7⟩, n1⟩ := n
      refine ⟨?_, updZ_eq _ _ _, ?_, ?_, fun j hj => ?_, fun r r1 r2 => ?_, fun j hj => by omega⟩
      · rw [updZ_ne (by omega), updZ_eq]
      · rw [updZ_ne (by omega), updZ_ne (by omega)]; exact n2
      · rw [updZ_ne (by omega), updZ_ne (by omega)]; exact n3
      · rw [updZ_ne (by omega), updZ_ne (by omega)]; exact n4 j hj
      · rw [updZ_ne (by omega), updZ_ne (by omega)]; exact n5 r r1 r2
    obtain ⟨g6, N6, e6, A6, n6, o6⟩ := X9_ca_loop x12 x.length FUEL 0 g5 y _ (by unfold FUEL; omega) (by omega) M5 A5 (R3.ou O5 (by decide)) n5
    have m6 := m3.setNow A6 n6.lo (O5.trans o6)
    refine ⟨g6, ?_, m6, (o1.out (fun k hk => by simp at hk; omega)).trans ((o2.m).trans ((o3.out (fun k hk => by simp at hk; omega)).trans ((O5.trans o6).out (fun k hk => by simp at hk; omega))))⟩
    rw [h.chk, ob_some, show f_X9_readLine 95 2 12 0 hs = _ from e1, ob_some]
    dsimp only
    have hne : ¬ ii (lnZ (some x)) = (-1 : Int32) := by
      show ¬ ii (x.length : Int) = -1
      rw [il_m1, ii_eq (by omega) (by omega) (by omega) (by omega)]; omega
    rw [if_neg hne]
    unfold f_X9_cantus_b25
    rw [m1.chk, ob_some, show f_X9_empties 95 0 g1 = _ from e2, ob_some, if_neg hne, m2.chk, ob_some, e3, ob_some, M.r1, ob_some, show sN 0 g3 96 0 (ii (lnZ (some x))) = _ from e4, ob_some, M4.r1, ob_some, show sN 0 g4 96 1 0 = _ from e5, ob_some]
    exact e6
end MCA
