/-! ===== bits of motions and of the mean: both programs ===== -/
theorem moG_le (s : Sh) (kind b : Int) : moG s kind b ≤ moG s (-1) b := by
  unfold moG
  by_cases c : motC s b = -1
  · rw [if_pos c, if_pos c]; omega
  · rw [if_neg c, if_neg c, if_pos (show (-1 : Int) = -1 from rfl)]
    by_cases d : kind = -1
    · rw [if_pos d]; omega
    · rw [if_neg d]
      by_cases e : kind = motC s b
      · rw [if_pos e]; omega
      · rw [if_neg e]; omega
theorem sumM_le (s : Sh) (kind : Int) : ∀ n, sumM s kind n ≤ sumM s (-1) n
  | 0 => Int.le_refl _
  | n + 1 => by
    have := sumM_le s kind n
    have := moG_le s kind n
    show sumM s kind n + moG s kind n ≤ sumM s (-1) n + moG s (-1) n
    omega
noncomputable def opContrary (s : Sh) : Int ⊕ Nat := if s.md.length = 0 then .inr 2 else if sumM s (-1) (s.gv.length - 1) = 0 then .inr 5 else .inl (cbZ (sumM s 2 (s.gv.length - 1)) (sumM s (-1) (s.gv.length - 1)))
/-- the widths' sum and the notes' number, to a place -/
def smW (s : Sh) : Nat → Int
  | 0 => 0
  | p + 1 => if lat s.md p = -1 then smW s p else smW s p + (har s p).2.2.1
def smC (s : Sh) : Nat → Int
  | 0 => 0
  | p + 1 => if lat s.md p = -1 then smC s p else smC s p + 1
theorem smW_b {s : Sh} (k : SOK s) : ∀ p : Nat, 0 ≤ smW s p ∧ smW s p ≤ 80 * p
  | 0 => ⟨Int.le_refl _, Int.le_refl _⟩
  | p + 1 => by
    have ih := smW_b k p
    have B : (0 ≤ (har s p).2.2.1 ∧ (har s p).2.2.1 ≤ 80) := (spn_b (k.gvb _) (k.mdb _)).2.2.1
    unfold smW
    by_cases c : lat s.md p = -1
    · rw [if_pos c]; omega
    · rw [if_neg c]; omega
theorem smC_b {s : Sh} : ∀ p : Nat, 0 ≤ smC s p ∧ smC s p ≤ p
  | 0 => ⟨Int.le_refl _, Int.le_refl _⟩
  | p + 1 => by
    have ih := smC_b (s := s) p
    unfold smC
    by_cases c : lat s.md p = -1
    · rw [if_pos c]; omega
    · rw [if_neg c]; omega
theorem smC_pos {s : Sh} (k : Full s) (hm : ¬ s.md.length = 0) : 1 ≤ smC s s.md.length := by
  have q := k.wl hm
  have h3 : (s.md.length : Int) = ((s.gv.length : Int) - 1) * per s.sp + 1 := by
    rcases k.2.2.1 with z | z
    · exact absurd z hm
    · exact z.2
  have g2 := k.two hm
  have l2 : 2 ≤ s.md.length := by rcases per_3 s.sp with z | z | z <;> rw [z] at h3 <;> omega
  obtain ⟨n, hn⟩ : ∃ n, s.md.length = n + 1 := ⟨s.md.length - 1, by omega⟩
  have c : lat s.md n ≠ -1 := by
    rw [lat_nat]
    intro e
    have := q.1 n (by omega) e
    omega
  have b := smC_b (s := s) n
  rw [hn]
  unfold smC
  rw [if_neg c]; omega
/-- the mean's bits -/
def mbZ (s : Sh) : Int64 := if smW s s.md.length = 0 then 0 else ll (mV (smW s s.md.length).toNat (smC s s.md.length).toNat)
section BITS
variable {hs : AH} {t : St}
theorem X8_contrary (h : CoA hs t) (k : Full t.now) : ∃ hs', f_X8_contraryBits 0 hs = some (cvR (opContrary t.now), hs') ∧ CoA hs' t ∧ Out hs hs' 0 95 := by
  have gl := k.1.gl
  unfold f_X8_contraryBits opContrary
  rw [h.chk, ob_some, X8_requireCounterpoint h k.1]
  by_cases c : t.now.md.length = 0
  · rw [if_pos c, if_pos c]
    exact ⟨hs, rfl, h, Out.refl _ _ _⟩
  · have g2 := k.two c
    rw [if_neg c, if_neg c, xb_l]
    have hh := h
    obtain ⟨-, ⟨x, sp, j⟩, -⟩ := h
    obtain ⟨g1, sp1, e1, j1, o1⟩ := X1_motionsOf k.1 (kind := -1) (by omega) (by omega) j
    have q1 := hh.setJ j1 o1
    have b1 := sumM_b t.now (-1) (t.now.gv.length - 1)
    have b2 := sumM_b t.now 2 (t.now.gv.length - 1)
    have b3 := sumM_le t.now 2 (t.now.gv.length - 1)
    rw [hh.r0, ob_some, j.chk, ob_some, show f_X1_motionsOf 1 (-1) hs = _ from e1, ob_some]
    dsimp only
    by_cases d : sumM t.now (-1) (t.now.gv.length - 1) = 0
    · rw [if_pos (by rw [d]; rfl), if_pos d]
      exact ⟨g1, rfl, q1, o1.mono (by omega) (by omega)⟩
    · rw [if_neg (by rw [il_0, ii_eq (by omega) (by omega) (by omega) (by omega)]; exact d), if_neg d]
      obtain ⟨g2, sp2, e2, j2, o2⟩ := X1_motionsOf k.1 (kind := 2) (by omega) (by omega) j1
      have q2 := q1.setJ j2 o2
      refine ⟨g2, ?_, q2, (o1.mono (by omega) (by omega)).trans (o2.mono (by omega) (by omega))⟩
      rw [q1.r0, ob_some, j1.chk, ob_some, show f_X1_motionsOf 1 2 g1 = _ from e2, ob_some]
      dsimp only
      obtain ⟨t1, t2⟩ := cb_tab ⟨(sumM t.now 2 (t.now.gv.length - 1)).toNat, by omega⟩ ⟨(sumM t.now (-1) (t.now.gv.length - 1)).toNat, by omega⟩ (by dsimp only; omega) (by dsimp only; omega)
      dsimp only at t1
      rw [show (((sumM t.now 2 (t.now.gv.length - 1)).toNat : Nat) : Int) = sumM t.now 2 (t.now.gv.length - 1) by omega, show (((sumM t.now (-1) (t.now.gv.length - 1)).toNat : Nat) : Int) = sumM t.now (-1) (t.now.gv.length - 1) by omega] at t1
      obtain ⟨z, hz⟩ := Option.isSome_iff_exists.1 t1
      unfold cbZ
      rw [hz, ob_some]
      show some (Sum.inl (Int64.toInt32 z), g2) = some (.inl (ii (Int64.toInt32 z).toInt), g2)
      rw [ii_of]
theorem X9_contrary (k : Full t.now) : M9 (f_X9_contraryBits 95) [2, 5] (opContrary t.now) t t := by
  have gl := k.1.gl
  refine M9.of (fun hs => rfl) (fun hs h => ?_)
  obtain ⟨f, nw, n, h1⟩ := h.nw
  unfold opContrary
  rw [h.chk, ob_some, X9_hasLine nw h1 k.1.ml, ob_some]
  by_cases e : t.now.md.length = 0
  · rw [if_pos e, if_pos e, if_pos (by rfl), ob_some]
    exact h.fail 1
  · have b1 := sumM_b t.now (-1) (t.now.gv.length - 1)
    have b2 := sumM_b t.now 2 (t.now.gv.length - 1)
    have b3 := sumM_le t.now 2 (t.now.gv.length - 1)
    rw [if_neg e, if_neg e, if_neg (by decide +kernel), ob_some, il_m1, X9_motionsOf nw n k e (kind := -1) (by omega), ob_some]
    by_cases d : sumM t.now (-1) (t.now.gv.length - 1) = 0
    · rw [if_pos (by rw [d]; rfl), if_pos d, ob_some]
      exact h.fail 2
    · rw [if_neg (by rw [il_0, ii_eq (by omega) (by omega) (by omega) (by omega)]; exact d), if_neg d, ob_some, il_2, X9_motionsOf nw n k e (kind := 2) (by omega), ob_some]
      obtain ⟨t1, t2⟩ := cb_tab ⟨(sumM t.now 2 (t.now.gv.length - 1)).toNat, by omega⟩ ⟨(sumM t.now (-1) (t.now.gv.length - 1)).toNat, by omega⟩ (by dsimp only; omega) (by dsimp only; omega)
      dsimp only at t2
      rw [show (((sumM t.now 2 (t.now.gv.length - 1)).toNat : Nat) : Int) = sumM t.now 2 (t.now.gv.length - 1) by omega, show (((sumM t.now (-1) (t.now.gv.length - 1)).toNat : Nat) : Int) = sumM t.now (-1) (t.now.gv.length - 1) by omega] at t2
      refine ⟨hs, ?_, h, Out.refl _ _ _⟩
      show _ = some (ii (cbZ (sumM t.now 2 (t.now.gv.length - 1)) (sumM t.now (-1) (t.now.gv.length - 1))), hs)
      unfold cbZ
      rw [ii_of]
      cases hz : fdv (FP.i2f (ii (sumM t.now 2 (t.now.gv.length - 1)))) (FP.i2f (ii (sumM t.now (-1) (t.now.gv.length - 1)))) with
      | none => rw [hz] at t2; cases t2
      | some z =>
        rw [hz, ob_some] at t2
        rw [ob_some, t2, ob_some]
theorem X8_mean_loop (k : Full t.now) (hm : ¬ t.now.md.length = 0) : ∀ (d n p : Nat) (hs : AH), d < n → p + d = t.now.md.length → CoA hs t → ∃ hs', f_X8_meanBits_b10 n 0 (ii (smW t.now p)) (ii (smC t.now p)) (ii p) hs = some (.inl (mbZ t.now), hs') ∧ CoA hs' t ∧ Out hs hs' 0 95 := by
  have ml := k.1.ml
  intro d
  induction d with
  | zero =>
    intro n p hs hn hp h
    obtain ⟨n, rfl⟩ : ∃ z, n = z + 1 := ⟨n - 1, by omega⟩
    obtain rfl : p = t.now.md.length := by omega
    have wb := smW_b k.1 t.now.md.length
    have cb := smC_b (s := t.now) t.now.md.length
    have cp := smC_pos k hm
    refine ⟨hs, ?_, h, Out.refl _ _ _⟩
    have Q := X8_quot (a := (smW t.now t.now.md.length).toNat) (b := (smC t.now t.now.md.length).toNat) (by omega) (by omega) (by omega)
    rw [show (((smW t.now t.now.md.length).toNat : Nat) : Int) = smW t.now t.now.md.length by omega, show (((smC t.now t.now.md.length).toNat : Nat) : Int) = smC t.now t.now.md.length by omega] at Q
    rw [f_X8_meanBits_b10.eq_2, h.r1, ob_some, h.sh.m, ob_some, h.sh.2.2.1.chk, ob_some, X2_size h.sh.2.2.1, ob_some, if_pos (by rw [ii_le (by omega) (by omega) (by omega) (by omega)]; omega), Q, ob_some]
    unfold mbZ
    by_cases c : smW t.now t.now.md.length = 0
    · rw [if_pos c, if_pos (by omega)]
    · rw [if_neg c, if_neg (by omega)]
  | succ d ih =>
    intro n p hs hn hp h
    obtain ⟨n, rfl⟩ : ∃ z, n = z + 1 := ⟨n - 1, by omega⟩
    have mb := k.1.mdi (p : Int)
    have e1 : ii (p : Int) + 1 = ii ((p + 1 : Nat) : Int) := by rw [il_1, ii_add]; rfl
    rw [f_X8_meanBits_b10.eq_2, h.r1, ob_some, h.sh.m, ob_some, h.sh.2.2.1.chk, ob_some, X2_size h.sh.2.2.1, ob_some, if_neg (by rw [ii_le (by omega) (by omega) (by omega) (by omega)]; omega), ob_some, h.sh.m, ob_some, h.sh.2.2.1.chk, ob_some, X2_at h.sh.2.2.1 (by omega) (by omega), ob_some, e1]
    by_cases c : lat t.now.md p = -1
    · have I := ih n (p + 1) hs (by omega) (by omega) h
      rw [show smW t.now (p + 1) = smW t.now p from if_pos c, show smC t.now (p + 1) = smC t.now p from if_pos c] at I
      rw [if_pos (by rw [c]; rfl)]
      exact I
    · have hh := h
      obtain ⟨-, ⟨x, sp, j⟩, -⟩ := h
      obtain ⟨g1, f1, j1, o1⟩ := X1_harmonyAt k.1 j (z := (p : Int)) (by omega) (by omega)
      have q1 : CoA g1 t := hh.setJ j1 o1
      have S : SpA g1 9 (har t.now p) := by have := j1.2.2 0 (by decide); rw [us_eq] at this; exact this
      obtain ⟨g2, f2, q2, o2⟩ := ih n (p + 1) g1 (by omega) (by omega) q1
      rw [show smW t.now (p + 1) = smW t.now p + (har t.now p).2.2.1 from if_neg c, show smC t.now (p + 1) = smC t.now p + 1 from if_neg c, ← ii_add, ← ii_add, ← il_1] at f2
      refine ⟨g2, ?_, q2, (o1.mono (by omega) (by omega)).trans o2⟩
      rw [if_neg (by rw [il_m1, ii_eq (by omega) (by omega) (by omega) (by omega)]; exact c), hh.r0, ob_some, j.chk, ob_some, f1, ob_some]
      dsimp only
      rw [S.chk, ob_some, X7_width S, ob_some]
      exact f2
theorem X8_mean (h : CoA hs t) (k : Full t.now) : (t.now.md.length = 0 → f_X8_meanBits 0 hs = some (.inr 2, hs)) ∧ (¬ t.now.md.length = 0 → ∃ hs', f_X8_meanBits 0 hs = some (.inl (mbZ t.now), hs') ∧ CoA hs' t ∧ Out hs hs' 0 95) := by
  unfold f_X8_meanBits
  rw [h.chk, ob_some, X8_requireCounterpoint h k.1]
  refine ⟨fun c => by rw [if_pos c]; rfl, fun c => ?_⟩
  rw [if_neg c, xb_l]
  exact X8_mean_loop k c t.now.md.length FUEL 0 hs (by have := k.1.ml; unfold FUEL; omega) (by omega) h
theorem X9_mean_loop {f : Nat → Int} {s : Sh} (w : NW hs f) (n : NoA f s) (h1 : f 1 = s.md.length) (k : Full s) (hm : ¬ s.md.length = 0) : ∀ (d m p : Nat), d < m → p + d = s.md.length → f_X9_meanBits_b25 m 95 (ii (smW s p)) (ii (smC s p)) (ii p) hs = some (mbZ s, hs) := by
  have ml := k.1.ml
  have q := k.wl hm
  intro d
  induction d with
  | zero =>
    intro m p hn hp
    obtain ⟨m, rfl⟩ : ∃ z, m = z + 1 := ⟨m - 1, by omega⟩
    obtain rfl : p = s.md.length := by omega
    have wb := smW_b k.1 s.md.length
    have cb := smC_b (s := s) s.md.length
    have cp := smC_pos k hm
    have Q := ddv_bits (a := (smW s s.md.length).toNat) (b := (smC s s.md.length).toNat) (by omega) (by omega) (by omega)
    rw [show (((smW s s.md.length).toNat : Nat) : Int) = smW s s.md.length by omega, show (((smC s s.md.length).toNat : Nat) : Int) = smC s s.md.length by omega] at Q
    rw [f_X9_meanBits_b25.eq_2, w.2.1, ob_some, w.k1, h1, ob_some, if_pos (by rw [ii_le (by omega) (by omega) (by omega) (by omega)]; omega)]
    cases hz : ddv (FP.i2d (ii (smW s s.md.length))) (FP.i2d (ii (smC s s.md.length))) with
    | none => rw [hz] at Q; cases Q
    | some z =>
      rw [hz, ob_some] at Q
      rw [ob_some, Q, ob_some]
      unfold mbZ
      by_cases c : smW s s.md.length = 0
      · rw [if_pos c, if_pos (by omega)]
      · rw [if_neg c, if_neg (by omega)]
  | succ d ih =>
    intro m p hn hp
    obtain ⟨m, rfl⟩ : ∃ z, m = z + 1 := ⟨m - 1, by omega⟩
    have e1 : ii (p : Int) + 1 = ii ((p + 1 : Nat) : Int) := by rw [il_1, ii_add]; rfl
    have mb := k.1.mdb (p : Int)
    have I := ih m (p + 1) (by omega) (by omega)
    obtain ⟨v0, v1, -⟩ := barb (s := s) (p := (p : Int)) (by omega) (by omega)
    obtain ⟨c0, g0⟩ := w.cn n k.1 v0 (q.2.1 p (by omega) (by omega))
    rw [f_X9_meanBits_b25.eq_2, w.2.1, ob_some, w.k1, h1, ob_some, if_neg (by rw [ii_le (by omega) (by omega) (by omega) (by omega)]; omega), w.1, ob_some, X9_line w n (by omega) (by omega) ml, ob_some, e1]
    by_cases c : lat s.md p = -1
    · rw [show smW s (p + 1) = smW s p from if_pos c, show smC s (p + 1) = smC s p from if_pos c] at I
      rw [if_pos (by rw [c]; rfl)]
      exact I
    · have nn : 42 ≤ lat s.md p ∧ lat s.md p ≤ 146 := by omega
      have hh := har_on k.1 q (p := (p : Int)) c
      rw [show smW s (p + 1) = smW s p + (har s p).2.2.1 from if_neg c, show smC s (p + 1) = smC s p + 1 from if_neg c, ← ii_add, ← ii_add, ← il_1, hh] at I
      rw [if_neg (by rw [il_m1, ii_eq (by omega) (by omega) (by omega) (by omega)]; omega)]
      simp only [↓ob_some, ↓ob_of (w.1), ↓ob_of (X9_line w n (show 0 ≤ (p : Int) by omega) (show (p : Int) < s.md.length by omega) ml), ↓ob_of (X9_barOf w n k.1 (show 0 ≤ (p : Int) by omega) (show (p : Int) ≤ 100 by omega)), ↓ob_of (c0), ↓ob_of (X9_width nn g0)]
      rw [wid_comm]
      exact I
theorem X9_mean (k : Full t.now) {th : Int} (h : MoA hs t th) : (t.now.md.length = 0 → ∃ hs', f_X9_meanBits 95 hs = some (ll 0, hs') ∧ MoA hs' t 1 ∧ Out hs hs' 95 10) ∧ (¬ t.now.md.length = 0 → ∃ hs', f_X9_meanBits 95 hs = some (mbZ t.now, hs') ∧ MoA hs' t 0 ∧ Out hs hs' 95 10) := by
  obtain ⟨g1, e1, m1, o1⟩ := h.begin
  obtain ⟨f, nw, n, h1⟩ := m1.nw
  unfold f_X9_meanBits
  rw [e1, ob_some, m1.chk, ob_some, X9_hasLine nw h1 k.1.ml, ob_some]
  constructor
  · intro e
    obtain ⟨g2, e2, m2, o2⟩ := m1.raise 1
    refine ⟨g2, ?_, m2, o1.m.trans o2.m⟩
    rw [if_pos e, if_pos (by rfl), ob_some, show f_X9_raises 95 1 g1 = _ from e2, ob_some]
    rfl
  · intro e
    refine ⟨g1, ?_, m1, o1.m⟩
    rw [if_neg e, if_neg (by decide +kernel)]
    exact X9_mean_loop nw n h1 k e t.now.md.length FUEL 0 (by have := k.1.ml; unfold FUEL; omega) (by omega)
end BITS
