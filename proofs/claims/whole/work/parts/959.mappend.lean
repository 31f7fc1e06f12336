/-! ===== the reference's calls: append ===== -/
theorem shr_eq (x : BitVec 32) (n : Nat) (hn : n ≤ 24) : (x >>> n) &&& 255#32 = (x.sshiftRight n) &&& 255#32 := by
  refine BitVec.eq_of_getLsbD_eq (fun i hi => ?_)
  rw [BitVec.getLsbD_and, BitVec.getLsbD_and, BitVec.getLsbD_ushiftRight, BitVec.getLsbD_sshiftRight]
  by_cases c : i < 8
  · have : ¬ 32 ≤ i := by omega
    simp [this, show n + i < 32 by omega]
  · have h : (255#32).getLsbD i = false := by
      have : ∀ j : Fin 32, 8 ≤ j.1 → (255#32).getLsbD j.1 = false := by decide
      exact this ⟨i, hi⟩ (by dsimp only; omega)
    rw [h, Bool.and_false, Bool.and_false]
theorem ush_eq (v : Int32) (k : Fin 4) : iushr v (ii (8 * (k.1 : Int))) &&& 255 = (v >>> (ii (8 * (k.1 : Int)) &&& 31)) &&& 255 := by
  have hk := shr_eq v.toBitVec (8 * k.1) (by have := k.2; omega)
  have h1 : (iushr v (ii (8 * (k.1 : Int)))).toBitVec = v.toBitVec >>> (8 * k.1) := by
    unfold iushr
    match k with
    | 0 => rfl
    | 1 => rfl
    | 2 => rfl
    | 3 => rfl
  have h2 : (v >>> (ii (8 * (k.1 : Int)) &&& 31)).toBitVec = v.toBitVec.sshiftRight (8 * k.1) := by
    match k with
    | 0 => rfl
    | 1 => rfl
    | 2 => rfl
    | 3 => rfl
  apply Int32.toBitVec_inj.1
  rw [Int32.toBitVec_and, Int32.toBitVec_and, h1, h2]
  exact hk
theorem ush_ii (v : Int32) {k : Nat} (hk : k < 4) : iushr v (ii (8 * (k : Int))) &&& 255 = ii (byt v k) := by
  rw [ush_eq v ⟨k, hk⟩, byt_ii]
abbrev St.wbuf (t : St) (b : List Int) : St := (t.1, t.2.1, t.2.2.1, t.2.2.2.1, b, t.2.2.2.2.2)
section MAP
variable {hs : AH} {t : St} {th : Int}
theorem MoA.pushBuf (h : MoA hs t th) (hl : t.buf.length < 180) (v : Int) : ∃ g1 g2, pI hs 95 9 7 (ii t.buf.length + 1) = some g1 ∧ sN 0 g1 99 (ii t.buf.length) (ii v) = some g2 ∧ MoA g2 (t.wbuf (t.buf ++ [v])) th ∧ Ou hs g2 [95, 99] := by
  obtain ⟨⟨x, M, a0, a3, a5, a7, a8, a12⟩, h2, h3, h4, ⟨B, A, hB⟩, h6, h7, h8, h9, h10⟩ := h
  obtain ⟨g1, e1, M1, o1⟩ := M.put (k := 7) (by decide) ((t.buf.length : Int) + 1)
  have A1 := A.ou o1 (by decide)
  obtain ⟨g2, e2, A2, o2⟩ := A1.put (z := (t.buf.length : Int)) v (by omega) (by omega) (by omega)
  have o2' := o2.ou
  have o : Ou hs g2 [95, 99] := (o1.mono (by decide)).trans (o2'.mono (by decide))
  refine ⟨g1, g2, by rw [il_1, ii_add]; exact e1, e2, ⟨⟨_, M1.ou o2' (by decide), ?_, ?_, ?_, ?_, ?_, ?_⟩, h2.ou o (by decide), h3.ou o (by decide), h4.ou o (by decide), ⟨_, A2, fun j hj => ?_⟩, h6.ou o (by decide), h7.ou o (by decide), h8.ou o (by decide), h9.ou o (by decide), h10.ou o (by decide)⟩, o⟩
  · rw [uz_ne (by decide)]; exact a0
  · rw [uz_ne (by decide)]; exact a3
  · rw [uz_ne (by decide)]; exact a5
  · rw [uz_eq]
    show (t.buf.length : Int) + 1 = ((t.buf ++ [v]).length : Nat)
    rw [List.length_append]; rfl
  · rw [uz_ne (by decide)]; exact a8
  · rw [uz_ne (by decide)]; exact a12
  · have hj : j < (t.buf ++ [v]).length := hj
    rw [Int.toNat_natCast]
    show updZ B t.buf.length v j = lg (t.buf ++ [v]) j
    by_cases c : j = t.buf.length
    · rw [c, updZ_eq, lg_push]
    · have : j < t.buf.length := by rw [List.length_append] at hj; simp at hj; omega
      rw [updZ_ne c, lg_push_lt this]; exact hB j this
theorem MoA.r6 (h : MoA hs t th) : gR hs 95 9 6 = some 99 := by
  obtain ⟨⟨x, m, a⟩, -⟩ := h
  exact m.r6
theorem X9_ap79 (v : Int32) : ∀ (k n : Nat) (hs : AH) (t : St), k < n → k ≤ 4 → t.buf.length + (app v k).length ≤ 180 → MoA hs t 0 →
    ∃ hs', f_X9_append_b79 n 95 v (ii (8 * (k : Int) - 8)) hs = some (ii (t.buf ++ app v k).length, hs') ∧ MoA hs' (t.wbuf (t.buf ++ app v k)) 0 ∧ Out hs hs' 95 10 := by
  intro k
  induction k with
  | zero =>
    intro n hs t hn hk hl h
    obtain ⟨n, rfl⟩ : ∃ z, n = z + 1 := ⟨n - 1, by omega⟩
    refine ⟨hs, ?_, by rw [show app v 0 = [] from rfl, List.append_nil]; exact h, Out.refl _ _ _⟩
    rw [f_X9_append_b79.eq_2, if_pos (by rw [il_0, ii_lt (by omega) (by omega) (by omega) (by omega)]; omega), h.i7, ob_some, show app v 0 = [] from rfl, List.append_nil]
  | succ k ih =>
    intro n hs t hn hk hl h
    obtain ⟨n, rfl⟩ : ∃ z, n = z + 1 := ⟨n - 1, by omega⟩
    have bb := byt_b v k
    have e1 : (8 * ((k + 1 : Nat) : Int) - 8) = 8 * (k : Int) := by omega
    have e2 : Int32.ofInt (-8) = ii (-8) := rfl
    rw [f_X9_append_b79.eq_2, if_neg (by rw [il_0, ii_lt (by omega) (by omega) (by omega) (by omega)]; omega), e1, ush_ii v (by omega), e2, ii_add, show 8 * (k : Int) + -8 = 8 * (k : Int) - 8 from by omega]
    by_cases c : byt v k = 0
    · have e3 : app v (k + 1) = app v k := by show (if byt v k = 0 then [] else [byt v k]) ++ app v k = _; rw [if_pos c]; rfl
      rw [e3] at hl ⊢
      rw [if_pos (by rw [c]; rfl)]
      exact ih n hs t (by omega) (by omega) hl h
    · have e3 : app v (k + 1) = byt v k :: app v k := by show (if byt v k = 0 then [] else [byt v k]) ++ app v k = _; rw [if_neg c]; rfl
      rw [e3] at hl ⊢
      simp only [List.length_cons] at hl
      obtain ⟨g1, g2, f1, f2, q1, o1⟩ := h.pushBuf (by omega) (byt v k)
      have hl2 : (t.buf ++ [byt v k]).length + (app v k).length ≤ 180 := by simp only [List.length_append, List.length_cons, List.length_nil]; omega
      obtain ⟨g3, f3, q3, o3⟩ := ih n g2 (t.wbuf (t.buf ++ [byt v k])) (by omega) (by omega) hl2 q1
      have e5 : t.buf ++ [byt v k] ++ app v k = t.buf ++ byt v k :: app v k := by simp
      refine ⟨g3, ?_, by rw [← e5]; exact q3, (o1.out (fun k hk => by simp at hk; omega)).trans o3⟩
      rw [if_neg (by rw [il_0, ii_eq (by omega) (by omega) (by omega) (by omega)]; exact c), h.r6, ob_some, h.i7, ob_some, f1, ob_some, f2, ob_some, ← e5]
      exact f3
theorem X9_ap10 (h : MoA hs t 0) (hb : t.buf.length ≤ 180) (v : Int32) : ∀ (k n : Nat) (S : Int), k < n → k ≤ 4 → 0 ≤ S → S + k ≤ 4 →
    (¬ okB v k → f_X9_append_b10 n 95 v (ii S) (ii (8 * (k : Int) - 8)) hs = (f_X9_raises 95 1 hs).bind fun q => some (q.1, q.2)) ∧
    (okB v k → f_X9_append_b10 n 95 v (ii S) (ii (8 * (k : Int) - 8)) hs = if (t.buf.length : Int) + S + (app v k).length ≤ 180 then f_X9_append_b79 FUEL 95 v (ii 24) hs else (f_X9_raises 95 2 hs).bind fun q => some (q.1, q.2)) := by
  intro k
  induction k with
  | zero =>
    intro n S hn hk s0 s1
    obtain ⟨n, rfl⟩ : ∃ z, n = z + 1 := ⟨n - 1, by omega⟩
    refine ⟨fun c => absurd (fun j hj => by omega) c, fun _ => ?_⟩
    rw [f_X9_append_b10.eq_2, if_pos (by rw [il_0, ii_lt (by omega) (by omega) (by omega) (by omega)]; omega), h.i7, ob_some, show app v 0 = [] from rfl, ii_add, show (180 : Int32) = ii 180 from rfl]
    by_cases c : (t.buf.length : Int) + S ≤ 180
    · rw [if_pos (by rw [ii_le (by omega) (by omega) (by omega) (by omega)]; exact c), if_pos (by simp only [List.length_nil]; omega)]
      rfl
    · rw [if_neg (by rw [ii_le (by omega) (by omega) (by omega) (by omega)]; exact c), if_neg (by simp only [List.length_nil]; omega), h.chk, ob_some]
  | succ k ih =>
    intro n S hn hk s0 s1
    obtain ⟨n, rfl⟩ : ∃ z, n = z + 1 := ⟨n - 1, by omega⟩
    have bb := byt_b v k
    have e1 : (8 * ((k + 1 : Nat) : Int) - 8) = 8 * (k : Int) := by omega
    have e2 : Int32.ofInt (-8) = ii (-8) := rfl
    have e3 : 8 * (k : Int) + -8 = 8 * (k : Int) - 8 := by omega
    have al : (app v (k + 1)).length = (if byt v k = 0 then 0 else 1) + (app v k).length := by
      show ((if byt v k = 0 then [] else [byt v k]) ++ app v k).length = _
      by_cases c : byt v k = 0
      · rw [if_pos c, if_pos c]; simp
      · rw [if_neg c, if_neg c]; simp; omega
    rw [f_X9_append_b10.eq_2, if_neg (by rw [il_0, ii_lt (by omega) (by omega) (by omega) (by omega)]; omega), e1, ush_ii v (by omega), e2, ii_add, e3]
    by_cases c : byt v k = 0
    · rw [if_pos (by rw [c]; rfl)]
      obtain ⟨i1, i2⟩ := ih n S (by omega) (by omega) s0 (by omega)
      rw [al, if_pos c, okB_succ, Nat.zero_add]
      exact ⟨fun d => i1 (fun e => d ⟨Or.inl c, e⟩), fun d => i2 d.2⟩
    · rw [if_neg (by rw [il_0, ii_eq (by omega) (by omega) (by omega) (by omega)]; exact c), show (33 : Int32) = ii 33 from rfl, show (126 : Int32) = ii 126 from rfl, X9_in (by omega) (by omega) (by omega) (by omega) (by omega) (by omega), ob_some]
      by_cases d : 33 ≤ byt v k ∧ byt v k ≤ 126
      · rw [inI_1 d, if_neg (by decide +kernel), il_1, ii_add]
        obtain ⟨i1, i2⟩ := ih n (S + 1) (by omega) (by omega) (by omega) (by omega)
        rw [al, if_neg c, okB_succ]
        refine ⟨fun x => i1 (fun y => x ⟨Or.inr d, y⟩), fun x => ?_⟩
        rw [i2 x.2, show ((1 + (app v k).length : Nat) : Int) = 1 + ((app v k).length : Int) from by omega, show (t.buf.length : Int) + (S + 1) + (app v k).length = (t.buf.length : Int) + S + (1 + ((app v k).length : Int)) from by omega]
      · rw [inI_0 d, if_pos (by rfl), h.chk, ob_some]
        exact ⟨fun _ => rfl, fun x => by have := (okB_succ.1 x).1; omega⟩
theorem X9_append (k : StOK t) (v : Int32) : (¬ okB v 4 → M9 (f_X9_append 95 v) [1, 2] (.inr 1) t t) ∧ (okB v 4 → ¬ t.buf.length + (app v 4).length ≤ 180 → M9 (f_X9_append 95 v) [1, 2] (.inr 2) t t) ∧
    (canAppend t v → M9 (f_X9_append 95 v) [1, 2] (.inl (t.buf ++ app v 4).length) t (t.wbuf (t.buf ++ app v 4))) := by
  have hb := k.2.2.2.2.2.1
  refine ⟨fun c => ?_, fun c d => ?_, fun c => ?_⟩
  · refine M9.of (g9 := f_X9_append_b10 FUEL 95 v 0 24) (fun hs => rfl) (fun hs h => ?_)
    have := (X9_ap10 h hb v 4 FUEL 0 (by unfold FUEL; omega) (by omega) (by omega) (by omega)).1 c
    rw [show f_X9_append_b10 FUEL 95 v 0 24 hs = _ from this]
    exact h.fail 1
  · refine M9.of (g9 := f_X9_append_b10 FUEL 95 v 0 24) (fun hs => rfl) (fun hs h => ?_)
    have := (X9_ap10 h hb v 4 FUEL 0 (by unfold FUEL; omega) (by omega) (by omega) (by omega)).2 c
    rw [if_neg (by omega)] at this
    rw [show f_X9_append_b10 FUEL 95 v 0 24 hs = _ from this]
    exact h.fail 2
  · refine M9.of (g9 := f_X9_append_b10 FUEL 95 v 0 24) (fun hs => rfl) (fun hs h => ?_)
    have := (X9_ap10 h hb v 4 FUEL 0 (by unfold FUEL; omega) (by omega) (by omega) (by omega)).2 c.1
    rw [if_pos (by have := c.2; omega)] at this
    rw [show f_X9_append_b10 FUEL 95 v 0 24 hs = _ from this]
    exact X9_ap79 v 4 FUEL hs t (by unfold FUEL; omega) (by omega) c.2 h
end MAP
