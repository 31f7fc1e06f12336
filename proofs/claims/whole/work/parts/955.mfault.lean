/-! ===== the reference's calls: faults counted ===== -/
theorem Full.wl {s : Sh} (k : Full s) (hm : ¬ s.md.length = 0) : Wl s := by
  have h3 : (s.md.length : Int) = ((s.gv.length : Int) - 1) * per s.sp + 1 := by
    rcases k.2.2.1 with z | z
    · exact absurd z hm
    · exact z.2
  refine ⟨k.2.2.2, fun p p0 p1 => ?_, k.two hm⟩
  rcases per_3 s.sp with z | z | z <;> rw [z] at h3 ⊢ <;> omega
theorem Full.last {s : Sh} (k : Full s) (hm : ¬ s.md.length = 0) : ∀ p : Int, 0 ≤ p → p < s.md.length → (p / per s.sp = (s.gv.length : Int) - 1 ↔ p = (s.md.length : Int) - 1) := by
  have h3 : (s.md.length : Int) = ((s.gv.length : Int) - 1) * per s.sp + 1 := by
    rcases k.2.2.1 with z | z
    · exact absurd z hm
    · exact z.2
  intro p p0 p1
  rcases per_3 s.sp with z | z | z <;> rw [z] at h3 ⊢ <;> omega
/-- the sum of a list's values -/
def smL (g : Nat × Nat → Int) (l : List (Nat × Nat)) : Int := (l.map g).sum
theorem smL_app (g : Nat × Nat → Int) (l m : List (Nat × Nat)) : smL g (l ++ m) = smL g l + smL g m := by
  unfold smL
  rw [List.map_append, List.sum_append]
theorem smL_step {g : Nat × Nat → Int} {l : List (Nat × Nat)} {i : Nat} {y : Nat × Nat} (h : l[i]? = some y) : smL g (l.take (i + 1)) = smL g (l.take i) + g y := by
  obtain ⟨h0, e⟩ := List.getElem?_eq_some_iff.1 h
  rw [List.take_succ_eq_append_getElem h0, smL_app, e]
  unfold smL
  simp
theorem smL_R {s : Sh} {g : Nat × Nat → Int} {G : Int → Nat → Int} (h : ∀ (p r : Nat), G p r = if flt s p r = -1 then 0 else g (p, r)) (p : Nat) : ∀ r, smL g (flR s p r) = sumR G p r
  | 0 => rfl
  | r + 1 => by
    show smL g (flR s p r ++ (if flt s p (r + 1) = -1 then [] else [(p, r + 1)])) = sumR G p r + G p (r + 1)
    rw [smL_app, smL_R h p r, h p (r + 1)]
    congr 1
    by_cases c : flt s p (r + 1) = -1
    · rw [if_pos c, if_pos c]; rfl
    · rw [if_neg c, if_neg c]
      unfold smL
      simp
theorem smL_P {s : Sh} {g : Nat × Nat → Int} {G : Int → Nat → Int} (h : ∀ (p r : Nat), G p r = if flt s p r = -1 then 0 else g (p, r)) : ∀ p, smL g (flP s p) = sumP G p
  | 0 => rfl
  | p + 1 => by
    show smL g (flP s p ++ flR s p 16) = sumP G p + sumR G p 16
    rw [smL_app, smL_P h p, smL_R h p 16]
section MFA
variable {hs : AH} {t : St} {th : Int}
/-- the faults as the reference's array holds them -/
def FlA (hs : AH) (s : Sh) (l : List (Nat × Nat)) : Prop := gI hs 95 9 15 = some (ii l.length) ∧ gR hs 95 9 14 = some 103 ∧ (∃ M, RA hs 103 2880 M ∧ Enc s M l) ∧ (∃ f, NW hs f ∧ NoA f s) ∧ l.length ≤ 720 ∧ ∀ y ∈ l, 1 ≤ y.2 ∧ y.2 ≤ 16 ∧ y.1 < 45
theorem FlA.get {s : Sh} {l : List (Nat × Nat)} (F : FlA hs s l) {i : Nat} {y : Nat × Nat} (h : l[i]? = some y) {w : Nat} (hw : w ≤ 3) : aN 0 hs 103 (ii (4 * (i : Int) + w)) = some (ii (if w = 0 then (y.2 : Int) else if w = 1 then y.1 / per s.sp else if w = 2 then y.1 % per s.sp else flt s y.1 y.2)) := by
  obtain ⟨-, -, ⟨M, A, E⟩, -, hl, -⟩ := F
  obtain ⟨h0, -⟩ := List.getElem?_eq_some_iff.1 h
  obtain ⟨e0, e1, e2, e3⟩ := E i y h
  rw [A.get (by omega) (by omega) (by omega), show (4 * (i : Int) + w).toNat = 4 * i + w from by omega]
  obtain rfl | rfl | rfl | rfl : w = 0 ∨ w = 1 ∨ w = 2 ∨ w = 3 := by omega
  · rw [show 4 * i + 0 = 4 * i from rfl, e0]; rfl
  · rw [e1]; rfl
  · rw [e2]; rfl
  · rw [e3]; rfl
theorem flP_mem {s : Sh} {n : Nat} {y : Nat × Nat} (h : y ∈ flP s n) : y.1 < n ∧ 1 ≤ y.2 ∧ y.2 ≤ 16 ∧ flt s y.1 y.2 ≠ -1 := by
  obtain ⟨j, hj, e⟩ := List.mem_iff_getElem.1 h
  have := flP_inv n j (by rw [List.getElem?_eq_getElem hj, e])
  exact ⟨this.1, this.2.1, this.2.2.1, this.2.2.2.1⟩
theorem MoA.finds (h : MoA hs t th) (k : Full t.now) (hm : ¬ t.now.md.length = 0) : ∃ hs', f_X9_finds 95 hs = some hs' ∧ MoA hs' t th ∧ FlA hs' t.now (flP t.now t.now.md.length) ∧ Ou hs hs' [95, 103] := by
  obtain ⟨⟨x, M, a0, a3, a5, a7, a8, a12⟩, ⟨N, A, LN⟩, h3, h4, h5, h6, h7, h8, ⟨F0, B⟩, h10⟩ := h
  obtain ⟨g, e, M1, A1, ⟨F1, B1, E1⟩, o⟩ := X9_finds M A B LN.1 LN.2 k.1 (k.wl hm) (k.last hm)
  have hl := flP_le (s := t.now) t.now.md.length
  have ml := k.1.ml
  refine ⟨g, e, ⟨⟨_, M1, ?_, ?_, ?_, ?_, ?_, ?_⟩, ⟨N, A1, LN⟩, h3.ou o (by decide), h4.ou o (by decide), h5.ou o (by decide), h6.ou o (by decide), h7.ou o (by decide), h8.ou o (by decide), ⟨F1, B1⟩, h10.ou o (by decide)⟩, ⟨?_, M1.r14, ⟨F1, B1, E1⟩, ⟨N, M1.nw A1, LN.1⟩, by omega, fun y hy => by have := flP_mem hy; omega⟩, o⟩
  · rw [uz_ne (by decide)]; exact a0
  · rw [uz_ne (by decide)]; exact a3
  · rw [uz_ne (by decide)]; exact a5
  · rw [uz_ne (by decide)]; exact a7
  · rw [uz_ne (by decide)]; exact a8
  · rw [uz_ne (by decide)]; exact a12
  · rw [M1.i15, uz_eq]
def wtG (s : Sh) (y : Nat × Nat) : Int := if 0 ≤ lg s.wt y.2 then lg s.wt y.2 else 0
theorem X9_cost_loop {s : Sh} (k : SOK s) {l : List (Nat × Nat)} (F : FlA hs s l) : ∀ (d m i : Nat), d < m → i + d = l.length → f_X9_costNow_b8 m 95 (ii (smL (wtG s) (l.take i))) (ii i) hs = some (ii (smL (wtG s) l), hs) := by
  intro d
  induction d with
  | zero =>
    intro m i hm hi
    obtain ⟨m, rfl⟩ : ∃ z, m = z + 1 := ⟨m - 1, by omega⟩
    obtain rfl : i = l.length := by omega
    have := F.2.2.2.2.1
    rw [f_X9_costNow_b8.eq_2, F.1, ob_some, if_pos (by rw [ii_le (by omega) (by omega) (by omega) (by omega)]; omega), List.take_length]
  | succ d ih =>
    intro m i hm hi
    obtain ⟨m, rfl⟩ : ∃ z, m = z + 1 := ⟨m - 1, by omega⟩
    have hl := F.2.2.2.2.1
    obtain ⟨y, hy⟩ : ∃ y, l[i]? = some y := ⟨_, List.getElem?_eq_getElem (by omega)⟩
    obtain ⟨y1, y2, -⟩ := F.2.2.2.2.2 y (List.mem_of_getElem? hy)
    obtain ⟨f, w, n⟩ := F.2.2.2.1
    have g := F.get hy (w := 0) (by omega)
    rw [if_pos rfl] at g
    have e4 : (4 : Int32) * ii (i : Int) = ii (4 * (i : Int) + (0 : Nat)) := by rw [il_4, ii_mul]; rfl
    have hw : wtG s y = lg s.wt y.2 := by
      unfold wtG
      have := k.2.2.2.2.2.2.1 _ (lg_mem (l := s.wt) (j := y.2) (by have := k.2.1; omega))
      rw [if_pos this.1]
    rw [f_X9_costNow_b8.eq_2, F.1, ob_some, if_neg (by rw [ii_le (by omega) (by omega) (by omega) (by omega)]; omega), w.2.1, ob_some, F.2.1, ob_some, e4, g, ob_some, w.kw n (by omega) (by omega), ob_some, ii_add, Int.toNat_natCast, ← hw, ← smL_step hy, il_1, ii_add]
    exact ih m (i + 1) (by omega) (by omega)
theorem costG_sm (s : Sh) : smL (wtG s) (flP s s.md.length) = sumP (costG s) s.md.length := by
  refine smL_P (fun p r => ?_) _
  rfl
theorem MoA.costNow (h : MoA hs t th) (k : Full t.now) (hm : ¬ t.now.md.length = 0) : ∃ hs', f_X9_costNow 95 hs = some (ii (sumP (costG t.now) t.now.md.length), hs') ∧ MoA hs' t th ∧ Ou hs hs' [95, 103] := by
  obtain ⟨g, e, m, F, o⟩ := h.finds k hm
  refine ⟨g, ?_, m, o⟩
  unfold f_X9_costNow
  rw [h.chk, ob_some, e, ob_some, ← costG_sm]
  exact X9_cost_loop k.1 F (flP t.now t.now.md.length).length FUEL 0 (by have := F.2.2.2.2.1; unfold FUEL; omega) (by omega)
theorem MoA.faultsNow (h : MoA hs t th) (k : Full t.now) (hm : ¬ t.now.md.length = 0) : ∃ hs', f_X9_faultsNow 95 hs = some (ii (sumP (anyG t.now) t.now.md.length), hs') ∧ MoA hs' t th ∧ Ou hs hs' [95, 103] := by
  obtain ⟨g, e, m, F, o⟩ := h.finds k hm
  refine ⟨g, ?_, m, o⟩
  unfold f_X9_faultsNow
  rw [h.chk, ob_some, e, ob_some, F.1, ob_some, flP_len]
theorem X9_cost (k : Full t.now) : M9 (f_X9_cost 95) [2] (opCost t.now) t t := by
  refine M9.of (fun hs => rfl) (fun hs h => ?_)
  obtain ⟨f, nw, n, h1⟩ := h.nw
  unfold opCost
  rw [h.chk, ob_some, X9_hasLine nw h1 k.1.ml, ob_some]
  by_cases e : t.now.md.length = 0
  · rw [if_pos e, if_pos e, if_pos (by rfl), ob_some]
    exact h.fail 1
  · obtain ⟨g, e1, m, o⟩ := h.costNow k e
    rw [if_neg e, if_neg e, if_neg (by decide +kernel), ob_some, e1, ob_some]
    exact ⟨g, rfl, m, o.out (fun k hk => by simp at hk; omega)⟩
theorem X9_fa_loop {s : Sh} {l : List (Nat × Nat)} (F : FlA hs s l) {v : Int} (v0 : 0 ≤ v) (v1 : v ≤ 16) : ∀ (d m i : Nat), d < m → i + d = l.length → f_X9_faults_b42 m 95 (ii v) (ii (smL (fun y => if v = 0 ∨ v = y.2 then 1 else 0) (l.take i))) (ii i) hs = some (ii (smL (fun y => if v = 0 ∨ v = y.2 then 1 else 0) l), hs) := by
  intro d
  induction d with
  | zero =>
    intro m i hm hi
    obtain ⟨m, rfl⟩ : ∃ z, m = z + 1 := ⟨m - 1, by omega⟩
    obtain rfl : i = l.length := by omega
    have := F.2.2.2.2.1
    rw [f_X9_faults_b42.eq_2, F.1, ob_some, if_pos (by rw [ii_le (by omega) (by omega) (by omega) (by omega)]; omega), List.take_length]
  | succ d ih =>
    intro m i hm hi
    obtain ⟨m, rfl⟩ : ∃ z, m = z + 1 := ⟨m - 1, by omega⟩
    have hl := F.2.2.2.2.1
    obtain ⟨y, hy⟩ : ∃ y, l[i]? = some y := ⟨_, List.getElem?_eq_getElem (by omega)⟩
    obtain ⟨y1, y2, -⟩ := F.2.2.2.2.2 y (List.mem_of_getElem? hy)
    have g := F.get hy (w := 0) (by omega)
    rw [if_pos rfl] at g
    have e4 : (4 : Int32) * ii (i : Int) = ii (4 * (i : Int) + (0 : Nat)) := by rw [il_4, ii_mul]; rfl
    have e1 : ii (i : Int) + 1 = ii ((i + 1 : Nat) : Int) := by rw [il_1, ii_add]; rfl
    have I := ih m (i + 1) (by omega) (by omega)
    rw [smL_step hy] at I
    rw [f_X9_faults_b42.eq_2, F.1, ob_some, if_neg (by rw [ii_le (by omega) (by omega) (by omega) (by omega)]; omega), e1]
    by_cases c : v = 0
    · rw [if_pos (by rw [c]; rfl)]
      rw [if_pos (Or.inl c), ← ii_add] at I
      exact I
    · rw [if_neg (by rw [il_0, ii_eq (by omega) (by omega) (by omega) (by omega)]; exact c), F.2.1, ob_some, e4, g, ob_some]
      by_cases d : (y.2 : Int) = v
      · rw [if_pos (by rw [d])]
        rw [if_pos (Or.inr d.symm), ← ii_add] at I
        exact I
      · rw [if_neg (by rw [ii_eq (by omega) (by omega) (by omega) (by omega)]; exact d)]
        rw [if_neg (by omega), Int.add_zero] at I
        exact I
theorem tallG_1 (s : Sh) {v : Int} (v0 : 0 ≤ v) (p r : Nat) : tallG s (if v = 0 then -1 else v) (-1) p r = if flt s p r = -1 then 0 else if v = 0 ∨ v = r then 1 else 0 := by
  unfold tallG
  by_cases a : flt s p r = -1
  · rw [if_pos a, if_pos a]
    by_cases b : ((if v = 0 then -1 else v) = -1 ∨ (if v = 0 then -1 else v) = (r : Int)) ∧ ((-1 : Int) = -1 ∨ -1 = (p : Int) / per s.sp)
    · rw [if_pos b]
    · rw [if_neg b]
  · rw [if_neg a, if_neg a]
    by_cases c : v = 0
    · rw [if_pos c, if_pos ⟨Or.inl rfl, Or.inl rfl⟩, if_pos (Or.inl c)]
    · rw [if_neg c]
      by_cases d : v = r
      · rw [if_pos ⟨Or.inr d, Or.inl rfl⟩, if_pos (Or.inr d)]
      · rw [if_neg (fun x => by rcases x.1 with y | y <;> omega), if_neg (by omega)]
theorem X9_faults (k : Full t.now) {v : Int} (v1 : -2147483648 ≤ v) (v2 : v ≤ 2147483647) : M9 (f_X9_faults 95 (ii v)) [2, 3] (opFaults t.now v) t t := by
  refine M9.of (fun hs => rfl) (fun hs h => ?_)
  obtain ⟨f, nw, n, h1⟩ := h.nw
  unfold opFaults
  rw [h.chk, ob_some, X9_hasLine nw h1 k.1.ml, ob_some]
  by_cases e : t.now.md.length = 0
  · rw [if_pos e, if_pos e, if_pos (by rfl), ob_some]
    exact h.fail 1
  · rw [if_neg e, if_neg e, if_neg (by decide +kernel), il_0, il_16, X9_in v1 v2 (by omega) (by omega) (by omega) (by omega), ob_some]
    by_cases c : 0 ≤ v ∧ v ≤ 16
    · obtain ⟨g, e1, m, F, o⟩ := h.finds k e
      rw [inI_1 c, if_neg (by decide +kernel), ob_some, e1, ob_some]
      have L := X9_fa_loop F c.1 c.2 (flP t.now t.now.md.length).length FUEL 0 (by have := F.2.2.2.2.1; unfold FUEL; omega) (by omega)
      rw [smL_P (G := tallG t.now (if v = 0 then -1 else v) (-1)) (fun p r => tallG_1 t.now c.1 p r)] at L
      have er : (if v = 0 then (.inl (sumP (tallG t.now (-1) (-1)) t.now.md.length) : Int ⊕ Nat) else if 1 ≤ v ∧ v ≤ 16 then .inl (sumP (tallG t.now v (-1)) t.now.md.length) else .inr 3) = .inl (sumP (tallG t.now (if v = 0 then -1 else v) (-1)) t.now.md.length) := by
        by_cases z : v = 0
        · rw [if_pos z, if_pos z]
        · rw [if_neg z, if_neg z, if_pos (by omega)]
      rw [er]
      exact ⟨g, L, m, o.out (fun k hk => by simp at hk; omega)⟩
    · rw [inI_0 c, if_pos (by rfl), if_neg (by omega), if_neg (by omega), ob_some]
      exact h.fail 2
theorem X9_fi_loop {s : Sh} {l : List (Nat × Nat)} (F : FlA hs s l) {v : Int} (v0 : 0 ≤ v) (v1 : v ≤ 16) : ∀ (d m i : Nat), d < m → i + d = l.length → f_X9_faultsIn_b48 m 95 (ii v) (ii (smL (fun y => if v = y.1 / per s.sp then 1 else 0) (l.take i))) (ii i) hs = some (ii (smL (fun y => if v = y.1 / per s.sp then 1 else 0) l), hs) := by
  intro d
  induction d with
  | zero =>
    intro m i hm hi
    obtain ⟨m, rfl⟩ : ∃ z, m = z + 1 := ⟨m - 1, by omega⟩
    obtain rfl : i = l.length := by omega
    have := F.2.2.2.2.1
    rw [f_X9_faultsIn_b48.eq_2, F.1, ob_some, if_pos (by rw [ii_le (by omega) (by omega) (by omega) (by omega)]; omega), List.take_length]
  | succ d ih =>
    intro m i hm hi
    obtain ⟨m, rfl⟩ : ∃ z, m = z + 1 := ⟨m - 1, by omega⟩
    have hl := F.2.2.2.2.1
    obtain ⟨y, hy⟩ : ∃ y, l[i]? = some y := ⟨_, List.getElem?_eq_getElem (by omega)⟩
    obtain ⟨y1, y2, y3⟩ := F.2.2.2.2.2 y (List.mem_of_getElem? hy)
    have g := F.get hy (w := 1) (by omega)
    rw [if_neg (by omega), if_pos rfl] at g
    have e4 : (4 : Int32) * ii (i : Int) + 1 = ii (4 * (i : Int) + (1 : Nat)) := by rw [il_4, ii_mul, il_1, ii_add]; rfl
    have e1 : ii (i : Int) + 1 = ii ((i + 1 : Nat) : Int) := by rw [il_1, ii_add]; rfl
    obtain ⟨b1, b2, -⟩ := barb (s := s) (p := (y.1 : Int)) (by omega) (by omega)
    have I := ih m (i + 1) (by omega) (by omega)
    rw [smL_step hy] at I
    rw [f_X9_faultsIn_b48.eq_2, F.1, ob_some, if_neg (by rw [ii_le (by omega) (by omega) (by omega) (by omega)]; omega), e1, F.2.1, ob_some, e4, g, ob_some]
    by_cases d : (y.1 : Int) / per s.sp = v
    · rw [if_pos (by rw [d])]
      rw [if_pos d.symm, ← ii_add] at I
      exact I
    · rw [if_neg (by rw [ii_eq (by omega) (by omega) (by omega) (by omega)]; exact d)]
      rw [if_neg (fun x => d x.symm), Int.add_zero] at I
      exact I
theorem tallG_2 (s : Sh) {v : Int} (v0 : 0 ≤ v) (p r : Nat) : tallG s (-1) v p r = if flt s p r = -1 then 0 else if v = (p : Int) / per s.sp then 1 else 0 := by
  unfold tallG
  by_cases d : v = (p : Int) / per s.sp
  · rw [if_pos ⟨Or.inl rfl, Or.inr d⟩, if_pos d]
  · rw [if_neg (fun x => by rcases x.2 with y | y <;> omega), if_neg d]
    by_cases a : flt s p r = -1
    · rw [if_pos a]
    · rw [if_neg a]
theorem X9_faultsIn (k : Full t.now) {v : Int} (v1 : -2147483648 ≤ v) (v2 : v ≤ 2147483647) : M9 (f_X9_faultsIn 95 (ii v)) [2, 3] (opFaultsIn t.now v) t t := by
  refine M9.of (fun hs => rfl) (fun hs h => ?_)
  obtain ⟨f, nw, n, h1⟩ := h.nw
  have gl := k.1.gl
  unfold opFaultsIn
  rw [h.chk, ob_some, X9_hasLine nw h1 k.1.ml, ob_some]
  by_cases e : t.now.md.length = 0
  · rw [if_pos e, if_pos e, if_pos (by rfl), ob_some]
    exact h.fail 1
  · rw [if_neg e, if_neg e, if_neg (by decide +kernel), nw.2.1, ob_some, nw.k0 n, ob_some, il_1, ii_sub, il_0, X9_in v1 v2 (by omega) (by omega) (by omega) (by omega), ob_some]
    by_cases c : 0 ≤ v ∧ v ≤ (t.now.gv.length : Int) - 1
    · obtain ⟨g, e1, m, F, o⟩ := h.finds k e
      rw [inI_1 c, if_neg (by decide +kernel), if_pos (by omega), ob_some, e1, ob_some]
      have L := X9_fi_loop F c.1 (by omega) (flP t.now t.now.md.length).length FUEL 0 (by have := F.2.2.2.2.1; unfold FUEL; omega) (by omega)
      rw [smL_P (G := tallG t.now (-1) v) (fun p r => tallG_2 t.now c.1 p r)] at L
      exact ⟨g, L, m, o.out (fun k hk => by simp at hk; omega)⟩
    · rw [inI_0 c, if_pos (by rfl), if_neg (by omega), ob_some]
      exact h.fail 2
theorem X9_fault (k : Full t.now) {num w : Int} (n1 : -2147483648 ≤ num) (n2 : num ≤ 2147483647) (w1 : -2147483648 ≤ w) (w2 : w ≤ 2147483647) : M9 (f_X9_fault 95 (ii num) (ii w)) [2, 4, 1] (opFault t.now num w) t t := by
  refine M9.of (fun hs => rfl) (fun hs h => ?_)
  obtain ⟨f, nw, n, h1⟩ := h.nw
  unfold opFault
  rw [h.chk, ob_some, X9_hasLine nw h1 k.1.ml, ob_some]
  by_cases e : t.now.md.length = 0
  · rw [if_pos e, if_pos e, if_pos (by rfl), ob_some]
    exact h.fail 1
  · obtain ⟨g, e1, m, F, o⟩ := h.finds k e
    have hl := F.2.2.2.2.1
    have o' := o.out (a := 95) (n := 10) (fun k hk => by simp at hk; omega)
    rw [if_neg e, if_neg e, if_neg (by decide +kernel), ob_some, e1, ob_some, F.1, ob_some, il_1, ii_sub, il_0, X9_in n1 n2 (by omega) (by omega) (by omega) (by omega), ob_some]
    by_cases c : 0 ≤ num ∧ num ≤ ((flP t.now t.now.md.length).length : Int) - 1
    · obtain ⟨y, hy⟩ : ∃ y, (flP t.now t.now.md.length)[num.toNat]? = some y := ⟨_, List.getElem?_eq_getElem (by omega)⟩
      have hI : flI t.now num = some y := by unfold flI; rw [if_pos c.1]; exact hy
      rw [inI_1 c, if_neg (by decide +kernel), hI, il_3, X9_in w1 w2 (by omega) (by omega) (by omega) (by omega), ob_some]
      show ∃ hs', _ = some (ii (anR (opFaultAt t.now y w)), hs') ∧ MoA hs' t (cdR [2, 4, 1] (opFaultAt t.now y w)) ∧ _
      unfold opFaultAt
      by_cases d : 0 ≤ w ∧ w ≤ 3
      · have G := F.get hy (w := w.toNat) (by omega)
        have ew : (4 : Int32) * ii num + ii w = ii (4 * (num.toNat : Int) + w.toNat) := by rw [il_4, ii_mul, ii_add]; congr 1; omega
        rw [inI_1 d, if_neg (by decide +kernel), F.2.1, ob_some, ew, G, ob_some]
        obtain rfl | rfl | rfl | rfl : w = 0 ∨ w = 1 ∨ w = 2 ∨ w = 3 := by omega
        · exact ⟨g, rfl, m, o'⟩
        · exact ⟨g, rfl, m, o'⟩
        · exact ⟨g, rfl, m, o'⟩
        · exact ⟨g, rfl, m, o'⟩
      · rw [inI_0 d, if_pos (by rfl), if_neg (by omega), if_neg (by omega), if_neg (by omega), if_neg (by omega), m.chk, ob_some]
        obtain ⟨g2, f2, m2, o2⟩ := m.fail 3
        exact ⟨g2, f2, m2, o'.trans o2⟩
    · have hI : flI t.now num = none := by
        unfold flI
        by_cases z : 0 ≤ num
        · rw [if_pos z, List.getElem?_eq_none (by omega)]
        · rw [if_neg z]
      rw [inI_0 c, if_pos (by rfl), hI, m.chk, ob_some]
      obtain ⟨g2, f2, m2, o2⟩ := m.fail 2
      exact ⟨g2, f2, m2, o'.trans o2⟩
end MFA
