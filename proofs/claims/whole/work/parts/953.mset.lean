/-! ===== the reference's calls: what is set ===== -/
section MSE
variable {f : Nat → Int} {s : Sh} {t : St}
theorem LoA.sp (h : LoA f s) (v : Int) : LoA (updZ f 2 v) (s.gv, s.md, v, s.bl, s.st, s.wt) := by
  obtain ⟨⟨n0, n2, n3, n4, n5, n6, n7⟩, n1⟩ := h
  refine ⟨⟨?_, updZ_eq _ _ _, ?_, fun j hj => ?_, fun r r1 r2 => ?_, fun j hj => ?_, fun j hj => ?_⟩, ?_⟩ <;> rw [updZ_ne (by omega)]
  · exact n0
  · exact n3
  · exact n4 j hj
  · exact n5 r r1 r2
  · exact n6 j hj
  · exact n7 j hj
  · exact n1
theorem LoA.bl (h : LoA f s) (v : Int) : LoA (updZ f 3 v) (s.gv, s.md, s.sp, v, s.st, s.wt) := by
  obtain ⟨⟨n0, n2, n3, n4, n5, n6, n7⟩, n1⟩ := h
  refine ⟨⟨?_, ?_, updZ_eq _ _ _, fun j hj => ?_, fun r r1 r2 => ?_, fun j hj => ?_, fun j hj => ?_⟩, ?_⟩ <;> rw [updZ_ne (by omega)]
  · exact n0
  · exact n2
  · exact n4 j hj
  · exact n5 r r1 r2
  · exact n6 j hj
  · exact n7 j hj
  · exact n1
theorem LoA.st (h : LoA f s) (k : SOK s) {w : Nat} (hw : w < 3) (v : Int) : LoA (updZ f (4 + w) v) (s.gv, s.md, s.sp, s.bl, s.st.set w v, s.wt) := by
  obtain ⟨⟨n0, n2, n3, n4, n5, n6, n7⟩, n1⟩ := h
  refine ⟨⟨?_, ?_, ?_, fun j hj => ?_, fun r r1 r2 => ?_, fun j hj => ?_, fun j hj => ?_⟩, ?_⟩
  · rw [updZ_ne (by omega)]; exact n0
  · rw [updZ_ne (by omega)]; exact n2
  · rw [updZ_ne (by omega)]; exact n3
  · show updZ f (4 + w) v (4 + j) = lg (s.st.set w v) j
    by_cases e : j = w
    · rw [e, updZ_eq, lg_set (by have := k.1; omega)]
    · rw [updZ_ne (by omega), lg_set_ne e]; exact n4 j hj
  · rw [updZ_ne (by omega)]; exact n5 r r1 r2
  · rw [updZ_ne (by omega)]; exact n6 j hj
  · rw [updZ_ne (by omega)]; exact n7 j hj
  · rw [updZ_ne (by omega)]; exact n1
theorem LoA.wt (h : LoA f s) (k : SOK s) {w : Nat} (h1 : 1 ≤ w) (h2 : w ≤ 16) (v : Int) : LoA (updZ f (6 + w) v) (s.gv, s.md, s.sp, s.bl, s.st, s.wt.set w v) := by
  obtain ⟨⟨n0, n2, n3, n4, n5, n6, n7⟩, n1⟩ := h
  refine ⟨⟨?_, ?_, ?_, fun j hj => ?_, fun r r1 r2 => ?_, fun j hj => ?_, fun j hj => ?_⟩, ?_⟩
  · rw [updZ_ne (by omega)]; exact n0
  · rw [updZ_ne (by omega)]; exact n2
  · rw [updZ_ne (by omega)]; exact n3
  · rw [updZ_ne (by omega)]; exact n4 j hj
  · show updZ f (6 + w) v (6 + r) = lg (s.wt.set w v) r
    by_cases e : r = w
    · rw [e, updZ_eq, lg_set (by have := k.2.1; omega)]
    · rw [updZ_ne (by omega), lg_set_ne e]; exact n5 r r1 r2
  · rw [updZ_ne (by omega)]; exact n6 j hj
  · rw [updZ_ne (by omega)]; exact n7 j hj
  · rw [updZ_ne (by omega)]; exact n1
theorem LoA.md (h : LoA f s) (gl : s.gv.length ≤ 12) {p : Nat} (hp : p < s.md.length) (v : Int) : LoA (updZ f (35 + p) v) (wm s (s.md.set p v)) := by
  obtain ⟨⟨n0, n2, n3, n4, n5, n6, n7⟩, n1⟩ := h
  refine ⟨⟨?_, ?_, ?_, fun j hj => ?_, fun r r1 r2 => ?_, fun j hj => ?_, fun j hj => ?_⟩, ?_⟩
  · rw [updZ_ne (by omega)]; exact n0
  · rw [updZ_ne (by omega)]; exact n2
  · rw [updZ_ne (by omega)]; exact n3
  · rw [updZ_ne (by omega)]; exact n4 j hj
  · rw [updZ_ne (by omega)]; exact n5 r r1 r2
  · have hj : j < s.gv.length := hj
    rw [updZ_ne (by omega)]; exact n6 j hj
  · have hj : j < (s.md.set p v).length := hj
    rw [List.length_set] at hj
    show updZ f (35 + p) v (35 + j) = lg (s.md.set p v) j
    by_cases e : j = p
    · rw [e, updZ_eq, lg_set hp]
    · rw [updZ_ne (by omega), lg_set_ne e]; exact n7 j hj
  · rw [updZ_ne (by omega)]
    show f 1 = ((s.md.set p v).length : Nat)
    rw [List.length_set]; exact n1
theorem LoA.no (h : LoA f s) : LoA (updZ f 1 0) (wm s []) := by
  obtain ⟨⟨n0, n2, n3, n4, n5, n6, n7⟩, n1⟩ := h
  refine ⟨⟨?_, ?_, ?_, fun j hj => ?_, fun r r1 r2 => ?_, fun j hj => ?_, fun j hj => ?_⟩, updZ_eq _ _ _⟩
  · rw [updZ_ne (by omega)]; exact n0
  · rw [updZ_ne (by omega)]; exact n2
  · rw [updZ_ne (by omega)]; exact n3
  · rw [updZ_ne (by omega)]; exact n4 j hj
  · rw [updZ_ne (by omega)]; exact n5 r r1 r2
  · rw [updZ_ne (by omega)]; exact n6 j hj
  · cases hj
abbrev St.keep (t : St) (s : Sh) : St := (s, t.2.1, t.2.2.1, kpt t.his t.now, t.2.2.2.2)
theorem StOK.kh (k : StOK t) : ∀ s ∈ t.his, SOK s := fun s hs => (k.2.2.2.2.1 s hs).1
theorem X9_setSpecies (k : StOK t) {v : Int} (v1 : -2147483648 ≤ v) (v2 : v ≤ 2147483647) :
    (¬ (1 ≤ v ∧ v ≤ 4) → M9 (f_X9_setSpecies 95 (ii v)) [1] (.inr 1) t t) ∧
    (1 ≤ v ∧ v ≤ 4 → M9 (f_X9_setSpecies 95 (ii v)) [1] (.inl t.now.sp) t (t.keep (t.now.gv, (if v = t.now.sp then t.now.md else []), v, t.now.bl, t.now.st, t.now.wt))) := by
  have spb := k.1.1.spb
  constructor
  · intro c
    refine M9.of (fun hs => rfl) (fun hs h => ?_)
    rw [il_1, il_4, X9_in v1 v2 (by omega) (by omega) (by omega) (by omega), ob_some, inI_0 c, if_pos (by rfl), h.chk, ob_some]
    exact h.fail 1
  · intro c
    refine M9.of (fun hs => rfl) (fun hs h => ?_)
    obtain ⟨g1, e1, m1, o1⟩ := h.sets k.1.1 k.2.2.2.1 k.kh (z := 2) (v := v) (a := t.now.sp) (by omega) (by omega) (fun f n => n.1.2.1) (fun f n => n.sp v)
    rw [il_1, il_4, il_2, X9_in v1 v2 (by omega) (by omega) (by omega) (by omega), ob_some, inI_1 c, if_neg (by decide +kernel), h.chk, ob_some, e1, ob_some]
    by_cases d : v = t.now.sp
    · rw [if_pos (by rw [d])]
      rw [if_pos d]
      exact ⟨g1, rfl, m1, o1⟩
    · obtain ⟨g2, e2, m2, o2⟩ := m1.put (z := 1) (v := 0) (by omega) (by omega) (fun f n => n.no)
      rw [if_neg (by rw [ii_eq (by omega) (by omega) (by omega) (by omega)]; exact fun x => d x.symm), m1.r1, ob_some]
      rw [if_neg d]
      refine ⟨g2, ?_, m2, o1.trans (o2.out (fun k hk => by simp at hk; omega))⟩
      rw [show sN 0 g1 96 (ii 1) 0 = _ from e2, ob_some]
      rfl
theorem X9_setPosition (k : StOK t) {cl : List Nat} {v : Int} (hv : v = 0 ∨ v = 1) : M9 (f_X9_setPosition 95 (ii v)) cl (.inl t.now.bl) t (t.keep (t.now.gv, t.now.md, t.now.sp, v, t.now.st, t.now.wt)) := by
  have bl := k.1.1.blb
  refine M9.of (fun hs => rfl) (fun hs h => ?_)
  obtain ⟨g1, e1, m1, o1⟩ := h.sets k.1.1 k.2.2.2.1 k.kh (z := 3) (v := v) (a := t.now.bl) (by omega) (by omega) (fun f n => n.1.2.2.1) (fun f n => n.bl v)
  have fin : (if ii t.now.bl = 1 then some ((1 : Int32), g1) else some (0, g1)) = some (ii t.now.bl, g1) := by
    rcases bl with b | b <;> rw [b] <;> rfl
  rcases hv with rfl | rfl
  · rw [if_pos (by rfl), h.chk, ob_some, show f_X9_sets 95 3 0 hs = _ from e1, ob_some]
    exact ⟨g1, fin, m1, o1⟩
  · rw [if_neg (by decide +kernel), h.chk, ob_some, show f_X9_sets 95 3 1 hs = _ from e1, ob_some]
    exact ⟨g1, fin, m1, o1⟩
theorem X9_set95 (k : StOK t) {w v : Int} (hw : 0 ≤ w ∧ w < 3) {hs : AH} (h : MoA hs t 0) : ∃ hs', f_X9_set_b95 95 (ii w) (ii v) (ii 1) hs = some (ii (lg t.now.st w.toNat), hs') ∧ MoA hs' (t.keep (t.now.gv, t.now.md, t.now.sp, t.now.bl, t.now.st.set w.toNat v, t.now.wt)) 0 ∧ Out hs hs' 95 10 := by
  have hz : (4 + w).toNat = 4 + w.toNat := by omega
  obtain ⟨g1, e1, m1, o1⟩ := h.sets k.1.1 k.2.2.2.1 k.kh (z := 4 + w) (v := v) (a := lg t.now.st w.toNat) (by omega) (by omega) (fun f n => by rw [hz]; exact n.1.2.2.2.1 w.toNat (by omega)) (fun f n => by rw [hz]; exact n.st k.1.1 (by omega) v)
  refine ⟨g1, ?_, m1, o1⟩
  unfold f_X9_set_b95
  rw [if_neg (by decide +kernel), h.chk, ob_some, il_4, ii_add, e1, ob_some]
theorem X9_set (k : StOK t) {w v : Int} (w1 : -2147483648 ≤ w) (w2 : w ≤ 2147483647) (v1 : -2147483648 ≤ v) (v2 : v ≤ 2147483647) :
    (¬ (0 ≤ w ∧ w < 3) → M9 (f_X9_set 95 (ii w) (ii v)) [3, 1] (.inr 3) t t) ∧ (0 ≤ w ∧ w < 3 → (¬ allowsS t.now w v → M9 (f_X9_set 95 (ii w) (ii v)) [3, 1] (.inr 1) t t) ∧
      (allowsS t.now w v → M9 (f_X9_set 95 (ii w) (ii v)) [3, 1] (.inl (lg t.now.st w.toNat)) t (t.keep (t.now.gv, t.now.md, t.now.sp, t.now.bl, t.now.st.set w.toNat v, t.now.wt)))) := by
  have s0 := k.1.1.stb 0
  have s1 := k.1.1.stb 1
  refine ⟨fun c => ?_, fun c => ?_⟩
  · refine M9.of (fun hs => rfl) (fun hs h => ?_)
    rw [il_0, il_2, X9_in w1 w2 (by omega) (by omega) (by omega) (by omega), ob_some, inI_0 (by omega), if_pos (by rfl), h.chk, ob_some]
    exact h.fail 1
  · have F : ∀ hs, MoA hs t 0 → (¬ allowsS t.now w v → ∃ hs', (f_X9_set_b95 95 (ii w) (ii v) (ii 0) hs) = some (ii 0, hs') ∧ MoA hs' t 2 ∧ Out hs hs' 95 10) := by
      intro hs h _
      unfold f_X9_set_b95
      rw [if_pos (by rfl), h.chk, ob_some]
      exact h.fail 2
    constructor
    · intro d
      refine M9.of (fun hs => rfl) (fun hs h => ?_)
      obtain ⟨f, nw, n, -⟩ := h.nw
      have F := F hs h d
      rw [show (0 : Int32) = ii 0 from rfl, il_2, X9_in w1 w2 (by omega) (by omega) (by omega) (by omega), ob_some, inI_1 (by omega), if_neg (by decide +kernel)]
      by_cases e : w = 2
      · rw [if_pos (by rw [e]), il_12, show (36 : Int32) = ii 36 from rfl, X9_in v1 v2 (by omega) (by omega) (by omega) (by omega), ob_some, inI_0 (by intro x; exact d (by rw [e]; exact allowsS_2.2 x)), if_pos (by rfl), h.chk, ob_some]
        exact h.fail 2
      · rw [if_neg (by rw [ii_eq (by omega) (by omega) (by omega) (by omega)]; exact e), show (24 : Int32) = ii 24 from rfl, show (84 : Int32) = ii 84 from rfl, X9_in v1 v2 (by omega) (by omega) (by omega) (by omega), ob_some]
        by_cases i : 24 ≤ v ∧ v ≤ 84
        · rw [inI_1 i, if_neg (by decide +kernel)]
          by_cases z : w = 0
          · rw [if_pos (by rw [z]), nw.2.1, ob_some, nw.k5 n, ob_some, if_pos (by rw [ii_lt (by omega) (by omega) (by omega) (by omega)]; by_cases y : v ≤ lg t.now.st 1; exact absurd (by rw [z]; exact allowsS_0.2 ⟨i.1, i.2, y⟩) d; omega)]
            exact F
          · have z1 : w = 1 := by omega
            rw [if_neg (by rw [ii_eq (by omega) (by omega) (by omega) (by omega)]; exact z), nw.2.1, ob_some, nw.k4 n, ob_some, if_pos (by rw [ii_lt (by omega) (by omega) (by omega) (by omega)]; by_cases y : lg t.now.st 0 ≤ v; exact absurd (by rw [z1]; exact allowsS_1.2 ⟨i.1, i.2, y⟩) d; omega)]
            exact F
        · rw [inI_0 i, if_pos (by rfl)]
          exact F
    · intro d
      refine M9.of (fun hs => rfl) (fun hs h => ?_)
      obtain ⟨f, nw, n, -⟩ := h.nw
      have S := X9_set95 k (v := v) c h
      rw [show (0 : Int32) = ii 0 from rfl, il_2, X9_in w1 w2 (by omega) (by omega) (by omega) (by omega), ob_some, inI_1 (by omega), if_neg (by decide +kernel)]
      by_cases e : w = 2
      · rw [e] at d
        have d := allowsS_2.1 d
        obtain ⟨g1, e1, m1, o1⟩ := h.sets k.1.1 k.2.2.2.1 k.kh (z := 6) (v := v) (a := lg t.now.st 2) (by omega) (by omega) (fun f n => n.1.2.2.2.1 2 (by omega)) (fun f n => n.st k.1.1 (w := 2) (by omega) v)
        rw [if_pos (by rw [e]), il_12, show (36 : Int32) = ii 36 from rfl, X9_in v1 v2 (by omega) (by omega) (by omega) (by omega), ob_some, inI_1 d, if_neg (by decide +kernel), h.chk, ob_some, show f_X9_sets 95 6 (ii v) hs = _ from e1, ob_some, e]
        exact ⟨g1, rfl, m1, o1⟩
      · rw [if_neg (by rw [ii_eq (by omega) (by omega) (by omega) (by omega)]; exact e), show (24 : Int32) = ii 24 from rfl, show (84 : Int32) = ii 84 from rfl, X9_in v1 v2 (by omega) (by omega) (by omega) (by omega), ob_some]
        by_cases z : w = 0
        · have dd := d
          rw [z] at dd
          have dd := allowsS_0.1 dd
          rw [inI_1 ⟨dd.1, dd.2.1⟩, if_neg (by decide +kernel), if_pos (by rw [z]), nw.2.1, ob_some, nw.k5 n, ob_some, if_neg (by rw [ii_lt (by omega) (by omega) (by omega) (by omega)]; omega)]
          exact S
        · have z1 : w = 1 := by omega
          have dd := d
          rw [z1] at dd
          have dd := allowsS_1.1 dd
          rw [inI_1 ⟨dd.1, dd.2.1⟩, if_neg (by decide +kernel), if_neg (by rw [ii_eq (by omega) (by omega) (by omega) (by omega)]; exact z), nw.2.1, ob_some, nw.k4 n, ob_some, if_neg (by rw [ii_lt (by omega) (by omega) (by omega) (by omega)]; omega)]
          exact S
theorem X9_setWeight (k : StOK t) {r v : Int} (r1 : -2147483648 ≤ r) (r2 : r ≤ 2147483647) (v1 : -2147483648 ≤ v) (v2 : v ≤ 2147483647) :
    (¬ (1 ≤ r ∧ r ≤ 16) → M9 (f_X9_setWeight 95 (ii r) (ii v)) [3, 1] (.inr 3) t t) ∧ (1 ≤ r ∧ r ≤ 16 → (¬ (0 ≤ v ∧ v ≤ 9) → M9 (f_X9_setWeight 95 (ii r) (ii v)) [3, 1] (.inr 1) t t) ∧
      (0 ≤ v ∧ v ≤ 9 → M9 (f_X9_setWeight 95 (ii r) (ii v)) [3, 1] (.inl (lg t.now.wt r.toNat)) t (t.keep (t.now.gv, t.now.md, t.now.sp, t.now.bl, t.now.st, t.now.wt.set r.toNat v)))) := by
  refine ⟨fun c => ?_, fun c => ⟨fun d => ?_, fun d => ?_⟩⟩
  · refine M9.of (fun hs => rfl) (fun hs h => ?_)
    rw [il_1, il_16, X9_in r1 r2 (by omega) (by omega) (by omega) (by omega), ob_some, inI_0 c, if_pos (by rfl), h.chk, ob_some]
    exact h.fail 1
  · refine M9.of (fun hs => rfl) (fun hs h => ?_)
    rw [il_1, il_16, X9_in r1 r2 (by omega) (by omega) (by omega) (by omega), ob_some, inI_1 c, if_neg (by decide +kernel), il_0, il_9, X9_in v1 v2 (by omega) (by omega) (by omega) (by omega), ob_some, inI_0 d, if_pos (by rfl), h.chk, ob_some]
    exact h.fail 2
  · refine M9.of (fun hs => rfl) (fun hs h => ?_)
    have hz : (6 + r).toNat = 6 + r.toNat := by omega
    obtain ⟨g1, e1, m1, o1⟩ := h.sets k.1.1 k.2.2.2.1 k.kh (z := 6 + r) (v := v) (a := lg t.now.wt r.toNat) (by omega) (by omega) (fun f n => by rw [hz]; exact n.1.2.2.2.2.1 r.toNat (by omega) (by omega)) (fun f n => by rw [hz]; exact n.wt k.1.1 (by omega) (by omega) v)
    rw [il_1, il_16, X9_in r1 r2 (by omega) (by omega) (by omega) (by omega), ob_some, inI_1 c, if_neg (by decide +kernel), il_0, il_9, X9_in v1 v2 (by omega) (by omega) (by omega) (by omega), ob_some, inI_1 d, if_neg (by decide +kernel), h.chk, ob_some, il_6, ii_add, e1, ob_some]
    exact ⟨g1, rfl, m1, o1⟩
def stSetNote (t : St) (b c v : Int) : St := if ¬ t.now.md.length = 0 ∧ ¬ plc t.now b c = -1 ∧ (42 ≤ v ∧ v ≤ 146) ∧ ¬ lat t.now.md (plc t.now b c) = -1 then (wm t.now (t.now.md.set (plc t.now b c).toNat v), t.2.1, t.2.2.1, kpt t.his t.now, t.2.2.2.2) else t
def opSetNote (s : Sh) (b c v : Int) : Int ⊕ Nat := if s.md.length = 0 then .inr 2 else if plc s b c = -1 then .inr 3 else if 42 ≤ v ∧ v ≤ 146 then (if lat s.md (plc s b c) = -1 then .inr 4 else .inl (lat s.md (plc s b c))) else .inr 1
theorem X9_setNote (k : StOK t) {b c v : Int} (b1 : -2147483648 ≤ b) (b2 : b ≤ 2147483647) (c1 : -2147483648 ≤ c) (c2 : c ≤ 2147483647) (v1 : -2147483648 ≤ v) (v2 : v ≤ 2147483647) : M9 (f_X9_setNote 95 (ii b) (ii c) (ii v)) [2, 3, 1, 4] (opSetNote t.now b c v) t (stSetNote t b c v) := by
  refine M9.of (fun hs => rfl) (fun hs h => ?_)
  obtain ⟨f, nw, n, h1⟩ := h.nw
  have ml := k.1.1.ml
  have pb := plc_b k.1.1 b c
  unfold opSetNote stSetNote
  rw [h.chk, ob_some, X9_hasLine nw h1 ml, ob_some]
  by_cases e : t.now.md.length = 0
  · rw [if_pos e, if_pos e, if_pos (by rfl), if_neg (fun x => x.1 e), ob_some]
    exact h.fail 1
  rw [if_neg e, if_neg e, if_neg (by decide +kernel), ob_some, X9_place nw n k.1.1 b1 b2 c1 c2, ob_some]
  by_cases i : plc t.now b c = -1
  · rw [if_pos (by rw [i]; rfl), if_pos i, if_neg (fun x => x.2.1 i), ob_some]
    exact h.fail 2
  obtain ⟨p0, p1, -⟩ := plc_in k.1 i e
  have mb := k.1.1.mdb (plc t.now b c)
  rw [if_neg (by rw [il_m1, ii_eq (by omega) (by omega) (by omega) (by omega)]; exact i), if_neg i, X9_isCode v1 v2, ob_some]
  by_cases g : 42 ≤ v ∧ v ≤ 146
  · rw [inI_1 g, if_neg (by decide +kernel), if_pos g, ob_some, X9_line nw n p0 p1 ml, ob_some]
    by_cases x : lat t.now.md (plc t.now b c) = -1
    · rw [if_pos (by rw [x]; rfl), if_pos x, if_neg (fun y => y.2.2.2 x), ob_some]
      exact h.fail 4
    · have hz : (35 + plc t.now b c).toNat = 35 + (plc t.now b c).toNat := by omega
      obtain ⟨g1, e1, m1, o1⟩ := h.sets k.1.1 k.2.2.2.1 k.kh (z := 35 + plc t.now b c) (v := v) (a := lat t.now.md (plc t.now b c)) (by omega) (by omega) (fun f n => by rw [hz, n.1.2.2.2.2.2.2 _ (by omega), lat_in p0]) (fun f n => by rw [hz]; exact n.md k.1.1.gl (by omega) v)
      rw [if_neg (by rw [il_m1, ii_eq (by omega) (by omega) (by omega) (by omega)]; exact x), if_neg x, if_pos ⟨e, i, g, x⟩, ob_some, show (35 : Int32) = ii 35 from rfl, ii_add, e1, ob_some]
      exact ⟨g1, rfl, m1, o1⟩
  · rw [inI_0 g, if_pos (by rfl), if_neg g, if_neg (fun y => g y.2.2.1), ob_some]
    exact h.fail 3
end MSE
