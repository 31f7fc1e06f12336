/-! ===== the reference's calls: texts ===== -/
theorem detC_c {s : Sh} (k : SOK s) {cp cn p : Int} (h0 : 0 ≤ p) (c1 : 0 ≤ cn ∧ cn ≤ 60) (r : Nat) : -1 ≤ detC s cp cn p r ∧ detC s cp cn p r ≤ 90 := by
  have n1 : (-1 : Int) ≤ -1 ∧ (-1 : Int) ≤ 90 := by decide
  have z1 : (-1 : Int) ≤ 0 ∧ (0 : Int) ≤ 90 := by decide
  have pp := pitN_b k p
  have B0 := (spn_b (k.gvb (p / per s.sp)) (k.mdb p)).i
  have B4 := (spn_b (k.mdb (p - 1)) (k.mdb p)).i
  have B5 := (spn_b (k.mdb (p - 2)) (k.mdb (p - 1))).i
  have B0 : (0 ≤ (har s p).1 ∧ (har s p).1 ≤ 1) ∧ (0 ≤ (har s p).2.1 ∧ (har s p).2.1 ≤ 40) ∧ (0 ≤ (har s p).2.2.1 ∧ (har s p).2.2.1 ≤ 80) ∧ (-1 ≤ (har s p).2.2.2.1 ∧ (har s p).2.2.2.1 ≤ 1) ∧ (0 ≤ (har s p).2.2.2.2 ∧ (har s p).2.2.2.2 ≤ 8) := B0
  have B4 : (0 ≤ (arrS s p).1 ∧ (arrS s p).1 ≤ 1) ∧ (0 ≤ (arrS s p).2.1 ∧ (arrS s p).2.1 ≤ 40) ∧ (0 ≤ (arrS s p).2.2.1 ∧ (arrS s p).2.2.1 ≤ 80) ∧ (-1 ≤ (arrS s p).2.2.2.1 ∧ (arrS s p).2.2.2.1 ≤ 1) ∧ (0 ≤ (arrS s p).2.2.2.2 ∧ (arrS s p).2.2.2.2 ≤ 8) := B4
  have B5 : (0 ≤ (appS s p).1 ∧ (appS s p).1 ≤ 1) ∧ (0 ≤ (appS s p).2.1 ∧ (appS s p).2.1 ≤ 40) ∧ (0 ≤ (appS s p).2.2.1 ∧ (appS s p).2.2.1 ≤ 80) ∧ (-1 ≤ (appS s p).2.2.2.1 ∧ (appS s p).2.2.2.1 ≤ 1) ∧ (0 ≤ (appS s p).2.2.2.2 ∧ (appS s p).2.2.2.2 ≤ 8) := B5
  have w0 : -1 ≤ (har s p).2.2.1 ∧ (har s p).2.2.1 ≤ 90 := by omega
  have w1 : -1 ≤ (har s p).2.2.2.2 ∧ (har s p).2.2.2.2 ≤ 90 := by omega
  have w2 : -1 ≤ (arrS s p).2.2.1 ∧ (arrS s p).2.2.1 ≤ 90 := by omega
  have w3 : -1 ≤ (appS s p).2.1 ∧ (appS s p).2.1 ≤ 90 := by omega
  have w4 : -1 ≤ (appS s p).2.1 + (arrS s p).2.1 ∧ (appS s p).2.1 + (arrS s p).2.1 ≤ 90 := by omega
  unfold detC
  refine if_b n1 (if_b n1 ?_)
  split
  · exact if_b (by omega) n1
  · exact if_b n1 (if_b w2 n1)
  · exact if_b n1 w3
  · exact if_b (if_b z1 n1) n1
  · exact if_b n1 (if_b n1 (if_b n1 (if_b w4 (if_b n1 w4))))
  · exact if_b (by omega) n1
  · exact if_b (if_b (if_b w0 n1) n1) n1
  · exact if_b n1 w0
  · exact if_b n1 w1
  · exact if_b n1 w1
  · exact if_b n1 z1
  · exact if_b (if_b w0 n1) (if_b w0 n1)
  · exact if_b n1 w0
  · exact if_b n1 w0
  · have q : ∀ z : Int, z = 1 ∨ z = 2 ∨ z = 3 ∨ z = 4 → -1 ≤ z ∧ z ≤ 90 := fun z h => by omega
    exact if_b (if_b (if_b (q 2 (by decide)) (if_b (q 3 (by decide)) (if_b (q 3 (by decide)) (if_b (if_b n1 (q 4 (by decide))) (if_b n1 (q 4 (by decide))))))) (q 1 (by decide))) n1
  · exact if_b n1 w0
  · exact n1
theorem flt_90 {s : Sh} (k : SOK s) {p : Int} (h0 : 0 ≤ p) (r : Nat) : -1 ≤ flt s p r ∧ flt s p r ≤ 90 := detC_c k h0 (cp_b k).2 r
def Wr (hs : AH) (l : List Int) : Prop := ∃ W, RA hs 104 200 W ∧ ∀ j, j < l.length → W j = lg l j
theorem Wr.push {hs : AH} {l : List Int} (h : Wr hs l) (hl : l.length < 200) (v : Int) : ∃ hs', sN 0 hs 104 (ii l.length) (ii v) = some hs' ∧ Wr hs' (l ++ [v]) ∧ Ou hs hs' [104] := by
  obtain ⟨W, a, hw⟩ := h
  obtain ⟨g, e, a1, o⟩ := a.put (z := (l.length : Int)) v (by omega) (by omega) (by omega)
  refine ⟨g, e, ⟨_, a1, fun j hj => ?_⟩, o.ou⟩
  rw [Int.toNat_natCast]
  by_cases c : j = l.length
  · rw [c, updZ_eq, lg_push]
  · have : j < l.length := by rw [List.length_append] at hj; simp at hj; omega
    rw [updZ_ne c, lg_push_lt this]; exact hw j this
theorem Wr.get {hs : AH} {l : List Int} (h : Wr hs l) (hl : l.length ≤ 200) {z : Int} (z0 : 0 ≤ z) (z1 : z < l.length) : aN 0 hs 104 (ii z) = some (ii (lg l z.toNat)) := by
  obtain ⟨W, a, hw⟩ := h
  rw [a.get z0 (by omega) (by omega), hw _ (by omega)]
theorem tx_53 : ∀ k : Fin 7, lg (tx 53) k.1 = lg (tx 16) k.1 ∧ k.1 < (tx 53).length := by decide +kernel
section MTX
variable {hs : AH} {x : Nat → Int}
theorem wr71 (M : MO hs x) {l : List Int} (w : Wr hs l) (hl : l.length < 200) {c : Int} (hc : 42 ≤ c ∧ c ≤ 146) : ∃ hs', f_X9_writes_b71 95 (ii c) (ii l.length) hs = some (ii (l ++ [48 + c / 3 / 7]).length, hs') ∧ Wr hs' (l ++ [48 + c / 3 / 7]) ∧ Ou hs hs' [104] := by
  have sb := stp_bd hc
  obtain ⟨g, e, w1, o⟩ := w.push hl (48 + stp c / 7)
  refine ⟨g, ?_, w1, o⟩
  unfold f_X9_writes_b71
  rw [M.r16, ob_some, X9_stepOf (by omega) (by omega), ob_some, il_7, ii_div (by omega) (by omega) (by omega) (by omega), show (48 : Int32) = ii 48 from rfl, ii_add, e, ob_some, il_1, ii_add, List.length_append]
  rfl
theorem X9_writes (M : MO hs x) {l : List Int} (w : Wr hs l) (hl : l.length + 3 ≤ 200) {c : Int} (hc : c = -1 ∨ (42 ≤ c ∧ c ≤ 146)) : ∃ hs', f_X9_writes 95 (ii l.length) (ii c) hs = some (ii (l ++ noteTx c).length, hs') ∧ Wr hs' (l ++ noteTx c) ∧ Ou hs hs' [104] := by
  unfold f_X9_writes noteTx
  by_cases e : c = -1
  · obtain ⟨g, e1, w1, o⟩ := w.push (by omega) 45
    rw [if_pos e, if_pos (by rw [e]; rfl)]
    refine ⟨g, ?_, w1, o⟩
    rw [M.r16, ob_some, show (45 : Int32) = ii 45 from rfl, e1, ob_some, il_1, ii_add, List.length_append]
    rfl
  · have hc : 42 ≤ c ∧ c ≤ 146 := by omega
    have sb := stp_bd hc
    obtain ⟨t1, t2⟩ := tx_53 ⟨(stp c % 7).toNat, by omega⟩
    dsimp only at t1 t2
    have ch : f_J0_charAt_5068e (SBn + 53) (ii (stp c % 7)) = some (ii (lg (tx 16) (stp c % 7).toNat)) := by
      rw [← t1]
      exact str_chr (i := 53) (by omega) (by omega) (by omega)
    have e16 : (stp c % 7) = c / 3 % 7 := rfl
    obtain ⟨g1, e1, w1, o1⟩ := w.push (by omega) (lg (tx 16) (stp c % 7).toNat)
    have M1 := M.ou o1 (by decide)
    have l1 : (l ++ [lg (tx 16) (stp c % 7).toNat]).length = l.length + 1 := by rw [List.length_append]; rfl
    have eL : ii (l.length : Int) + 1 = ii ((l ++ [lg (tx 16) (stp c % 7).toNat]).length : Int) := by rw [il_1, ii_add, l1]; rfl
    rw [if_neg e, if_neg (by rw [il_m1, ii_eq (by omega) (by omega) (by omega) (by omega)]; exact e), M.r16, ob_some, X9_stepOf (by omega) (by omega), ob_some, str_chk (by omega), ob_some, il_7, ii_mod (by omega) (by omega) (by omega) (by omega), ch, ob_some, e1, ob_some, X9_alt (by omega) (by omega), ob_some, eL]
    unfold altTx
    by_cases a : c % 3 - 1 = 0
    · obtain ⟨g2, e2, w2, o2⟩ := wr71 M1 w1 (by omega) hc
      rw [if_pos (by rw [a]; rfl), if_pos a, ← e16]
      rw [List.append_assoc] at e2 w2
      exact ⟨g2, e2, w2, o1.trans o2⟩
    · rw [if_neg (by rw [il_0, ii_eq (by omega) (by omega) (by omega) (by omega)]; exact a), if_neg a, M1.r16, ob_some, ob_some]
      by_cases b : c % 3 - 1 ≤ 0
      · obtain ⟨g2, e2, w2, o2⟩ := w1.push (by omega) 98
        have l2 : ((l ++ [lg (tx 16) (stp c % 7).toNat]) ++ [98]).length = l.length + 2 := by rw [List.length_append, l1]; rfl
        have eL2 : ii ((l ++ [lg (tx 16) (stp c % 7).toNat]).length : Int) + 1 = ii (((l ++ [lg (tx 16) (stp c % 7).toNat]) ++ [98]).length : Int) := by rw [il_1, ii_add, l2, l1]; rfl
        obtain ⟨g3, e3, w3, o3⟩ := wr71 (M1.ou o2 (by decide)) w2 (by omega) hc
        rw [if_pos (by rw [il_0, ii_le (by omega) (by omega) (by omega) (by omega)]; exact b), if_pos b, show (98 : Int32) = ii 98 from rfl, e2, ob_some, eL2, ← e16]
        have el : l ++ [lg (tx 16) (stp c % 7).toNat] ++ [98] ++ [48 + c / 3 / 7] = l ++ lg (tx 16) (stp c % 7).toNat :: ([98] ++ [48 + c / 3 / 7]) := by simp
        rw [el] at e3 w3
        exact ⟨g3, e3, w3, o1.trans (o2.trans o3)⟩
      · obtain ⟨g2, e2, w2, o2⟩ := w1.push (by omega) 35
        have l2 : ((l ++ [lg (tx 16) (stp c % 7).toNat]) ++ [35]).length = l.length + 2 := by rw [List.length_append, l1]; rfl
        have eL2 : ii ((l ++ [lg (tx 16) (stp c % 7).toNat]).length : Int) + 1 = ii (((l ++ [lg (tx 16) (stp c % 7).toNat]) ++ [35]).length : Int) := by rw [il_1, ii_add, l2, l1]; rfl
        obtain ⟨g3, e3, w3, o3⟩ := wr71 (M1.ou o2 (by decide)) w2 (by omega) hc
        rw [if_neg (by rw [il_0, ii_le (by omega) (by omega) (by omega) (by omega)]; exact b), if_neg b, show (35 : Int32) = ii 35 from rfl, e2, ob_some, eL2, ← e16]
        have el : l ++ [lg (tx 16) (stp c % 7).toNat] ++ [35] ++ [48 + c / 3 / 7] = l ++ lg (tx 16) (stp c % 7).toNat :: ([35] ++ [48 + c / 3 / 7]) := by simp
        rw [el] at e3 w3
        exact ⟨g3, e3, w3, o1.trans (o2.trans o3)⟩
variable {t : St}
theorem MoA.wr {hs' : AH} {th : Int} (h : MoA hs t th) {l : List Int} (w : Wr hs' l) (o : Ou hs hs' [104]) : MoA hs' t th := by
  obtain ⟨⟨x, m, ax⟩, h2, h3, h4, h5, h6, h7, h8, h9, -⟩ := h
  obtain ⟨W, a, -⟩ := w
  exact ⟨⟨x, m.ou o (by decide), ax⟩, h2.ou o (by decide), h3.ou o (by decide), h4.ou o (by decide), h5.ou o (by decide), h6.ou o (by decide), h7.ou o (by decide), h8.ou o (by decide), h9.ou o (by decide), ⟨W, a⟩⟩
theorem X9_answers {cl : List Nat} {c : Int} (hc : cod cl 3 = c) (h : MoA hs t 0) {l : List Int} (w : Wr hs l) (hl : l.length ≤ 200) {j : Int} (j1 : -2147483648 ≤ j) (j2 : j ≤ 2147483647) : ∃ hs', f_X9_answers 95 (ii j) (ii l.length) (ii c) hs = some (ii (anR (opSign l j)), hs') ∧ MoA hs' t (cdR cl (opSign l j)) ∧ Out hs hs' 95 10 := by
  unfold f_X9_answers opSign
  by_cases a : j = -1
  · rw [if_pos a, if_pos (by rw [a]; rfl)]
    exact ⟨hs, rfl, h, Out.refl _ _ _⟩
  · rw [if_neg a, if_neg (by rw [il_m1, ii_eq (by omega) (by omega) (by omega) (by omega)]; exact a), il_1, ii_sub, il_0, X9_in j1 j2 (by omega) (by omega) (by omega) (by omega), ob_some]
    by_cases b : 0 ≤ j ∧ j ≤ (l.length : Int) - 1
    · obtain ⟨⟨x, m, -⟩, -⟩ := id h
      rw [inI_1 b, if_neg (by decide +kernel), if_pos (by omega), m.r16, ob_some, w.get hl b.1 (by omega), ob_some]
      exact ⟨hs, rfl, h, Out.refl _ _ _⟩
    · rw [inI_0 b, if_pos (by rfl), if_neg (by omega), h.chk, ob_some]
      obtain ⟨g, e, m, o⟩ := h.fail c
      refine ⟨g, e, ?_, o⟩
      show MoA g t (cod cl 3)
      rw [hc]; exact m
theorem X9_text_loop (k : Full t.now) {isC : Int} (hC : isC = 0 ∨ isC = 1) {c : List Int} (hcl : c = if isC = 0 then t.now.md else t.now.gv) {j : Int} (j1 : -2147483648 ≤ j) (j2 : j ≤ 2147483647) : ∀ (d m i : Nat) (hs : AH), d < m → i + d = c.length → MoA hs t 0 → Wr hs (lineTx c i) →
    ∃ hs', f_X9_text_b41 m 95 (ii isC) (ii j) (ii c.length) (ii (lineTx c i).length) (ii i) hs = some (ii (anR (opSign (lineTx c c.length) j)), hs') ∧ MoA hs' t (cdR [2, 3] (opSign (lineTx c c.length) j)) ∧ Out hs hs' 95 10 := by
  have gl := k.1.gl
  have ml := k.1.ml
  have cl : c.length ≤ 45 := by rw [hcl]; by_cases a : isC = 0 <;> simp [a] <;> omega
  have hv : ∀ y ∈ c, y = -1 ∨ (42 ≤ y ∧ y ≤ 146) := by
    rw [hcl]
    by_cases a : isC = 0
    · rw [if_pos a]; exact k.1.2.2.2.2.2.2.2.2.2.2.1
    · rw [if_neg a]; exact fun y hy => Or.inr (k.1.2.2.2.2.2.2.2.2.1 y hy)
  intro d
  induction d with
  | zero =>
    intro m i hs hm hi h w
    obtain ⟨m, rfl⟩ : ∃ z, m = z + 1 := ⟨m - 1, by omega⟩
    obtain rfl : i = c.length := by omega
    have ll := lineTx_len c c.length
    obtain ⟨g, e, q, o⟩ := X9_answers (cl := [2, 3]) (c := 2) rfl h w (by omega) j1 j2
    refine ⟨g, ?_, q, o⟩
    rw [f_X9_text_b41.eq_2, if_pos (by rw [ii_le (by omega) (by omega) (by omega) (by omega)]; omega), h.chk, ob_some, show f_X9_answers 95 (ii j) (ii (lineTx c c.length).length) 2 hs = _ from e, ob_some]
  | succ d ih =>
    intro m i hs hm hi h w
    obtain ⟨m, rfl⟩ : ∃ z, m = z + 1 := ⟨m - 1, by omega⟩
    have ll := lineTx_len c i
    have hck := hv _ (lg_mem (show i < c.length by omega))
    have st : lineTx c (i + 1) = lineTx c i ++ ((if i = 0 then [] else [44]) ++ noteTx (lg c i)) := rfl
    have e1 : ii (i : Int) + 1 = ii ((i + 1 : Nat) : Int) := by rw [il_1, ii_add]; rfl
    have b64 : ∀ (hs : AH) (l : List Int), MoA hs t 0 → Wr hs l → l.length + 3 ≤ 200 → l ++ noteTx (lg c i) = lineTx c (i + 1) → ∃ hs', f_X9_text_b64 (f_X9_text_b41 m) 95 (ii isC) (ii j) (ii c.length) (ii l.length) (ii i) hs = some (ii (anR (opSign (lineTx c c.length) j)), hs') ∧ MoA hs' t (cdR [2, 3] (opSign (lineTx c c.length) j)) ∧ Out hs hs' 95 10 := by
      intro hs l h w hl he
      obtain ⟨⟨x, M, -⟩, -⟩ := id h
      obtain ⟨f, nw, n, h1⟩ := h.nw
      obtain ⟨g1, f1, w1, o1⟩ := X9_writes M w hl hck
      have h2 := h.wr w1 o1
      rw [he] at f1 w1
      obtain ⟨g2, f2, q2, o2⟩ := ih m (i + 1) g1 (by omega) (by omega) h2 w1
      refine ⟨g2, ?_, q2, (o1.out (fun k hk => by simp at hk; omega)).trans o2⟩
      unfold f_X9_text_b64
      rw [e1]
      by_cases a : isC = 0
      · rw [if_pos a] at hcl
        rw [if_pos (by rw [a]; rfl), h.chk, ob_some, X9_line nw n (by omega) (by rw [← hcl]; omega) ml, ob_some, ob_some, lat_nat, ← hcl, f1, ob_some]
        exact f2
      · rw [if_neg a] at hcl
        rw [if_neg (by rw [il_0, ii_eq (by omega) (by omega) (by omega) (by omega)]; exact a), h.chk, ob_some, X9_cantusAt nw n (by omega) (by rw [← hcl]; omega) gl, ob_some, ob_some, lat_nat, ← hcl, f1, ob_some]
        exact f2
    rw [f_X9_text_b41.eq_2, if_neg (by rw [ii_le (by omega) (by omega) (by omega) (by omega)]; omega)]
    by_cases z : i = 0
    · rw [if_pos (by rw [il_0, ii_le (by omega) (by omega) (by omega) (by omega)]; omega)]
      refine b64 hs _ h w (by omega) ?_
      rw [st, if_pos z]; rfl
    · obtain ⟨⟨x, M, -⟩, -⟩ := id h
      obtain ⟨g1, f1, w1, o1⟩ := w.push (by omega) 44
      have h2 := h.wr w1 o1
      have l1 : (lineTx c i ++ [44]).length = (lineTx c i).length + 1 := by rw [List.length_append]; rfl
      obtain ⟨g2, f2, q2, o2⟩ := b64 g1 _ h2 w1 (by omega) (by rw [st, if_neg z, List.append_assoc])
      refine ⟨g2, ?_, q2, (o1.out (fun k hk => by simp at hk; omega)).trans o2⟩
      rw [if_neg (by rw [il_0, ii_le (by omega) (by omega) (by omega) (by omega)]; omega), M.r16, ob_some, show (44 : Int32) = ii 44 from rfl, f1, ob_some, il_1, ii_add, show ((lineTx c i).length : Int) + 1 = ((lineTx c i ++ [44]).length : Nat) from by rw [l1]; rfl]
      exact f2
theorem X9_text (k : Full t.now) {isC j : Int} (hC : isC = 0 ∨ isC = 1) (j1 : -2147483648 ≤ j) (j2 : j ≤ 2147483647) : M9 (f_X9_text 95 (ii isC) (ii j)) [2, 3] (opText t.now isC j) t t := by
  have gl := k.1.gl
  have ml := k.1.ml
  refine M9.of (fun hs => rfl) (fun hs h => ?_)
  obtain ⟨f, nw, n, h1⟩ := h.nw
  have key : ∀ c : List Int, c = (if isC = 0 then t.now.md else t.now.gv) → ∃ hs', f_X9_text_b24 95 (ii isC) (ii j) (ii c.length) hs = some (ii (anR (opText t.now isC j)), hs') ∧ MoA hs' t (cdR [2, 3] (opText t.now isC j)) ∧ Out hs hs' 95 10 := by
    intro c hc
    have cl : c.length ≤ 45 := by rw [hc]; by_cases a : isC = 0 <;> simp [a] <;> omega
    unfold f_X9_text_b24 opText
    rw [← hc]
    by_cases e : c.length = 0
    · rw [if_pos (by rw [e]; rfl), if_pos e, h.chk, ob_some]
      exact h.fail 1
    · obtain ⟨-, -, -, -, -, -, -, -, -, ⟨W, a⟩⟩ := id h
      rw [if_neg (by rw [il_0, ii_eq (by omega) (by omega) (by omega) (by omega)]; omega), if_neg e]
      exact X9_text_loop k hC hc j1 j2 c.length FUEL 0 hs (by unfold FUEL; omega) (by omega) h ⟨W, a, fun j hj => by cases hj⟩
  rcases hC with rfl | rfl
  · rw [if_pos (by rfl), nw.2.1, ob_some, nw.k1, h1, ob_some]
    exact key t.now.md rfl
  · rw [if_neg (by decide +kernel), nw.2.1, ob_some, nw.k0 n, ob_some]
    exact key t.now.gv rfl
end MTX
