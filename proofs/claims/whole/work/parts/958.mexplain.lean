/-! ===== the reference's calls: explain ===== -/
theorem dI_ii {a b : Int} (h0 : 0 ≤ a) (h1 : a ≤ 2147483647) (h2 : 0 < b) (h3 : b ≤ 2147483647) : dI (ii a) (ii b) = some (ii (a / b)) := by
  unfold dI
  rw [if_neg (by rw [il_0, ii_eq (by omega) (by omega) (by omega) (by omega)]; omega), ii_div h0 h1 h2 h3]
def nst : Nat → Nat
  | 0 => 0
  | 1 => 0
  | r + 2 => nst (r + 1) + (nm (r + 1)).length + 1
theorem nst_tab : ∀ r : Fin 17, 1 ≤ r.1 → f_J0_indexOf_7cf53 (SBn + 54) 44 (ii (nst r.1)) = some (ii (nst r.1 + (nm r.1).length : Nat)) ∧ (∀ k : Fin 9, k.1 < (nm r.1).length → lg (tx 54) (nst r.1 + k.1) = lg (nm r.1) k.1) ∧ lg (tx 54) (nst r.1 + (nm r.1).length) = 44 ∧ nst r.1 + (nm r.1).length < (tx 54).length := by decide +kernel
section MEX
variable {hs : AH} {x : Nat → Int}
theorem num21 (M : MO hs x) {l : List Int} (w : Wr hs l) (hl : l.length + 1 ≤ 200) {v : Int} (v0 : 0 ≤ v) (v1 : v ≤ 99) (n : Nat) : ∃ hs', f_X9_number_b21 (n + 2) 95 (ii v) (ii 1) (ii l.length) hs = some (ii (l ++ [48 + v % 10]).length, hs') ∧ Wr hs' (l ++ [48 + v % 10]) ∧ Ou hs hs' [104] := by
  obtain ⟨g, e, w1, o⟩ := w.push (by omega) (48 + v % 10)
  refine ⟨g, ?_, w1, o⟩
  rw [f_X9_number_b21.eq_2, if_neg (by decide +kernel), M.r16, ob_some, dI_ii v0 (by omega) (by omega) (by omega), ob_some, Int.ediv_one, il_10, ii_mod (by omega) (by omega) (by omega) (by omega), show (48 : Int32) = ii 48 from rfl, ii_add, e, ob_some, f_X9_number_b21.eq_2, if_pos (by decide +kernel), il_1, ii_add, List.length_append]
  rfl
theorem X9_number (M : MO hs x) {l : List Int} (w : Wr hs l) (hl : l.length + 2 ≤ 200) {v : Int} (v0 : 0 ≤ v) (v1 : v ≤ 99) : ∃ hs', f_X9_number 95 (ii l.length) (ii v) hs = some (ii (l ++ numTx v).length, hs') ∧ Wr hs' (l ++ numTx v) ∧ Ou hs hs' [104] := by
  unfold f_X9_number numTx
  by_cases c : v < 10
  · obtain ⟨g, e, w1, o⟩ := num21 M w (by omega) v0 v1 999998
    rw [if_pos c]
    refine ⟨g, ?_, w1, o⟩
    rw [show FUEL = 999999 + 1 from rfl, f_X9_number_b2.eq_2, il_1, dI_ii v0 (by omega) (by omega) (by omega), ob_some, Int.ediv_one, if_pos (by rw [il_9, ii_le (by omega) (by omega) (by omega) (by omega)]; omega)]
    exact e
  · rw [if_neg c]
    obtain ⟨g1, e1, w1, o1⟩ := w.push (by omega) (48 + v / 10 % 10)
    have l1 : (l ++ [48 + v / 10 % 10]).length = l.length + 1 := by rw [List.length_append]; rfl
    obtain ⟨g2, e2, w2, o2⟩ := num21 (M.ou o1 (by decide)) w1 (by omega) v0 v1 999997
    have el : l ++ [48 + v / 10 % 10] ++ [48 + v % 10] = l ++ [48 + v / 10 % 10, 48 + v % 10] := by simp
    rw [el] at e2 w2
    refine ⟨g2, ?_, w2, o1.trans o2⟩
    have h10 : (1 : Int32) * 10 = ii 10 := by decide +kernel
    rw [show FUEL = (999998 + 1) + 1 from rfl, f_X9_number_b2.eq_2, show dI (ii v) 1 = some (ii (v / 1)) from dI_ii (b := 1) v0 (by omega) (by omega) (by omega), ob_some, Int.ediv_one, if_neg (by rw [il_9, ii_le (by omega) (by omega) (by omega) (by omega)]; omega), f_X9_number_b2.eq_2, h10, dI_ii v0 (by omega) (by omega) (by omega), ob_some, if_pos (by rw [il_9, ii_le (by omega) (by omega) (by omega) (by omega)]; omega), show FUEL = 999999 + 1 from rfl, f_X9_number_b21.eq_2, if_neg (by decide +kernel), M.r16, ob_some, dI_ii v0 (by omega) (by omega) (by omega), ob_some, il_10, ii_mod (by omega) (by omega) (by omega) (by omega), show (48 : Int32) = ii 48 from rfl, ii_add, e1, ob_some, ii_div (by omega) (by omega) (by omega) (by omega), il_1, ii_add, show (l.length : Int) + 1 = ((l ++ [48 + v / 10 % 10]).length : Nat) from by rw [l1]; rfl]
    exact e2
variable {t : St}
/-- the name, then what follows -/
theorem X9_ex141 (k : Full t.now) {q : Nat} (q1 : 1 ≤ q) (q2 : q ≤ 16) {d : Int} (d0 : 0 ≤ d) (d1 : d ≤ 99) {num : Nat} {j : Int} (j1 : -2147483648 ≤ j) (j2 : j ≤ 2147483647) : ∀ (e m i : Nat) (hs : AH) (l : List Int), e < m → i + e = (nm q).length → MoA hs t 0 → Wr hs l → l.length + e ≤ 50 → aN 0 hs 103 (ii (4 * (num : Int) + 3)) = some (ii d) →
    ∃ hs', f_X9_explain_b141 m 95 (ii j) (ii (4 * (num : Int))) (ii l.length) (ii (nst q + i : Nat)) hs = some (ii (anR (opSign (l ++ (nm q).drop i ++ [61] ++ numTx d) j)), hs') ∧ MoA hs' t (cdR [2, 4, 3] (opSign (l ++ (nm q).drop i ++ [61] ++ numTx d) j)) ∧ Out hs hs' 95 10 := by
  obtain ⟨-, ta, tb, tc⟩ := nst_tab ⟨q, by omega⟩ q1
  dsimp only at ta tb tc
  have tl : (tx 54).length ≤ 110 := str_le (by omega)
  intro e
  induction e with
  | zero =>
    intro m i hs l hm hi h w hl ha
    obtain ⟨m, rfl⟩ : ∃ z, m = z + 1 := ⟨m - 1, by omega⟩
    obtain rfl : i = (nm q).length := by omega
    obtain ⟨⟨x, M, -⟩, -⟩ := id h
    have ch : f_J0_charAt_5068e (SBn + 54) (ii (nst q + (nm q).length : Nat)) = some (ii 44) := by
      rw [str_chr (i := 54) (by omega) (by omega) (by omega), Int.toNat_natCast, tb]
    obtain ⟨g1, e1, w1, o1⟩ := w.push (by omega) 61
    have h1 := h.wr w1 o1
    have l1 : (l ++ [61]).length = l.length + 1 := by rw [List.length_append]; rfl
    have nl := numTx_len d
    obtain ⟨g2, e2, w2, o2⟩ := X9_number (M.ou o1 (by decide)) w1 (by omega) d0 d1
    have h2 := h1.wr w2 o2
    obtain ⟨g3, e3, q3, o3⟩ := X9_answers (cl := [2, 4, 3]) (c := 3) rfl h2 w2 (by rw [List.length_append]; omega) j1 j2
    have ha1 : aN 0 g1 103 (ii (4 * (num : Int) + 3)) = some (ii d) := by
      rw [← ha]; unfold aN; rw [o1 103 (by decide)]
    refine ⟨g3, ?_, ?_, (o1.out (fun k hk => by simp at hk; omega)).trans ((o2.out (fun k hk => by simp at hk; omega)).trans o3)⟩
    · rw [f_X9_explain_b141.eq_2, str_chk (by omega), ob_some, ch, ob_some, if_pos (by rfl), M.r16, ob_some, show (61 : Int32) = ii 61 from rfl, e1, ob_some, (M.ou o1 (by decide)).r14, ob_some, il_3, ii_add, ha1, ob_some, h1.chk, ob_some, il_1, ii_add, show (l.length : Int) + 1 = ((l ++ [61]).length : Nat) from by rw [l1]; rfl, e2, ob_some]
      dsimp only
      rw [h2.chk, ob_some, e3, ob_some, List.drop_length, List.append_nil]
    · rw [List.drop_length, List.append_nil]; exact q3
  | succ e ih =>
    intro m i hs l hm hi h w hl ha
    obtain ⟨m, rfl⟩ : ∃ z, m = z + 1 := ⟨m - 1, by omega⟩
    obtain ⟨⟨x, M, -⟩, -⟩ := id h
    have nl := nm_len q1 q2
    have hc := ta ⟨i, by omega⟩ (by dsimp only; omega)
    dsimp only at hc
    have az := nm_az q1 q2 _ (lg_mem (l := nm q) (j := i) (by omega))
    have ch : f_J0_charAt_5068e (SBn + 54) (ii (nst q + i : Nat)) = some (ii (lg (nm q) i)) := by
      rw [str_chr (i := 54) (by omega) (by omega) (by omega), Int.toNat_natCast, hc]
    obtain ⟨g1, e1, w1, o1⟩ := w.push (by omega) (lg (nm q) i)
    have h1 := h.wr w1 o1
    have l1 : (l ++ [lg (nm q) i]).length = l.length + 1 := by rw [List.length_append]; rfl
    have ha1 : aN 0 g1 103 (ii (4 * (num : Int) + 3)) = some (ii d) := by
      rw [← ha]; unfold aN; rw [o1 103 (by decide)]
    obtain ⟨g2, e2, q2', o2⟩ := ih m (i + 1) g1 (l ++ [lg (nm q) i]) (by omega) (by omega) h1 w1 (by omega) ha1
    have ed : l ++ [lg (nm q) i] ++ (nm q).drop (i + 1) = l ++ (nm q).drop i := by
      rw [List.append_assoc, List.drop_eq_getElem_cons (show i < (nm q).length by omega)]
      unfold lg
      rw [List.getElem?_eq_getElem (by omega)]
      rfl
    rw [ed] at e2 q2'
    refine ⟨g2, ?_, q2', (o1.out (fun k hk => by simp at hk; omega)).trans o2⟩
    rw [f_X9_explain_b141.eq_2, str_chk (by omega), ob_some, ch, ob_some, if_neg (by rw [show (44 : Int32) = ii 44 from rfl, ii_eq (by omega) (by omega) (by omega) (by omega)]; omega), M.r16, ob_some, ob_some, ob_some, e1, ob_some, il_1, ii_add, ii_add, show (l.length : Int) + 1 = ((l ++ [lg (nm q) i]).length : Nat) from by rw [l1]; rfl, show ((nst q + i : Nat) : Int) + 1 = ((nst q + (i + 1) : Nat) : Int) from by omega]
    exact e2
theorem X9_ex111 {M F : Nat → Int} (mo : MO hs x) (a : RA hs 103 2880 F) {q num : Nat} (q1 : 1 ≤ q) (q2 : q ≤ 16) (hn : num ≤ 719) (hq : F (4 * num) = q) {j L : Int32} : ∀ (d m r : Nat), d < m → r + d = q → 1 ≤ r → f_X9_explain_b111 m 95 j (ii (4 * (num : Int))) L (ii (nst r)) (ii r) hs = f_X9_explain_b141 FUEL 95 j (ii (4 * (num : Int))) L (ii (nst q)) hs := by
  intro d
  induction d with
  | zero =>
    intro m r hm hr r1
    obtain ⟨m, rfl⟩ : ∃ z, m = z + 1 := ⟨m - 1, by omega⟩
    obtain rfl : r = q := by omega
    rw [f_X9_explain_b111.eq_2, mo.r14, ob_some, a.get (by omega) (by omega) (by omega), ob_some, show (4 * (num : Int)).toNat = 4 * num from by omega, hq, if_pos (by rw [ii_le (by omega) (by omega) (by omega) (by omega)]; omega)]
  | succ d ih =>
    intro m r hm hr r1
    obtain ⟨m, rfl⟩ : ∃ z, m = z + 1 := ⟨m - 1, by omega⟩
    obtain ⟨ti, -⟩ := nst_tab ⟨r, by omega⟩ r1
    dsimp only at ti
    have ns : nst (r + 1) = nst r + (nm r).length + 1 := by
      obtain ⟨z, rfl⟩ : ∃ z, r = z + 1 := ⟨r - 1, by omega⟩
      rfl
    rw [f_X9_explain_b111.eq_2, mo.r14, ob_some, a.get (by omega) (by omega) (by omega), ob_some, show (4 * (num : Int)).toNat = 4 * num from by omega, hq, if_neg (by rw [ii_le (by omega) (by omega) (by omega) (by omega)]; omega), str_chk (by omega), ob_some, ti, ob_some, il_1, ii_add, ii_add, show ((nst r + (nm r).length : Nat) : Int) + 1 = (nst (r + 1) : Nat) from by omega]
    exact ih m (r + 1) (by omega) (by omega) (by omega)
theorem X9_explain (k : Full t.now) {num j : Int} (n1 : -2147483648 ≤ num) (n2 : num ≤ 2147483647) (j1 : -2147483648 ≤ j) (j2 : j ≤ 2147483647) : M9 (f_X9_explain 95 (ii num) (ii j)) [2, 4, 3] (opExplain t.now num j) t t := by
  refine M9.of (fun hs => rfl) (fun hs h => ?_)
  obtain ⟨f, nw, n, h1⟩ := h.nw
  have ml := k.1.ml
  unfold opExplain
  rw [h.chk, ob_some, X9_hasLine nw h1 k.1.ml, ob_some]
  by_cases e : t.now.md.length = 0
  · rw [if_pos e, if_pos e, if_pos (by rfl), ob_some]
    exact h.fail 1
  · obtain ⟨g, e1, m, F, o⟩ := h.finds k e
    have hl := F.2.2.2.2.1
    have o' := o.out (a := 95) (n := 10) (fun k hk => by simp at hk; omega)
    rw [if_neg e, if_neg e, if_neg (by decide +kernel), ob_some, e1, ob_some, F.1, ob_some, il_1, ii_sub, il_0, X9_in n1 n2 (by omega) (by omega) (by omega) (by omega), ob_some]
    by_cases c : 0 ≤ num ∧ num ≤ ((flP t.now t.now.md.length).length : Int) - 1
    · obtain ⟨y, hy⟩ : ∃ y, (flP t.now t.now.md.length)[num.toNat]? = some y := ⟨_, List.getElem?_eq_getElem (by omega)⟩
      have hI : flI t.now num = some y := by unfold flI; rw [if_pos c.1]; exact hy
      obtain ⟨y0, y1, y2, y3⟩ := flP_mem (List.mem_of_getElem? hy)
      have G1 := F.get hy (w := 1) (by omega)
      have G2 := F.get hy (w := 2) (by omega)
      have G3 := F.get hy (w := 3) (by omega)
      obtain ⟨-, -, ⟨F1, A1, E1⟩, -, -, -⟩ := F
      obtain ⟨q0, -⟩ := E1 num.toNat y hy
      obtain ⟨b1, b2, b3, b4, -⟩ := barb (s := t.now) (p := (y.1 : Int)) (by omega) (by omega)
      have bb : (y.1 : Int) / per t.now.sp ≤ 60 := by rcases per_3 t.now.sp with z | z | z <;> rw [z] <;> omega
      have f9 := flt_90 k.1 (p := (y.1 : Int)) (by omega) y.2
      rw [inI_1 c, if_neg (by decide +kernel), hI]
      show ∃ hs', _ = some (ii (anR (opSign (faultTx t.now y) j)), hs') ∧ MoA hs' t (cdR [2, 4, 3] (opSign (faultTx t.now y) j)) ∧ _
      have en : num = (num.toNat : Int) := by omega
      generalize hN : num.toNat = N at hy G1 G2 G3 q0 en
      have e4 : (4 : Int32) * ii num = ii (4 * (N : Int)) := by rw [il_4, ii_mul, en]
      have e41 : ii (4 * (N : Int)) + ii 1 = ii (4 * (N : Int) + (1 : Nat)) := by rw [ii_add]; rfl
      have e42 : ii (4 * (N : Int)) + 2 = ii (4 * (N : Int) + (2 : Nat)) := by rw [il_2, ii_add]; rfl
      obtain ⟨⟨x, M, -⟩, -, -, -, -, -, -, -, -, ⟨W, a⟩⟩ := id m
      have w0 : Wr g [] := ⟨W, a, fun j hj => by cases hj⟩
      obtain ⟨g1, f1, w1, o1⟩ := X9_number M w0 (by simp) (v := (y.1 : Int) / per t.now.sp + 1) (by omega) (by omega)
      have L1 := numTx_len ((y.1 : Int) / per t.now.sp + 1)
      have L2 := numTx_len ((y.1 : Int) % per t.now.sp + 1)
      have M1 := M.ou o1 (by decide)
      have l1 : ([] ++ numTx ((y.1 : Int) / per t.now.sp + 1)).length ≤ 2 := by simpa using L1
      obtain ⟨g2, f2, w2, o2⟩ := w1.push (by omega) 46
      have M2 := M1.ou o2 (by decide)
      have l2 : ([] ++ numTx ((y.1 : Int) / per t.now.sp + 1) ++ [46]).length = ([] ++ numTx ((y.1 : Int) / per t.now.sp + 1)).length + 1 := by rw [List.length_append]; rfl
      obtain ⟨g3, f3, w3, o3⟩ := X9_number M2 w2 (by omega) (v := (y.1 : Int) % per t.now.sp + 1) (by omega) (by omega)
      have M3 := M2.ou o3 (by decide)
      have l3 : ([] ++ numTx ((y.1 : Int) / per t.now.sp + 1) ++ [46] ++ numTx ((y.1 : Int) % per t.now.sp + 1)).length ≤ 5 := by rw [List.length_append]; omega
      obtain ⟨g4, f4, w4, o4⟩ := w3.push (by omega) 58
      have M4 := M3.ou o4 (by decide)
      have l4 : ([] ++ numTx ((y.1 : Int) / per t.now.sp + 1) ++ [46] ++ numTx ((y.1 : Int) % per t.now.sp + 1) ++ [58]).length = ([] ++ numTx ((y.1 : Int) / per t.now.sp + 1) ++ [46] ++ numTx ((y.1 : Int) % per t.now.sp + 1)).length + 1 := by rw [List.length_append]; rfl
      have O : Ou g g4 [104] := o1.trans (o2.trans (o3.trans o4))
      have m4 := m.wr w4 O
      have A4 := A1.ou O (by decide)
      have hin : N ≤ 719 := by omega
      have ha2 : aN 0 g2 103 (ii (4 * (N : Int) + (2 : Nat))) = some (ii ((y.1 : Int) % per t.now.sp)) := by
        rw [show aN 0 g2 103 = aN 0 g 103 from by funext i; unfold aN; rw [(o1.trans o2) 103 (by decide)]]
        exact G2
      have ha4 : aN 0 g4 103 (ii (4 * (N : Int) + 3)) = some (ii (flt t.now y.1 y.2)) := by
        rw [show aN 0 g4 103 = aN 0 g 103 from by funext i; unfold aN; rw [O 103 (by decide)]]
        exact G3
      have nl := nm_len y1 y2
      obtain ⟨g5, f5, q5, o5⟩ := X9_ex141 k y1 y2 (d := flt t.now y.1 y.2) (by omega) (by omega) (num := N) j1 j2 (nm y.2).length FUEL 0 g4 _ (by unfold FUEL; omega) (by omega) m4 w4 (by omega) ha4
      have ex := X9_ex111 (M := F1) M4 A4 y1 y2 hin q0 (j := ii j) (L := ii ([] ++ numTx ((y.1 : Int) / per t.now.sp + 1) ++ [46] ++ numTx ((y.1 : Int) % per t.now.sp + 1) ++ [58]).length) (y.2 - 1) FUEL 1 (by unfold FUEL; omega) (by omega) (by omega)
      have et : [] ++ numTx ((y.1 : Int) / per t.now.sp + 1) ++ [46] ++ numTx ((y.1 : Int) % per t.now.sp + 1) ++ [58] ++ (nm y.2).drop 0 ++ [61] ++ numTx (flt t.now y.1 y.2) = faultTx t.now y := by
        unfold faultTx
        simp
      rw [et] at f5 q5
      refine ⟨g5, ?_, q5, o'.trans ((O.out (fun k hk => by simp at hk; omega)).trans o5)⟩
      have k2 : ((([] ++ numTx ((y.1 : Int) / per t.now.sp + 1) ++ [46]).length : Nat) : Int) = ((([] ++ numTx ((y.1 : Int) / per t.now.sp + 1)).length : Nat) : Int) + 1 := by rw [l2]; rfl
      have k4 : ((([] ++ numTx ((y.1 : Int) / per t.now.sp + 1) ++ [46] ++ numTx ((y.1 : Int) % per t.now.sp + 1) ++ [58]).length : Nat) : Int) = ((([] ++ numTx ((y.1 : Int) / per t.now.sp + 1) ++ [46] ++ numTx ((y.1 : Int) % per t.now.sp + 1)).length : Nat) : Int) + 1 := by rw [l4]; rfl
      rw [M.r14, ob_some, e4, e41, G1, ob_some, m.chk, ob_some, show (if 1 = 0 then (y.2 : Int) else if 1 = 1 then (y.1 : Int) / per t.now.sp else if 1 = 2 then (y.1 : Int) % per t.now.sp else flt t.now y.1 y.2) = (y.1 : Int) / per t.now.sp from rfl, ii_add, show f_X9_number 95 (ii 0) (ii ((y.1 : Int) / per t.now.sp + 1)) g = _ from f1, ob_some]
      dsimp only
      rw [M1.r16, ob_some, show (46 : Int32) = ii 46 from rfl, f2, ob_some, M2.r14, ob_some, e42, ha2, ob_some, M2.chk, ob_some, ii_add, ii_add, ← k2, f3, ob_some]
      dsimp only
      rw [M3.r16, ob_some, show (58 : Int32) = ii 58 from rfl, f4, ob_some, ii_add, ← k4]
      refine Eq.trans ex ?_
      exact f5
    · have hI : flI t.now num = none := by
        unfold flI
        by_cases z : 0 ≤ num
        · rw [if_pos z, List.getElem?_eq_none (by omega)]
        · rw [if_neg z]
      rw [inI_0 c, if_pos (by rfl), hI, m.chk, ob_some]
      obtain ⟨g2, f2, m2, o2⟩ := m.fail 2
      exact ⟨g2, f2, m2, o'.trans o2⟩
end MEX
