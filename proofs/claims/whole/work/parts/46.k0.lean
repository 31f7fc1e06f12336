/-! ===== what lies outside the world, at the law's entry ===== -/
def FP : List Cond := flatC (Jvm.Cond.and given_1 narrow_1)
def exq (q : String × Nat × String × List Int32) : List Cond :=
  Cond.exactly (.string q.1 q.2.1) "java/lang/String" :: Cond.eq (.field (.string q.1 q.2.1) "java/lang/String" "coder" "B") (.int 0) :: Cond.arrayOf (.field (.string q.1 q.2.1) "java/lang/String" "value" "[B") .byte :: Cond.eq (.length (.field (.string q.1 q.2.1) "java/lang/String" "value" "[B")) (.int (Int32.ofNat q.2.2.2.length)) ::
    (List.range q.2.2.2.length).map (fun j => Cond.eq (.elem (.field (.string q.1 q.2.1) "java/lang/String" "value" "[B") (.int (Int32.ofNat j))) (.int (q.2.2.2.getD j 0)))
theorem ex_s1 : (FP.drop 118).take 431 = (strTab.take 17).flatMap exq := by decide +kernel
theorem ex_s2 : (FP.drop 550).take 685 = ((strTab.drop 17).take 37).flatMap exq := by decide +kernel
theorem ex_s3 : (FP.drop 1237).take 114 = (strTab.drop 54).flatMap exq := by decide +kernel
theorem FP_of {a n : Nat} {l : List Cond} {w : Cond} (h : (FP.drop a).take n = l) (hw : w ∈ l) : w ∈ FP := List.mem_of_mem_drop (List.mem_of_mem_take (h ▸ hw))
theorem exq_in {i : Nat} {q : String × Nat × String × List Int32} (hi : strTab[i]? = some q) {w : Cond} (hw : w ∈ exq q) : w ∈ FP := by
  by_cases h1 : i < 17
  · exact FP_of ex_s1 (List.mem_flatMap.mpr ⟨q, List.mem_of_getElem? (i := i) (by rw [List.getElem?_take, if_pos h1]; exact hi), hw⟩)
  · by_cases h2 : i < 54
    · exact FP_of ex_s2 (List.mem_flatMap.mpr ⟨q, List.mem_of_getElem? (i := i - 17) (by rw [List.getElem?_take, if_pos (by omega), List.getElem?_drop, show 17 + (i - 17) = i by omega]; exact hi), hw⟩)
    · exact FP_of ex_s3 (List.mem_flatMap.mpr ⟨q, List.mem_of_getElem? (i := i - 54) (by rw [List.getElem?_drop, show 54 + (i - 54) = i by omega]; exact hi), hw⟩)
theorem str_small : ∀ q ∈ strTab, q.2.2.2.length < 2 ^ 31 := by decide +kernel
theorem str_ref : ∀ q ∈ strTab, Cond.stringRef q.1 q.2.1 q.2.2.1 ∈ lw_tbl := by decide +kernel
theorem nf_in : ∀ q ∈ NF, Cond.fieldLinkNest q.1 q.2.1 q.2.2.1 q.2.2.2.1 q.2.2.2.2.1 q.2.2.2.2.2 ∈ lw_tbl := by decide +kernel
theorem nm_in : ∀ q ∈ NM, Cond.methodLinkNest q.1 q.2.1 q.2.2.1 q.2.2.2 ∈ lw_tbl := by decide +kernel
theorem cst_in : ∀ k : Fin 7, 1 ≤ k.1 → Cond.castable (exN k.1) (exN k.1) ∈ lw_tbl := by decide +kernel
theorem cst_in2 : ∀ k : Fin 7, 1 ≤ k.1 → ∀ j : Fin 7, 1 ≤ j.1 → j ≠ k → Cond.not (Cond.castable (exN k.1) (exN j.1)) ∈ FP := by decide +kernel
theorem dcl_in : ∀ Y ∈ exDecl, Cond.declares (Bundle.initS Y) ∈ lw_tbl := by decide +kernel
theorem str_of {A : Nat → Prop} {args : Array Value} {s : State} (hs : ∀ w ∈ FP, w.before args s = true) (hts : ∀ w ∈ lw_tbl, w.before args s = true) (hA : ∀ a : Nat, a < s.heap.size → ¬ A a) (i : Nat) (q : String × Nat × String × List Int32) (hi : strTab[i]? = some q) :
    ∃ a t : Nat, vk_R q.1 q.2.1 q.2.2.1 a s ∧ va_O "java/lang/String" a A s s.heap ∧ va_OF "java/lang/String" "coder" "B" (.int 0) a A s s.heap ∧ va_OF "java/lang/String" "value" "[B" (.ref t) a A s s.heap ∧ va_T .byte t q.2.2.2.length (fun j => .int (q.2.2.2.getD j 0)) A s s.heap := by
  have hin : ∀ w ∈ exq q, w.before args s = true := fun w hw => hs w (exq_in hi hw)
  have hm : q ∈ strTab := List.mem_of_getElem? hi
  have hex : (Cond.exactly (.string q.1 q.2.1) "java/lang/String").before args s = true := hin _ (.head _)
  have hco : (Cond.eq (.field (.string q.1 q.2.1) "java/lang/String" "coder" "B") (.int 0)).before args s = true := hin _ (.tail _ (.head _))
  have har : (Cond.arrayOf (.field (.string q.1 q.2.1) "java/lang/String" "value" "[B") .byte).before args s = true := hin _ (.tail _ (.tail _ (.head _)))
  have hle : (Cond.eq (.length (.field (.string q.1 q.2.1) "java/lang/String" "value" "[B")) (.int (Int32.ofNat q.2.2.2.length))).before args s = true := hin _ (.tail _ (.tail _ (.tail _ (.head _))))
  have hel : ∀ j : Nat, j < q.2.2.2.length → (Cond.eq (.elem (.field (.string q.1 q.2.1) "java/lang/String" "value" "[B") (.int (Int32.ofNat j))) (.int (q.2.2.2.getD j 0))).before args s = true := fun j hj => hin _ (.tail _ (.tail _ (.tail _ (.tail _ (List.mem_map.mpr ⟨j, List.mem_range.mpr hj, rfl⟩)))))
  obtain ⟨a, c, cA, kA, q1, q2, q3, q4, q5, q6, -⟩ := Cond.exactly_spec (args := args) (first := s) (o := none) (s := s) (idx := []) (t := .string q.1 q.2.1) (cls := "java/lang/String") hex
  obtain ⟨t, ht, hT⟩ := va_Tof (f := fun j => .int (q.2.2.2.getD j 0)) (A := A) (str_small q hm) har (va_eqt hle) (fun j hj => va_eqt (hel j hj)) hA
  refine ⟨a, t, vk_R.of (hts _ (str_ref q hm)) q1, ⟨cA, q3, q5, by rw [q6]; exact q2, hA a (Array.getElem?_eq_some_iff.mp q3).1⟩, vk_OFof q1 (va_eqt hco) hA, vk_OFof q1 ht hA, hT⟩
def stq (n : String) : Term := .static "CounterpointChecker" n "[I"
theorem lv_in : ∀ w ∈ [Cond.arrayOf (stq "LEAST_VALUES") .int, Cond.eq (.length (stq "LEAST_VALUES")) (.int 3), Cond.eq (.elem (stq "LEAST_VALUES") (.int 0)) (.int 24), Cond.eq (.elem (stq "LEAST_VALUES") (.int 1)) (.int 24), Cond.eq (.elem (stq "LEAST_VALUES") (.int 2)) (.int 12),
   Cond.arrayOf (stq "MOST_VALUES") .int, Cond.eq (.length (stq "MOST_VALUES")) (.int 3), Cond.eq (.elem (stq "MOST_VALUES") (.int 0)) (.int 84), Cond.eq (.elem (stq "MOST_VALUES") (.int 1)) (.int 84), Cond.eq (.elem (stq "MOST_VALUES") (.int 2)) (.int 36),
   Cond.eq (.static "java/lang/String" "COMPACT_STRINGS" "Z") (.int 1), Cond.isRef (.static Bundle.tN "UNASSIGNED_STACK" Bundle.steD), Cond.isRef (.static Bundle.tN "SUPPRESSED_SENTINEL" Bundle.listD), Cond.isRef (.static RJ3 "SIOOBE_FORMATTER" "Ljava/util/function/BiFunction;")], w ∈ FP := by decide +kernel
theorem ls_in : ∀ w ∈ [Cond.laysStatic RX8 "LEAST_VALUES" "[I", Cond.laysStatic RX8 "MOST_VALUES" "[I", Cond.laysStatic "java/lang/String" "COMPACT_STRINGS" "Z", Cond.laysStatic Bundle.tN "UNASSIGNED_STACK" Bundle.steD, Cond.laysStatic Bundle.tN "SUPPRESSED_SENTINEL" Bundle.listD, Cond.laysStatic RJ3 "SIOOBE_FORMATTER" "Ljava/util/function/BiFunction;",
   Cond.initialized RX8, Cond.initialized "java/lang/String", Cond.initialized Bundle.tN, Cond.initialized RJ3, Cond.arrayClass .int, Cond.arrayClass .char, Cond.arrayClass .long, Cond.arrayOver (.object RX6)], w ∈ lw_tbl := by decide +kernel
theorem ins_in : ∀ q ∈ ACl, Cond.instantiable q.1 q.2.2 ∈ lw_tbl := by decide +kernel
theorem acl_ok : ∀ (c : Nat) (q : vw_C), ACl[c]? = some q → CLok q.1 q.2.1 q.2.2 := by
  intro c q h
  match c, h with
  | 0, h => cases h; exact clok_X0
  | 1, h => cases h; exact clok_X1
  | 2, h => cases h; exact clok_X2
  | 3, h => cases h; exact clok_X3
  | 4, h => cases h; exact clok_X4
  | 5, h => cases h; exact clok_X5
  | 6, h => cases h; exact clok_X6
  | 7, h => cases h; exact clok_X7
  | 8, h => cases h; exact clok_X8
  | 9, h => cases h; exact clok_X9
  | c + 10, h => cases h
def mkK (dC : Nat → ClassId) (dI : Nat → Nat → Nat) (c0 c1 c2 c3 : ClassId) (aS aV : Nat → Nat) (aC : Nat → Nat) (B : Nat) : WK :=
  ((dC, dI), (fun t => match t with | 0 => c0 | 1 => c1 | 2 => c2 | _ => c3), (fun k => if k < 1000 then B + k else if k < VBn then aS (k - SBn) else if k < CBn then aV (k - VBn) else aC (k - CBn)), B)
theorem prim_arr {args : Array Value} {s : State} {ty : FieldType} (h : (Cond.arrayClass ty).before args s = true) : ∃ c, ArrOfT s c ty ∧ s.vm.findClass ("[" ++ ty.toString) = some c := by
  obtain ⟨c, k, comp, h1, h2, h3⟩ := Cond.arrayClass_spec h
  exact ⟨c, fun N z => ⟨(fun k h => by cases h), k, h2, comp, h3⟩, h1⟩
theorem K0_start {args : Array Value} {s : State} (hs : ∀ w ∈ FP, w.before args s = true) (hts : ∀ w ∈ lw_tbl, w.before args s = true) : ∃ K : WK, kLin K ∧ kB K = s.heap.size ∧ K0 K s := by
  have hq : ∀ c : Nat, ∃ z : ClassId × (Nat → Nat), ∀ q : vw_C, ACl[c]? = some q → u_Kn s q.1 q.2.1 q.2.2 z.1 z.2 := by
    intro c
    cases hc : ACl[c]? with
    | none => exact ⟨(0, fun _ => 0), fun q h => by cases h⟩
    | some q =>
      obtain ⟨cC, iS, h⟩ := u_known (ws := lw_tbl) (C := q.1) (T := q.2.1) (N := q.2.2) (n := q.2.2) hts (fun w hw => (List.mem_filter.mp ((acl_ok c q hc).1 w hw)).1) (hts _ (ins_in q (List.mem_of_getElem? hc)))
      exact ⟨(cC, iS), fun q' h' => by cases h'; exact h⟩
  obtain ⟨D, hD⟩ := Classical.axiomOfChoice hq
  obtain ⟨c0, h0, r0⟩ := prim_arr (hts _ (ls_in (.arrayClass .int) (by decide +kernel)))
  obtain ⟨c1, h1, r1⟩ := prim_arr (hts _ (ls_in (.arrayClass .char) (by decide +kernel)))
  obtain ⟨c2, h2, r2⟩ := prim_arr (hts _ (ls_in (.arrayClass .long) (by decide +kernel)))
  have hAO := hts _ (ls_in (.arrayOver (.object RX6)) (by decide +kernel))
  obtain ⟨comp, c3, k3, e1, e2, e3, e4, e5⟩ := Cond.arrayOver_spec hAO
  let A : Nat → Prop := fun q => s.heap.size ≤ q
  have hA : ∀ a : Nat, a < s.heap.size → ¬ A a := fun a h1 h2 => absurd h1 (Nat.not_lt.mpr h2)
  have hstr : ∀ i : Nat, ∃ z : Nat × Nat, ∀ q : String × Nat × String × List Int32, strTab[i]? = some q → vk_R q.1 q.2.1 q.2.2.1 z.1 s ∧ va_O "java/lang/String" z.1 A s s.heap ∧ va_OF "java/lang/String" "coder" "B" (.int 0) z.1 A s s.heap ∧ va_OF "java/lang/String" "value" "[B" (.ref z.2) z.1 A s s.heap ∧ va_T .byte z.2 q.2.2.2.length (fun j => .int (q.2.2.2.getD j 0)) A s s.heap := by
    intro i
    cases hi : strTab[i]? with
    | none => exact ⟨(0, 0), fun q h => by cases h⟩
    | some q =>
      obtain ⟨a, t, h⟩ := str_of hs hts hA i q hi
      exact ⟨(a, t), fun q' h' => by cases h'; exact h⟩
  obtain ⟨aS, haS⟩ := Classical.axiomOfChoice hstr
  have hel : ∀ (fn : String) (x0 x1 x2 : Int32), (Cond.eq (.elem (stq fn) (.int 0)) (.int x0)).before args s = true → (Cond.eq (.elem (stq fn) (.int 1)) (.int x1)).before args s = true → (Cond.eq (.elem (stq fn) (.int 2)) (.int x2)).before args s = true → ∀ j : Nat, j < 3 → (Term.elem (stq fn) (.int (Int32.ofNat j))).eval args s none [] s = some (.int ([x0, x1, x2].getD j 0)) := by
    intro fn x0 x1 x2 g0 g1 g2 j hj
    match j, hj with
    | 0, _ => exact va_eqt g0
    | 1, _ => exact va_eqt g1
    | 2, _ => exact va_eqt g2
  have hf : ∀ w ∈ _, _ := fun w hw => hs w (lv_in w hw)
  have hl := fun w hw => hts w (ls_in w hw)
  obtain ⟨aL, l1, l2⟩ := va_Tof (N := 3) (f := fun j => .int (lvTab.getD j 0)) (A := A) (by decide) (hf (Cond.arrayOf (stq "LEAST_VALUES") .int) (by decide +kernel)) (va_eqt (hf (Cond.eq (.length (stq "LEAST_VALUES")) (.int 3)) (by decide +kernel))) (hel "LEAST_VALUES" 24 24 12 (hf _ (by decide +kernel)) (hf _ (by decide +kernel)) (hf _ (by decide +kernel))) hA
  obtain ⟨aM, m1, m2⟩ := va_Tof (N := 3) (f := fun j => .int (mvTab.getD j 0)) (A := A) (by decide) (hf (Cond.arrayOf (stq "MOST_VALUES") .int) (by decide +kernel)) (va_eqt (hf (Cond.eq (.length (stq "MOST_VALUES")) (.int 3)) (by decide +kernel))) (hel "MOST_VALUES" 84 84 36 (hf _ (by decide +kernel)) (hf _ (by decide +kernel)) (hf _ (by decide +kernel))) hA
  have lz : va_Z RX8 "LEAST_VALUES" "[I" (.ref aL) A s s.heap := va_Zof (hl (.laysStatic RX8 "LEAST_VALUES" "[I") (by decide +kernel)) (hl (.initialized RX8) (by decide +kernel)) l1 hA
  have mz : va_Z RX8 "MOST_VALUES" "[I" (.ref aM) A s s.heap := va_Zof (hl (.laysStatic RX8 "MOST_VALUES" "[I") (by decide +kernel)) (hl (.initialized RX8) (by decide +kernel)) m1 hA
  have cz : va_Z "java/lang/String" "COMPACT_STRINGS" "Z" (.int 1) A s s.heap := va_Zof (hl (.laysStatic "java/lang/String" "COMPACT_STRINGS" "Z") (by decide +kernel)) (hl (.initialized "java/lang/String") (by decide +kernel)) (va_eqi (hf (Cond.eq (.static "java/lang/String" "COMPACT_STRINGS" "Z") (.int 1)) (by decide +kernel))) hA
  have uz : vx_Zq Bundle.tN "UNASSIGNED_STACK" Bundle.steD A s s.heap := vx_Zqof (hl (.laysStatic Bundle.tN "UNASSIGNED_STACK" Bundle.steD) (by decide +kernel)) (hl (.initialized Bundle.tN) (by decide +kernel)) (hf (Cond.isRef (.static Bundle.tN "UNASSIGNED_STACK" Bundle.steD)) (by decide +kernel)) hA
  have wz : vx_Zq Bundle.tN "SUPPRESSED_SENTINEL" Bundle.listD A s s.heap := vx_Zqof (hl (.laysStatic Bundle.tN "SUPPRESSED_SENTINEL" Bundle.listD) (by decide +kernel)) (hl (.initialized Bundle.tN) (by decide +kernel)) (hf (Cond.isRef (.static Bundle.tN "SUPPRESSED_SENTINEL" Bundle.listD)) (by decide +kernel)) hA
  have pz : va_Zq RJ3 "SIOOBE_FORMATTER" "Ljava/util/function/BiFunction;" A s s.heap := va_Zqof (hl (.laysStatic RJ3 "SIOOBE_FORMATTER" "Ljava/util/function/BiFunction;") (by decide +kernel)) (hl (.initialized RJ3) (by decide +kernel)) (hf (Cond.isRef (.static RJ3 "SIOOBE_FORMATTER" "Ljava/util/function/BiFunction;")) (by decide +kernel)) hA
  let K : WK := mkK (fun c => (D c).1) (fun c => (D c).2) c0 c1 c2 c3 (fun i => (aS i).1) (fun i => (aS i).2) (fun i => if i = 0 then aL else aM) s.heap.size
  have kS : ∀ i : Nat, i < 55 → kA K (SBn + i) = (aS i).1 := by
    intro i hi
    show (if SBn + i < 1000 then _ else if SBn + i < VBn then (aS (SBn + i - SBn)).1 else _) = _
    rw [if_neg (by unfold SBn; omega), if_pos (by unfold SBn VBn; omega), Nat.add_sub_cancel_left]
  have kV : ∀ i : Nat, i < 55 → kA K (VBn + i) = (aS i).2 := by
    intro i hi
    show (if VBn + i < 1000 then _ else if VBn + i < VBn then _ else if VBn + i < CBn then (aS (VBn + i - VBn)).2 else _) = _
    rw [if_neg (by unfold VBn; omega), if_neg (by omega), if_pos (by unfold VBn CBn; omega), Nat.add_sub_cancel_left]
  refine ⟨K, fun k hk => ?_, rfl, ⟨fun c q hc => hD c q hc, fun k q hk => ?_⟩, Nat.le_refl _, fun i q hi => ?_, ⟨⟨lz, l2⟩, ⟨mz, m2⟩⟩, ⟨cz, uz, wz⟩, fun q hm => va_Nw.of rfl (hts _ (nf_in q hm)), fun q hm => va_Nw.of rfl (hts _ (nm_in q hm)), fun k k1 k2 => ?_, va_AO.of hAO, fun Y hY => va_Nw.of rfl (hts _ (dcl_in Y hY)), pz⟩
  · show (if k < 1000 then s.heap.size + k else _) = _
    rw [if_pos hk]
    rfl
  · match k, hk with
    | 0, hk => cases hk; exact ⟨h0, r0⟩
    | 1, hk => cases hk; exact ⟨h1, r1⟩
    | 2, hk => cases hk; exact ⟨h2, r2⟩
    | 3, hk => cases hk; exact ⟨fun N z => ⟨(fun k h => by cases h), k3, e3, comp, e4⟩, k3, comp, e3, e4, e1, e5⟩
    | k + 4, hk => cases hk
  · have h55 : i < 55 := (List.getElem?_eq_some_iff.mp hi).1
    obtain ⟨g1, g2⟩ := haS i q hi
    unfold sOK
    rw [kS i h55, kV i h55]
    exact ⟨g1, g2⟩
  · exact ⟨va_Nw.of rfl (hts _ (cst_in ⟨k, by omega⟩ k1)), fun j j1 j2 hj => va_Nc.of (hs _ (cst_in2 ⟨k, by omega⟩ k1 ⟨j, by omega⟩ j1 (fun h => hj (congrArg Fin.val h))))⟩
