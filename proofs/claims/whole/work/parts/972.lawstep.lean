/-! ===== the law: one call of both programs ===== -/
def OuV (hs : AH) (v : Int64) : Prop := ∃ g, hs[105]? = some (.inl (2, 1, .inr (.inl g))) ∧ g 0 = v
def Inv (hs : AH) : Prop := ∃ t th v, CoA hs t ∧ MoA hs t th ∧ StOK t ∧ OuV hs v
theorem OuV.out {hs hs' : AH} {v : Int64} {a n : Nat} (h : OuV hs v) (o : Out hs hs' a n) (hd : a + n ≤ 105) : OuV hs' v := by
  obtain ⟨g, e, f⟩ := h
  exact ⟨g, o.at e (by omega), f⟩
theorem OuV.get {hs : AH} {v : Int64} (h : OuV hs v) : aL hs 105 0 = some v := by
  obtain ⟨g, e, f⟩ := h
  unfold aL
  rw [e]
  show (if 2 = 2 ∧ (0 : Int32) ≤ 0 ∧ (0 : Int32).toNatClampNeg < 1 then some (g (0 : Int32).toNatClampNeg) else none) = _
  rw [if_pos ⟨rfl, by decide +kernel, by decide +kernel⟩]
  exact congrArg some f
theorem OuV.put {hs : AH} {v : Int64} (h : OuV hs v) (w : Int64) : ∃ hs', sL hs 105 0 w = some hs' ∧ OuV hs' w ∧ Out hs hs' 105 1 := by
  obtain ⟨g, e, f⟩ := h
  refine ⟨hs.set 105 (.inl (2, 1, .inr (.inl (vp_updL g (0 : Int32).toNatClampNeg w)))), ?_, ⟨_, set_at e, ?_⟩, Out.set _ _ _⟩
  · unfold sL
    rw [e]
    show (if 2 = 2 ∧ (0 : Int32) ≤ 0 ∧ (0 : Int32).toNatClampNeg < 1 then _ else none) = _
    rw [if_pos ⟨rfl, by decide +kernel, by decide +kernel⟩]
  · unfold vp_updL
    simp
def codF : List Nat → Int → Nat → AH → Option (Int32 × AH)
  | [], _, _, _ => none
  | a :: l, i, k, h => if k = a then some (ii (i + 1), h) else codF l (i + 1) k h
theorem codF_ok : ∀ (cl : List Nat) (i : Int) (e : Nat) (h : AH), e ∈ cl → codF cl i e h = some (ii (i + cod cl e), h)
  | [], _, _, _, he => by cases he
  | a :: l, i, e, h, he => by
    unfold codF cod
    by_cases c : e = a
    · rw [if_pos c, if_pos c]
    · rw [if_neg c, if_neg c, codF_ok l (i + 1) e h (by rcases List.mem_cons.1 he with g | g; exact absurd g c; exact g)]
      rw [show i + 1 + cod l e = i + (cod l e + 1) by omega]
theorem cod_pos : ∀ (cl : List Nat) (e : Nat), e ∈ cl → 1 ≤ cod cl e ∧ cod cl e ≤ cl.length
  | [], _, he => by cases he
  | a :: l, e, he => by
    unfold cod
    by_cases c : e = a
    · rw [if_pos c]; simp; omega
    · rw [if_neg c]
      have := cod_pos l e (by rcases List.mem_cons.1 he with g | g; exact absurd g c; exact g)
      simp only [List.length_cons]; omega
theorem lcmp_self (v : Int64) : lg_cmp v v = 0 := by
  unfold lg_cmp
  rw [if_neg (show ¬ v < v from Int64.lt_irrefl), if_pos rfl]
/-- both programs' call, as the law compares it -/
noncomputable def seg (fl f9 : AH → Option (Int32 × AH)) (K : AH → Option Int32) (hs : AH) : Option Int32 :=
  (fl hs).bind fun q3 =>
  (chk q3.2 95 9).bind fun _ =>
  (f9 q3.2).bind fun q6 =>
  (chk q6.2 95 9).bind fun _ =>
  (f_X9_thrown 95 q6.2).bind fun x8 =>
  if x8 = q3.1 then (if q3.1 = 0 then ((aL q6.2 105 0).bind fun x9 => if (lg_cmp x9 (Int32.toInt64 q6.1)) = 0 then K q6.2 else some 0) else K q6.2) else some 0
noncomputable def wrp (f8 : AH → Option ((Int32 ⊕ Nat) × AH)) (cl : List Nat) (hs : AH) : Option (Int32 × AH) :=
  (chk hs 0 8).bind fun _ => xh (f8 hs) (fun a hs3 => (sL hs3 105 0 (Int32.toInt64 a)).bind fun hs5 => some (0, hs5)) (fun k hs3 => codF cl 0 k hs3)
theorem seg_ok {hs : AH} {t : St} {th : Int} {v : Int64} {fl f9 : AH → Option (Int32 × AH)} {f8 : AH → Option ((Int32 ⊕ Nat) × AH)} {cl : List Nat} (hc : CoA hs t) (hm : MoA hs t th) (ou : OuV hs v) (J : JJ hs t f8 f9 cl) (hfl : fl hs = wrp f8 cl hs) (hcl : cl.length ≤ 10) {K : AH → Option Int32} (hK : ∀ hs2, Inv hs2 → K hs2 = some 1) : seg fl f9 K hs = some 1 := by
  obtain ⟨r, t', k', ro, ⟨hs1, e8, c1, o8⟩, h9⟩ := J
  unfold seg
  rw [hfl]
  unfold wrp
  rw [hc.chk, ob_some, e8]
  have m1 := hm.out o8 (by omega)
  have ou1 := ou.out o8 (by omega)
  cases r with
  | inl z =>
    obtain ⟨hs2, e2, ou2, o2⟩ := ou1.put (Int32.toInt64 (ii z))
    have c2 := c1.out o2 (by omega)
    have m2 := m1.out o2 (by omega)
    obtain ⟨hs3, e3, m3, o3⟩ := h9 hs2 th m2
    have c3 := c2.out o3 (by omega)
    have ou3 := ou2.out o3 (by omega)
    show ((((sL hs1 105 0 (Int32.toInt64 (ii z))).bind fun hs5 => some ((0 : Int32), hs5)) : Option (Int32 × AH)).bind _) = _
    rw [e2, ob_some, ob_some]
    dsimp only
    rw [m2.chk, ob_some, e3, ob_some]
    dsimp only
    rw [m3.chk, ob_some, m3.thr, ob_some, if_pos (by rfl), if_pos rfl, ou3.get, ob_some]
    show (if lg_cmp (Int32.toInt64 (ii z)) (Int32.toInt64 (ii z)) = 0 then K hs3 else some 0) = some 1
    rw [if_pos (lcmp_self _)]
    exact hK hs3 ⟨t', 0, _, c3, m3, k', ou3⟩
  | inr e =>
    have he : e ∈ cl := ro
    have cp := cod_pos cl e he
    obtain ⟨hs3, e3, m3, o3⟩ := h9 hs1 th m1
    have c3 := c1.out o3 (by omega)
    have ou3 := ou1.out o3 (by omega)
    show ((codF cl 0 e hs1 : Option (Int32 × AH)).bind _) = _
    rw [codF_ok cl 0 e hs1 he, ob_some, Int.zero_add]
    dsimp only
    rw [m1.chk, ob_some, e3, ob_some]
    dsimp only
    rw [m3.chk, ob_some, m3.thr, ob_some]
    show (if ii (cod cl e) = ii (cod cl e) then _ else _) = _
    rw [if_pos rfl, if_neg (by rw [il_0, ii_eq (by omega) (by omega) (by omega) (by omega)]; omega)]
    exact hK hs3 ⟨t', _, _, c3, m3, k', ou3⟩
theorem i32 (x : Int32) : ∃ v : Int, x = ii v ∧ -2147483648 ≤ v ∧ v ≤ 2147483647 := by
  have h1 := Int32.le_toInt x
  have h2 := Int32.toInt_lt x
  exact ⟨x.toInt, (ii_of x).symm, by omega, by omega⟩
theorem W_append (v : Int32) (hs : AH) : f_L_append 0 v 105 hs = wrp (f_X8_append 0 v) [1, 2] hs := rfl
theorem W_cantus (hs : AH) : f_L_cantus 0 105 hs = wrp (f_X8_cantus 0) [1] hs := rfl
theorem W_counterpoint (hs : AH) : f_L_counterpoint 0 105 hs = wrp (f_X8_counterpoint 0) [2, 1] hs := rfl
theorem W_setSpecies (a : Int32) (hs : AH) : f_L_setSpecies 0 a 105 hs = wrp (f_X8_setSpecies 0 a) [1] hs := rfl
theorem W_set (a b : Int32) (hs : AH) : f_L_set 0 a b 105 hs = wrp (f_X8_set 0 a b) [3, 1] hs := rfl
theorem W_setNote (a b c : Int32) (hs : AH) : f_L_setNote 0 a b c 105 hs = wrp (f_X8_setNote 0 a b c) [2, 3, 1, 4] hs := rfl
theorem W_note (a b : Int32) (hs : AH) : f_L_note 0 a b 105 hs = wrp (f_X8_note 0 a b) [2, 3] hs := rfl
theorem W_noteOf (a b : Int32) (hs : AH) : f_L_noteOf 0 a b 105 hs = wrp (f_X8_noteOf 0 a b) [3, 1] hs := rfl
theorem W_text (a b : Int32) (hs : AH) : f_L_text 0 a b 105 hs = wrp (f_X8_text 0 a b) [2, 3] hs := rfl
theorem W_interval (a b c : Int32) (hs : AH) : f_L_interval 0 a b c 105 hs = wrp (f_X8_interval 0 a b c) [2, 3, 4, 1] hs := rfl
theorem W_motion (a : Int32) (hs : AH) : f_L_motion 0 a 105 hs = wrp (f_X8_motion 0 a) [2, 3, 4] hs := rfl
theorem W_motions (a : Int32) (hs : AH) : f_L_motions 0 a 105 hs = wrp (f_X8_motions 0 a) [2, 1] hs := rfl
theorem W_contraryBits (hs : AH) : f_L_contraryBits 0 105 hs = wrp (f_X8_contraryBits 0) [2, 5] hs := rfl
theorem W_setWeight (a b : Int32) (hs : AH) : f_L_setWeight 0 a b 105 hs = wrp (f_X8_setWeight 0 a b) [3, 1] hs := rfl
theorem W_weights (hs : AH) : f_L_weights 0 105 hs = wrp (f_X8_weights 0) [1] hs := rfl
theorem W_weight (a : Int32) (hs : AH) : f_L_weight 0 a 105 hs = wrp (f_X8_weight 0 a) [3] hs := rfl
theorem W_fault (a b : Int32) (hs : AH) : f_L_fault 0 a b 105 hs = wrp (f_X8_fault 0 a b) [2, 4, 1] hs := rfl
theorem W_explain (a b : Int32) (hs : AH) : f_L_explain 0 a b 105 hs = wrp (f_X8_explain 0 a b) [2, 4, 3] hs := rfl
theorem W_faults (a : Int32) (hs : AH) : f_L_faults 0 a 105 hs = wrp (f_X8_faults 0 a) [2, 3] hs := rfl
theorem W_faultsIn (a : Int32) (hs : AH) : f_L_faultsIn 0 a 105 hs = wrp (f_X8_faultsIn 0 a) [2, 3] hs := rfl
theorem W_cost (hs : AH) : f_L_cost 0 105 hs = wrp (f_X8_cost 0) [2] hs := rfl
theorem W_better (a b : Int32) (hs : AH) : f_L_better 0 a b 105 hs = wrp (f_X8_better 0 a b) [2, 3, 4] hs := rfl
theorem W_costWith (a b c : Int32) (hs : AH) : f_L_costWith 0 a b c 105 hs = wrp (f_X8_costWith 0 a b c) [2, 3, 1, 4] hs := rfl
theorem W_search (hs : AH) : f_L_search 0 105 hs = wrp (f_X8_search 0) [2, 6] hs := rfl
theorem W_suggested (a : Int32) (hs : AH) : f_L_suggested 0 a 105 hs = wrp (f_X8_suggested 0 a) [2, 3] hs := rfl
theorem W_adopt (hs : AH) : f_L_adopt 0 105 hs = wrp (f_X8_adopt 0) [2, 6] hs := rfl
theorem W_count (a : Int32) (hs : AH) : f_L_count 0 a 105 hs = wrp (f_X8_count 0 a) [1] hs := rfl
theorem W_undo (hs : AH) : f_L_undo 0 105 hs = wrp (f_X8_undo 0) [2] hs := rfl
theorem W_restore (hs : AH) : f_L_restore 0 105 hs = wrp (f_X8_restore 0) [2] hs := rfl
