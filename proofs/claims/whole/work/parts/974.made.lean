/-! ===== the world before the loop ===== -/
def kO (hs : AH) (a c : Nat) (fs : List Value) : Bool := match hs[a]? with
  | some (.inr (c', fs')) => decide (c' = c ∧ fs' = fs)
  | _ => false
def kI (hs : AH) (a t n : Nat) (l : List Int) : Bool := match hs[a]? with
  | some (.inl (t', n', .inl f)) => decide (t' = t ∧ n' = n) && (List.range l.length).all fun j => decide (f j = ii (lg l j))
  | _ => false
def kQ (hs : AH) (a n : Nat) (l : List Nat) : Bool := match hs[a]? with
  | some (.inl (t', n', .inr (.inr (.inr (.inr g))))) => decide (t' = 3 ∧ n' = n) && (List.range l.length).all fun j => decide (g j = l[j]?)
  | _ => false
def kJ (hs : AH) (a n : Nat) : Bool := match hs[a]? with
  | some (.inl (t', n', .inr (.inl g))) => decide (t' = 2 ∧ n' = n ∧ g 0 = 0)
  | _ => false
theorem kO_ok {hs : AH} {a c : Nat} {fs : List Value} (h : kO hs a c fs = true) : hs[a]? = some (.inr (c, fs)) := by
  unfold kO at h
  split at h
  · next e =>
    obtain ⟨rfl, rfl⟩ := of_decide_eq_true h
    exact e
  · cases h
theorem kI_ok {hs : AH} {a t n : Nat} {l : List Int} (h : kI hs a t n l = true) : ∃ f, hs[a]? = some (.inl (t, n, .inl f)) ∧ Fits f l := by
  unfold kI at h
  split at h
  · next e =>
    obtain ⟨h1, h2⟩ := Bool.and_eq_true_iff.1 h
    obtain ⟨rfl, rfl⟩ := of_decide_eq_true h1
    exact ⟨_, e, fun j hj => of_decide_eq_true (List.all_eq_true.1 h2 j (List.mem_range.2 hj))⟩
  · cases h
theorem kQ_ok {hs : AH} {a n : Nat} {l : List Nat} (h : kQ hs a n l = true) : ∃ g, hs[a]? = some (.inl (3, n, .inr (.inr (.inr (.inr g))))) ∧ ∀ j, j < l.length → g j = l[j]? := by
  unfold kQ at h
  split at h
  · next e =>
    obtain ⟨h1, h2⟩ := Bool.and_eq_true_iff.1 h
    obtain ⟨rfl, rfl⟩ := of_decide_eq_true h1
    exact ⟨_, e, fun j hj => of_decide_eq_true (List.all_eq_true.1 h2 j (List.mem_range.2 hj))⟩
  · cases h
theorem kJ_ok {hs : AH} {a n : Nat} (h : kJ hs a n = true) : ∃ g, hs[a]? = some (.inl (2, n, .inr (.inl g))) ∧ g 0 = 0 := by
  unfold kJ at h
  split at h
  · next e =>
    obtain ⟨rfl, rfl, h3⟩ := of_decide_eq_true h
    exact ⟨_, e, h3⟩
  · cases h
theorem kI_ar {hs : AH} {a t n : Nat} {l : List Int} (h : kI hs a t n l = true) (hl : l.length ≤ n) : ArA t hs a n l := ⟨hl, kI_ok h⟩
theorem kI_ra {hs : AH} {a n : Nat} {l : List Int} (h : kI hs a 0 n l = true) (hl : ∀ x ∈ l, -1 ≤ x ∧ x ≤ 100) : ∃ f, RA hs a n f ∧ ∀ j, j < l.length → f j = lg l j := by
  obtain ⟨g, e, hg⟩ := kI_ok h
  refine ⟨fun j => (g j).toInt, ⟨g, e, fun j _ => (Int32.ofInt_toInt _).symm⟩, fun j hj => ?_⟩
  show (g j).toInt = _
  have := lg_bd hl hj
  rw [hg j hj, ii_toInt (by omega) (by omega)]
/-- the sheet at the start -/
def sh0 : Sh := ([], [], 1, 0, [36, 72, 16], [0, 1, 1, 1, 1, 1, 1, 1, 1, 1, 1, 1, 1, 1, 1, 1, 1])
def st0 : St := (sh0, sh0, 0, [], [], -1, [])
def no0 : List Int := [0, 0, 1, 0, 36, 72, 16, 1, 1, 1, 1, 1, 1, 1, 1, 1, 1, 1, 1, 1, 1, 1, 1]
def kLn (hs : AH) (a : Nat) : Bool := kO hs a 2 [.ref (a + 1), .int 0] && kI hs (a + 1) 0 45 []
def kPg (hs : AH) (a : Nat) : Bool := kO hs a 3 [.ref (a + 1), .int 0] && kI hs (a + 1) 1 180 []
def kSh (hs : AH) (a : Nat) : Bool := kO hs a 6 [.ref (a + 1), .ref (a + 3), .int 1, .int 0, .ref (a + 5), .ref (a + 6)] && kLn hs (a + 1) && kLn hs (a + 3) && kI hs (a + 5) 0 3 sh0.st && kI hs (a + 6) 0 17 sh0.wt
def kSp (hs : AH) (a : Nat) : Bool := kO hs a 7 [.int 0, .int 0, .int 0, .int 0, .int 0]
def kJu (hs : AH) (a : Nat) : Bool := kO hs a 1 [.ref (a + 1), .ref (a + 8), .ref (a + 9), .ref (a + 10), .ref (a + 11), .ref (a + 12), .ref (a + 13), .ref (a + 14), .ref (a + 15), .int 0, .int 0, .int 0, .int (-1), .int 0, .int 0, .int (-1), .int 0, .int 0, .int 0] && kSh hs (a + 1) && (List.range 8).all fun i => kSp hs (a + 8 + i)
def kHi (hs : AH) (a : Nat) : Bool := kO hs a 0 [.ref (a + 1), .int 0, .int 0] && kQ hs (a + 1) 6 [a + 2, a + 9, a + 16, a + 23, a + 30, a + 37] && (List.range 6).all fun i => kSh hs (a + 2 + 7 * i)
def kCo (hs : AH) : Bool := kO hs 0 8 [.ref 1, .ref 2, .ref 17, .ref 24, .ref 68, .ref 85, .ref 87, .ref 88, .ref 93, .int 0, .int (-1)] && kJu hs 1 && kSh hs 17 && kHi hs 24 && kO hs 68 5 [.ref 69, .ref 70] && kJu hs 69 && kLn hs 85 && kO hs 87 4 [.ref 88, .ref 90, .ref 92, .int 0, .int 0] && kPg hs 88 && kLn hs 90 && kI hs 92 0 17 [0, 0, 0, 0, 0, 0, 0, 0, 0, 0, 0, 0, 0, 0, 0, 0, 0] && kPg hs 93
def kMo (hs : AH) : Bool := kO hs 95 9 [.int 0, .ref 96, .ref 97, .int 0, .ref 98, .int 0, .ref 99, .int 0, .int (-1), .int 0, .ref 100, .ref 101, .int 0, .ref 102, .ref 103, .int 0, .ref 104] && kI hs 96 0 80 no0 && kI hs 97 0 80 [] && kI hs 98 0 480 [] && kI hs 99 0 180 [] && kI hs 100 0 45 [] && kI hs 101 0 12 [] && kI hs 102 0 12 [] && kI hs 103 0 2880 [] && kI hs 104 0 200 [] && kJ hs 105 1
def kMade (o : Option AH) : Bool := match o with
  | some hs => kCo hs && kMo hs
  | none => false
set_option maxRecDepth 100000 in
theorem made_ok : kMade f_made = true := by decide +kernel
theorem kLn_ok {hs : AH} {a : Nat} (h : kLn hs a = true) : LnA hs a [] := by
  obtain ⟨h1, h2⟩ := Bool.and_eq_true_iff.1 h
  exact ⟨kO_ok h1, kI_ar h2 (by decide)⟩
theorem kPg_ok {hs : AH} {a : Nat} (h : kPg hs a = true) : PgA hs a [] := by
  obtain ⟨h1, h2⟩ := Bool.and_eq_true_iff.1 h
  exact ⟨kO_ok h1, kI_ar h2 (by decide)⟩
theorem kSh_ok {hs : AH} {a : Nat} (h : kSh hs a = true) : ShA hs a sh0 := by
  obtain ⟨h, h5⟩ := Bool.and_eq_true_iff.1 h
  obtain ⟨h, h4⟩ := Bool.and_eq_true_iff.1 h
  obtain ⟨h, h3⟩ := Bool.and_eq_true_iff.1 h
  obtain ⟨h1, h2⟩ := Bool.and_eq_true_iff.1 h
  exact ⟨kO_ok h1, kLn_ok h2, kLn_ok h3, kI_ar h4 (by decide), kI_ar h5 (by decide)⟩
theorem kJu_ok {hs : AH} {a : Nat} (h : kJu hs a = true) : JuA hs a sh0 (fun k => if k = 12 ∨ k = 15 then -1 else 0) (fun _ => (0, 0, 0, 0, 0)) := by
  obtain ⟨h, h3⟩ := Bool.and_eq_true_iff.1 h
  obtain ⟨h1, h2⟩ := Bool.and_eq_true_iff.1 h
  exact ⟨kO_ok h1, kSh_ok h2, fun i hi => kO_ok (List.all_eq_true.1 h3 i (List.mem_range.2 hi))⟩
theorem sok0 : SOK sh0 := by unfold SOK; decide
theorem full0 : Full sh0 := ⟨sok0, Or.inl rfl, Or.inl rfl, fun j hj => absurd hj (Nat.not_lt_zero _)⟩
theorem kHi_ok {hs : AH} {a : Nat} (h : kHi hs a = true) : HiA hs a [] := by
  obtain ⟨h, h3⟩ := Bool.and_eq_true_iff.1 h
  obtain ⟨h1, h2⟩ := Bool.and_eq_true_iff.1 h
  obtain ⟨g, e, hg⟩ := kQ_ok h2
  refine ⟨Nat.zero_le _, 0, fun _ => sh0, by decide, kO_ok h1, ⟨g, e, fun j hj => ?_⟩, fun j hj => ⟨kSh_ok (List.all_eq_true.1 h3 j (List.mem_range.2 hj)), sok0⟩, fun j hj => absurd hj (Nat.not_lt_zero _)⟩
  rw [hg j hj]
  rcases (by omega : j = 0 ∨ j = 1 ∨ j = 2 ∨ j = 3 ∨ j = 4 ∨ j = 5) with rfl | rfl | rfl | rfl | rfl | rfl <;> rfl
theorem kCo_ok {hs : AH} (h : kCo hs = true) : CoA hs st0 := by
  obtain ⟨h, h12⟩ := Bool.and_eq_true_iff.1 h
  obtain ⟨h, h11⟩ := Bool.and_eq_true_iff.1 h
  obtain ⟨h, h10⟩ := Bool.and_eq_true_iff.1 h
  obtain ⟨h, h9⟩ := Bool.and_eq_true_iff.1 h
  obtain ⟨h, h8⟩ := Bool.and_eq_true_iff.1 h
  obtain ⟨h, h7⟩ := Bool.and_eq_true_iff.1 h
  obtain ⟨h, h6⟩ := Bool.and_eq_true_iff.1 h
  obtain ⟨h, h5⟩ := Bool.and_eq_true_iff.1 h
  obtain ⟨h, h4⟩ := Bool.and_eq_true_iff.1 h
  obtain ⟨h, h3⟩ := Bool.and_eq_true_iff.1 h
  obtain ⟨h1, h2⟩ := Bool.and_eq_true_iff.1 h
  exact ⟨kO_ok h1, ⟨_, _, kJu_ok h2⟩, kSh_ok h3, kHi_ok h4, ⟨sh0, _, _, ⟨kO_ok h5, kJu_ok h6⟩, sok0, by decide, by decide⟩, kLn_ok h7, ⟨[], [0, 0, 0, 0, 0, 0, 0, 0, 0, 0, 0, 0, 0, 0, 0, 0, 0], 0, 0, ⟨kO_ok h8, kPg_ok h9, kLn_ok h10, kI_ar h11 (by decide)⟩, rfl⟩, ⟨[], kPg_ok h12⟩⟩
theorem lo_no0 {f : Nat → Int} (h : ∀ j, j < no0.length → f j = lg no0 j) : LoA f sh0 := by
  have g : ∀ j : Fin 23, f j.1 = lg no0 j.1 := fun j => h j.1 j.2
  refine ⟨⟨g 0, g 2, g 3, fun j hj => ?_, fun r h1 h2 => ?_, fun j hj => absurd hj (Nat.not_lt_zero _), fun j hj => absurd hj (Nat.not_lt_zero _)⟩, g 1⟩
  · rw [h _ (show 4 + j < 23 from by omega)]
    exact (by decide : ∀ j : Fin 3, lg no0 (4 + j.1) = lg sh0.st j.1) ⟨j, hj⟩
  · rw [h _ (show 6 + r < 23 from by omega)]
    exact (by decide : ∀ j : Fin 17, 1 ≤ j.1 → lg no0 (6 + j.1) = lg sh0.wt j.1) ⟨r, by omega⟩ h1
theorem kI_any {hs : AH} {a n : Nat} (h : kI hs a 0 n [] = true) : AnyA hs a n := by
  obtain ⟨f, e, -⟩ := kI_ra h (fun x hx => by cases hx)
  exact ⟨f, e⟩
theorem kI_lis {hs : AH} {a n : Nat} (h : kI hs a 0 n [] = true) : LisA hs a n [] := by
  obtain ⟨f, e, -⟩ := kI_ra h (fun x hx => by cases hx)
  exact ⟨f, e, fun j hj => absurd hj (Nat.not_lt_zero _)⟩
theorem kMo_ok {hs : AH} (h : kMo hs = true) : MoA hs st0 0 ∧ OuV hs 0 := by
  obtain ⟨h, h11⟩ := Bool.and_eq_true_iff.1 h
  obtain ⟨h, h10⟩ := Bool.and_eq_true_iff.1 h
  obtain ⟨h, h9⟩ := Bool.and_eq_true_iff.1 h
  obtain ⟨h, h8⟩ := Bool.and_eq_true_iff.1 h
  obtain ⟨h, h7⟩ := Bool.and_eq_true_iff.1 h
  obtain ⟨h, h6⟩ := Bool.and_eq_true_iff.1 h
  obtain ⟨h, h5⟩ := Bool.and_eq_true_iff.1 h
  obtain ⟨h, h4⟩ := Bool.and_eq_true_iff.1 h
  obtain ⟨h, h3⟩ := Bool.and_eq_true_iff.1 h
  obtain ⟨h1, h2⟩ := Bool.and_eq_true_iff.1 h
  obtain ⟨f, e, hf⟩ := kI_ra h2 (by decide)
  obtain ⟨f3, e3⟩ := kI_any h3
  obtain ⟨f4, e4⟩ := kI_any h4
  exact ⟨⟨⟨fun k => if k = 8 then -1 else 0, (kO_ok h1).trans (congrArg (fun l : List Value => some (Sum.inr (9, l))) (by decide)), ⟨rfl, rfl, rfl, rfl, rfl, rfl⟩⟩, ⟨f, e, lo_no0 hf⟩, ⟨f3, e3, fun c => absurd c (by decide)⟩, ⟨f4, e4, fun i s c => by cases c⟩, kI_lis h5, kI_lis h7, kI_any h6, kI_any h8, kI_any h9, kI_any h10⟩, kJ_ok h11⟩
theorem stok0 : StOK st0 := ⟨full0, full0, Or.inl rfl, Nat.zero_le _, (fun s hs => by cases hs), Nat.zero_le _, (fun x hx => by cases hx), by decide, Nat.zero_le _, (fun x hx => by cases hx)⟩
theorem kMade_ok {o : Option AH} (h : kMade o = true) : ∃ hs, o = some hs ∧ Inv hs := by
  cases o with
  | none => cases h
  | some hs =>
    obtain ⟨h1, h2⟩ := Bool.and_eq_true_iff.1 h
    exact ⟨hs, rfl, st0, 0, 0, kCo_ok h1, (kMo_ok h2).1, stok0, (kMo_ok h2).2⟩
theorem made_inv : ∃ hs, f_made = some hs ∧ Inv hs := kMade_ok made_ok
theorem start_ok (L : Nat) (hL : L ≤ 2048) (xs : Nat → Int32) : f_start L xs = some 1 := by
  obtain ⟨hs, e, I⟩ := made_inv
  unfold f_start
  have h := law_loop L hL xs 513 0 hs (by omega) (by omega) I
  rw [show ii (4 * ((0 : Nat) : Int)) = 0 from by decide] at h
  rw [e, ob_some]
  exact h
