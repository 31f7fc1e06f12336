/-! ===== printed by wip/whole/genall.py: functions and walks ===== -/
noncomputable def f_X0_size (v0 : Nat) (hs : AH) : Option (Int32) :=
  (gI hs v0 0 2).bind fun x1 =>
  some x1
abbrev rm_X0_size : Room := { frames := 0, cells := 0, slots := 0, locals := 0 }
set_option maxHeartbeats 4000000 in
set_option maxRecDepth 100000 in
theorem w_X0_size_b0 {K : WK} {p : Program} {l : Launch} {e : Env} {s : State} {m : MethodId} {args : Array Value} {below : List Frame} {meth : Method} {c : Code} (C : Cx K p s m args meth c RX0 cX0_size 1 (Option.some Jvm.ClassFile.FieldType.int)) {q : Int32} : ∀ (v0 : Nat) (hs : AH) (H : Heap) (locs : List Loc) (ls : Array Slot), f_X0_size v0 hs = some q → Rl K s hs H locs → lv_has ls 1 [(0, .ref (kA K v0))] → W p l e rm_X0_size s m args below meth c H locs 0 0 (MQ below (MQo K (some (.int q)) hs) args s 0 0 (kAx K)) (F0 m 0 ls []) := by
  have hx := C.1
  have hb := C.2.1
  intro v0 hs H locs ls hf hR hl
  rw [f_X0_size.eq_1] at hf
  refine lv_aload_n hx hb dX0_size_0 rfl (lv_at hl 0 rfl) ?_
  obtain ⟨x1, hx1, hf⟩ := ob hf
  refine r_getI C hR hx1 fl_X0_21 dX0_size_1 ?_
  obtain rfl := Option.some.inj hf
  exact r_iret C hR rfl (Nat.le_of_ble_eq_true rfl) (Nat.le_of_ble_eq_true rfl) dX0_size_4
theorem c_X0_size {K : WK} {l : Launch} {hs : AH} {v0 : Nat} {q : Int32} (hf : f_X0_size v0 hs = some q) : MC K l yX0_size cX0_size 1 (Option.some Jvm.ClassFile.FieldType.int) rm_X0_size [.ref (kA K v0)] hs (some (.int q)) hs 0 0 :=
  MC.of (by decide +kernel) (Nat.le_of_ble_eq_true rfl) (fun p e s m args below meth c C _ hR ls hl => w_X0_size_b0 C _ hs _ _ ls hf hR hl)
noncomputable def f_X0_sheetAt (v0 : Nat) (v1 : Int32) (hs : AH) : Option (Nat) :=
  (gR hs v0 0 0).bind fun x1 =>
  (gI hs v0 0 1).bind fun x2 =>
  (f_J9_floorMod_7cf53 (x2 + v1) 6).bind fun x3 =>
  (aQ hs x1 x3).bind fun x4 =>
  some x4
abbrev rm_X0_sheetAt : Room := { frames := 1, cells := 0, slots := 0, locals := 22 }
set_option maxHeartbeats 4000000 in
set_option maxRecDepth 100000 in
theorem w_X0_sheetAt_b0 {K : WK} {p : Program} {l : Launch} {e : Env} {s : State} {m : MethodId} {args : Array Value} {below : List Frame} {meth : Method} {c : Code} (C : Cx K p s m args meth c RX0 cX0_sheetAt 2 (Option.some (Jvm.ClassFile.FieldType.object "CounterpointChecker$Sheet"))) {q : Nat} : ∀ (v0 : Nat) (v1 : Int32) (hs : AH) (H : Heap) (locs : List Loc) (ls : Array Slot), f_X0_sheetAt v0 v1 hs = some q → Rl K s hs H locs → lv_has ls 2 [(0, .ref (kA K v0)), (1, .int v1)] → W p l e rm_X0_sheetAt s m args below meth c H locs 0 0 (MQ below (MQo K (some (.ref (kA K q))) hs) args s 0 0 (kAx K)) (F0 m 0 ls []) := by
  have hx := C.1
  have hb := C.2.1
  intro v0 v1 hs H locs ls hf hR hl
  rw [f_X0_sheetAt.eq_1] at hf
  refine lv_aload_n hx hb dX0_sheetAt_0 rfl (lv_at hl 0 rfl) ?_
  obtain ⟨x1, hx1, hf⟩ := ob hf
  refine r_getR C hR hx1 fl_X0_11 dX0_sheetAt_1 ?_
  refine lv_aload_n hx hb dX0_sheetAt_4 rfl (lv_at hl 0 rfl) ?_
  obtain ⟨x2, hx2, hf⟩ := ob hf
  refine r_getI C hR hx2 fl_X0_17 dX0_sheetAt_5 ?_
  refine lv_iload_n hx hb dX0_sheetAt_8 rfl (lv_at hl 1 rfl) ?_
  refine lv_iadd hx hb dX0_sheetAt_9 ?_
  refine lv_bipush (v := 6) hx hb dX0_sheetAt_10 (by decide) ?_
  obtain ⟨x3, hx3, hf⟩ := ob hf
  refine r_callS (As := [.int (x2 + v1), .int 6]) (rest := [.ref (kA K x1)]) (st1 := [.int x3, .ref (kA K x1)]) C hR (lv_sub hl [] rfl) (c_J9_floorMod_7cf53 hx3) ms_J9_floorMod_7cf53 ml_X0_25 ⟨rfl, rfl, (Nat.le_of_ble_eq_true rfl), (Nat.le_of_ble_eq_true rfl)⟩ rfl rfl rfl (Nat.le_of_ble_eq_true rfl) ⟨(Nat.le_of_ble_eq_true rfl), (Nat.le_of_ble_eq_true rfl)⟩ dX0_sheetAt_12 (fun H locs hR => ?_)
  obtain ⟨x4, hx4, hf⟩ := ob hf
  refine r_qald C hR hx4 dX0_sheetAt_15 ?_
  obtain rfl := Option.some.inj hf
  exact r_aret (Or.inl ⟨_, rfl⟩) C hR (Nat.le_of_ble_eq_true rfl) (Nat.le_of_ble_eq_true rfl) dX0_sheetAt_16
theorem c_X0_sheetAt {K : WK} {l : Launch} {hs : AH} {v0 : Nat} {v1 : Int32} {q : Nat} (hf : f_X0_sheetAt v0 v1 hs = some q) : MC K l yX0_sheetAt cX0_sheetAt 2 (Option.some (Jvm.ClassFile.FieldType.object "CounterpointChecker$Sheet")) rm_X0_sheetAt [.ref (kA K v0), .int v1] hs (some (.ref (kA K q))) hs 0 0 :=
  MC.of (by decide +kernel) (Nat.le_of_ble_eq_true rfl) (fun p e s m args below meth c C _ hR ls hl => w_X0_sheetAt_b0 C _ _ hs _ _ ls hf hR hl)
noncomputable def f_X6_copyFrom_b65 : Nat → Nat → Nat → Int32 → AH → Option (AH)
  | 0, _, _, _, _ => none
  | n + 1, v0, v1, v2, hs =>
  if 16 < v2 then
  (
   some hs)
  else
  (
   (gR hs v0 6 5).bind fun x1 =>
   (gR hs v1 6 5).bind fun x2 =>
   (aN 0 hs x2 v2).bind fun x3 =>
   (sN 0 hs x1 v2 x3).bind fun hs4 =>
   f_X6_copyFrom_b65 n v0 v1 (v2 + 1) hs4)
noncomputable def f_X6_copyFrom_b40 : Nat → Nat → Nat → Int32 → AH → Option (AH)
  | 0, _, _, _, _ => none
  | n + 1, v0, v1, v2, hs =>
  if 3 ≤ v2 then
  (
   f_X6_copyFrom_b65 FUEL v0 v1 1 hs)
  else
  (
   (gR hs v0 6 4).bind fun x1 =>
   (gR hs v1 6 4).bind fun x2 =>
   (aN 0 hs x2 v2).bind fun x3 =>
   (sN 0 hs x1 v2 x3).bind fun hs4 =>
   f_X6_copyFrom_b40 n v0 v1 (v2 + 1) hs4)
noncomputable def f_X6_copyFrom (v0 : Nat) (v1 : Nat) (hs : AH) : Option (AH) :=
  (gR hs v0 6 0).bind fun x1 =>
  (gR hs v1 6 0).bind fun x2 =>
  (chk hs x1 2).bind fun u3 =>
  (f_X2_copyFrom x1 x2 hs).bind fun hs4 =>
  (gR hs4 v0 6 1).bind fun x5 =>
  (gR hs4 v1 6 1).bind fun x6 =>
  (chk hs4 x5 2).bind fun u7 =>
  (f_X2_copyFrom x5 x6 hs4).bind fun hs8 =>
  (gI hs8 v1 6 2).bind fun x9 =>
  (pI hs8 v0 6 2 x9).bind fun hs10 =>
  (gI hs10 v1 6 3).bind fun x11 =>
  (pZ hs10 v0 6 3 x11).bind fun hs12 =>
  f_X6_copyFrom_b40 FUEL v0 v1 0 hs12
abbrev rm_X6_copyFrom : Room := { frames := 2, cells := 0, slots := 0, locals := 43 }
set_option maxHeartbeats 4000000 in
set_option maxRecDepth 100000 in
theorem w_X6_copyFrom_b65 {K : WK} {p : Program} {l : Launch} {e : Env} {s : State} {m : MethodId} {args : Array Value} {below : List Frame} {meth : Method} {c : Code} (C : Cx K p s m args meth c RX6 cX6_copyFrom 3 (Option.none : Option Jvm.ClassFile.FieldType)) {q : AH} : ∀ (n : Nat) (v0 : Nat) (v1 : Nat) (v2 : Int32) (hs : AH) (H : Heap) (locs : List Loc) (ls : Array Slot), f_X6_copyFrom_b65 n v0 v1 v2 hs = some q → Rl K s hs H locs → lv_has ls 3 [(0, .ref (kA K v0)), (1, .ref (kA K v1)), (2, .int v2)] → W p l e rm_X6_copyFrom s m args below meth c H locs 0 0 (MQ below (MQo K none q) args s 0 0 (kAx K)) (F0 m 65 ls []) := by
  have hx := C.1
  have hb := C.2.1
  intro n
  induction n with
  | zero =>
    intro v0 v1 v2 hs H locs ls hf
    cases hf
  | succ n ih =>
    intro v0 v1 v2 hs H locs ls hf hR hl
    rw [f_X6_copyFrom_b65.eq_2] at hf
    refine lv_iload_n hx hb dX6_copyFrom_65 rfl (lv_at hl 2 rfl) ?_
    refine lv_bipush (v := 16) hx hb dX6_copyFrom_66 (by decide) ?_
    refine lv_icmp_gt (tgt := 89) hx hb dX6_copyFrom_68 (by decide) (fun c68 => ?_) (fun c68 => ?_)
    · have hf := ip hf c68
      obtain rfl := Option.some.inj hf
      exact r_vret C hR (Nat.le_of_ble_eq_true rfl) (Nat.le_of_ble_eq_true rfl) dX6_copyFrom_89
    · have hf := iq hf c68
      refine lv_aload_n hx hb dX6_copyFrom_71 rfl (lv_at hl 0 rfl) ?_
      obtain ⟨x1, hx1, hf⟩ := ob hf
      refine r_getR C hR hx1 fl_X6_33 dX6_copyFrom_72 ?_
      refine lv_iload_n hx hb dX6_copyFrom_75 rfl (lv_at hl 2 rfl) ?_
      refine lv_aload_n hx hb dX6_copyFrom_76 rfl (lv_at hl 1 rfl) ?_
      obtain ⟨x2, hx2, hf⟩ := ob hf
      refine r_getR C hR hx2 fl_X6_33 dX6_copyFrom_77 ?_
      refine lv_iload_n hx hb dX6_copyFrom_80 rfl (lv_at hl 2 rfl) ?_
      obtain ⟨x3, hx3, hf⟩ := ob hf
      refine r_iald C hR hx3 dX6_copyFrom_81 ?_
      obtain ⟨hs4, hhs4, hf⟩ := ob hf
      refine r_iast C hR hhs4 dX6_copyFrom_82 (fun H locs hR => ?_)
      refine lv_iinc (v := v2 + 1) (lv' := [(2, .int (v2 + 1)), (0, .ref (kA K v0)), (1, .ref (kA K v1))]) hx hb dX6_copyFrom_83 hl (k := 2) rfl rfl (by decide) rfl (fun ls hl => ?_)
      refine lv_goto (tgt := 65) hx hb dX6_copyFrom_86 (by decide) ?_
      exact ih _ _ _ _ _ _ _ hf hR (lv_sub hl [1, 2, 0] rfl)
set_option maxHeartbeats 4000000 in
set_option maxRecDepth 100000 in
theorem w_X6_copyFrom_b40 {K : WK} {p : Program} {l : Launch} {e : Env} {s : State} {m : MethodId} {args : Array Value} {below : List Frame} {meth : Method} {c : Code} (C : Cx K p s m args meth c RX6 cX6_copyFrom 3 (Option.none : Option Jvm.ClassFile.FieldType)) {q : AH} : ∀ (n : Nat) (v0 : Nat) (v1 : Nat) (v2 : Int32) (hs : AH) (H : Heap) (locs : List Loc) (ls : Array Slot), f_X6_copyFrom_b40 n v0 v1 v2 hs = some q → Rl K s hs H locs → lv_has ls 3 [(0, .ref (kA K v0)), (1, .ref (kA K v1)), (2, .int v2)] → W p l e rm_X6_copyFrom s m args below meth c H locs 0 0 (MQ below (MQo K none q) args s 0 0 (kAx K)) (F0 m 40 ls []) := by
  have hx := C.1
  have hb := C.2.1
  intro n
  induction n with
  | zero =>
    intro v0 v1 v2 hs H locs ls hf
    cases hf
  | succ n ih =>
    intro v0 v1 v2 hs H locs ls hf hR hl
    rw [f_X6_copyFrom_b40.eq_2] at hf
    refine lv_iload_n hx hb dX6_copyFrom_40 rfl (lv_at hl 2 rfl) ?_
    refine lv_iconst (v := 3) hx hb dX6_copyFrom_41 (by decide) ?_
    refine lv_icmp_ge (tgt := 63) hx hb dX6_copyFrom_42 (by decide) (fun c42 => ?_) (fun c42 => ?_)
    · have hf := ip hf c42
      refine lv_iconst (v := 1) hx hb dX6_copyFrom_63 (by decide) ?_
      refine lv_istore_n (lv' := [(2, .int 1), (0, .ref (kA K v0)), (1, .ref (kA K v1))]) hx hb dX6_copyFrom_64 rfl hl (by decide) rfl (fun ls hl => ?_)
      exact w_X6_copyFrom_b65 C  _ _ _ _ _ _ _ _ hf hR (lv_sub hl [1, 2, 0] rfl)
    · have hf := iq hf c42
      refine lv_aload_n hx hb dX6_copyFrom_45 rfl (lv_at hl 0 rfl) ?_
      obtain ⟨x1, hx1, hf⟩ := ob hf
      refine r_getR C hR hx1 fl_X6_29 dX6_copyFrom_46 ?_
      refine lv_iload_n hx hb dX6_copyFrom_49 rfl (lv_at hl 2 rfl) ?_
      refine lv_aload_n hx hb dX6_copyFrom_50 rfl (lv_at hl 1 rfl) ?_
      obtain ⟨x2, hx2, hf⟩ := ob hf
      refine r_getR C hR hx2 fl_X6_29 dX6_copyFrom_51 ?_
      refine lv_iload_n hx hb dX6_copyFrom_54 rfl (lv_at hl 2 rfl) ?_
      obtain ⟨x3, hx3, hf⟩ := ob hf
      refine r_iald C hR hx3 dX6_copyFrom_55 ?_
      obtain ⟨hs4, hhs4, hf⟩ := ob hf
      refine r_iast C hR hhs4 dX6_copyFrom_56 (fun H locs hR => ?_)
      refine lv_iinc (v := v2 + 1) (lv' := [(2, .int (v2 + 1)), (0, .ref (kA K v0)), (1, .ref (kA K v1))]) hx hb dX6_copyFrom_57 hl (k := 2) rfl rfl (by decide) rfl (fun ls hl => ?_)
      refine lv_goto (tgt := 40) hx hb dX6_copyFrom_60 (by decide) ?_
      exact ih _ _ _ _ _ _ _ hf hR (lv_sub hl [1, 2, 0] rfl)
set_option maxHeartbeats 4000000 in
set_option maxRecDepth 100000 in
theorem w_X6_copyFrom_b0 {K : WK} {p : Program} {l : Launch} {e : Env} {s : State} {m : MethodId} {args : Array Value} {below : List Frame} {meth : Method} {c : Code} (C : Cx K p s m args meth c RX6 cX6_copyFrom 3 (Option.none : Option Jvm.ClassFile.FieldType)) {q : AH} : ∀ (v0 : Nat) (v1 : Nat) (hs : AH) (H : Heap) (locs : List Loc) (ls : Array Slot), f_X6_copyFrom v0 v1 hs = some q → Rl K s hs H locs → lv_has ls 3 [(0, .ref (kA K v0)), (1, .ref (kA K v1))] → W p l e rm_X6_copyFrom s m args below meth c H locs 0 0 (MQ below (MQo K none q) args s 0 0 (kAx K)) (F0 m 0 ls []) := by
  have hx := C.1
  have hb := C.2.1
  intro v0 v1 hs H locs ls hf hR hl
  rw [f_X6_copyFrom.eq_1] at hf
  refine lv_aload_n hx hb dX6_copyFrom_0 rfl (lv_at hl 0 rfl) ?_
  obtain ⟨x1, hx1, hf⟩ := ob hf
  refine r_getR C hR hx1 fl_X6_12 dX6_copyFrom_1 ?_
  refine lv_aload_n hx hb dX6_copyFrom_4 rfl (lv_at hl 1 rfl) ?_
  obtain ⟨x2, hx2, hf⟩ := ob hf
  refine r_getR C hR hx2 fl_X6_12 dX6_copyFrom_5 ?_
  obtain ⟨u3, hu3, hf⟩ := ob hf
  obtain ⟨hs4, hhs4, hf⟩ := ob hf
  refine r_callV (As := [.ref (kA K x2)]) (rest := []) (st1 := []) C hR (lv_sub hl [] rfl) (c_X2_copyFrom hhs4) mv_X2_copyFrom ml_X6_62 ⟨rfl, rfl, (Nat.le_of_ble_eq_true rfl), (Nat.le_of_ble_eq_true rfl)⟩ (rv_obj C hR hu3 (q := (RX2, TX2, 2)) rfl) rfl rfl rfl (Nat.le_of_ble_eq_true rfl) ⟨(Nat.le_of_ble_eq_true rfl), (Nat.le_of_ble_eq_true rfl)⟩ dX6_copyFrom_8 (fun H locs hR => ?_)
  refine lv_aload_n hx hb dX6_copyFrom_11 rfl (lv_at hl 0 rfl) ?_
  obtain ⟨x5, hx5, hf⟩ := ob hf
  refine r_getR C hR hx5 fl_X6_18 dX6_copyFrom_12 ?_
  refine lv_aload_n hx hb dX6_copyFrom_15 rfl (lv_at hl 1 rfl) ?_
  obtain ⟨x6, hx6, hf⟩ := ob hf
  refine r_getR C hR hx6 fl_X6_18 dX6_copyFrom_16 ?_
  obtain ⟨u7, hu7, hf⟩ := ob hf
  obtain ⟨hs8, hhs8, hf⟩ := ob hf
  refine r_callV (As := [.ref (kA K x6)]) (rest := []) (st1 := []) C hR (lv_sub hl [] rfl) (c_X2_copyFrom hhs8) mv_X2_copyFrom ml_X6_62 ⟨rfl, rfl, (Nat.le_of_ble_eq_true rfl), (Nat.le_of_ble_eq_true rfl)⟩ (rv_obj C hR hu7 (q := (RX2, TX2, 2)) rfl) rfl rfl rfl (Nat.le_of_ble_eq_true rfl) ⟨(Nat.le_of_ble_eq_true rfl), (Nat.le_of_ble_eq_true rfl)⟩ dX6_copyFrom_19 (fun H locs hR => ?_)
  refine lv_aload_n hx hb dX6_copyFrom_22 rfl (lv_at hl 0 rfl) ?_
  refine lv_aload_n hx hb dX6_copyFrom_23 rfl (lv_at hl 1 rfl) ?_
  obtain ⟨x9, hx9, hf⟩ := ob hf
  refine r_getI C hR hx9 fl_X6_21 dX6_copyFrom_24 ?_
  obtain ⟨hs10, hhs10, hf⟩ := ob hf
  refine r_putI C hR hhs10 fl_X6_21 dX6_copyFrom_27 (fun H locs hR => ?_)
  refine lv_aload_n hx hb dX6_copyFrom_30 rfl (lv_at hl 0 rfl) ?_
  refine lv_aload_n hx hb dX6_copyFrom_31 rfl (lv_at hl 1 rfl) ?_
  obtain ⟨x11, hx11, hf⟩ := ob hf
  refine r_getI C hR hx11 fl_X6_25 dX6_copyFrom_32 ?_
  obtain ⟨hs12, hhs12, hf⟩ := ob hf
  refine r_putZ C hR hhs12 fl_X6_25 dX6_copyFrom_35 (fun H locs hR => ?_)
  refine lv_iconst (v := 0) hx hb dX6_copyFrom_38 (by decide) ?_
  refine lv_istore_n (lv' := [(2, .int 0), (0, .ref (kA K v0)), (1, .ref (kA K v1))]) hx hb dX6_copyFrom_39 rfl hl (by decide) rfl (fun ls hl => ?_)
  exact w_X6_copyFrom_b40 C  _ _ _ _ _ _ _ _ hf hR (lv_sub hl [1, 2, 0] rfl)
theorem c_X6_copyFrom {K : WK} {l : Launch} {hs : AH} {v0 : Nat} {v1 : Nat} {q : AH} (hf : f_X6_copyFrom v0 v1 hs = some q) : MC K l yX6_copyFrom cX6_copyFrom 3 (Option.none : Option Jvm.ClassFile.FieldType) rm_X6_copyFrom [.ref (kA K v0), .ref (kA K v1)] hs none q 0 0 :=
  MC.of (by decide +kernel) (Nat.le_of_ble_eq_true rfl) (fun p e s m args below meth c C _ hR ls hl => w_X6_copyFrom_b0 C _ _ hs _ _ ls hf hR hl)
noncomputable def f_X0_keep (v0 : Nat) (v1 : Nat) (hs : AH) : Option (AH) :=
  (gI hs v0 0 2).bind fun x1 =>
  (chk hs v0 0).bind fun u2 =>
  (f_X0_sheetAt v0 x1 hs).bind fun x3 =>
  (chk hs x3 6).bind fun u4 =>
  (f_X6_copyFrom x3 v1 hs).bind fun hs5 =>
  (gI hs5 v0 0 2).bind fun x6 =>
  if 6 ≤ x6 then
  (
   (gI hs5 v0 0 1).bind fun x7 =>
   (f_J9_floorMod_7cf53 (x7 + 1) 6).bind fun x8 =>
   (pI hs5 v0 0 1 x8).bind fun hs9 =>
   some hs9)
  else
  (
   (gI hs5 v0 0 2).bind fun x10 =>
   (pI hs5 v0 0 2 (x10 + 1)).bind fun hs11 =>
   some hs11)
abbrev rm_X0_keep : Room := { frames := 3, cells := 0, slots := 0, locals := 65 }
set_option maxHeartbeats 4000000 in
set_option maxRecDepth 100000 in
theorem w_X0_keep_b0 {K : WK} {p : Program} {l : Launch} {e : Env} {s : State} {m : MethodId} {args : Array Value} {below : List Frame} {meth : Method} {c : Code} (C : Cx K p s m args meth c RX0 cX0_keep 3 (Option.none : Option Jvm.ClassFile.FieldType)) {q : AH} : ∀ (v0 : Nat) (v1 : Nat) (hs : AH) (H : Heap) (locs : List Loc) (ls : Array Slot), f_X0_keep v0 v1 hs = some q → Rl K s hs H locs → lv_has ls 3 [(0, .ref (kA K v0)), (1, .ref (kA K v1))] → W p l e rm_X0_keep s m args below meth c H locs 0 0 (MQ below (MQo K none q) args s 0 0 (kAx K)) (F0 m 0 ls []) := by
  have hx := C.1
  have hb := C.2.1
  intro v0 v1 hs H locs ls hf hR hl
  rw [f_X0_keep.eq_1] at hf
  refine lv_aload_n hx hb dX0_keep_0 rfl (lv_at hl 0 rfl) ?_
  refine lv_aload_n hx hb dX0_keep_1 rfl (lv_at hl 0 rfl) ?_
  obtain ⟨x1, hx1, hf⟩ := ob hf
  refine r_getI C hR hx1 fl_X0_21 dX0_keep_2 ?_
  obtain ⟨u2, hu2, hf⟩ := ob hf
  obtain ⟨x3, hx3, hf⟩ := ob hf
  refine r_callV (As := [.int x1]) (rest := []) (st1 := [.ref (kA K x3)]) C hR (lv_sub hl [] rfl) (c_X0_sheetAt hx3) mv_X0_sheetAt ml_X0_31 ⟨rfl, rfl, (Nat.le_of_ble_eq_true rfl), (Nat.le_of_ble_eq_true rfl)⟩ (rv_obj C hR hu2 (q := (RX0, TX0, 3)) rfl) rfl rfl rfl (Nat.le_of_ble_eq_true rfl) ⟨(Nat.le_of_ble_eq_true rfl), (Nat.le_of_ble_eq_true rfl)⟩ dX0_keep_5 (fun H locs hR => ?_)
  refine lv_astore_n (lv' := [(2, .ref (kA K x3)), (0, .ref (kA K v0)), (1, .ref (kA K v1))]) hx hb dX0_keep_8 rfl hl (by decide) rfl (fun ls hl => ?_)
  refine lv_aload_n hx hb dX0_keep_9 rfl (lv_at hl 0 rfl) ?_
  refine lv_ifnull hx hb dX0_keep_10 ?_
  refine lv_aload_n hx hb dX0_keep_13 rfl (lv_at hl 0 rfl) ?_
  refine lv_aload_n hx hb dX0_keep_14 rfl (lv_at hl 2 rfl) ?_
  obtain ⟨u4, hu4, hf⟩ := ob hf
  obtain ⟨hs5, hhs5, hf⟩ := ob hf
  refine r_callV (As := [.ref (kA K v1)]) (rest := []) (st1 := []) C hR (lv_sub hl [] rfl) (c_X6_copyFrom hhs5) mv_X6_copyFrom ml_X0_35 ⟨rfl, rfl, (Nat.le_of_ble_eq_true rfl), (Nat.le_of_ble_eq_true rfl)⟩ (rv_obj C hR hu4 (q := (RX6, TX6, 6)) rfl) rfl rfl rfl (Nat.le_of_ble_eq_true rfl) ⟨(Nat.le_of_ble_eq_true rfl), (Nat.le_of_ble_eq_true rfl)⟩ dX0_keep_15 (fun H locs hR => ?_)
  refine lv_aload_n hx hb dX0_keep_18 rfl (lv_at hl 1 rfl) ?_
  obtain ⟨x6, hx6, hf⟩ := ob hf
  refine r_getI C hR hx6 fl_X0_21 dX0_keep_19 ?_
  refine lv_bipush (v := 6) hx hb dX0_keep_22 (by decide) ?_
  refine lv_icmp_ge (tgt := 40) hx hb dX0_keep_24 (by decide) (fun c24 => ?_) (fun c24 => ?_)
  · have hf := ip hf c24
    refine lv_aload_n hx hb dX0_keep_40 rfl (lv_at hl 1 rfl) ?_
    refine lv_aload_n hx hb dX0_keep_41 rfl (lv_at hl 1 rfl) ?_
    obtain ⟨x7, hx7, hf⟩ := ob hf
    refine r_getI C hR hx7 fl_X0_17 dX0_keep_42 ?_
    refine lv_iconst (v := 1) hx hb dX0_keep_45 (by decide) ?_
    refine lv_iadd hx hb dX0_keep_46 ?_
    refine lv_bipush (v := 6) hx hb dX0_keep_47 (by decide) ?_
    obtain ⟨x8, hx8, hf⟩ := ob hf
    refine r_callS (As := [.int (x7 + 1), .int 6]) (rest := [.ref (kA K v0)]) (st1 := [.int x8, .ref (kA K v0)]) C hR (lv_sub hl [] rfl) (c_J9_floorMod_7cf53 hx8) ms_J9_floorMod_7cf53 ml_X0_25 ⟨rfl, rfl, (Nat.le_of_ble_eq_true rfl), (Nat.le_of_ble_eq_true rfl)⟩ rfl rfl rfl (Nat.le_of_ble_eq_true rfl) ⟨(Nat.le_of_ble_eq_true rfl), (Nat.le_of_ble_eq_true rfl)⟩ dX0_keep_49 (fun H locs hR => ?_)
    obtain ⟨hs9, hhs9, hf⟩ := ob hf
    refine r_putI C hR hhs9 fl_X0_17 dX0_keep_52 (fun H locs hR => ?_)
    obtain rfl := Option.some.inj hf
    exact r_vret C hR (Nat.le_of_ble_eq_true rfl) (Nat.le_of_ble_eq_true rfl) dX0_keep_55
  · have hf := iq hf c24
    refine lv_aload_n hx hb dX0_keep_27 rfl (lv_at hl 1 rfl) ?_
    refine lv_dup hx hb dX0_keep_28 rfl ?_
    obtain ⟨x10, hx10, hf⟩ := ob hf
    refine r_getI C hR hx10 fl_X0_21 dX0_keep_29 ?_
    refine lv_iconst (v := 1) hx hb dX0_keep_32 (by decide) ?_
    refine lv_iadd hx hb dX0_keep_33 ?_
    obtain ⟨hs11, hhs11, hf⟩ := ob hf
    refine r_putI C hR hhs11 fl_X0_21 dX0_keep_34 (fun H locs hR => ?_)
    refine lv_goto (tgt := 55) hx hb dX0_keep_37 (by decide) ?_
    obtain rfl := Option.some.inj hf
    exact r_vret C hR (Nat.le_of_ble_eq_true rfl) (Nat.le_of_ble_eq_true rfl) dX0_keep_55
theorem c_X0_keep {K : WK} {l : Launch} {hs : AH} {v0 : Nat} {v1 : Nat} {q : AH} (hf : f_X0_keep v0 v1 hs = some q) : MC K l yX0_keep cX0_keep 3 (Option.none : Option Jvm.ClassFile.FieldType) rm_X0_keep [.ref (kA K v0), .ref (kA K v1)] hs none q 0 0 :=
  MC.of (by decide +kernel) (Nat.le_of_ble_eq_true rfl) (fun p e s m args below meth c C _ hR ls hl => w_X0_keep_b0 C _ _ hs _ _ ls hf hR hl)
noncomputable def f_X0_takeBack (v0 : Nat) (v1 : Nat) (hs : AH) : Option (AH) :=
  (gI hs v0 0 2).bind fun x1 =>
  if x1 ≤ 0 then
  (
   some hs)
  else
  (
   (gI hs v0 0 2).bind fun x2 =>
   (pI hs v0 0 2 (x2 - 1)).bind fun hs3 =>
   (gI hs3 v0 0 2).bind fun x4 =>
   (chk hs3 v0 0).bind fun u5 =>
   (f_X0_sheetAt v0 x4 hs3).bind fun x6 =>
   (chk hs3 v1 6).bind fun u7 =>
   (f_X6_copyFrom v1 x6 hs3).bind fun hs8 =>
   some hs8)
abbrev rm_X0_takeBack : Room := { frames := 3, cells := 0, slots := 0, locals := 65 }
set_option maxHeartbeats 4000000 in
set_option maxRecDepth 100000 in
theorem w_X0_takeBack_b0 {K : WK} {p : Program} {l : Launch} {e : Env} {s : State} {m : MethodId} {args : Array Value} {below : List Frame} {meth : Method} {c : Code} (C : Cx K p s m args meth c RX0 cX0_takeBack 3 (Option.none : Option Jvm.ClassFile.FieldType)) {q : AH} : ∀ (v0 : Nat) (v1 : Nat) (hs : AH) (H : Heap) (locs : List Loc) (ls : Array Slot), f_X0_takeBack v0 v1 hs = some q → Rl K s hs H locs → lv_has ls 3 [(0, .ref (kA K v0)), (1, .ref (kA K v1))] → W p l e rm_X0_takeBack s m args below meth c H locs 0 0 (MQ below (MQo K none q) args s 0 0 (kAx K)) (F0 m 0 ls []) := by
  have hx := C.1
  have hb := C.2.1
  intro v0 v1 hs H locs ls hf hR hl
  rw [f_X0_takeBack.eq_1] at hf
  refine lv_aload_n hx hb dX0_takeBack_0 rfl (lv_at hl 0 rfl) ?_
  obtain ⟨x1, hx1, hf⟩ := ob hf
  refine r_getI C hR hx1 fl_X0_21 dX0_takeBack_1 ?_
  refine lv_if_le (tgt := 35) hx hb dX0_takeBack_4 (by decide) (fun c4 => ?_) (fun c4 => ?_)
  · have hf := ip hf c4
    obtain rfl := Option.some.inj hf
    exact r_vret C hR (Nat.le_of_ble_eq_true rfl) (Nat.le_of_ble_eq_true rfl) dX0_takeBack_35
  · have hf := iq hf c4
    refine lv_aload_n hx hb dX0_takeBack_7 rfl (lv_at hl 0 rfl) ?_
    refine lv_dup hx hb dX0_takeBack_8 rfl ?_
    obtain ⟨x2, hx2, hf⟩ := ob hf
    refine r_getI C hR hx2 fl_X0_21 dX0_takeBack_9 ?_
    refine lv_iconst (v := 1) hx hb dX0_takeBack_12 (by decide) ?_
    refine lv_isub hx hb dX0_takeBack_13 ?_
    obtain ⟨hs3, hhs3, hf⟩ := ob hf
    refine r_putI C hR hhs3 fl_X0_21 dX0_takeBack_14 (fun H locs hR => ?_)
    refine lv_aload_n hx hb dX0_takeBack_17 rfl (lv_at hl 0 rfl) ?_
    refine lv_aload_n hx hb dX0_takeBack_18 rfl (lv_at hl 0 rfl) ?_
    obtain ⟨x4, hx4, hf⟩ := ob hf
    refine r_getI C hR hx4 fl_X0_21 dX0_takeBack_19 ?_
    obtain ⟨u5, hu5, hf⟩ := ob hf
    obtain ⟨x6, hx6, hf⟩ := ob hf
    refine r_callV (As := [.int x4]) (rest := []) (st1 := [.ref (kA K x6)]) C hR (lv_sub hl [] rfl) (c_X0_sheetAt hx6) mv_X0_sheetAt ml_X0_31 ⟨rfl, rfl, (Nat.le_of_ble_eq_true rfl), (Nat.le_of_ble_eq_true rfl)⟩ (rv_obj C hR hu5 (q := (RX0, TX0, 3)) rfl) rfl rfl rfl (Nat.le_of_ble_eq_true rfl) ⟨(Nat.le_of_ble_eq_true rfl), (Nat.le_of_ble_eq_true rfl)⟩ dX0_takeBack_22 (fun H locs hR => ?_)
    refine lv_astore_n (lv' := [(2, .ref (kA K x6)), (0, .ref (kA K v0)), (1, .ref (kA K v1))]) hx hb dX0_takeBack_25 rfl hl (by decide) rfl (fun ls hl => ?_)
    refine lv_aload_n hx hb dX0_takeBack_26 rfl (lv_at hl 0 rfl) ?_
    refine lv_ifnull hx hb dX0_takeBack_27 ?_
    refine lv_aload_n hx hb dX0_takeBack_30 rfl (lv_at hl 2 rfl) ?_
    refine lv_aload_n hx hb dX0_takeBack_31 rfl (lv_at hl 0 rfl) ?_
    obtain ⟨u7, hu7, hf⟩ := ob hf
    obtain ⟨hs8, hhs8, hf⟩ := ob hf
    refine r_callV (As := [.ref (kA K x6)]) (rest := []) (st1 := []) C hR (lv_sub hl [] rfl) (c_X6_copyFrom hhs8) mv_X6_copyFrom ml_X0_35 ⟨rfl, rfl, (Nat.le_of_ble_eq_true rfl), (Nat.le_of_ble_eq_true rfl)⟩ (rv_obj C hR hu7 (q := (RX6, TX6, 6)) rfl) rfl rfl rfl (Nat.le_of_ble_eq_true rfl) ⟨(Nat.le_of_ble_eq_true rfl), (Nat.le_of_ble_eq_true rfl)⟩ dX0_takeBack_32 (fun H locs hR => ?_)
    obtain rfl := Option.some.inj hf
    exact r_vret C hR (Nat.le_of_ble_eq_true rfl) (Nat.le_of_ble_eq_true rfl) dX0_takeBack_35
theorem c_X0_takeBack {K : WK} {l : Launch} {hs : AH} {v0 : Nat} {v1 : Nat} {q : AH} (hf : f_X0_takeBack v0 v1 hs = some q) : MC K l yX0_takeBack cX0_takeBack 3 (Option.none : Option Jvm.ClassFile.FieldType) rm_X0_takeBack [.ref (kA K v0), .ref (kA K v1)] hs none q 0 0 :=
  MC.of (by decide +kernel) (Nat.le_of_ble_eq_true rfl) (fun p e s m args below meth c C _ hR ls hl => w_X0_takeBack_b0 C _ _ hs _ _ ls hf hR hl)
noncomputable def f_X6_species (v0 : Nat) (hs : AH) : Option (Int32) :=
  (gI hs v0 6 2).bind fun x1 =>
  some x1
abbrev rm_X6_species : Room := { frames := 0, cells := 0, slots := 0, locals := 0 }
set_option maxHeartbeats 4000000 in
set_option maxRecDepth 100000 in
theorem w_X6_species_b0 {K : WK} {p : Program} {l : Launch} {e : Env} {s : State} {m : MethodId} {args : Array Value} {below : List Frame} {meth : Method} {c : Code} (C : Cx K p s m args meth c RX6 cX6_species 1 (Option.some Jvm.ClassFile.FieldType.int)) {q : Int32} : ∀ (v0 : Nat) (hs : AH) (H : Heap) (locs : List Loc) (ls : Array Slot), f_X6_species v0 hs = some q → Rl K s hs H locs → lv_has ls 1 [(0, .ref (kA K v0))] → W p l e rm_X6_species s m args below meth c H locs 0 0 (MQ below (MQo K (some (.int q)) hs) args s 0 0 (kAx K)) (F0 m 0 ls []) := by
  have hx := C.1
  have hb := C.2.1
  intro v0 hs H locs ls hf hR hl
  rw [f_X6_species.eq_1] at hf
  refine lv_aload_n hx hb dX6_species_0 rfl (lv_at hl 0 rfl) ?_
  obtain ⟨x1, hx1, hf⟩ := ob hf
  refine r_getI C hR hx1 fl_X6_21 dX6_species_1 ?_
  obtain rfl := Option.some.inj hf
  exact r_iret C hR rfl (Nat.le_of_ble_eq_true rfl) (Nat.le_of_ble_eq_true rfl) dX6_species_4
theorem c_X6_species {K : WK} {l : Launch} {hs : AH} {v0 : Nat} {q : Int32} (hf : f_X6_species v0 hs = some q) : MC K l yX6_species cX6_species 1 (Option.some Jvm.ClassFile.FieldType.int) rm_X6_species [.ref (kA K v0)] hs (some (.int q)) hs 0 0 :=
  MC.of (by decide +kernel) (Nat.le_of_ble_eq_true rfl) (fun p e s m args below meth c C _ hR ls hl => w_X6_species_b0 C _ hs _ _ ls hf hR hl)
noncomputable def f_X6_makeSpecies (v0 : Nat) (v1 : Int32) (hs : AH) : Option (AH) :=
  (gI hs v0 6 2).bind fun x1 =>
  if v1 = x1 then
  (
   some hs)
  else
  (
   (pI hs v0 6 2 v1).bind fun hs2 =>
   (gR hs2 v0 6 1).bind fun x3 =>
   (chk hs2 x3 2).bind fun u4 =>
   (f_X2_clear x3 hs2).bind fun hs5 =>
   some hs5)
abbrev rm_X6_makeSpecies : Room := { frames := 1, cells := 0, slots := 0, locals := 20 }
set_option maxHeartbeats 4000000 in
set_option maxRecDepth 100000 in
theorem w_X6_makeSpecies_b0 {K : WK} {p : Program} {l : Launch} {e : Env} {s : State} {m : MethodId} {args : Array Value} {below : List Frame} {meth : Method} {c : Code} (C : Cx K p s m args meth c RX6 cX6_makeSpecies 2 (Option.none : Option Jvm.ClassFile.FieldType)) {q : AH} : ∀ (v0 : Nat) (v1 : Int32) (hs : AH) (H : Heap) (locs : List Loc) (ls : Array Slot), f_X6_makeSpecies v0 v1 hs = some q → Rl K s hs H locs → lv_has ls 2 [(0, .ref (kA K v0)), (1, .int v1)] → W p l e rm_X6_makeSpecies s m args below meth c H locs 0 0 (MQ below (MQo K none q) args s 0 0 (kAx K)) (F0 m 0 ls []) := by
  have hx := C.1
  have hb := C.2.1
  intro v0 v1 hs H locs ls hf hR hl
  rw [f_X6_makeSpecies.eq_1] at hf
  refine lv_iload_n hx hb dX6_makeSpecies_0 rfl (lv_at hl 1 rfl) ?_
  refine lv_aload_n hx hb dX6_makeSpecies_1 rfl (lv_at hl 0 rfl) ?_
  obtain ⟨x1, hx1, hf⟩ := ob hf
  refine r_getI C hR hx1 fl_X6_21 dX6_makeSpecies_2 ?_
  refine lv_icmp_eq (tgt := 20) hx hb dX6_makeSpecies_5 (by decide) (fun c5 => ?_) (fun c5 => ?_)
  · have hf := ip hf c5
    obtain rfl := Option.some.inj hf
    exact r_vret C hR (Nat.le_of_ble_eq_true rfl) (Nat.le_of_ble_eq_true rfl) dX6_makeSpecies_20
  · have hf := iq hf c5
    refine lv_aload_n hx hb dX6_makeSpecies_8 rfl (lv_at hl 0 rfl) ?_
    refine lv_iload_n hx hb dX6_makeSpecies_9 rfl (lv_at hl 1 rfl) ?_
    obtain ⟨hs2, hhs2, hf⟩ := ob hf
    refine r_putI C hR hhs2 fl_X6_21 dX6_makeSpecies_10 (fun H locs hR => ?_)
    refine lv_aload_n hx hb dX6_makeSpecies_13 rfl (lv_at hl 0 rfl) ?_
    obtain ⟨x3, hx3, hf⟩ := ob hf
    refine r_getR C hR hx3 fl_X6_18 dX6_makeSpecies_14 ?_
    obtain ⟨u4, hu4, hf⟩ := ob hf
    obtain ⟨hs5, hhs5, hf⟩ := ob hf
    refine r_callV (As := []) (rest := []) (st1 := []) C hR (lv_sub hl [] rfl) (c_X2_clear hhs5) mv_X2_clear ml_X6_36 ⟨rfl, rfl, (Nat.le_of_ble_eq_true rfl), (Nat.le_of_ble_eq_true rfl)⟩ (rv_obj C hR hu4 (q := (RX2, TX2, 2)) rfl) rfl rfl rfl (Nat.le_of_ble_eq_true rfl) ⟨(Nat.le_of_ble_eq_true rfl), (Nat.le_of_ble_eq_true rfl)⟩ dX6_makeSpecies_17 (fun H locs hR => ?_)
    obtain rfl := Option.some.inj hf
    exact r_vret C hR (Nat.le_of_ble_eq_true rfl) (Nat.le_of_ble_eq_true rfl) dX6_makeSpecies_20
theorem c_X6_makeSpecies {K : WK} {l : Launch} {hs : AH} {v0 : Nat} {v1 : Int32} {q : AH} (hf : f_X6_makeSpecies v0 v1 hs = some q) : MC K l yX6_makeSpecies cX6_makeSpecies 2 (Option.none : Option Jvm.ClassFile.FieldType) rm_X6_makeSpecies [.ref (kA K v0), .int v1] hs none q 0 0 :=
  MC.of (by decide +kernel) (Nat.le_of_ble_eq_true rfl) (fun p e s m args below meth c C _ hR ls hl => w_X6_makeSpecies_b0 C _ _ hs _ _ ls hf hR hl)
noncomputable def f_X6_isBelow (v0 : Nat) (hs : AH) : Option (Int32) :=
  (gI hs v0 6 3).bind fun x1 =>
  some (vp_nar .boolean x1)
abbrev rm_X6_isBelow : Room := { frames := 0, cells := 0, slots := 0, locals := 0 }
set_option maxHeartbeats 4000000 in
set_option maxRecDepth 100000 in
theorem w_X6_isBelow_b0 {K : WK} {p : Program} {l : Launch} {e : Env} {s : State} {m : MethodId} {args : Array Value} {below : List Frame} {meth : Method} {c : Code} (C : Cx K p s m args meth c RX6 cX6_isBelow 1 (Option.some Jvm.ClassFile.FieldType.boolean)) {q : Int32} : ∀ (v0 : Nat) (hs : AH) (H : Heap) (locs : List Loc) (ls : Array Slot), f_X6_isBelow v0 hs = some q → Rl K s hs H locs → lv_has ls 1 [(0, .ref (kA K v0))] → W p l e rm_X6_isBelow s m args below meth c H locs 0 0 (MQ below (MQo K (some (.int q)) hs) args s 0 0 (kAx K)) (F0 m 0 ls []) := by
  have hx := C.1
  have hb := C.2.1
  intro v0 hs H locs ls hf hR hl
  rw [f_X6_isBelow.eq_1] at hf
  refine lv_aload_n hx hb dX6_isBelow_0 rfl (lv_at hl 0 rfl) ?_
  obtain ⟨x1, hx1, hf⟩ := ob hf
  refine r_getI C hR hx1 fl_X6_25 dX6_isBelow_1 ?_
  obtain rfl := Option.some.inj hf
  exact r_iret C hR nar_boolean (Nat.le_of_ble_eq_true rfl) (Nat.le_of_ble_eq_true rfl) dX6_isBelow_4
theorem c_X6_isBelow {K : WK} {l : Launch} {hs : AH} {v0 : Nat} {q : Int32} (hf : f_X6_isBelow v0 hs = some q) : MC K l yX6_isBelow cX6_isBelow 1 (Option.some Jvm.ClassFile.FieldType.boolean) rm_X6_isBelow [.ref (kA K v0)] hs (some (.int q)) hs 0 0 :=
  MC.of (by decide +kernel) (Nat.le_of_ble_eq_true rfl) (fun p e s m args below meth c C _ hR ls hl => w_X6_isBelow_b0 C _ hs _ _ ls hf hR hl)
noncomputable def f_X6_makeBelow (v0 : Nat) (v1 : Int32) (hs : AH) : Option (AH) :=
  (pZ hs v0 6 3 v1).bind fun hs1 =>
  some hs1
abbrev rm_X6_makeBelow : Room := { frames := 0, cells := 0, slots := 0, locals := 0 }
set_option maxHeartbeats 4000000 in
set_option maxRecDepth 100000 in
theorem w_X6_makeBelow_b0 {K : WK} {p : Program} {l : Launch} {e : Env} {s : State} {m : MethodId} {args : Array Value} {below : List Frame} {meth : Method} {c : Code} (C : Cx K p s m args meth c RX6 cX6_makeBelow 2 (Option.none : Option Jvm.ClassFile.FieldType)) {q : AH} : ∀ (v0 : Nat) (v1 : Int32) (hs : AH) (H : Heap) (locs : List Loc) (ls : Array Slot), f_X6_makeBelow v0 v1 hs = some q → Rl K s hs H locs → lv_has ls 2 [(0, .ref (kA K v0)), (1, .int v1)] → W p l e rm_X6_makeBelow s m args below meth c H locs 0 0 (MQ below (MQo K none q) args s 0 0 (kAx K)) (F0 m 0 ls []) := by
  have hx := C.1
  have hb := C.2.1
  intro v0 v1 hs H locs ls hf hR hl
  rw [f_X6_makeBelow.eq_1] at hf
  refine lv_aload_n hx hb dX6_makeBelow_0 rfl (lv_at hl 0 rfl) ?_
  refine lv_iload_n hx hb dX6_makeBelow_1 rfl (lv_at hl 1 rfl) ?_
  obtain ⟨hs1, hhs1, hf⟩ := ob hf
  refine r_putZ C hR hhs1 fl_X6_25 dX6_makeBelow_2 (fun H locs hR => ?_)
  obtain rfl := Option.some.inj hf
  exact r_vret C hR (Nat.le_of_ble_eq_true rfl) (Nat.le_of_ble_eq_true rfl) dX6_makeBelow_5
theorem c_X6_makeBelow {K : WK} {l : Launch} {hs : AH} {v0 : Nat} {v1 : Int32} {q : AH} (hf : f_X6_makeBelow v0 v1 hs = some q) : MC K l yX6_makeBelow cX6_makeBelow 2 (Option.none : Option Jvm.ClassFile.FieldType) rm_X6_makeBelow [.ref (kA K v0), .int v1] hs none q 0 0 :=
  MC.of (by decide +kernel) (Nat.le_of_ble_eq_true rfl) (fun p e s m args below meth c C _ hR ls hl => w_X6_makeBelow_b0 C _ _ hs _ _ ls hf hR hl)
noncomputable def f_X6_settingOf (v0 : Nat) (v1 : Int32) (hs : AH) : Option (Int32) :=
  if v1 < 0 then
  (
   some 0)
  else
  (
   if 3 ≤ v1 then
   (
    some 0)
   else
   (
    (gR hs v0 6 4).bind fun x1 =>
    (aN 0 hs x1 v1).bind fun x2 =>
    some x2))
abbrev rm_X6_settingOf : Room := { frames := 0, cells := 0, slots := 0, locals := 0 }
set_option maxHeartbeats 4000000 in
set_option maxRecDepth 100000 in
theorem w_X6_settingOf_b0 {K : WK} {p : Program} {l : Launch} {e : Env} {s : State} {m : MethodId} {args : Array Value} {below : List Frame} {meth : Method} {c : Code} (C : Cx K p s m args meth c RX6 cX6_settingOf 2 (Option.some Jvm.ClassFile.FieldType.int)) {q : Int32} : ∀ (v0 : Nat) (v1 : Int32) (hs : AH) (H : Heap) (locs : List Loc) (ls : Array Slot), f_X6_settingOf v0 v1 hs = some q → Rl K s hs H locs → lv_has ls 2 [(0, .ref (kA K v0)), (1, .int v1)] → W p l e rm_X6_settingOf s m args below meth c H locs 0 0 (MQ below (MQo K (some (.int q)) hs) args s 0 0 (kAx K)) (F0 m 0 ls []) := by
  have hx := C.1
  have hb := C.2.1
  intro v0 v1 hs H locs ls hf hR hl
  rw [f_X6_settingOf.eq_1] at hf
  refine lv_iload_n hx hb dX6_settingOf_0 rfl (lv_at hl 1 rfl) ?_
  refine lv_if_lt (tgt := 18) hx hb dX6_settingOf_1 (by decide) (fun c1 => ?_) (fun c1 => ?_)
  · have hf := ip hf c1
    refine lv_iconst (v := 0) hx hb dX6_settingOf_18 (by decide) ?_
    obtain rfl := Option.some.inj hf
    exact r_iret C hR rfl (Nat.le_of_ble_eq_true rfl) (Nat.le_of_ble_eq_true rfl) dX6_settingOf_19
  · have hf := iq hf c1
    refine lv_iload_n hx hb dX6_settingOf_4 rfl (lv_at hl 1 rfl) ?_
    refine lv_iconst (v := 3) hx hb dX6_settingOf_5 (by decide) ?_
    refine lv_icmp_ge (tgt := 18) hx hb dX6_settingOf_6 (by decide) (fun c6 => ?_) (fun c6 => ?_)
    · have hf := ip hf c6
      refine lv_iconst (v := 0) hx hb dX6_settingOf_18 (by decide) ?_
      obtain rfl := Option.some.inj hf
      exact r_iret C hR rfl (Nat.le_of_ble_eq_true rfl) (Nat.le_of_ble_eq_true rfl) dX6_settingOf_19
    · have hf := iq hf c6
      refine lv_aload_n hx hb dX6_settingOf_9 rfl (lv_at hl 0 rfl) ?_
      obtain ⟨x1, hx1, hf⟩ := ob hf
      refine r_getR C hR hx1 fl_X6_29 dX6_settingOf_10 ?_
      refine lv_iload_n hx hb dX6_settingOf_13 rfl (lv_at hl 1 rfl) ?_
      obtain ⟨x2, hx2, hf⟩ := ob hf
      refine r_iald C hR hx2 dX6_settingOf_14 ?_
      refine lv_goto (tgt := 19) hx hb dX6_settingOf_15 (by decide) ?_
      obtain rfl := Option.some.inj hf
      exact r_iret C hR rfl (Nat.le_of_ble_eq_true rfl) (Nat.le_of_ble_eq_true rfl) dX6_settingOf_19
theorem c_X6_settingOf {K : WK} {l : Launch} {hs : AH} {v0 : Nat} {v1 : Int32} {q : Int32} (hf : f_X6_settingOf v0 v1 hs = some q) : MC K l yX6_settingOf cX6_settingOf 2 (Option.some Jvm.ClassFile.FieldType.int) rm_X6_settingOf [.ref (kA K v0), .int v1] hs (some (.int q)) hs 0 0 :=
  MC.of (by decide +kernel) (Nat.le_of_ble_eq_true rfl) (fun p e s m args below meth c C _ hR ls hl => w_X6_settingOf_b0 C _ _ hs _ _ ls hf hR hl)
noncomputable def f_X6_allowsSetting_b43 (v0 : Nat) (v1 : Int32) (v2 : Int32) (t0 : Int32) (hs : AH) : Option (Int32) :=
  if v1 = 1 then
  (
   if v2 < t0 then
   (
    some 0)
   else
   (
    some 1))
  else
  (
   (gR hs v0 6 4).bind fun x1 =>
   (aN 0 hs x1 1).bind fun x2 =>
   if x2 < t0 then
   (
    some 0)
   else
   (
    some 1))
noncomputable def f_X6_allowsSetting (v0 : Nat) (v1 : Int32) (v2 : Int32) (hs : AH) : Option (Int32) :=
  if v1 < 0 then
  (
   some 0)
  else
  (
   if 3 ≤ v1 then
   (
    some 0)
   else
   (
    (cT 0 v1).bind fun x1 =>
    if v2 < x1 then
    (
     some 0)
    else
    (
     (cT 1 v1).bind fun x2 =>
     if v2 ≤ x2 then
     (
      if v1 = 0 then
      (
       f_X6_allowsSetting_b43 v0 v1 v2 v2 hs)
      else
      (
       (gR hs v0 6 4).bind fun x3 =>
       (aN 0 hs x3 0).bind fun x4 =>
       f_X6_allowsSetting_b43 v0 v1 v2 x4 hs))
     else
     (
      some 0))))
abbrev rm_X6_allowsSetting : Room := { frames := 0, cells := 0, slots := 0, locals := 0 }
set_option maxHeartbeats 4000000 in
set_option maxRecDepth 100000 in
theorem w_X6_allowsSetting_b43 {K : WK} {p : Program} {l : Launch} {e : Env} {s : State} {m : MethodId} {args : Array Value} {below : List Frame} {meth : Method} {c : Code} (C : Cx K p s m args meth c RX6 cX6_allowsSetting 5 (Option.some Jvm.ClassFile.FieldType.boolean)) {q : Int32} : ∀ (v0 : Nat) (v1 : Int32) (v2 : Int32) (t0 : Int32) (hs : AH) (H : Heap) (locs : List Loc) (ls : Array Slot), f_X6_allowsSetting_b43 v0 v1 v2 t0 hs = some q → Rl K s hs H locs → lv_has ls 5 [(0, .ref (kA K v0)), (1, .int v1), (2, .int v2)] → W p l e rm_X6_allowsSetting s m args below meth c H locs 0 0 (MQ below (MQo K (some (.int q)) hs) args s 0 0 (kAx K)) (F0 m 43 ls [.int t0]) := by
  have hx := C.1
  have hb := C.2.1
  intro v0 v1 v2 t0 hs H locs ls hf hR hl
  rw [f_X6_allowsSetting_b43.eq_1] at hf
  refine lv_istore_n (lv' := [(3, .int t0), (0, .ref (kA K v0)), (1, .int v1), (2, .int v2)]) hx hb dX6_allowsSetting_43 rfl hl (by decide) rfl (fun ls hl => ?_)
  refine lv_iload_n hx hb dX6_allowsSetting_44 rfl (lv_at hl 2 rfl) ?_
  refine lv_iconst (v := 1) hx hb dX6_allowsSetting_45 (by decide) ?_
  refine lv_icmp_ne (tgt := 53) hx hb dX6_allowsSetting_46 (by decide) (fun c46 => ?_) (fun c46 => ?_)
  · have hf := iq hf c46
    refine lv_aload_n hx hb dX6_allowsSetting_53 rfl (lv_at hl 1 rfl) ?_
    obtain ⟨x1, hx1, hf⟩ := ob hf
    refine r_getR C hR hx1 fl_X6_29 dX6_allowsSetting_54 ?_
    refine lv_iconst (v := 1) hx hb dX6_allowsSetting_57 (by decide) ?_
    obtain ⟨x2, hx2, hf⟩ := ob hf
    refine r_iald C hR hx2 dX6_allowsSetting_58 ?_
    refine lv_istore (lv' := [(4, .int x2), (3, .int t0), (0, .ref (kA K v0)), (1, .int v1), (2, .int v2)]) hx hb dX6_allowsSetting_59 hl (by decide) rfl (fun ls hl => ?_)
    refine lv_iload_n hx hb dX6_allowsSetting_61 rfl (lv_at hl 1 rfl) ?_
    refine lv_iload hx hb dX6_allowsSetting_62 (lv_at hl 0 rfl) ?_
    refine lv_icmp_gt (tgt := 71) hx hb dX6_allowsSetting_64 (by decide) (fun c64 => ?_) (fun c64 => ?_)
    · have hf := ip hf c64
      refine lv_iconst (v := 0) hx hb dX6_allowsSetting_71 (by decide) ?_
      obtain rfl := Option.some.inj hf
      exact r_iret C hR rfl (Nat.le_of_ble_eq_true rfl) (Nat.le_of_ble_eq_true rfl) dX6_allowsSetting_72
    · have hf := iq hf c64
      refine lv_iconst (v := 1) hx hb dX6_allowsSetting_67 (by decide) ?_
      refine lv_goto (tgt := 72) hx hb dX6_allowsSetting_68 (by decide) ?_
      obtain rfl := Option.some.inj hf
      exact r_iret C hR rfl (Nat.le_of_ble_eq_true rfl) (Nat.le_of_ble_eq_true rfl) dX6_allowsSetting_72
  · have hf := ip hf c46
    refine lv_iload_n hx hb dX6_allowsSetting_49 rfl (lv_at hl 3 rfl) ?_
    refine lv_goto (tgt := 59) hx hb dX6_allowsSetting_50 (by decide) ?_
    refine lv_istore (lv' := [(4, .int v2), (3, .int t0), (0, .ref (kA K v0)), (1, .int v1), (2, .int v2)]) hx hb dX6_allowsSetting_59 hl (by decide) rfl (fun ls hl => ?_)
    refine lv_iload_n hx hb dX6_allowsSetting_61 rfl (lv_at hl 1 rfl) ?_
    refine lv_iload hx hb dX6_allowsSetting_62 (lv_at hl 0 rfl) ?_
    refine lv_icmp_gt (tgt := 71) hx hb dX6_allowsSetting_64 (by decide) (fun c64 => ?_) (fun c64 => ?_)
    · have hf := ip hf c64
      refine lv_iconst (v := 0) hx hb dX6_allowsSetting_71 (by decide) ?_
      obtain rfl := Option.some.inj hf
      exact r_iret C hR rfl (Nat.le_of_ble_eq_true rfl) (Nat.le_of_ble_eq_true rfl) dX6_allowsSetting_72
    · have hf := iq hf c64
      refine lv_iconst (v := 1) hx hb dX6_allowsSetting_67 (by decide) ?_
      refine lv_goto (tgt := 72) hx hb dX6_allowsSetting_68 (by decide) ?_
      obtain rfl := Option.some.inj hf
      exact r_iret C hR rfl (Nat.le_of_ble_eq_true rfl) (Nat.le_of_ble_eq_true rfl) dX6_allowsSetting_72
set_option maxHeartbeats 4000000 in
set_option maxRecDepth 100000 in
theorem w_X6_allowsSetting_b0 {K : WK} {p : Program} {l : Launch} {e : Env} {s : State} {m : MethodId} {args : Array Value} {below : List Frame} {meth : Method} {c : Code} (C : Cx K p s m args meth c RX6 cX6_allowsSetting 5 (Option.some Jvm.ClassFile.FieldType.boolean)) {q : Int32} : ∀ (v0 : Nat) (v1 : Int32) (v2 : Int32) (hs : AH) (H : Heap) (locs : List Loc) (ls : Array Slot), f_X6_allowsSetting v0 v1 v2 hs = some q → Rl K s hs H locs → lv_has ls 5 [(0, .ref (kA K v0)), (1, .int v1), (2, .int v2)] → W p l e rm_X6_allowsSetting s m args below meth c H locs 0 0 (MQ below (MQo K (some (.int q)) hs) args s 0 0 (kAx K)) (F0 m 0 ls []) := by
  have hx := C.1
  have hb := C.2.1
  intro v0 v1 v2 hs H locs ls hf hR hl
  rw [f_X6_allowsSetting.eq_1] at hf
  refine lv_iload_n hx hb dX6_allowsSetting_0 rfl (lv_at hl 1 rfl) ?_
  refine lv_if_lt (tgt := 27) hx hb dX6_allowsSetting_1 (by decide) (fun c1 => ?_) (fun c1 => ?_)
  · have hf := ip hf c1
    refine lv_iconst (v := 0) hx hb dX6_allowsSetting_27 (by decide) ?_
    obtain rfl := Option.some.inj hf
    exact r_iret C hR rfl (Nat.le_of_ble_eq_true rfl) (Nat.le_of_ble_eq_true rfl) dX6_allowsSetting_28
  · have hf := iq hf c1
    refine lv_iload_n hx hb dX6_allowsSetting_4 rfl (lv_at hl 1 rfl) ?_
    refine lv_iconst (v := 3) hx hb dX6_allowsSetting_5 (by decide) ?_
    refine lv_icmp_ge (tgt := 27) hx hb dX6_allowsSetting_6 (by decide) (fun c6 => ?_) (fun c6 => ?_)
    · have hf := ip hf c6
      refine lv_iconst (v := 0) hx hb dX6_allowsSetting_27 (by decide) ?_
      obtain rfl := Option.some.inj hf
      exact r_iret C hR rfl (Nat.le_of_ble_eq_true rfl) (Nat.le_of_ble_eq_true rfl) dX6_allowsSetting_28
    · have hf := iq hf c6
      refine lv_iload_n hx hb dX6_allowsSetting_9 rfl (lv_at hl 2 rfl) ?_
      refine r_gst0 C hR gs_X6_39 dX6_allowsSetting_10 ?_
      refine lv_iload_n hx hb dX6_allowsSetting_13 rfl (lv_at hl 1 rfl) ?_
      obtain ⟨x1, hx1, hf⟩ := ob hf
      refine r_ctld C hR hx1 dX6_allowsSetting_14 (by decide) ?_
      refine lv_icmp_lt (tgt := 27) hx hb dX6_allowsSetting_15 (by decide) (fun c15 => ?_) (fun c15 => ?_)
      · have hf := ip hf c15
        refine lv_iconst (v := 0) hx hb dX6_allowsSetting_27 (by decide) ?_
        obtain rfl := Option.some.inj hf
        exact r_iret C hR rfl (Nat.le_of_ble_eq_true rfl) (Nat.le_of_ble_eq_true rfl) dX6_allowsSetting_28
      · have hf := iq hf c15
        refine lv_iload_n hx hb dX6_allowsSetting_18 rfl (lv_at hl 2 rfl) ?_
        refine r_gst1 C hR gs_X6_42 dX6_allowsSetting_19 ?_
        refine lv_iload_n hx hb dX6_allowsSetting_22 rfl (lv_at hl 1 rfl) ?_
        obtain ⟨x2, hx2, hf⟩ := ob hf
        refine r_ctld C hR hx2 dX6_allowsSetting_23 (by decide) ?_
        refine lv_icmp_le (tgt := 29) hx hb dX6_allowsSetting_24 (by decide) (fun c24 => ?_) (fun c24 => ?_)
        · have hf := ip hf c24
          refine lv_iload_n hx hb dX6_allowsSetting_29 rfl (lv_at hl 1 rfl) ?_
          refine lv_if_ne (tgt := 37) hx hb dX6_allowsSetting_30 (by decide) (fun c30 => ?_) (fun c30 => ?_)
          · have hf := iq hf c30
            refine lv_aload_n hx hb dX6_allowsSetting_37 rfl (lv_at hl 0 rfl) ?_
            obtain ⟨x3, hx3, hf⟩ := ob hf
            refine r_getR C hR hx3 fl_X6_29 dX6_allowsSetting_38 ?_
            refine lv_iconst (v := 0) hx hb dX6_allowsSetting_41 (by decide) ?_
            obtain ⟨x4, hx4, hf⟩ := ob hf
            refine r_iald C hR hx4 dX6_allowsSetting_42 ?_
            exact w_X6_allowsSetting_b43 C  _ _ _ _ _ _ _ _ hf hR (lv_sub hl [0, 1, 2] rfl)
          · have hf := ip hf c30
            refine lv_iload_n hx hb dX6_allowsSetting_33 rfl (lv_at hl 2 rfl) ?_
            refine lv_goto (tgt := 43) hx hb dX6_allowsSetting_34 (by decide) ?_
            exact w_X6_allowsSetting_b43 C  _ _ _ _ _ _ _ _ hf hR (lv_sub hl [0, 1, 2] rfl)
        · have hf := iq hf c24
          refine lv_iconst (v := 0) hx hb dX6_allowsSetting_27 (by decide) ?_
          obtain rfl := Option.some.inj hf
          exact r_iret C hR rfl (Nat.le_of_ble_eq_true rfl) (Nat.le_of_ble_eq_true rfl) dX6_allowsSetting_28
theorem c_X6_allowsSetting {K : WK} {l : Launch} {hs : AH} {v0 : Nat} {v1 : Int32} {v2 : Int32} {q : Int32} (hf : f_X6_allowsSetting v0 v1 v2 hs = some q) : MC K l yX6_allowsSetting cX6_allowsSetting 5 (Option.some Jvm.ClassFile.FieldType.boolean) rm_X6_allowsSetting [.ref (kA K v0), .int v1, .int v2] hs (some (.int q)) hs 0 0 :=
  MC.of (by decide +kernel) (Nat.le_of_ble_eq_true rfl) (fun p e s m args below meth c C _ hR ls hl => w_X6_allowsSetting_b0 C _ _ _ hs _ _ ls hf hR hl)
noncomputable def f_X6_makeSetting (v0 : Nat) (v1 : Int32) (v2 : Int32) (hs : AH) : Option (AH) :=
  if v1 < 0 then
  (
   some hs)
  else
  (
   if 3 ≤ v1 then
   (
    some hs)
   else
   (
    (gR hs v0 6 4).bind fun x1 =>
    (sN 0 hs x1 v1 v2).bind fun hs2 =>
    some hs2))
abbrev rm_X6_makeSetting : Room := { frames := 0, cells := 0, slots := 0, locals := 0 }
set_option maxHeartbeats 4000000 in
set_option maxRecDepth 100000 in
theorem w_X6_makeSetting_b0 {K : WK} {p : Program} {l : Launch} {e : Env} {s : State} {m : MethodId} {args : Array Value} {below : List Frame} {meth : Method} {c : Code} (C : Cx K p s m args meth c RX6 cX6_makeSetting 3 (Option.none : Option Jvm.ClassFile.FieldType)) {q : AH} : ∀ (v0 : Nat) (v1 : Int32) (v2 : Int32) (hs : AH) (H : Heap) (locs : List Loc) (ls : Array Slot), f_X6_makeSetting v0 v1 v2 hs = some q → Rl K s hs H locs → lv_has ls 3 [(0, .ref (kA K v0)), (1, .int v1), (2, .int v2)] → W p l e rm_X6_makeSetting s m args below meth c H locs 0 0 (MQ below (MQo K none q) args s 0 0 (kAx K)) (F0 m 0 ls []) := by
  have hx := C.1
  have hb := C.2.1
  intro v0 v1 v2 hs H locs ls hf hR hl
  rw [f_X6_makeSetting.eq_1] at hf
  refine lv_iload_n hx hb dX6_makeSetting_0 rfl (lv_at hl 1 rfl) ?_
  refine lv_if_lt (tgt := 16) hx hb dX6_makeSetting_1 (by decide) (fun c1 => ?_) (fun c1 => ?_)
  · have hf := ip hf c1
    obtain rfl := Option.some.inj hf
    exact r_vret C hR (Nat.le_of_ble_eq_true rfl) (Nat.le_of_ble_eq_true rfl) dX6_makeSetting_16
  · have hf := iq hf c1
    refine lv_iload_n hx hb dX6_makeSetting_4 rfl (lv_at hl 1 rfl) ?_
    refine lv_iconst (v := 3) hx hb dX6_makeSetting_5 (by decide) ?_
    refine lv_icmp_ge (tgt := 16) hx hb dX6_makeSetting_6 (by decide) (fun c6 => ?_) (fun c6 => ?_)
    · have hf := ip hf c6
      obtain rfl := Option.some.inj hf
      exact r_vret C hR (Nat.le_of_ble_eq_true rfl) (Nat.le_of_ble_eq_true rfl) dX6_makeSetting_16
    · have hf := iq hf c6
      refine lv_aload_n hx hb dX6_makeSetting_9 rfl (lv_at hl 0 rfl) ?_
      obtain ⟨x1, hx1, hf⟩ := ob hf
      refine r_getR C hR hx1 fl_X6_29 dX6_makeSetting_10 ?_
      refine lv_iload_n hx hb dX6_makeSetting_13 rfl (lv_at hl 1 rfl) ?_
      refine lv_iload_n hx hb dX6_makeSetting_14 rfl (lv_at hl 2 rfl) ?_
      obtain ⟨hs2, hhs2, hf⟩ := ob hf
      refine r_iast C hR hhs2 dX6_makeSetting_15 (fun H locs hR => ?_)
      obtain rfl := Option.some.inj hf
      exact r_vret C hR (Nat.le_of_ble_eq_true rfl) (Nat.le_of_ble_eq_true rfl) dX6_makeSetting_16
theorem c_X6_makeSetting {K : WK} {l : Launch} {hs : AH} {v0 : Nat} {v1 : Int32} {v2 : Int32} {q : AH} (hf : f_X6_makeSetting v0 v1 v2 hs = some q) : MC K l yX6_makeSetting cX6_makeSetting 3 (Option.none : Option Jvm.ClassFile.FieldType) rm_X6_makeSetting [.ref (kA K v0), .int v1, .int v2] hs none q 0 0 :=
  MC.of (by decide +kernel) (Nat.le_of_ble_eq_true rfl) (fun p e s m args below meth c C _ hR ls hl => w_X6_makeSetting_b0 C _ _ _ hs _ _ ls hf hR hl)
noncomputable def f_X6_allowsPitch (v0 : Nat) (v1 : Int32) (hs : AH) : Option (Int32) :=
  (gR hs v0 6 4).bind fun x1 =>
  (aN 0 hs x1 0).bind fun x2 =>
  if v1 < x2 then
  (
   some 0)
  else
  (
   (gR hs v0 6 4).bind fun x3 =>
   (aN 0 hs x3 1).bind fun x4 =>
   if x4 < v1 then
   (
    some 0)
   else
   (
    some 1))
abbrev rm_X6_allowsPitch : Room := { frames := 0, cells := 0, slots := 0, locals := 0 }
set_option maxHeartbeats 4000000 in
set_option maxRecDepth 100000 in
theorem w_X6_allowsPitch_b0 {K : WK} {p : Program} {l : Launch} {e : Env} {s : State} {m : MethodId} {args : Array Value} {below : List Frame} {meth : Method} {c : Code} (C : Cx K p s m args meth c RX6 cX6_allowsPitch 2 (Option.some Jvm.ClassFile.FieldType.boolean)) {q : Int32} : ∀ (v0 : Nat) (v1 : Int32) (hs : AH) (H : Heap) (locs : List Loc) (ls : Array Slot), f_X6_allowsPitch v0 v1 hs = some q → Rl K s hs H locs → lv_has ls 2 [(0, .ref (kA K v0)), (1, .int v1)] → W p l e rm_X6_allowsPitch s m args below meth c H locs 0 0 (MQ below (MQo K (some (.int q)) hs) args s 0 0 (kAx K)) (F0 m 0 ls []) := by
  have hx := C.1
  have hb := C.2.1
  intro v0 v1 hs H locs ls hf hR hl
  rw [f_X6_allowsPitch.eq_1] at hf
  refine lv_iload_n hx hb dX6_allowsPitch_0 rfl (lv_at hl 1 rfl) ?_
  refine lv_aload_n hx hb dX6_allowsPitch_1 rfl (lv_at hl 0 rfl) ?_
  obtain ⟨x1, hx1, hf⟩ := ob hf
  refine r_getR C hR hx1 fl_X6_29 dX6_allowsPitch_2 ?_
  refine lv_iconst (v := 0) hx hb dX6_allowsPitch_5 (by decide) ?_
  obtain ⟨x2, hx2, hf⟩ := ob hf
  refine r_iald C hR hx2 dX6_allowsPitch_6 ?_
  refine lv_icmp_lt (tgt := 24) hx hb dX6_allowsPitch_7 (by decide) (fun c7 => ?_) (fun c7 => ?_)
  · have hf := ip hf c7
    refine lv_iconst (v := 0) hx hb dX6_allowsPitch_24 (by decide) ?_
    obtain rfl := Option.some.inj hf
    exact r_iret C hR rfl (Nat.le_of_ble_eq_true rfl) (Nat.le_of_ble_eq_true rfl) dX6_allowsPitch_25
  · have hf := iq hf c7
    refine lv_iload_n hx hb dX6_allowsPitch_10 rfl (lv_at hl 1 rfl) ?_
    refine lv_aload_n hx hb dX6_allowsPitch_11 rfl (lv_at hl 0 rfl) ?_
    obtain ⟨x3, hx3, hf⟩ := ob hf
    refine r_getR C hR hx3 fl_X6_29 dX6_allowsPitch_12 ?_
    refine lv_iconst (v := 1) hx hb dX6_allowsPitch_15 (by decide) ?_
    obtain ⟨x4, hx4, hf⟩ := ob hf
    refine r_iald C hR hx4 dX6_allowsPitch_16 ?_
    refine lv_icmp_gt (tgt := 24) hx hb dX6_allowsPitch_17 (by decide) (fun c17 => ?_) (fun c17 => ?_)
    · have hf := ip hf c17
      refine lv_iconst (v := 0) hx hb dX6_allowsPitch_24 (by decide) ?_
      obtain rfl := Option.some.inj hf
      exact r_iret C hR rfl (Nat.le_of_ble_eq_true rfl) (Nat.le_of_ble_eq_true rfl) dX6_allowsPitch_25
    · have hf := iq hf c17
      refine lv_iconst (v := 1) hx hb dX6_allowsPitch_20 (by decide) ?_
      refine lv_goto (tgt := 25) hx hb dX6_allowsPitch_21 (by decide) ?_
      obtain rfl := Option.some.inj hf
      exact r_iret C hR rfl (Nat.le_of_ble_eq_true rfl) (Nat.le_of_ble_eq_true rfl) dX6_allowsPitch_25
theorem c_X6_allowsPitch {K : WK} {l : Launch} {hs : AH} {v0 : Nat} {v1 : Int32} {q : Int32} (hf : f_X6_allowsPitch v0 v1 hs = some q) : MC K l yX6_allowsPitch cX6_allowsPitch 2 (Option.some Jvm.ClassFile.FieldType.boolean) rm_X6_allowsPitch [.ref (kA K v0), .int v1] hs (some (.int q)) hs 0 0 :=
  MC.of (by decide +kernel) (Nat.le_of_ble_eq_true rfl) (fun p e s m args below meth c C _ hR ls hl => w_X6_allowsPitch_b0 C _ _ hs _ _ ls hf hR hl)
noncomputable def f_X6_weightOf (v0 : Nat) (v1 : Int32) (hs : AH) : Option (Int32) :=
  if v1 < 1 then
  (
   some 0)
  else
  (
   if 16 < v1 then
   (
    some 0)
   else
   (
    (gR hs v0 6 5).bind fun x1 =>
    (aN 0 hs x1 v1).bind fun x2 =>
    some x2))
abbrev rm_X6_weightOf : Room := { frames := 0, cells := 0, slots := 0, locals := 0 }
set_option maxHeartbeats 4000000 in
set_option maxRecDepth 100000 in
theorem w_X6_weightOf_b0 {K : WK} {p : Program} {l : Launch} {e : Env} {s : State} {m : MethodId} {args : Array Value} {below : List Frame} {meth : Method} {c : Code} (C : Cx K p s m args meth c RX6 cX6_weightOf 2 (Option.some Jvm.ClassFile.FieldType.int)) {q : Int32} : ∀ (v0 : Nat) (v1 : Int32) (hs : AH) (H : Heap) (locs : List Loc) (ls : Array Slot), f_X6_weightOf v0 v1 hs = some q → Rl K s hs H locs → lv_has ls 2 [(0, .ref (kA K v0)), (1, .int v1)] → W p l e rm_X6_weightOf s m args below meth c H locs 0 0 (MQ below (MQo K (some (.int q)) hs) args s 0 0 (kAx K)) (F0 m 0 ls []) := by
  have hx := C.1
  have hb := C.2.1
  intro v0 v1 hs H locs ls hf hR hl
  rw [f_X6_weightOf.eq_1] at hf
  refine lv_iload_n hx hb dX6_weightOf_0 rfl (lv_at hl 1 rfl) ?_
  refine lv_iconst (v := 1) hx hb dX6_weightOf_1 (by decide) ?_
  refine lv_icmp_lt (tgt := 20) hx hb dX6_weightOf_2 (by decide) (fun c2 => ?_) (fun c2 => ?_)
  · have hf := ip hf c2
    refine lv_iconst (v := 0) hx hb dX6_weightOf_20 (by decide) ?_
    obtain rfl := Option.some.inj hf
    exact r_iret C hR rfl (Nat.le_of_ble_eq_true rfl) (Nat.le_of_ble_eq_true rfl) dX6_weightOf_21
  · have hf := iq hf c2
    refine lv_iload_n hx hb dX6_weightOf_5 rfl (lv_at hl 1 rfl) ?_
    refine lv_bipush (v := 16) hx hb dX6_weightOf_6 (by decide) ?_
    refine lv_icmp_gt (tgt := 20) hx hb dX6_weightOf_8 (by decide) (fun c8 => ?_) (fun c8 => ?_)
    · have hf := ip hf c8
      refine lv_iconst (v := 0) hx hb dX6_weightOf_20 (by decide) ?_
      obtain rfl := Option.some.inj hf
      exact r_iret C hR rfl (Nat.le_of_ble_eq_true rfl) (Nat.le_of_ble_eq_true rfl) dX6_weightOf_21
    · have hf := iq hf c8
      refine lv_aload_n hx hb dX6_weightOf_11 rfl (lv_at hl 0 rfl) ?_
      obtain ⟨x1, hx1, hf⟩ := ob hf
      refine r_getR C hR hx1 fl_X6_33 dX6_weightOf_12 ?_
      refine lv_iload_n hx hb dX6_weightOf_15 rfl (lv_at hl 1 rfl) ?_
      obtain ⟨x2, hx2, hf⟩ := ob hf
      refine r_iald C hR hx2 dX6_weightOf_16 ?_
      refine lv_goto (tgt := 21) hx hb dX6_weightOf_17 (by decide) ?_
      obtain rfl := Option.some.inj hf
      exact r_iret C hR rfl (Nat.le_of_ble_eq_true rfl) (Nat.le_of_ble_eq_true rfl) dX6_weightOf_21
theorem c_X6_weightOf {K : WK} {l : Launch} {hs : AH} {v0 : Nat} {v1 : Int32} {q : Int32} (hf : f_X6_weightOf v0 v1 hs = some q) : MC K l yX6_weightOf cX6_weightOf 2 (Option.some Jvm.ClassFile.FieldType.int) rm_X6_weightOf [.ref (kA K v0), .int v1] hs (some (.int q)) hs 0 0 :=
  MC.of (by decide +kernel) (Nat.le_of_ble_eq_true rfl) (fun p e s m args below meth c C _ hR ls hl => w_X6_weightOf_b0 C _ _ hs _ _ ls hf hR hl)
noncomputable def f_X6_makeWeight (v0 : Nat) (v1 : Int32) (v2 : Int32) (hs : AH) : Option (AH) :=
  if v1 < 1 then
  (
   some hs)
  else
  (
   if 16 < v1 then
   (
    some hs)
   else
   (
    (gR hs v0 6 5).bind fun x1 =>
    (sN 0 hs x1 v1 v2).bind fun hs2 =>
    some hs2))
abbrev rm_X6_makeWeight : Room := { frames := 0, cells := 0, slots := 0, locals := 0 }
set_option maxHeartbeats 4000000 in
set_option maxRecDepth 100000 in
theorem w_X6_makeWeight_b0 {K : WK} {p : Program} {l : Launch} {e : Env} {s : State} {m : MethodId} {args : Array Value} {below : List Frame} {meth : Method} {c : Code} (C : Cx K p s m args meth c RX6 cX6_makeWeight 3 (Option.none : Option Jvm.ClassFile.FieldType)) {q : AH} : ∀ (v0 : Nat) (v1 : Int32) (v2 : Int32) (hs : AH) (H : Heap) (locs : List Loc) (ls : Array Slot), f_X6_makeWeight v0 v1 v2 hs = some q → Rl K s hs H locs → lv_has ls 3 [(0, .ref (kA K v0)), (1, .int v1), (2, .int v2)] → W p l e rm_X6_makeWeight s m args below meth c H locs 0 0 (MQ below (MQo K none q) args s 0 0 (kAx K)) (F0 m 0 ls []) := by
  have hx := C.1
  have hb := C.2.1
  intro v0 v1 v2 hs H locs ls hf hR hl
  rw [f_X6_makeWeight.eq_1] at hf
  refine lv_iload_n hx hb dX6_makeWeight_0 rfl (lv_at hl 1 rfl) ?_
  refine lv_iconst (v := 1) hx hb dX6_makeWeight_1 (by decide) ?_
  refine lv_icmp_lt (tgt := 18) hx hb dX6_makeWeight_2 (by decide) (fun c2 => ?_) (fun c2 => ?_)
  · have hf := ip hf c2
    obtain rfl := Option.some.inj hf
    exact r_vret C hR (Nat.le_of_ble_eq_true rfl) (Nat.le_of_ble_eq_true rfl) dX6_makeWeight_18
  · have hf := iq hf c2
    refine lv_iload_n hx hb dX6_makeWeight_5 rfl (lv_at hl 1 rfl) ?_
    refine lv_bipush (v := 16) hx hb dX6_makeWeight_6 (by decide) ?_
    refine lv_icmp_gt (tgt := 18) hx hb dX6_makeWeight_8 (by decide) (fun c8 => ?_) (fun c8 => ?_)
    · have hf := ip hf c8
      obtain rfl := Option.some.inj hf
      exact r_vret C hR (Nat.le_of_ble_eq_true rfl) (Nat.le_of_ble_eq_true rfl) dX6_makeWeight_18
    · have hf := iq hf c8
      refine lv_aload_n hx hb dX6_makeWeight_11 rfl (lv_at hl 0 rfl) ?_
      obtain ⟨x1, hx1, hf⟩ := ob hf
      refine r_getR C hR hx1 fl_X6_33 dX6_makeWeight_12 ?_
      refine lv_iload_n hx hb dX6_makeWeight_15 rfl (lv_at hl 1 rfl) ?_
      refine lv_iload_n hx hb dX6_makeWeight_16 rfl (lv_at hl 2 rfl) ?_
      obtain ⟨hs2, hhs2, hf⟩ := ob hf
      refine r_iast C hR hhs2 dX6_makeWeight_17 (fun H locs hR => ?_)
      obtain rfl := Option.some.inj hf
      exact r_vret C hR (Nat.le_of_ble_eq_true rfl) (Nat.le_of_ble_eq_true rfl) dX6_makeWeight_18
theorem c_X6_makeWeight {K : WK} {l : Launch} {hs : AH} {v0 : Nat} {v1 : Int32} {v2 : Int32} {q : AH} (hf : f_X6_makeWeight v0 v1 v2 hs = some q) : MC K l yX6_makeWeight cX6_makeWeight 3 (Option.none : Option Jvm.ClassFile.FieldType) rm_X6_makeWeight [.ref (kA K v0), .int v1, .int v2] hs none q 0 0 :=
  MC.of (by decide +kernel) (Nat.le_of_ble_eq_true rfl) (fun p e s m args below meth c C _ hR ls hl => w_X6_makeWeight_b0 C _ _ _ hs _ _ ls hf hR hl)
noncomputable def f_X6_sumOfWeights_b4 : Nat → Nat → Int32 → Int32 → AH → Option (Int32)
  | 0, _, _, _, _ => none
  | n + 1, v0, v1, v2, hs =>
  if 16 < v2 then
  (
   some v1)
  else
  (
   (gR hs v0 6 5).bind fun x1 =>
   (aN 0 hs x1 v2).bind fun x2 =>
   f_X6_sumOfWeights_b4 n v0 (v1 + x2) (v2 + 1) hs)
noncomputable def f_X6_sumOfWeights (v0 : Nat) (hs : AH) : Option (Int32) :=
  f_X6_sumOfWeights_b4 FUEL v0 0 1 hs
abbrev rm_X6_sumOfWeights : Room := { frames := 0, cells := 0, slots := 0, locals := 0 }
set_option maxHeartbeats 4000000 in
set_option maxRecDepth 100000 in
theorem w_X6_sumOfWeights_b4 {K : WK} {p : Program} {l : Launch} {e : Env} {s : State} {m : MethodId} {args : Array Value} {below : List Frame} {meth : Method} {c : Code} (C : Cx K p s m args meth c RX6 cX6_sumOfWeights 3 (Option.some Jvm.ClassFile.FieldType.int)) {q : Int32} : ∀ (n : Nat) (v0 : Nat) (v1 : Int32) (v2 : Int32) (hs : AH) (H : Heap) (locs : List Loc) (ls : Array Slot), f_X6_sumOfWeights_b4 n v0 v1 v2 hs = some q → Rl K s hs H locs → lv_has ls 3 [(0, .ref (kA K v0)), (1, .int v1), (2, .int v2)] → W p l e rm_X6_sumOfWeights s m args below meth c H locs 0 0 (MQ below (MQo K (some (.int q)) hs) args s 0 0 (kAx K)) (F0 m 4 ls []) := by
  have hx := C.1
  have hb := C.2.1
  intro n
  induction n with
  | zero =>
    intro v0 v1 v2 hs H locs ls hf
    cases hf
  | succ n ih =>
    intro v0 v1 v2 hs H locs ls hf hR hl
    rw [f_X6_sumOfWeights_b4.eq_2] at hf
    refine lv_iload_n hx hb dX6_sumOfWeights_4 rfl (lv_at hl 2 rfl) ?_
    refine lv_bipush (v := 16) hx hb dX6_sumOfWeights_5 (by decide) ?_
    refine lv_icmp_gt (tgt := 25) hx hb dX6_sumOfWeights_7 (by decide) (fun c7 => ?_) (fun c7 => ?_)
    · have hf := ip hf c7
      refine lv_iload_n hx hb dX6_sumOfWeights_25 rfl (lv_at hl 1 rfl) ?_
      obtain rfl := Option.some.inj hf
      exact r_iret C hR rfl (Nat.le_of_ble_eq_true rfl) (Nat.le_of_ble_eq_true rfl) dX6_sumOfWeights_26
    · have hf := iq hf c7
      refine lv_iload_n hx hb dX6_sumOfWeights_10 rfl (lv_at hl 1 rfl) ?_
      refine lv_aload_n hx hb dX6_sumOfWeights_11 rfl (lv_at hl 0 rfl) ?_
      obtain ⟨x1, hx1, hf⟩ := ob hf
      refine r_getR C hR hx1 fl_X6_33 dX6_sumOfWeights_12 ?_
      refine lv_iload_n hx hb dX6_sumOfWeights_15 rfl (lv_at hl 2 rfl) ?_
      obtain ⟨x2, hx2, hf⟩ := ob hf
      refine r_iald C hR hx2 dX6_sumOfWeights_16 ?_
      refine lv_iadd hx hb dX6_sumOfWeights_17 ?_
      refine lv_istore_n (lv' := [(1, .int (v1 + x2)), (0, .ref (kA K v0)), (2, .int v2)]) hx hb dX6_sumOfWeights_18 rfl hl (by decide) rfl (fun ls hl => ?_)
      refine lv_iinc (v := v2 + 1) (lv' := [(2, .int (v2 + 1)), (1, .int (v1 + x2)), (0, .ref (kA K v0))]) hx hb dX6_sumOfWeights_19 hl (k := 2) rfl rfl (by decide) rfl (fun ls hl => ?_)
      refine lv_goto (tgt := 4) hx hb dX6_sumOfWeights_22 (by decide) ?_
      exact ih _ _ _ _ _ _ _ hf hR (lv_sub hl [2, 1, 0] rfl)
set_option maxHeartbeats 4000000 in
set_option maxRecDepth 100000 in
theorem w_X6_sumOfWeights_b0 {K : WK} {p : Program} {l : Launch} {e : Env} {s : State} {m : MethodId} {args : Array Value} {below : List Frame} {meth : Method} {c : Code} (C : Cx K p s m args meth c RX6 cX6_sumOfWeights 3 (Option.some Jvm.ClassFile.FieldType.int)) {q : Int32} : ∀ (v0 : Nat) (hs : AH) (H : Heap) (locs : List Loc) (ls : Array Slot), f_X6_sumOfWeights v0 hs = some q → Rl K s hs H locs → lv_has ls 3 [(0, .ref (kA K v0))] → W p l e rm_X6_sumOfWeights s m args below meth c H locs 0 0 (MQ below (MQo K (some (.int q)) hs) args s 0 0 (kAx K)) (F0 m 0 ls []) := by
  have hx := C.1
  have hb := C.2.1
  intro v0 hs H locs ls hf hR hl
  rw [f_X6_sumOfWeights.eq_1] at hf
  refine lv_iconst (v := 0) hx hb dX6_sumOfWeights_0 (by decide) ?_
  refine lv_istore_n (lv' := [(1, .int 0), (0, .ref (kA K v0))]) hx hb dX6_sumOfWeights_1 rfl hl (by decide) rfl (fun ls hl => ?_)
  refine lv_iconst (v := 1) hx hb dX6_sumOfWeights_2 (by decide) ?_
  refine lv_istore_n (lv' := [(2, .int 1), (1, .int 0), (0, .ref (kA K v0))]) hx hb dX6_sumOfWeights_3 rfl hl (by decide) rfl (fun ls hl => ?_)
  exact w_X6_sumOfWeights_b4 C  _ _ _ _ _ _ _ _ hf hR (lv_sub hl [2, 1, 0] rfl)
theorem c_X6_sumOfWeights {K : WK} {l : Launch} {hs : AH} {v0 : Nat} {q : Int32} (hf : f_X6_sumOfWeights v0 hs = some q) : MC K l yX6_sumOfWeights cX6_sumOfWeights 3 (Option.some Jvm.ClassFile.FieldType.int) rm_X6_sumOfWeights [.ref (kA K v0)] hs (some (.int q)) hs 0 0 :=
  MC.of (by decide +kernel) (Nat.le_of_ble_eq_true rfl) (fun p e s m args below meth c C _ hR ls hl => w_X6_sumOfWeights_b0 C _ hs _ _ ls hf hR hl)
noncomputable def f_X6_beatBits (v0 : Nat) (hs : AH) : Option (Int32) :=
  (gI hs v0 6 2).bind fun x1 =>
  if x1 = 1 then
  (
   some 0)
  else
  (
   (gI hs v0 6 2).bind fun x2 =>
   if x2 = 3 then
   (
    some 2)
   else
   (
    some 1))
abbrev rm_X6_beatBits : Room := { frames := 0, cells := 0, slots := 0, locals := 0 }
set_option maxHeartbeats 4000000 in
set_option maxRecDepth 100000 in
theorem w_X6_beatBits_b0 {K : WK} {p : Program} {l : Launch} {e : Env} {s : State} {m : MethodId} {args : Array Value} {below : List Frame} {meth : Method} {c : Code} (C : Cx K p s m args meth c RX6 cX6_beatBits 1 (Option.some Jvm.ClassFile.FieldType.int)) {q : Int32} : ∀ (v0 : Nat) (hs : AH) (H : Heap) (locs : List Loc) (ls : Array Slot), f_X6_beatBits v0 hs = some q → Rl K s hs H locs → lv_has ls 1 [(0, .ref (kA K v0))] → W p l e rm_X6_beatBits s m args below meth c H locs 0 0 (MQ below (MQo K (some (.int q)) hs) args s 0 0 (kAx K)) (F0 m 0 ls []) := by
  have hx := C.1
  have hb := C.2.1
  intro v0 hs H locs ls hf hR hl
  rw [f_X6_beatBits.eq_1] at hf
  refine lv_aload_n hx hb dX6_beatBits_0 rfl (lv_at hl 0 rfl) ?_
  obtain ⟨x1, hx1, hf⟩ := ob hf
  refine r_getI C hR hx1 fl_X6_21 dX6_beatBits_1 ?_
  refine lv_iconst (v := 1) hx hb dX6_beatBits_4 (by decide) ?_
  refine lv_icmp_ne (tgt := 12) hx hb dX6_beatBits_5 (by decide) (fun c5 => ?_) (fun c5 => ?_)
  · have hf := iq hf c5
    refine lv_aload_n hx hb dX6_beatBits_12 rfl (lv_at hl 0 rfl) ?_
    obtain ⟨x2, hx2, hf⟩ := ob hf
    refine r_getI C hR hx2 fl_X6_21 dX6_beatBits_13 ?_
    refine lv_iconst (v := 3) hx hb dX6_beatBits_16 (by decide) ?_
    refine lv_icmp_ne (tgt := 24) hx hb dX6_beatBits_17 (by decide) (fun c17 => ?_) (fun c17 => ?_)
    · have hf := iq hf c17
      refine lv_iconst (v := 1) hx hb dX6_beatBits_24 (by decide) ?_
      obtain rfl := Option.some.inj hf
      exact r_iret C hR rfl (Nat.le_of_ble_eq_true rfl) (Nat.le_of_ble_eq_true rfl) dX6_beatBits_25
    · have hf := ip hf c17
      refine lv_iconst (v := 2) hx hb dX6_beatBits_20 (by decide) ?_
      refine lv_goto (tgt := 25) hx hb dX6_beatBits_21 (by decide) ?_
      obtain rfl := Option.some.inj hf
      exact r_iret C hR rfl (Nat.le_of_ble_eq_true rfl) (Nat.le_of_ble_eq_true rfl) dX6_beatBits_25
  · have hf := ip hf c5
    refine lv_iconst (v := 0) hx hb dX6_beatBits_8 (by decide) ?_
    refine lv_goto (tgt := 25) hx hb dX6_beatBits_9 (by decide) ?_
    obtain rfl := Option.some.inj hf
    exact r_iret C hR rfl (Nat.le_of_ble_eq_true rfl) (Nat.le_of_ble_eq_true rfl) dX6_beatBits_25
theorem c_X6_beatBits {K : WK} {l : Launch} {hs : AH} {v0 : Nat} {q : Int32} (hf : f_X6_beatBits v0 hs = some q) : MC K l yX6_beatBits cX6_beatBits 1 (Option.some Jvm.ClassFile.FieldType.int) rm_X6_beatBits [.ref (kA K v0)] hs (some (.int q)) hs 0 0 :=
  MC.of (by decide +kernel) (Nat.le_of_ble_eq_true rfl) (fun p e s m args below meth c C _ hR ls hl => w_X6_beatBits_b0 C _ hs _ _ ls hf hR hl)
noncomputable def f_X6_barOf (v0 : Nat) (v1 : Int32) (hs : AH) : Option (Int32) :=
  (chk hs v0 6).bind fun u1 =>
  (f_X6_beatBits v0 hs).bind fun x2 =>
  some (v1 >>> (x2 &&& 31))
abbrev rm_X6_barOf : Room := { frames := 1, cells := 0, slots := 0, locals := 20 }
set_option maxHeartbeats 4000000 in
set_option maxRecDepth 100000 in
theorem w_X6_barOf_b0 {K : WK} {p : Program} {l : Launch} {e : Env} {s : State} {m : MethodId} {args : Array Value} {below : List Frame} {meth : Method} {c : Code} (C : Cx K p s m args meth c RX6 cX6_barOf 2 (Option.some Jvm.ClassFile.FieldType.int)) {q : Int32} : ∀ (v0 : Nat) (v1 : Int32) (hs : AH) (H : Heap) (locs : List Loc) (ls : Array Slot), f_X6_barOf v0 v1 hs = some q → Rl K s hs H locs → lv_has ls 2 [(0, .ref (kA K v0)), (1, .int v1)] → W p l e rm_X6_barOf s m args below meth c H locs 0 0 (MQ below (MQo K (some (.int q)) hs) args s 0 0 (kAx K)) (F0 m 0 ls []) := by
  have hx := C.1
  have hb := C.2.1
  intro v0 v1 hs H locs ls hf hR hl
  rw [f_X6_barOf.eq_1] at hf
  refine lv_iload_n hx hb dX6_barOf_0 rfl (lv_at hl 1 rfl) ?_
  refine lv_aload_n hx hb dX6_barOf_1 rfl (lv_at hl 0 rfl) ?_
  obtain ⟨u1, hu1, hf⟩ := ob hf
  obtain ⟨x2, hx2, hf⟩ := ob hf
  refine r_callV (As := []) (rest := [.int v1]) (st1 := [.int x2, .int v1]) C hR (lv_sub hl [] rfl) (c_X6_beatBits hx2) mv_X6_beatBits ml_X6_45 ⟨rfl, rfl, (Nat.le_of_ble_eq_true rfl), (Nat.le_of_ble_eq_true rfl)⟩ (rv_obj C hR hu1 (q := (RX6, TX6, 6)) rfl) rfl rfl rfl (Nat.le_of_ble_eq_true rfl) ⟨(Nat.le_of_ble_eq_true rfl), (Nat.le_of_ble_eq_true rfl)⟩ dX6_barOf_2 (fun H locs hR => ?_)
  refine lv_ishr hx hb dX6_barOf_5 ?_
  obtain rfl := Option.some.inj hf
  exact r_iret C hR rfl (Nat.le_of_ble_eq_true rfl) (Nat.le_of_ble_eq_true rfl) dX6_barOf_6
theorem c_X6_barOf {K : WK} {l : Launch} {hs : AH} {v0 : Nat} {v1 : Int32} {q : Int32} (hf : f_X6_barOf v0 v1 hs = some q) : MC K l yX6_barOf cX6_barOf 2 (Option.some Jvm.ClassFile.FieldType.int) rm_X6_barOf [.ref (kA K v0), .int v1] hs (some (.int q)) hs 0 0 :=
  MC.of (by decide +kernel) (Nat.le_of_ble_eq_true rfl) (fun p e s m args below meth c C _ hR ls hl => w_X6_barOf_b0 C _ _ hs _ _ ls hf hR hl)
noncomputable def f_X6_beatOf (v0 : Nat) (v1 : Int32) (hs : AH) : Option (Int32) :=
  (chk hs v0 6).bind fun u1 =>
  (f_X6_beatBits v0 hs).bind fun x2 =>
  some (v1 &&& ((1 <<< (x2 &&& 31)) - 1))
abbrev rm_X6_beatOf : Room := { frames := 1, cells := 0, slots := 0, locals := 20 }
set_option maxHeartbeats 4000000 in
set_option maxRecDepth 100000 in
theorem w_X6_beatOf_b0 {K : WK} {p : Program} {l : Launch} {e : Env} {s : State} {m : MethodId} {args : Array Value} {below : List Frame} {meth : Method} {c : Code} (C : Cx K p s m args meth c RX6 cX6_beatOf 2 (Option.some Jvm.ClassFile.FieldType.int)) {q : Int32} : ∀ (v0 : Nat) (v1 : Int32) (hs : AH) (H : Heap) (locs : List Loc) (ls : Array Slot), f_X6_beatOf v0 v1 hs = some q → Rl K s hs H locs → lv_has ls 2 [(0, .ref (kA K v0)), (1, .int v1)] → W p l e rm_X6_beatOf s m args below meth c H locs 0 0 (MQ below (MQo K (some (.int q)) hs) args s 0 0 (kAx K)) (F0 m 0 ls []) := by
  have hx := C.1
  have hb := C.2.1
  intro v0 v1 hs H locs ls hf hR hl
  rw [f_X6_beatOf.eq_1] at hf
  refine lv_iload_n hx hb dX6_beatOf_0 rfl (lv_at hl 1 rfl) ?_
  refine lv_iconst (v := 1) hx hb dX6_beatOf_1 (by decide) ?_
  refine lv_aload_n hx hb dX6_beatOf_2 rfl (lv_at hl 0 rfl) ?_
  obtain ⟨u1, hu1, hf⟩ := ob hf
  obtain ⟨x2, hx2, hf⟩ := ob hf
  refine r_callV (As := []) (rest := [.int 1, .int v1]) (st1 := [.int x2, .int 1, .int v1]) C hR (lv_sub hl [] rfl) (c_X6_beatBits hx2) mv_X6_beatBits ml_X6_45 ⟨rfl, rfl, (Nat.le_of_ble_eq_true rfl), (Nat.le_of_ble_eq_true rfl)⟩ (rv_obj C hR hu1 (q := (RX6, TX6, 6)) rfl) rfl rfl rfl (Nat.le_of_ble_eq_true rfl) ⟨(Nat.le_of_ble_eq_true rfl), (Nat.le_of_ble_eq_true rfl)⟩ dX6_beatOf_3 (fun H locs hR => ?_)
  refine lv_ishl hx hb dX6_beatOf_6 ?_
  refine lv_iconst (v := 1) hx hb dX6_beatOf_7 (by decide) ?_
  refine lv_isub hx hb dX6_beatOf_8 ?_
  refine lv_iand hx hb dX6_beatOf_9 ?_
  obtain rfl := Option.some.inj hf
  exact r_iret C hR rfl (Nat.le_of_ble_eq_true rfl) (Nat.le_of_ble_eq_true rfl) dX6_beatOf_10
theorem c_X6_beatOf {K : WK} {l : Launch} {hs : AH} {v0 : Nat} {v1 : Int32} {q : Int32} (hf : f_X6_beatOf v0 v1 hs = some q) : MC K l yX6_beatOf cX6_beatOf 2 (Option.some Jvm.ClassFile.FieldType.int) rm_X6_beatOf [.ref (kA K v0), .int v1] hs (some (.int q)) hs 0 0 :=
  MC.of (by decide +kernel) (Nat.le_of_ble_eq_true rfl) (fun p e s m args below meth c C _ hR ls hl => w_X6_beatOf_b0 C _ _ hs _ _ ls hf hR hl)
noncomputable def f_X6_firstPlaceIn (v0 : Nat) (v1 : Int32) (hs : AH) : Option (Int32) :=
  (chk hs v0 6).bind fun u1 =>
  (f_X6_beatBits v0 hs).bind fun x2 =>
  some (v1 <<< (x2 &&& 31))
abbrev rm_X6_firstPlaceIn : Room := { frames := 1, cells := 0, slots := 0, locals := 20 }
set_option maxHeartbeats 4000000 in
set_option maxRecDepth 100000 in
theorem w_X6_firstPlaceIn_b0 {K : WK} {p : Program} {l : Launch} {e : Env} {s : State} {m : MethodId} {args : Array Value} {below : List Frame} {meth : Method} {c : Code} (C : Cx K p s m args meth c RX6 cX6_firstPlaceIn 2 (Option.some Jvm.ClassFile.FieldType.int)) {q : Int32} : ∀ (v0 : Nat) (v1 : Int32) (hs : AH) (H : Heap) (locs : List Loc) (ls : Array Slot), f_X6_firstPlaceIn v0 v1 hs = some q → Rl K s hs H locs → lv_has ls 2 [(0, .ref (kA K v0)), (1, .int v1)] → W p l e rm_X6_firstPlaceIn s m args below meth c H locs 0 0 (MQ below (MQo K (some (.int q)) hs) args s 0 0 (kAx K)) (F0 m 0 ls []) := by
  have hx := C.1
  have hb := C.2.1
  intro v0 v1 hs H locs ls hf hR hl
  rw [f_X6_firstPlaceIn.eq_1] at hf
  refine lv_iload_n hx hb dX6_firstPlaceIn_0 rfl (lv_at hl 1 rfl) ?_
  refine lv_aload_n hx hb dX6_firstPlaceIn_1 rfl (lv_at hl 0 rfl) ?_
  obtain ⟨u1, hu1, hf⟩ := ob hf
  obtain ⟨x2, hx2, hf⟩ := ob hf
  refine r_callV (As := []) (rest := [.int v1]) (st1 := [.int x2, .int v1]) C hR (lv_sub hl [] rfl) (c_X6_beatBits hx2) mv_X6_beatBits ml_X6_45 ⟨rfl, rfl, (Nat.le_of_ble_eq_true rfl), (Nat.le_of_ble_eq_true rfl)⟩ (rv_obj C hR hu1 (q := (RX6, TX6, 6)) rfl) rfl rfl rfl (Nat.le_of_ble_eq_true rfl) ⟨(Nat.le_of_ble_eq_true rfl), (Nat.le_of_ble_eq_true rfl)⟩ dX6_firstPlaceIn_2 (fun H locs hR => ?_)
  refine lv_ishl hx hb dX6_firstPlaceIn_5 ?_
  obtain rfl := Option.some.inj hf
  exact r_iret C hR rfl (Nat.le_of_ble_eq_true rfl) (Nat.le_of_ble_eq_true rfl) dX6_firstPlaceIn_6
theorem c_X6_firstPlaceIn {K : WK} {l : Launch} {hs : AH} {v0 : Nat} {v1 : Int32} {q : Int32} (hf : f_X6_firstPlaceIn v0 v1 hs = some q) : MC K l yX6_firstPlaceIn cX6_firstPlaceIn 2 (Option.some Jvm.ClassFile.FieldType.int) rm_X6_firstPlaceIn [.ref (kA K v0), .int v1] hs (some (.int q)) hs 0 0 :=
  MC.of (by decide +kernel) (Nat.le_of_ble_eq_true rfl) (fun p e s m args below meth c C _ hR ls hl => w_X6_firstPlaceIn_b0 C _ _ hs _ _ ls hf hR hl)
noncomputable def f_X6_placeOf_b40 (v0 : Nat) (v1 : Int32) (v2 : Int32) (t0 : Int32) (hs : AH) : Option (Int32) :=
  if v2 < 0 then
  (
   some (-1))
  else
  (
   if t0 ≤ v2 then
   (
    some (-1))
   else
   (
    (chk hs v0 6).bind fun u1 =>
    (f_X6_firstPlaceIn v0 v1 hs).bind fun x2 =>
    some (x2 + v2)))
noncomputable def f_X6_placeOf (v0 : Nat) (v1 : Int32) (v2 : Int32) (hs : AH) : Option (Int32) :=
  if v1 < 0 then
  (
   some (-1))
  else
  (
   (gR hs v0 6 0).bind fun x1 =>
   (chk hs x1 2).bind fun u2 =>
   (f_X2_size x1 hs).bind fun x3 =>
   if v1 < x3 then
   (
    (gR hs v0 6 0).bind fun x4 =>
    (chk hs x4 2).bind fun u5 =>
    (f_X2_size x4 hs).bind fun x6 =>
    if v1 = (x6 - 1) then
    (
     f_X6_placeOf_b40 v0 v1 v2 1 hs)
    else
    (
     (chk hs v0 6).bind fun u7 =>
     (f_X6_beatBits v0 hs).bind fun x8 =>
     f_X6_placeOf_b40 v0 v1 v2 (1 <<< (x8 &&& 31)) hs))
   else
   (
    some (-1)))
abbrev rm_X6_placeOf : Room := { frames := 2, cells := 0, slots := 0, locals := 41 }
set_option maxHeartbeats 4000000 in
set_option maxRecDepth 100000 in
theorem w_X6_placeOf_b40 {K : WK} {p : Program} {l : Launch} {e : Env} {s : State} {m : MethodId} {args : Array Value} {below : List Frame} {meth : Method} {c : Code} (C : Cx K p s m args meth c RX6 cX6_placeOf 4 (Option.some Jvm.ClassFile.FieldType.int)) {q : Int32} : ∀ (v0 : Nat) (v1 : Int32) (v2 : Int32) (t0 : Int32) (hs : AH) (H : Heap) (locs : List Loc) (ls : Array Slot), f_X6_placeOf_b40 v0 v1 v2 t0 hs = some q → Rl K s hs H locs → lv_has ls 4 [(0, .ref (kA K v0)), (1, .int v1), (2, .int v2)] → W p l e rm_X6_placeOf s m args below meth c H locs 0 0 (MQ below (MQo K (some (.int q)) hs) args s 0 0 (kAx K)) (F0 m 40 ls [.int t0]) := by
  have hx := C.1
  have hb := C.2.1
  intro v0 v1 v2 t0 hs H locs ls hf hR hl
  rw [f_X6_placeOf_b40.eq_1] at hf
  refine lv_istore_n (lv' := [(3, .int t0), (0, .ref (kA K v0)), (1, .int v1), (2, .int v2)]) hx hb dX6_placeOf_40 rfl hl (by decide) rfl (fun ls hl => ?_)
  refine lv_iload_n hx hb dX6_placeOf_41 rfl (lv_at hl 3 rfl) ?_
  refine lv_if_lt (tgt := 60) hx hb dX6_placeOf_42 (by decide) (fun c42 => ?_) (fun c42 => ?_)
  · have hf := ip hf c42
    refine lv_iconst (v := (-1)) hx hb dX6_placeOf_60 (by decide) ?_
    obtain rfl := Option.some.inj hf
    exact r_iret C hR rfl (Nat.le_of_ble_eq_true rfl) (Nat.le_of_ble_eq_true rfl) dX6_placeOf_61
  · have hf := iq hf c42
    refine lv_iload_n hx hb dX6_placeOf_45 rfl (lv_at hl 3 rfl) ?_
    refine lv_iload_n hx hb dX6_placeOf_46 rfl (lv_at hl 0 rfl) ?_
    refine lv_icmp_ge (tgt := 60) hx hb dX6_placeOf_47 (by decide) (fun c47 => ?_) (fun c47 => ?_)
    · have hf := ip hf c47
      refine lv_iconst (v := (-1)) hx hb dX6_placeOf_60 (by decide) ?_
      obtain rfl := Option.some.inj hf
      exact r_iret C hR rfl (Nat.le_of_ble_eq_true rfl) (Nat.le_of_ble_eq_true rfl) dX6_placeOf_61
    · have hf := iq hf c47
      refine lv_aload_n hx hb dX6_placeOf_50 rfl (lv_at hl 1 rfl) ?_
      refine lv_iload_n hx hb dX6_placeOf_51 rfl (lv_at hl 2 rfl) ?_
      obtain ⟨u1, hu1, hf⟩ := ob hf
      obtain ⟨x2, hx2, hf⟩ := ob hf
      refine r_callV (As := [.int v1]) (rest := []) (st1 := [.int x2]) C hR (lv_sub hl [] rfl) (c_X6_firstPlaceIn hx2) mv_X6_firstPlaceIn ml_X6_52 ⟨rfl, rfl, (Nat.le_of_ble_eq_true rfl), (Nat.le_of_ble_eq_true rfl)⟩ (rv_obj C hR hu1 (q := (RX6, TX6, 6)) rfl) rfl rfl rfl (Nat.le_of_ble_eq_true rfl) ⟨(Nat.le_of_ble_eq_true rfl), (Nat.le_of_ble_eq_true rfl)⟩ dX6_placeOf_52 (fun H locs hR => ?_)
      refine lv_iload_n hx hb dX6_placeOf_55 rfl (lv_at hl 3 rfl) ?_
      refine lv_iadd hx hb dX6_placeOf_56 ?_
      refine lv_goto (tgt := 61) hx hb dX6_placeOf_57 (by decide) ?_
      obtain rfl := Option.some.inj hf
      exact r_iret C hR rfl (Nat.le_of_ble_eq_true rfl) (Nat.le_of_ble_eq_true rfl) dX6_placeOf_61
set_option maxHeartbeats 4000000 in
set_option maxRecDepth 100000 in
theorem w_X6_placeOf_b0 {K : WK} {p : Program} {l : Launch} {e : Env} {s : State} {m : MethodId} {args : Array Value} {below : List Frame} {meth : Method} {c : Code} (C : Cx K p s m args meth c RX6 cX6_placeOf 4 (Option.some Jvm.ClassFile.FieldType.int)) {q : Int32} : ∀ (v0 : Nat) (v1 : Int32) (v2 : Int32) (hs : AH) (H : Heap) (locs : List Loc) (ls : Array Slot), f_X6_placeOf v0 v1 v2 hs = some q → Rl K s hs H locs → lv_has ls 4 [(0, .ref (kA K v0)), (1, .int v1), (2, .int v2)] → W p l e rm_X6_placeOf s m args below meth c H locs 0 0 (MQ below (MQo K (some (.int q)) hs) args s 0 0 (kAx K)) (F0 m 0 ls []) := by
  have hx := C.1
  have hb := C.2.1
  intro v0 v1 v2 hs H locs ls hf hR hl
  rw [f_X6_placeOf.eq_1] at hf
  refine lv_iload_n hx hb dX6_placeOf_0 rfl (lv_at hl 1 rfl) ?_
  refine lv_if_lt (tgt := 15) hx hb dX6_placeOf_1 (by decide) (fun c1 => ?_) (fun c1 => ?_)
  · have hf := ip hf c1
    refine lv_iconst (v := (-1)) hx hb dX6_placeOf_15 (by decide) ?_
    obtain rfl := Option.some.inj hf
    exact r_iret C hR rfl (Nat.le_of_ble_eq_true rfl) (Nat.le_of_ble_eq_true rfl) dX6_placeOf_16
  · have hf := iq hf c1
    refine lv_iload_n hx hb dX6_placeOf_4 rfl (lv_at hl 1 rfl) ?_
    refine lv_aload_n hx hb dX6_placeOf_5 rfl (lv_at hl 0 rfl) ?_
    obtain ⟨x1, hx1, hf⟩ := ob hf
    refine r_getR C hR hx1 fl_X6_12 dX6_placeOf_6 ?_
    obtain ⟨u2, hu2, hf⟩ := ob hf
    obtain ⟨x3, hx3, hf⟩ := ob hf
    refine r_callV (As := []) (rest := [.int v1]) (st1 := [.int x3, .int v1]) C hR (lv_sub hl [] rfl) (c_X2_size hx3) mv_X2_size ml_X6_49 ⟨rfl, rfl, (Nat.le_of_ble_eq_true rfl), (Nat.le_of_ble_eq_true rfl)⟩ (rv_obj C hR hu2 (q := (RX2, TX2, 2)) rfl) rfl rfl rfl (Nat.le_of_ble_eq_true rfl) ⟨(Nat.le_of_ble_eq_true rfl), (Nat.le_of_ble_eq_true rfl)⟩ dX6_placeOf_9 (fun H locs hR => ?_)
    refine lv_icmp_lt (tgt := 17) hx hb dX6_placeOf_12 (by decide) (fun c12 => ?_) (fun c12 => ?_)
    · have hf := ip hf c12
      refine lv_iload_n hx hb dX6_placeOf_17 rfl (lv_at hl 1 rfl) ?_
      refine lv_aload_n hx hb dX6_placeOf_18 rfl (lv_at hl 0 rfl) ?_
      obtain ⟨x4, hx4, hf⟩ := ob hf
      refine r_getR C hR hx4 fl_X6_12 dX6_placeOf_19 ?_
      obtain ⟨u5, hu5, hf⟩ := ob hf
      obtain ⟨x6, hx6, hf⟩ := ob hf
      refine r_callV (As := []) (rest := [.int v1]) (st1 := [.int x6, .int v1]) C hR (lv_sub hl [] rfl) (c_X2_size hx6) mv_X2_size ml_X6_49 ⟨rfl, rfl, (Nat.le_of_ble_eq_true rfl), (Nat.le_of_ble_eq_true rfl)⟩ (rv_obj C hR hu5 (q := (RX2, TX2, 2)) rfl) rfl rfl rfl (Nat.le_of_ble_eq_true rfl) ⟨(Nat.le_of_ble_eq_true rfl), (Nat.le_of_ble_eq_true rfl)⟩ dX6_placeOf_22 (fun H locs hR => ?_)
      refine lv_iconst (v := 1) hx hb dX6_placeOf_25 (by decide) ?_
      refine lv_isub hx hb dX6_placeOf_26 ?_
      refine lv_icmp_ne (tgt := 34) hx hb dX6_placeOf_27 (by decide) (fun c27 => ?_) (fun c27 => ?_)
      · have hf := iq hf c27
        refine lv_iconst (v := 1) hx hb dX6_placeOf_34 (by decide) ?_
        refine lv_aload_n hx hb dX6_placeOf_35 rfl (lv_at hl 0 rfl) ?_
        obtain ⟨u7, hu7, hf⟩ := ob hf
        obtain ⟨x8, hx8, hf⟩ := ob hf
        refine r_callV (As := []) (rest := [.int 1]) (st1 := [.int x8, .int 1]) C hR (lv_sub hl [] rfl) (c_X6_beatBits hx8) mv_X6_beatBits ml_X6_45 ⟨rfl, rfl, (Nat.le_of_ble_eq_true rfl), (Nat.le_of_ble_eq_true rfl)⟩ (rv_obj C hR hu7 (q := (RX6, TX6, 6)) rfl) rfl rfl rfl (Nat.le_of_ble_eq_true rfl) ⟨(Nat.le_of_ble_eq_true rfl), (Nat.le_of_ble_eq_true rfl)⟩ dX6_placeOf_36 (fun H locs hR => ?_)
        refine lv_ishl hx hb dX6_placeOf_39 ?_
        exact w_X6_placeOf_b40 C  _ _ _ _ _ _ _ _ hf hR (lv_sub hl [0, 1, 2] rfl)
      · have hf := ip hf c27
        refine lv_iconst (v := 1) hx hb dX6_placeOf_30 (by decide) ?_
        refine lv_goto (tgt := 40) hx hb dX6_placeOf_31 (by decide) ?_
        exact w_X6_placeOf_b40 C  _ _ _ _ _ _ _ _ hf hR (lv_sub hl [0, 1, 2] rfl)
    · have hf := iq hf c12
      refine lv_iconst (v := (-1)) hx hb dX6_placeOf_15 (by decide) ?_
      obtain rfl := Option.some.inj hf
      exact r_iret C hR rfl (Nat.le_of_ble_eq_true rfl) (Nat.le_of_ble_eq_true rfl) dX6_placeOf_16
theorem c_X6_placeOf {K : WK} {l : Launch} {hs : AH} {v0 : Nat} {v1 : Int32} {v2 : Int32} {q : Int32} (hf : f_X6_placeOf v0 v1 v2 hs = some q) : MC K l yX6_placeOf cX6_placeOf 4 (Option.some Jvm.ClassFile.FieldType.int) rm_X6_placeOf [.ref (kA K v0), .int v1, .int v2] hs (some (.int q)) hs 0 0 :=
  MC.of (by decide +kernel) (Nat.le_of_ble_eq_true rfl) (fun p e s m args below meth c C _ hR ls hl => w_X6_placeOf_b0 C _ _ _ hs _ _ ls hf hR hl)
noncomputable def f_X6_notesDue (v0 : Nat) (hs : AH) : Option (Int32) :=
  (gR hs v0 6 0).bind fun x1 =>
  (chk hs x1 2).bind fun u2 =>
  (f_X2_size x1 hs).bind fun x3 =>
  (chk hs v0 6).bind fun u4 =>
  (f_X6_firstPlaceIn v0 (x3 - 1) hs).bind fun x5 =>
  some (x5 + 1)
abbrev rm_X6_notesDue : Room := { frames := 2, cells := 0, slots := 0, locals := 41 }
set_option maxHeartbeats 4000000 in
set_option maxRecDepth 100000 in
theorem w_X6_notesDue_b0 {K : WK} {p : Program} {l : Launch} {e : Env} {s : State} {m : MethodId} {args : Array Value} {below : List Frame} {meth : Method} {c : Code} (C : Cx K p s m args meth c RX6 cX6_notesDue 1 (Option.some Jvm.ClassFile.FieldType.int)) {q : Int32} : ∀ (v0 : Nat) (hs : AH) (H : Heap) (locs : List Loc) (ls : Array Slot), f_X6_notesDue v0 hs = some q → Rl K s hs H locs → lv_has ls 1 [(0, .ref (kA K v0))] → W p l e rm_X6_notesDue s m args below meth c H locs 0 0 (MQ below (MQo K (some (.int q)) hs) args s 0 0 (kAx K)) (F0 m 0 ls []) := by
  have hx := C.1
  have hb := C.2.1
  intro v0 hs H locs ls hf hR hl
  rw [f_X6_notesDue.eq_1] at hf
  refine lv_aload_n hx hb dX6_notesDue_0 rfl (lv_at hl 0 rfl) ?_
  refine lv_aload_n hx hb dX6_notesDue_1 rfl (lv_at hl 0 rfl) ?_
  obtain ⟨x1, hx1, hf⟩ := ob hf
  refine r_getR C hR hx1 fl_X6_12 dX6_notesDue_2 ?_
  obtain ⟨u2, hu2, hf⟩ := ob hf
  obtain ⟨x3, hx3, hf⟩ := ob hf
  refine r_callV (As := []) (rest := [.ref (kA K v0)]) (st1 := [.int x3, .ref (kA K v0)]) C hR (lv_sub hl [] rfl) (c_X2_size hx3) mv_X2_size ml_X6_49 ⟨rfl, rfl, (Nat.le_of_ble_eq_true rfl), (Nat.le_of_ble_eq_true rfl)⟩ (rv_obj C hR hu2 (q := (RX2, TX2, 2)) rfl) rfl rfl rfl (Nat.le_of_ble_eq_true rfl) ⟨(Nat.le_of_ble_eq_true rfl), (Nat.le_of_ble_eq_true rfl)⟩ dX6_notesDue_5 (fun H locs hR => ?_)
  refine lv_iconst (v := 1) hx hb dX6_notesDue_8 (by decide) ?_
  refine lv_isub hx hb dX6_notesDue_9 ?_
  obtain ⟨u4, hu4, hf⟩ := ob hf
  obtain ⟨x5, hx5, hf⟩ := ob hf
  refine r_callV (As := [.int (x3 - 1)]) (rest := []) (st1 := [.int x5]) C hR (lv_sub hl [] rfl) (c_X6_firstPlaceIn hx5) mv_X6_firstPlaceIn ml_X6_52 ⟨rfl, rfl, (Nat.le_of_ble_eq_true rfl), (Nat.le_of_ble_eq_true rfl)⟩ (rv_obj C hR hu4 (q := (RX6, TX6, 6)) rfl) rfl rfl rfl (Nat.le_of_ble_eq_true rfl) ⟨(Nat.le_of_ble_eq_true rfl), (Nat.le_of_ble_eq_true rfl)⟩ dX6_notesDue_10 (fun H locs hR => ?_)
  refine lv_iconst (v := 1) hx hb dX6_notesDue_13 (by decide) ?_
  refine lv_iadd hx hb dX6_notesDue_14 ?_
  obtain rfl := Option.some.inj hf
  exact r_iret C hR rfl (Nat.le_of_ble_eq_true rfl) (Nat.le_of_ble_eq_true rfl) dX6_notesDue_15
theorem c_X6_notesDue {K : WK} {l : Launch} {hs : AH} {v0 : Nat} {q : Int32} (hf : f_X6_notesDue v0 hs = some q) : MC K l yX6_notesDue cX6_notesDue 1 (Option.some Jvm.ClassFile.FieldType.int) rm_X6_notesDue [.ref (kA K v0)] hs (some (.int q)) hs 0 0 :=
  MC.of (by decide +kernel) (Nat.le_of_ble_eq_true rfl) (fun p e s m args below meth c C _ hR ls hl => w_X6_notesDue_b0 C _ hs _ _ ls hf hR hl)
noncomputable def f_X6_isTied (v0 : Nat) (v1 : Int32) (hs : AH) : Option (Int32) :=
  (gI hs v0 6 2).bind fun x1 =>
  if x1 = 4 then
  (
   if v1 ≤ 0 then
   (
    some 0)
   else
   (
    (chk hs v0 6).bind fun u2 =>
    (f_X6_beatOf v0 v1 hs).bind fun x3 =>
    if x3 = 0 then
    (
     (gR hs v0 6 1).bind fun x4 =>
     (chk hs x4 2).bind fun u5 =>
     (f_X2_at x4 v1 hs).bind fun x6 =>
     if x6 = (-1) then
     (
      some 0)
     else
     (
      (gR hs v0 6 1).bind fun x7 =>
      (chk hs x7 2).bind fun u8 =>
      (f_X2_at x7 v1 hs).bind fun x9 =>
      (gR hs v0 6 1).bind fun x10 =>
      (chk hs x10 2).bind fun u11 =>
      (f_X2_at x10 (v1 - 1) hs).bind fun x12 =>
      if x9 = x12 then
      (
       some 1)
      else
      (
       some 0)))
    else
    (
     some 0)))
  else
  (
   some 0)
abbrev rm_X6_isTied : Room := { frames := 2, cells := 0, slots := 0, locals := 41 }
set_option maxHeartbeats 4000000 in
set_option maxRecDepth 100000 in
theorem w_X6_isTied_b0 {K : WK} {p : Program} {l : Launch} {e : Env} {s : State} {m : MethodId} {args : Array Value} {below : List Frame} {meth : Method} {c : Code} (C : Cx K p s m args meth c RX6 cX6_isTied 2 (Option.some Jvm.ClassFile.FieldType.boolean)) {q : Int32} : ∀ (v0 : Nat) (v1 : Int32) (hs : AH) (H : Heap) (locs : List Loc) (ls : Array Slot), f_X6_isTied v0 v1 hs = some q → Rl K s hs H locs → lv_has ls 2 [(0, .ref (kA K v0)), (1, .int v1)] → W p l e rm_X6_isTied s m args below meth c H locs 0 0 (MQ below (MQo K (some (.int q)) hs) args s 0 0 (kAx K)) (F0 m 0 ls []) := by
  have hx := C.1
  have hb := C.2.1
  intro v0 v1 hs H locs ls hf hR hl
  rw [f_X6_isTied.eq_1] at hf
  refine lv_aload_n hx hb dX6_isTied_0 rfl (lv_at hl 0 rfl) ?_
  obtain ⟨x1, hx1, hf⟩ := ob hf
  refine r_getI C hR hx1 fl_X6_21 dX6_isTied_1 ?_
  refine lv_iconst (v := 4) hx hb dX6_isTied_4 (by decide) ?_
  refine lv_icmp_ne (tgt := 57) hx hb dX6_isTied_5 (by decide) (fun c5 => ?_) (fun c5 => ?_)
  · have hf := iq hf c5
    refine lv_iconst (v := 0) hx hb dX6_isTied_57 (by decide) ?_
    obtain rfl := Option.some.inj hf
    exact r_iret C hR rfl (Nat.le_of_ble_eq_true rfl) (Nat.le_of_ble_eq_true rfl) dX6_isTied_58
  · have hf := ip hf c5
    refine lv_iload_n hx hb dX6_isTied_8 rfl (lv_at hl 1 rfl) ?_
    refine lv_if_le (tgt := 57) hx hb dX6_isTied_9 (by decide) (fun c9 => ?_) (fun c9 => ?_)
    · have hf := ip hf c9
      refine lv_iconst (v := 0) hx hb dX6_isTied_57 (by decide) ?_
      obtain rfl := Option.some.inj hf
      exact r_iret C hR rfl (Nat.le_of_ble_eq_true rfl) (Nat.le_of_ble_eq_true rfl) dX6_isTied_58
    · have hf := iq hf c9
      refine lv_aload_n hx hb dX6_isTied_12 rfl (lv_at hl 0 rfl) ?_
      refine lv_iload_n hx hb dX6_isTied_13 rfl (lv_at hl 1 rfl) ?_
      obtain ⟨u2, hu2, hf⟩ := ob hf
      obtain ⟨x3, hx3, hf⟩ := ob hf
      refine r_callV (As := [.int v1]) (rest := []) (st1 := [.int x3]) C hR (lv_sub hl [] rfl) (c_X6_beatOf hx3) mv_X6_beatOf ml_X6_56 ⟨rfl, rfl, (Nat.le_of_ble_eq_true rfl), (Nat.le_of_ble_eq_true rfl)⟩ (rv_obj C hR hu2 (q := (RX6, TX6, 6)) rfl) rfl rfl rfl (Nat.le_of_ble_eq_true rfl) ⟨(Nat.le_of_ble_eq_true rfl), (Nat.le_of_ble_eq_true rfl)⟩ dX6_isTied_14 (fun H locs hR => ?_)
      refine lv_if_ne (tgt := 57) hx hb dX6_isTied_17 (by decide) (fun c17 => ?_) (fun c17 => ?_)
      · have hf := iq hf c17
        refine lv_iconst (v := 0) hx hb dX6_isTied_57 (by decide) ?_
        obtain rfl := Option.some.inj hf
        exact r_iret C hR rfl (Nat.le_of_ble_eq_true rfl) (Nat.le_of_ble_eq_true rfl) dX6_isTied_58
      · have hf := ip hf c17
        refine lv_aload_n hx hb dX6_isTied_20 rfl (lv_at hl 0 rfl) ?_
        obtain ⟨x4, hx4, hf⟩ := ob hf
        refine r_getR C hR hx4 fl_X6_18 dX6_isTied_21 ?_
        refine lv_iload_n hx hb dX6_isTied_24 rfl (lv_at hl 1 rfl) ?_
        obtain ⟨u5, hu5, hf⟩ := ob hf
        obtain ⟨x6, hx6, hf⟩ := ob hf
        refine r_callV (As := [.int v1]) (rest := []) (st1 := [.int x6]) C hR (lv_sub hl [] rfl) (c_X2_at hx6) mv_X2_at ml_X6_59 ⟨rfl, rfl, (Nat.le_of_ble_eq_true rfl), (Nat.le_of_ble_eq_true rfl)⟩ (rv_obj C hR hu5 (q := (RX2, TX2, 2)) rfl) rfl rfl rfl (Nat.le_of_ble_eq_true rfl) ⟨(Nat.le_of_ble_eq_true rfl), (Nat.le_of_ble_eq_true rfl)⟩ dX6_isTied_25 (fun H locs hR => ?_)
        refine lv_iconst (v := (-1)) hx hb dX6_isTied_28 (by decide) ?_
        refine lv_icmp_eq (tgt := 57) hx hb dX6_isTied_29 (by decide) (fun c29 => ?_) (fun c29 => ?_)
        · have hf := ip hf c29
          refine lv_iconst (v := 0) hx hb dX6_isTied_57 (by decide) ?_
          obtain rfl := Option.some.inj hf
          exact r_iret C hR rfl (Nat.le_of_ble_eq_true rfl) (Nat.le_of_ble_eq_true rfl) dX6_isTied_58
        · have hf := iq hf c29
          refine lv_aload_n hx hb dX6_isTied_32 rfl (lv_at hl 0 rfl) ?_
          obtain ⟨x7, hx7, hf⟩ := ob hf
          refine r_getR C hR hx7 fl_X6_18 dX6_isTied_33 ?_
          refine lv_iload_n hx hb dX6_isTied_36 rfl (lv_at hl 1 rfl) ?_
          obtain ⟨u8, hu8, hf⟩ := ob hf
          obtain ⟨x9, hx9, hf⟩ := ob hf
          refine r_callV (As := [.int v1]) (rest := []) (st1 := [.int x9]) C hR (lv_sub hl [] rfl) (c_X2_at hx9) mv_X2_at ml_X6_59 ⟨rfl, rfl, (Nat.le_of_ble_eq_true rfl), (Nat.le_of_ble_eq_true rfl)⟩ (rv_obj C hR hu8 (q := (RX2, TX2, 2)) rfl) rfl rfl rfl (Nat.le_of_ble_eq_true rfl) ⟨(Nat.le_of_ble_eq_true rfl), (Nat.le_of_ble_eq_true rfl)⟩ dX6_isTied_37 (fun H locs hR => ?_)
          refine lv_aload_n hx hb dX6_isTied_40 rfl (lv_at hl 0 rfl) ?_
          obtain ⟨x10, hx10, hf⟩ := ob hf
          refine r_getR C hR hx10 fl_X6_18 dX6_isTied_41 ?_
          refine lv_iload_n hx hb dX6_isTied_44 rfl (lv_at hl 1 rfl) ?_
          refine lv_iconst (v := 1) hx hb dX6_isTied_45 (by decide) ?_
          refine lv_isub hx hb dX6_isTied_46 ?_
          obtain ⟨u11, hu11, hf⟩ := ob hf
          obtain ⟨x12, hx12, hf⟩ := ob hf
          refine r_callV (As := [.int (v1 - 1)]) (rest := [.int x9]) (st1 := [.int x12, .int x9]) C hR (lv_sub hl [] rfl) (c_X2_at hx12) mv_X2_at ml_X6_59 ⟨rfl, rfl, (Nat.le_of_ble_eq_true rfl), (Nat.le_of_ble_eq_true rfl)⟩ (rv_obj C hR hu11 (q := (RX2, TX2, 2)) rfl) rfl rfl rfl (Nat.le_of_ble_eq_true rfl) ⟨(Nat.le_of_ble_eq_true rfl), (Nat.le_of_ble_eq_true rfl)⟩ dX6_isTied_47 (fun H locs hR => ?_)
          refine lv_icmp_ne (tgt := 57) hx hb dX6_isTied_50 (by decide) (fun c50 => ?_) (fun c50 => ?_)
          · have hf := iq hf c50
            refine lv_iconst (v := 0) hx hb dX6_isTied_57 (by decide) ?_
            obtain rfl := Option.some.inj hf
            exact r_iret C hR rfl (Nat.le_of_ble_eq_true rfl) (Nat.le_of_ble_eq_true rfl) dX6_isTied_58
          · have hf := ip hf c50
            refine lv_iconst (v := 1) hx hb dX6_isTied_53 (by decide) ?_
            refine lv_goto (tgt := 58) hx hb dX6_isTied_54 (by decide) ?_
            obtain rfl := Option.some.inj hf
            exact r_iret C hR rfl (Nat.le_of_ble_eq_true rfl) (Nat.le_of_ble_eq_true rfl) dX6_isTied_58
theorem c_X6_isTied {K : WK} {l : Launch} {hs : AH} {v0 : Nat} {v1 : Int32} {q : Int32} (hf : f_X6_isTied v0 v1 hs = some q) : MC K l yX6_isTied cX6_isTied 2 (Option.some Jvm.ClassFile.FieldType.boolean) rm_X6_isTied [.ref (kA K v0), .int v1] hs (some (.int q)) hs 0 0 :=
  MC.of (by decide +kernel) (Nat.le_of_ble_eq_true rfl) (fun p e s m args below meth c C _ hR ls hl => w_X6_isTied_b0 C _ _ hs _ _ ls hf hR hl)
