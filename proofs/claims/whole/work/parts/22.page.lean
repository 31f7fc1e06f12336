/-! ===== printed by wip/whole/genall.py: functions and walks ===== -/
noncomputable def f_X3_size (v0 : Nat) (hs : AH) : Option (Int32) :=
  (gI hs v0 3 1).bind fun x1 =>
  some x1
abbrev rm_X3_size : Room := { frames := 0, cells := 0, slots := 0, locals := 0 }
set_option maxHeartbeats 4000000 in
set_option maxRecDepth 100000 in
theorem w_X3_size_b0 {K : WK} {p : Program} {l : Launch} {e : Env} {s : State} {m : MethodId} {args : Array Value} {below : List Frame} {meth : Method} {c : Code} (C : Cx K p s m args meth c RX3 cX3_size 1 (Option.some Jvm.ClassFile.FieldType.int)) {q : Int32} : ∀ (v0 : Nat) (hs : AH) (H : Heap) (locs : List Loc) (ls : Array Slot), f_X3_size v0 hs = some q → Rl K s hs H locs → lv_has ls 1 [(0, .ref (kA K v0))] → W p l e rm_X3_size s m args below meth c H locs 0 0 (MQ below (MQo K (some (.int q)) hs) args s 0 0 (kAx K)) (F0 m 0 ls []) := by
  have hx := C.1
  have hb := C.2.1
  intro v0 hs H locs ls hf hR hl
  rw [f_X3_size.eq_1] at hf
  refine lv_aload_n hx hb dX3_size_0 rfl (lv_at hl 0 rfl) ?_
  obtain ⟨x1, hx1, hf⟩ := ob hf
  refine r_getI C hR hx1 fl_X3_15 dX3_size_1 ?_
  obtain rfl := Option.some.inj hf
  exact r_iret C hR rfl (Nat.le_of_ble_eq_true rfl) (Nat.le_of_ble_eq_true rfl) dX3_size_4
theorem c_X3_size {K : WK} {l : Launch} {hs : AH} {v0 : Nat} {q : Int32} (hf : f_X3_size v0 hs = some q) : MC K l yX3_size cX3_size 1 (Option.some Jvm.ClassFile.FieldType.int) rm_X3_size [.ref (kA K v0)] hs (some (.int q)) hs 0 0 :=
  MC.of (by decide +kernel) (Nat.le_of_ble_eq_true rfl) (fun p e s m args below meth c C _ hR ls hl => w_X3_size_b0 C _ hs _ _ ls hf hR hl)
noncomputable def f_X3_at (v0 : Nat) (v1 : Int32) (hs : AH) : Option (Int32) :=
  if v1 < 0 then
  (
   some 0)
  else
  (
   (gI hs v0 3 1).bind fun x1 =>
   if x1 ≤ v1 then
   (
    some 0)
   else
   (
    if 180 ≤ v1 then
    (
     some 0)
    else
    (
     (gR hs v0 3 0).bind fun x2 =>
     (aN 1 hs x2 v1).bind fun x3 =>
     some (vp_nar .char x3))))
abbrev rm_X3_at : Room := { frames := 0, cells := 0, slots := 0, locals := 0 }
set_option maxHeartbeats 4000000 in
set_option maxRecDepth 100000 in
theorem w_X3_at_b0 {K : WK} {p : Program} {l : Launch} {e : Env} {s : State} {m : MethodId} {args : Array Value} {below : List Frame} {meth : Method} {c : Code} (C : Cx K p s m args meth c RX3 cX3_at 2 (Option.some Jvm.ClassFile.FieldType.char)) {q : Int32} : ∀ (v0 : Nat) (v1 : Int32) (hs : AH) (H : Heap) (locs : List Loc) (ls : Array Slot), f_X3_at v0 v1 hs = some q → Rl K s hs H locs → lv_has ls 2 [(0, .ref (kA K v0)), (1, .int v1)] → W p l e rm_X3_at s m args below meth c H locs 0 0 (MQ below (MQo K (some (.int q)) hs) args s 0 0 (kAx K)) (F0 m 0 ls []) := by
  have hx := C.1
  have hb := C.2.1
  intro v0 v1 hs H locs ls hf hR hl
  rw [f_X3_at.eq_1] at hf
  refine lv_iload_n hx hb dX3_at_0 rfl (lv_at hl 1 rfl) ?_
  refine lv_if_lt (tgt := 28) hx hb dX3_at_1 (by decide) (fun c1 => ?_) (fun c1 => ?_)
  · have hf := ip hf c1
    refine lv_iconst (v := 0) hx hb dX3_at_28 (by decide) ?_
    obtain rfl := Option.some.inj hf
    exact r_iret C hR rfl (Nat.le_of_ble_eq_true rfl) (Nat.le_of_ble_eq_true rfl) dX3_at_29
  · have hf := iq hf c1
    refine lv_iload_n hx hb dX3_at_4 rfl (lv_at hl 1 rfl) ?_
    refine lv_aload_n hx hb dX3_at_5 rfl (lv_at hl 0 rfl) ?_
    obtain ⟨x1, hx1, hf⟩ := ob hf
    refine r_getI C hR hx1 fl_X3_15 dX3_at_6 ?_
    refine lv_icmp_ge (tgt := 28) hx hb dX3_at_9 (by decide) (fun c9 => ?_) (fun c9 => ?_)
    · have hf := ip hf c9
      refine lv_iconst (v := 0) hx hb dX3_at_28 (by decide) ?_
      obtain rfl := Option.some.inj hf
      exact r_iret C hR rfl (Nat.le_of_ble_eq_true rfl) (Nat.le_of_ble_eq_true rfl) dX3_at_29
    · have hf := iq hf c9
      refine lv_iload_n hx hb dX3_at_12 rfl (lv_at hl 1 rfl) ?_
      refine lv_sipush (v := 180) hx hb dX3_at_13 (by decide) ?_
      refine lv_icmp_ge (tgt := 28) hx hb dX3_at_16 (by decide) (fun c16 => ?_) (fun c16 => ?_)
      · have hf := ip hf c16
        refine lv_iconst (v := 0) hx hb dX3_at_28 (by decide) ?_
        obtain rfl := Option.some.inj hf
        exact r_iret C hR rfl (Nat.le_of_ble_eq_true rfl) (Nat.le_of_ble_eq_true rfl) dX3_at_29
      · have hf := iq hf c16
        refine lv_aload_n hx hb dX3_at_19 rfl (lv_at hl 0 rfl) ?_
        obtain ⟨x2, hx2, hf⟩ := ob hf
        refine r_getR C hR hx2 fl_X3_9 dX3_at_20 ?_
        refine lv_iload_n hx hb dX3_at_23 rfl (lv_at hl 1 rfl) ?_
        obtain ⟨x3, hx3, hf⟩ := ob hf
        refine r_cald C hR hx3 dX3_at_24 ?_
        refine lv_goto (tgt := 29) hx hb dX3_at_25 (by decide) ?_
        obtain rfl := Option.some.inj hf
        exact r_iret C hR nar_char (Nat.le_of_ble_eq_true rfl) (Nat.le_of_ble_eq_true rfl) dX3_at_29
theorem c_X3_at {K : WK} {l : Launch} {hs : AH} {v0 : Nat} {v1 : Int32} {q : Int32} (hf : f_X3_at v0 v1 hs = some q) : MC K l yX3_at cX3_at 2 (Option.some Jvm.ClassFile.FieldType.char) rm_X3_at [.ref (kA K v0), .int v1] hs (some (.int q)) hs 0 0 :=
  MC.of (by decide +kernel) (Nat.le_of_ble_eq_true rfl) (fun p e s m args below meth c C _ hR ls hl => w_X3_at_b0 C _ _ hs _ _ ls hf hR hl)
noncomputable def f_X3_clear (v0 : Nat) (hs : AH) : Option (AH) :=
  (pI hs v0 3 1 0).bind fun hs1 =>
  some hs1
abbrev rm_X3_clear : Room := { frames := 0, cells := 0, slots := 0, locals := 0 }
set_option maxHeartbeats 4000000 in
set_option maxRecDepth 100000 in
theorem w_X3_clear_b0 {K : WK} {p : Program} {l : Launch} {e : Env} {s : State} {m : MethodId} {args : Array Value} {below : List Frame} {meth : Method} {c : Code} (C : Cx K p s m args meth c RX3 cX3_clear 1 (Option.none : Option Jvm.ClassFile.FieldType)) {q : AH} : ∀ (v0 : Nat) (hs : AH) (H : Heap) (locs : List Loc) (ls : Array Slot), f_X3_clear v0 hs = some q → Rl K s hs H locs → lv_has ls 1 [(0, .ref (kA K v0))] → W p l e rm_X3_clear s m args below meth c H locs 0 0 (MQ below (MQo K none q) args s 0 0 (kAx K)) (F0 m 0 ls []) := by
  have hx := C.1
  have hb := C.2.1
  intro v0 hs H locs ls hf hR hl
  rw [f_X3_clear.eq_1] at hf
  refine lv_aload_n hx hb dX3_clear_0 rfl (lv_at hl 0 rfl) ?_
  refine lv_iconst (v := 0) hx hb dX3_clear_1 (by decide) ?_
  obtain ⟨hs1, hhs1, hf⟩ := ob hf
  refine r_putI C hR hhs1 fl_X3_15 dX3_clear_2 (fun H locs hR => ?_)
  obtain rfl := Option.some.inj hf
  exact r_vret C hR (Nat.le_of_ble_eq_true rfl) (Nat.le_of_ble_eq_true rfl) dX3_clear_5
theorem c_X3_clear {K : WK} {l : Launch} {hs : AH} {v0 : Nat} {q : AH} (hf : f_X3_clear v0 hs = some q) : MC K l yX3_clear cX3_clear 1 (Option.none : Option Jvm.ClassFile.FieldType) rm_X3_clear [.ref (kA K v0)] hs none q 0 0 :=
  MC.of (by decide +kernel) (Nat.le_of_ble_eq_true rfl) (fun p e s m args below meth c C _ hR ls hl => w_X3_clear_b0 C _ hs _ _ ls hf hR hl)
noncomputable def f_X3_put (v0 : Nat) (v1 : Int32) (hs : AH) : Option (AH) :=
  (gI hs v0 3 1).bind fun x1 =>
  if x1 < 0 then
  (
   some hs)
  else
  (
   (gI hs v0 3 1).bind fun x2 =>
   if 180 ≤ x2 then
   (
    some hs)
   else
   (
    (gR hs v0 3 0).bind fun x3 =>
    (gI hs v0 3 1).bind fun x4 =>
    (sN 1 hs x3 x4 (vp_nar .char v1)).bind fun hs5 =>
    (gI hs5 v0 3 1).bind fun x6 =>
    (pI hs5 v0 3 1 (x6 + 1)).bind fun hs7 =>
    some hs7))
abbrev rm_X3_put : Room := { frames := 0, cells := 0, slots := 0, locals := 0 }
set_option maxHeartbeats 4000000 in
set_option maxRecDepth 100000 in
theorem w_X3_put_b0 {K : WK} {p : Program} {l : Launch} {e : Env} {s : State} {m : MethodId} {args : Array Value} {below : List Frame} {meth : Method} {c : Code} (C : Cx K p s m args meth c RX3 cX3_put 2 (Option.none : Option Jvm.ClassFile.FieldType)) {q : AH} : ∀ (v0 : Nat) (v1 : Int32) (hs : AH) (H : Heap) (locs : List Loc) (ls : Array Slot), f_X3_put v0 v1 hs = some q → Rl K s hs H locs → lv_has ls 2 [(0, .ref (kA K v0)), (1, .int v1)] → W p l e rm_X3_put s m args below meth c H locs 0 0 (MQ below (MQo K none q) args s 0 0 (kAx K)) (F0 m 0 ls []) := by
  have hx := C.1
  have hb := C.2.1
  intro v0 v1 hs H locs ls hf hR hl
  rw [f_X3_put.eq_1] at hf
  refine lv_aload_n hx hb dX3_put_0 rfl (lv_at hl 0 rfl) ?_
  obtain ⟨x1, hx1, hf⟩ := ob hf
  refine r_getI C hR hx1 fl_X3_15 dX3_put_1 ?_
  refine lv_if_lt (tgt := 37) hx hb dX3_put_4 (by decide) (fun c4 => ?_) (fun c4 => ?_)
  · have hf := ip hf c4
    obtain rfl := Option.some.inj hf
    exact r_vret C hR (Nat.le_of_ble_eq_true rfl) (Nat.le_of_ble_eq_true rfl) dX3_put_37
  · have hf := iq hf c4
    refine lv_aload_n hx hb dX3_put_7 rfl (lv_at hl 0 rfl) ?_
    obtain ⟨x2, hx2, hf⟩ := ob hf
    refine r_getI C hR hx2 fl_X3_15 dX3_put_8 ?_
    refine lv_sipush (v := 180) hx hb dX3_put_11 (by decide) ?_
    refine lv_icmp_ge (tgt := 37) hx hb dX3_put_14 (by decide) (fun c14 => ?_) (fun c14 => ?_)
    · have hf := ip hf c14
      obtain rfl := Option.some.inj hf
      exact r_vret C hR (Nat.le_of_ble_eq_true rfl) (Nat.le_of_ble_eq_true rfl) dX3_put_37
    · have hf := iq hf c14
      refine lv_aload_n hx hb dX3_put_17 rfl (lv_at hl 0 rfl) ?_
      obtain ⟨x3, hx3, hf⟩ := ob hf
      refine r_getR C hR hx3 fl_X3_9 dX3_put_18 ?_
      refine lv_aload_n hx hb dX3_put_21 rfl (lv_at hl 0 rfl) ?_
      obtain ⟨x4, hx4, hf⟩ := ob hf
      refine r_getI C hR hx4 fl_X3_15 dX3_put_22 ?_
      refine lv_iload_n hx hb dX3_put_25 rfl (lv_at hl 1 rfl) ?_
      obtain ⟨hs5, hhs5, hf⟩ := ob hf
      refine r_cast C hR hhs5 dX3_put_26 (fun H locs hR => ?_)
      refine lv_aload_n hx hb dX3_put_27 rfl (lv_at hl 0 rfl) ?_
      refine lv_dup hx hb dX3_put_28 rfl ?_
      obtain ⟨x6, hx6, hf⟩ := ob hf
      refine r_getI C hR hx6 fl_X3_15 dX3_put_29 ?_
      refine lv_iconst (v := 1) hx hb dX3_put_32 (by decide) ?_
      refine lv_iadd hx hb dX3_put_33 ?_
      obtain ⟨hs7, hhs7, hf⟩ := ob hf
      refine r_putI C hR hhs7 fl_X3_15 dX3_put_34 (fun H locs hR => ?_)
      obtain rfl := Option.some.inj hf
      exact r_vret C hR (Nat.le_of_ble_eq_true rfl) (Nat.le_of_ble_eq_true rfl) dX3_put_37
theorem c_X3_put {K : WK} {l : Launch} {hs : AH} {v0 : Nat} {v1 : Int32} {q : AH} (hf : f_X3_put v0 v1 hs = some q) : MC K l yX3_put cX3_put 2 (Option.none : Option Jvm.ClassFile.FieldType) rm_X3_put [.ref (kA K v0), .int v1] hs none q 0 0 :=
  MC.of (by decide +kernel) (Nat.le_of_ble_eq_true rfl) (fun p e s m args below meth c C _ hR ls hl => w_X3_put_b0 C _ _ hs _ _ ls hf hR hl)
noncomputable def f_X3_putWord_b2 : Nat → Nat → Nat → Int32 → AH → Option (AH)
  | 0, _, _, _, _ => none
  | n + 1, v0, v1, v2, hs =>
  (chkS v1).bind fun u1 =>
  (f_J0_length_8abf5 v1).bind fun x2 =>
  if x2 ≤ v2 then
  (
   some hs)
  else
  (
   (chkS v1).bind fun u3 =>
   (f_J0_charAt_5068e v1 v2).bind fun x4 =>
   (chk hs v0 3).bind fun u5 =>
   (f_X3_put v0 x4 hs).bind fun hs6 =>
   f_X3_putWord_b2 n v0 v1 (v2 + 1) hs6)
noncomputable def f_X3_putWord (v0 : Nat) (v1 : Nat) (hs : AH) : Option (AH) :=
  f_X3_putWord_b2 FUEL v0 v1 0 hs
abbrev rm_X3_putWord : Room := { frames := 4, cells := 0, slots := 0, locals := 85 }
set_option maxHeartbeats 4000000 in
set_option maxRecDepth 100000 in
theorem w_X3_putWord_b2 {K : WK} {p : Program} {l : Launch} {e : Env} {s : State} {m : MethodId} {args : Array Value} {below : List Frame} {meth : Method} {c : Code} (C : Cx K p s m args meth c RX3 cX3_putWord 3 (Option.none : Option Jvm.ClassFile.FieldType)) {q : AH} : ∀ (n : Nat) (v0 : Nat) (v1 : Nat) (v2 : Int32) (hs : AH) (H : Heap) (locs : List Loc) (ls : Array Slot), f_X3_putWord_b2 n v0 v1 v2 hs = some q → Rl K s hs H locs → lv_has ls 3 [(0, .ref (kA K v0)), (1, .ref (kA K v1)), (2, .int v2)] → W p l e rm_X3_putWord s m args below meth c H locs 0 0 (MQ below (MQo K none q) args s 0 0 (kAx K)) (F0 m 2 ls []) := by
  have hx := C.1
  have hb := C.2.1
  intro n
  induction n with
  | zero =>
    intro v0 v1 v2 hs H locs ls hf
    cases hf
  | succ n ih =>
    intro v0 v1 v2 hs H locs ls hf hR hl
    rw [f_X3_putWord_b2.eq_2] at hf
    refine lv_iload_n hx hb dX3_putWord_2 rfl (lv_at hl 2 rfl) ?_
    refine lv_aload_n hx hb dX3_putWord_3 rfl (lv_at hl 1 rfl) ?_
    obtain ⟨u1, hu1, hf⟩ := ob hf
    obtain ⟨x2, hx2, hf⟩ := ob hf
    refine r_callV (As := []) (rest := [.int v2]) (st1 := [.int x2, .int v2]) C hR (lv_sub hl [] rfl) (c_J0_length_8abf5 hx2) mv_J0_length_8abf5 ml_X3_19 ⟨rfl, rfl, (Nat.le_of_ble_eq_true rfl), (Nat.le_of_ble_eq_true rfl)⟩ (rv_strS C hR hu1) rfl rfl rfl (Nat.le_of_ble_eq_true rfl) ⟨(Nat.le_of_ble_eq_true rfl), (Nat.le_of_ble_eq_true rfl)⟩ dX3_putWord_4 (fun H locs hR => ?_)
    refine lv_icmp_ge (tgt := 25) hx hb dX3_putWord_7 (by decide) (fun c7 => ?_) (fun c7 => ?_)
    · have hf := ip hf c7
      obtain rfl := Option.some.inj hf
      exact r_vret C hR (Nat.le_of_ble_eq_true rfl) (Nat.le_of_ble_eq_true rfl) dX3_putWord_25
    · have hf := iq hf c7
      refine lv_aload_n hx hb dX3_putWord_10 rfl (lv_at hl 0 rfl) ?_
      refine lv_aload_n hx hb dX3_putWord_11 rfl (lv_at hl 1 rfl) ?_
      refine lv_iload_n hx hb dX3_putWord_12 rfl (lv_at hl 2 rfl) ?_
      obtain ⟨u3, hu3, hf⟩ := ob hf
      obtain ⟨x4, hx4, hf⟩ := ob hf
      refine r_callV (As := [.int v2]) (rest := [.ref (kA K v0)]) (st1 := [.int x4, .ref (kA K v0)]) C hR (lv_sub hl [] rfl) (c_J0_charAt_5068e hx4) mv_J0_charAt_5068e ml_X3_25 ⟨rfl, rfl, (Nat.le_of_ble_eq_true rfl), (Nat.le_of_ble_eq_true rfl)⟩ (rv_strS C hR hu3) rfl rfl rfl (Nat.le_of_ble_eq_true rfl) ⟨(Nat.le_of_ble_eq_true rfl), (Nat.le_of_ble_eq_true rfl)⟩ dX3_putWord_13 (fun H locs hR => ?_)
      obtain ⟨u5, hu5, hf⟩ := ob hf
      obtain ⟨hs6, hhs6, hf⟩ := ob hf
      refine r_callV (As := [.int x4]) (rest := []) (st1 := []) C hR (lv_sub hl [] rfl) (c_X3_put hhs6) mv_X3_put ml_X3_29 ⟨rfl, rfl, (Nat.le_of_ble_eq_true rfl), (Nat.le_of_ble_eq_true rfl)⟩ (rv_obj C hR hu5 (q := (RX3, TX3, 2)) rfl) rfl rfl rfl (Nat.le_of_ble_eq_true rfl) ⟨(Nat.le_of_ble_eq_true rfl), (Nat.le_of_ble_eq_true rfl)⟩ dX3_putWord_16 (fun H locs hR => ?_)
      refine lv_iinc (v := v2 + 1) (lv' := [(2, .int (v2 + 1)), (0, .ref (kA K v0)), (1, .ref (kA K v1))]) hx hb dX3_putWord_19 hl (k := 2) rfl rfl (by decide) rfl (fun ls hl => ?_)
      refine lv_goto (tgt := 2) hx hb dX3_putWord_22 (by decide) ?_
      exact ih _ _ _ _ _ _ _ hf hR (lv_sub hl [1, 2, 0] rfl)
set_option maxHeartbeats 4000000 in
set_option maxRecDepth 100000 in
theorem w_X3_putWord_b0 {K : WK} {p : Program} {l : Launch} {e : Env} {s : State} {m : MethodId} {args : Array Value} {below : List Frame} {meth : Method} {c : Code} (C : Cx K p s m args meth c RX3 cX3_putWord 3 (Option.none : Option Jvm.ClassFile.FieldType)) {q : AH} : ∀ (v0 : Nat) (v1 : Nat) (hs : AH) (H : Heap) (locs : List Loc) (ls : Array Slot), f_X3_putWord v0 v1 hs = some q → Rl K s hs H locs → lv_has ls 3 [(0, .ref (kA K v0)), (1, .ref (kA K v1))] → W p l e rm_X3_putWord s m args below meth c H locs 0 0 (MQ below (MQo K none q) args s 0 0 (kAx K)) (F0 m 0 ls []) := by
  have hx := C.1
  have hb := C.2.1
  intro v0 v1 hs H locs ls hf hR hl
  rw [f_X3_putWord.eq_1] at hf
  refine lv_iconst (v := 0) hx hb dX3_putWord_0 (by decide) ?_
  refine lv_istore_n (lv' := [(2, .int 0), (0, .ref (kA K v0)), (1, .ref (kA K v1))]) hx hb dX3_putWord_1 rfl hl (by decide) rfl (fun ls hl => ?_)
  exact w_X3_putWord_b2 C  _ _ _ _ _ _ _ _ hf hR (lv_sub hl [1, 2, 0] rfl)
theorem c_X3_putWord {K : WK} {l : Launch} {hs : AH} {v0 : Nat} {v1 : Nat} {q : AH} (hf : f_X3_putWord v0 v1 hs = some q) : MC K l yX3_putWord cX3_putWord 3 (Option.none : Option Jvm.ClassFile.FieldType) rm_X3_putWord [.ref (kA K v0), .ref (kA K v1)] hs none q 0 0 :=
  MC.of (by decide +kernel) (Nat.le_of_ble_eq_true rfl) (fun p e s m args below meth c C _ hR ls hl => w_X3_putWord_b0 C _ _ hs _ _ ls hf hR hl)
noncomputable def f_X3_putNumber (v0 : Nat) (v1 : Int32) (hs : AH) : Option (AH) :=
  if v1 < 10 then
  (
   (f_J9_floorMod_7cf53 v1 10).bind fun x1 =>
   (chk hs v0 3).bind fun u2 =>
   (f_X3_put v0 (i2c (48 + x1)) hs).bind fun hs3 =>
   some hs3)
  else
  (
   (chk hs v0 3).bind fun u4 =>
   (f_X3_put v0 (i2c (48 + ((v1 / 10) - (v1 / 10) / 10 * 10))) hs).bind fun hs5 =>
   (f_J9_floorMod_7cf53 v1 10).bind fun x6 =>
   (chk hs5 v0 3).bind fun u7 =>
   (f_X3_put v0 (i2c (48 + x6)) hs5).bind fun hs8 =>
   some hs8)
abbrev rm_X3_putNumber : Room := { frames := 1, cells := 0, slots := 0, locals := 22 }
set_option maxHeartbeats 4000000 in
set_option maxRecDepth 100000 in
theorem w_X3_putNumber_b0 {K : WK} {p : Program} {l : Launch} {e : Env} {s : State} {m : MethodId} {args : Array Value} {below : List Frame} {meth : Method} {c : Code} (C : Cx K p s m args meth c RX3 cX3_putNumber 2 (Option.none : Option Jvm.ClassFile.FieldType)) {q : AH} : ∀ (v0 : Nat) (v1 : Int32) (hs : AH) (H : Heap) (locs : List Loc) (ls : Array Slot), f_X3_putNumber v0 v1 hs = some q → Rl K s hs H locs → lv_has ls 2 [(0, .ref (kA K v0)), (1, .int v1)] → W p l e rm_X3_putNumber s m args below meth c H locs 0 0 (MQ below (MQo K none q) args s 0 0 (kAx K)) (F0 m 0 ls []) := by
  have hx := C.1
  have hb := C.2.1
  intro v0 v1 hs H locs ls hf hR hl
  rw [f_X3_putNumber.eq_1] at hf
  refine lv_iload_n hx hb dX3_putNumber_0 rfl (lv_at hl 1 rfl) ?_
  refine lv_bipush (v := 10) hx hb dX3_putNumber_1 (by decide) ?_
  refine lv_icmp_lt (tgt := 21) hx hb dX3_putNumber_3 (by decide) (fun c3 => ?_) (fun c3 => ?_)
  · have hf := ip hf c3
    refine lv_aload_n hx hb dX3_putNumber_21 rfl (lv_at hl 0 rfl) ?_
    refine lv_bipush (v := 48) hx hb dX3_putNumber_22 (by decide) ?_
    refine lv_iload_n hx hb dX3_putNumber_24 rfl (lv_at hl 1 rfl) ?_
    refine lv_bipush (v := 10) hx hb dX3_putNumber_25 (by decide) ?_
    obtain ⟨x1, hx1, hf⟩ := ob hf
    refine r_callS (As := [.int v1, .int 10]) (rest := [.int 48, .ref (kA K v0)]) (st1 := [.int x1, .int 48, .ref (kA K v0)]) C hR (lv_sub hl [] rfl) (c_J9_floorMod_7cf53 hx1) ms_J9_floorMod_7cf53 ml_X3_33 ⟨rfl, rfl, (Nat.le_of_ble_eq_true rfl), (Nat.le_of_ble_eq_true rfl)⟩ rfl rfl rfl (Nat.le_of_ble_eq_true rfl) ⟨(Nat.le_of_ble_eq_true rfl), (Nat.le_of_ble_eq_true rfl)⟩ dX3_putNumber_27 (fun H locs hR => ?_)
    refine lv_iadd hx hb dX3_putNumber_30 ?_
    refine lv_i2c (v := (i2c (48 + x1))) hx hb dX3_putNumber_31 rfl ?_
    obtain ⟨u2, hu2, hf⟩ := ob hf
    obtain ⟨hs3, hhs3, hf⟩ := ob hf
    refine r_callV (As := [.int (i2c (48 + x1))]) (rest := []) (st1 := []) C hR (lv_sub hl [] rfl) (c_X3_put hhs3) mv_X3_put ml_X3_29 ⟨rfl, rfl, (Nat.le_of_ble_eq_true rfl), (Nat.le_of_ble_eq_true rfl)⟩ (rv_obj C hR hu2 (q := (RX3, TX3, 2)) rfl) rfl rfl rfl (Nat.le_of_ble_eq_true rfl) ⟨(Nat.le_of_ble_eq_true rfl), (Nat.le_of_ble_eq_true rfl)⟩ dX3_putNumber_32 (fun H locs hR => ?_)
    obtain rfl := Option.some.inj hf
    exact r_vret C hR (Nat.le_of_ble_eq_true rfl) (Nat.le_of_ble_eq_true rfl) dX3_putNumber_35
  · have hf := iq hf c3
    refine lv_aload_n hx hb dX3_putNumber_6 rfl (lv_at hl 0 rfl) ?_
    refine lv_bipush (v := 48) hx hb dX3_putNumber_7 (by decide) ?_
    refine lv_iload_n hx hb dX3_putNumber_9 rfl (lv_at hl 1 rfl) ?_
    refine lv_bipush (v := 10) hx hb dX3_putNumber_10 (by decide) ?_
    refine lv_idiv hx hb dX3_putNumber_12 (by decide) ?_
    refine lv_bipush (v := 10) hx hb dX3_putNumber_13 (by decide) ?_
    refine lv_irem hx hb dX3_putNumber_15 (by decide) ?_
    refine lv_iadd hx hb dX3_putNumber_16 ?_
    refine lv_i2c (v := (i2c (48 + ((v1 / 10) - (v1 / 10) / 10 * 10)))) hx hb dX3_putNumber_17 rfl ?_
    obtain ⟨u4, hu4, hf⟩ := ob hf
    obtain ⟨hs5, hhs5, hf⟩ := ob hf
    refine r_callV (As := [.int (i2c (48 + ((v1 / 10) - (v1 / 10) / 10 * 10)))]) (rest := []) (st1 := []) C hR (lv_sub hl [] rfl) (c_X3_put hhs5) mv_X3_put ml_X3_29 ⟨rfl, rfl, (Nat.le_of_ble_eq_true rfl), (Nat.le_of_ble_eq_true rfl)⟩ (rv_obj C hR hu4 (q := (RX3, TX3, 2)) rfl) rfl rfl rfl (Nat.le_of_ble_eq_true rfl) ⟨(Nat.le_of_ble_eq_true rfl), (Nat.le_of_ble_eq_true rfl)⟩ dX3_putNumber_18 (fun H locs hR => ?_)
    refine lv_aload_n hx hb dX3_putNumber_21 rfl (lv_at hl 0 rfl) ?_
    refine lv_bipush (v := 48) hx hb dX3_putNumber_22 (by decide) ?_
    refine lv_iload_n hx hb dX3_putNumber_24 rfl (lv_at hl 1 rfl) ?_
    refine lv_bipush (v := 10) hx hb dX3_putNumber_25 (by decide) ?_
    obtain ⟨x6, hx6, hf⟩ := ob hf
    refine r_callS (As := [.int v1, .int 10]) (rest := [.int 48, .ref (kA K v0)]) (st1 := [.int x6, .int 48, .ref (kA K v0)]) C hR (lv_sub hl [] rfl) (c_J9_floorMod_7cf53 hx6) ms_J9_floorMod_7cf53 ml_X3_33 ⟨rfl, rfl, (Nat.le_of_ble_eq_true rfl), (Nat.le_of_ble_eq_true rfl)⟩ rfl rfl rfl (Nat.le_of_ble_eq_true rfl) ⟨(Nat.le_of_ble_eq_true rfl), (Nat.le_of_ble_eq_true rfl)⟩ dX3_putNumber_27 (fun H locs hR => ?_)
    refine lv_iadd hx hb dX3_putNumber_30 ?_
    refine lv_i2c (v := (i2c (48 + x6))) hx hb dX3_putNumber_31 rfl ?_
    obtain ⟨u7, hu7, hf⟩ := ob hf
    obtain ⟨hs8, hhs8, hf⟩ := ob hf
    refine r_callV (As := [.int (i2c (48 + x6))]) (rest := []) (st1 := []) C hR (lv_sub hl [] rfl) (c_X3_put hhs8) mv_X3_put ml_X3_29 ⟨rfl, rfl, (Nat.le_of_ble_eq_true rfl), (Nat.le_of_ble_eq_true rfl)⟩ (rv_obj C hR hu7 (q := (RX3, TX3, 2)) rfl) rfl rfl rfl (Nat.le_of_ble_eq_true rfl) ⟨(Nat.le_of_ble_eq_true rfl), (Nat.le_of_ble_eq_true rfl)⟩ dX3_putNumber_32 (fun H locs hR => ?_)
    obtain rfl := Option.some.inj hf
    exact r_vret C hR (Nat.le_of_ble_eq_true rfl) (Nat.le_of_ble_eq_true rfl) dX3_putNumber_35
theorem c_X3_putNumber {K : WK} {l : Launch} {hs : AH} {v0 : Nat} {v1 : Int32} {q : AH} (hf : f_X3_putNumber v0 v1 hs = some q) : MC K l yX3_putNumber cX3_putNumber 2 (Option.none : Option Jvm.ClassFile.FieldType) rm_X3_putNumber [.ref (kA K v0), .int v1] hs none q 0 0 :=
  MC.of (by decide +kernel) (Nat.le_of_ble_eq_true rfl) (fun p e s m args below meth c C _ hR ls hl => w_X3_putNumber_b0 C _ _ hs _ _ ls hf hR hl)
noncomputable def f_X8_stepOf (v0 : Int32) : Option (Int32) :=
  some (v0 / 3)
abbrev rm_X8_stepOf : Room := { frames := 0, cells := 0, slots := 0, locals := 0 }
set_option maxHeartbeats 4000000 in
set_option maxRecDepth 100000 in
theorem w_X8_stepOf_b0 {K : WK} {p : Program} {l : Launch} {e : Env} {s : State} {m : MethodId} {args : Array Value} {below : List Frame} {meth : Method} {c : Code} (C : Cx K p s m args meth c RX8 cX8_stepOf 1 (Option.some Jvm.ClassFile.FieldType.int)) {q : Int32} : ∀ (v0 : Int32) (hs : AH) (H : Heap) (locs : List Loc) (ls : Array Slot), f_X8_stepOf v0 = some q → Rl K s hs H locs → lv_has ls 1 [(0, .int v0)] → W p l e rm_X8_stepOf s m args below meth c H locs 0 0 (MQ below (MQo K (some (.int q)) hs) args s 0 0 (kAx K)) (F0 m 0 ls []) := by
  have hx := C.1
  have hb := C.2.1
  intro v0 hs H locs ls hf hR hl
  rw [f_X8_stepOf.eq_1] at hf
  refine lv_iload_n hx hb dX8_stepOf_0 rfl (lv_at hl 0 rfl) ?_
  refine lv_iconst (v := 3) hx hb dX8_stepOf_1 (by decide) ?_
  refine lv_idiv hx hb dX8_stepOf_2 (by decide) ?_
  obtain rfl := Option.some.inj hf
  exact r_iret C hR rfl (Nat.le_of_ble_eq_true rfl) (Nat.le_of_ble_eq_true rfl) dX8_stepOf_3
theorem c_X8_stepOf {K : WK} {l : Launch} {hs : AH} {v0 : Int32} {q : Int32} (hf : f_X8_stepOf v0 = some q) : MC K l yX8_stepOf cX8_stepOf 1 (Option.some Jvm.ClassFile.FieldType.int) rm_X8_stepOf [.int v0] hs (some (.int q)) hs 0 0 :=
  MC.of (by decide +kernel) (Nat.le_of_ble_eq_true rfl) (fun p e s m args below meth c C _ hR ls hl => w_X8_stepOf_b0 C _ hs _ _ ls hf hR hl)
noncomputable def f_X8_alterationOf (v0 : Int32) : Option (Int32) :=
  some ((v0 - v0 / 3 * 3) - 1)
abbrev rm_X8_alterationOf : Room := { frames := 0, cells := 0, slots := 0, locals := 0 }
set_option maxHeartbeats 4000000 in
set_option maxRecDepth 100000 in
theorem w_X8_alterationOf_b0 {K : WK} {p : Program} {l : Launch} {e : Env} {s : State} {m : MethodId} {args : Array Value} {below : List Frame} {meth : Method} {c : Code} (C : Cx K p s m args meth c RX8 cX8_alterationOf 1 (Option.some Jvm.ClassFile.FieldType.int)) {q : Int32} : ∀ (v0 : Int32) (hs : AH) (H : Heap) (locs : List Loc) (ls : Array Slot), f_X8_alterationOf v0 = some q → Rl K s hs H locs → lv_has ls 1 [(0, .int v0)] → W p l e rm_X8_alterationOf s m args below meth c H locs 0 0 (MQ below (MQo K (some (.int q)) hs) args s 0 0 (kAx K)) (F0 m 0 ls []) := by
  have hx := C.1
  have hb := C.2.1
  intro v0 hs H locs ls hf hR hl
  rw [f_X8_alterationOf.eq_1] at hf
  refine lv_iload_n hx hb dX8_alterationOf_0 rfl (lv_at hl 0 rfl) ?_
  refine lv_iconst (v := 3) hx hb dX8_alterationOf_1 (by decide) ?_
  refine lv_irem hx hb dX8_alterationOf_2 (by decide) ?_
  refine lv_iconst (v := 1) hx hb dX8_alterationOf_3 (by decide) ?_
  refine lv_isub hx hb dX8_alterationOf_4 ?_
  obtain rfl := Option.some.inj hf
  exact r_iret C hR rfl (Nat.le_of_ble_eq_true rfl) (Nat.le_of_ble_eq_true rfl) dX8_alterationOf_5
theorem c_X8_alterationOf {K : WK} {l : Launch} {hs : AH} {v0 : Int32} {q : Int32} (hf : f_X8_alterationOf v0 = some q) : MC K l yX8_alterationOf cX8_alterationOf 1 (Option.some Jvm.ClassFile.FieldType.int) rm_X8_alterationOf [.int v0] hs (some (.int q)) hs 0 0 :=
  MC.of (by decide +kernel) (Nat.le_of_ble_eq_true rfl) (fun p e s m args below meth c C _ hR ls hl => w_X8_alterationOf_b0 C _ hs _ _ ls hf hR hl)
noncomputable def f_X3_putNote_b54 (v0 : Nat) (v2 : Int32) (t0 : Nat) (t1 : Int32) (hs : AH) : Option (AH) :=
  (chk hs t0 3).bind fun u1 =>
  (f_X3_put t0 t1 hs).bind fun hs2 =>
  (chk hs2 v0 3).bind fun u3 =>
  (f_X3_put v0 (i2c (48 + (v2 / 7))) hs2).bind fun hs4 =>
  some hs4
noncomputable def f_X3_putNote (v0 : Nat) (v1 : Int32) (hs : AH) : Option (AH) :=
  if v1 = (-1) then
  (
   (chk hs v0 3).bind fun u11 =>
   (f_X3_put v0 45 hs).bind fun hs12 =>
   some hs12)
  else
  (
   (f_X8_stepOf v1).bind fun x1 =>
   (f_J9_floorMod_7cf53 x1 7).bind fun x2 =>
   (chkS (SBn + 16)).bind fun u3 =>
   (f_J0_charAt_5068e (SBn + 16) x2).bind fun x4 =>
   (chk hs v0 3).bind fun u5 =>
   (f_X3_put v0 x4 hs).bind fun hs6 =>
   (f_X8_alterationOf v1).bind fun x7 =>
   if x7 = 0 then
   (
    (chk hs6 v0 3).bind fun u8 =>
    (f_X3_put v0 (i2c (48 + (x1 / 7))) hs6).bind fun hs9 =>
    some hs9)
   else
   (
    (f_X8_alterationOf v1).bind fun x10 =>
    if x10 ≤ 0 then
    (
     f_X3_putNote_b54 v0 x1 v0 98 hs6)
    else
    (
     f_X3_putNote_b54 v0 x1 v0 35 hs6)))
abbrev rm_X3_putNote : Room := { frames := 4, cells := 0, slots := 0, locals := 85 }
set_option maxHeartbeats 4000000 in
set_option maxRecDepth 100000 in
theorem w_X3_putNote_b54 {K : WK} {p : Program} {l : Launch} {e : Env} {s : State} {m : MethodId} {args : Array Value} {below : List Frame} {meth : Method} {c : Code} (C : Cx K p s m args meth c RX3 cX3_putNote 3 (Option.none : Option Jvm.ClassFile.FieldType)) {q : AH} : ∀ (v0 : Nat) (v2 : Int32) (t0 : Nat) (t1 : Int32) (hs : AH) (H : Heap) (locs : List Loc) (ls : Array Slot), f_X3_putNote_b54 v0 v2 t0 t1 hs = some q → Rl K s hs H locs → lv_has ls 3 [(0, .ref (kA K v0)), (2, .int v2)] → W p l e rm_X3_putNote s m args below meth c H locs 0 0 (MQ below (MQo K none q) args s 0 0 (kAx K)) (F0 m 54 ls [.int t1, .ref (kA K t0)]) := by
  have hx := C.1
  have hb := C.2.1
  intro v0 v2 t0 t1 hs H locs ls hf hR hl
  rw [f_X3_putNote_b54.eq_1] at hf
  obtain ⟨u1, hu1, hf⟩ := ob hf
  obtain ⟨hs2, hhs2, hf⟩ := ob hf
  refine r_callV (As := [.int t1]) (rest := []) (st1 := []) C hR (lv_sub hl [] rfl) (c_X3_put hhs2) mv_X3_put ml_X3_29 ⟨rfl, rfl, (Nat.le_of_ble_eq_true rfl), (Nat.le_of_ble_eq_true rfl)⟩ (rv_obj C hR hu1 (q := (RX3, TX3, 2)) rfl) rfl rfl rfl (Nat.le_of_ble_eq_true rfl) ⟨(Nat.le_of_ble_eq_true rfl), (Nat.le_of_ble_eq_true rfl)⟩ dX3_putNote_54 (fun H locs hR => ?_)
  refine lv_aload_n hx hb dX3_putNote_57 rfl (lv_at hl 0 rfl) ?_
  refine lv_bipush (v := 48) hx hb dX3_putNote_58 (by decide) ?_
  refine lv_iload_n hx hb dX3_putNote_60 rfl (lv_at hl 1 rfl) ?_
  refine lv_bipush (v := 7) hx hb dX3_putNote_61 (by decide) ?_
  refine lv_idiv hx hb dX3_putNote_63 (by decide) ?_
  refine lv_iadd hx hb dX3_putNote_64 ?_
  refine lv_i2c (v := (i2c (48 + (v2 / 7)))) hx hb dX3_putNote_65 rfl ?_
  obtain ⟨u3, hu3, hf⟩ := ob hf
  obtain ⟨hs4, hhs4, hf⟩ := ob hf
  refine r_callV (As := [.int (i2c (48 + (v2 / 7)))]) (rest := []) (st1 := []) C hR (lv_sub hl [] rfl) (c_X3_put hhs4) mv_X3_put ml_X3_29 ⟨rfl, rfl, (Nat.le_of_ble_eq_true rfl), (Nat.le_of_ble_eq_true rfl)⟩ (rv_obj C hR hu3 (q := (RX3, TX3, 2)) rfl) rfl rfl rfl (Nat.le_of_ble_eq_true rfl) ⟨(Nat.le_of_ble_eq_true rfl), (Nat.le_of_ble_eq_true rfl)⟩ dX3_putNote_66 (fun H locs hR => ?_)
  obtain rfl := Option.some.inj hf
  exact r_vret C hR (Nat.le_of_ble_eq_true rfl) (Nat.le_of_ble_eq_true rfl) dX3_putNote_69
set_option maxHeartbeats 4000000 in
set_option maxRecDepth 100000 in
theorem w_X3_putNote_b0 {K : WK} {p : Program} {l : Launch} {e : Env} {s : State} {m : MethodId} {args : Array Value} {below : List Frame} {meth : Method} {c : Code} (C : Cx K p s m args meth c RX3 cX3_putNote 3 (Option.none : Option Jvm.ClassFile.FieldType)) {q : AH} : ∀ (v0 : Nat) (v1 : Int32) (hs : AH) (H : Heap) (locs : List Loc) (ls : Array Slot), f_X3_putNote v0 v1 hs = some q → Rl K s hs H locs → lv_has ls 3 [(0, .ref (kA K v0)), (1, .int v1)] → W p l e rm_X3_putNote s m args below meth c H locs 0 0 (MQ below (MQo K none q) args s 0 0 (kAx K)) (F0 m 0 ls []) := by
  have hx := C.1
  have hb := C.2.1
  intro v0 v1 hs H locs ls hf hR hl
  rw [f_X3_putNote.eq_1] at hf
  refine lv_iload_n hx hb dX3_putNote_0 rfl (lv_at hl 1 rfl) ?_
  refine lv_iconst (v := (-1)) hx hb dX3_putNote_1 (by decide) ?_
  refine lv_icmp_ne (tgt := 12) hx hb dX3_putNote_2 (by decide) (fun c2 => ?_) (fun c2 => ?_)
  · have hf := iq hf c2
    refine lv_iload_n hx hb dX3_putNote_12 rfl (lv_at hl 1 rfl) ?_
    obtain ⟨x1, hx1, hf⟩ := ob hf
    refine r_callSN (As := [.int v1]) (rest := []) (st1 := [.int x1]) C hR (lv_sub hl [] rfl) (c_X8_stepOf hx1) ms_X8_stepOf mx_X3_51 ⟨rfl, rfl, (Nat.le_of_ble_eq_true rfl), (Nat.le_of_ble_eq_true rfl)⟩ rfl rfl rfl (Nat.le_of_ble_eq_true rfl) ⟨(Nat.le_of_ble_eq_true rfl), (Nat.le_of_ble_eq_true rfl)⟩ dX3_putNote_13 (fun H locs hR => ?_)
    refine lv_istore_n (lv' := [(2, .int x1), (0, .ref (kA K v0)), (1, .int v1)]) hx hb dX3_putNote_16 rfl hl (by decide) rfl (fun ls hl => ?_)
    refine lv_aload_n hx hb dX3_putNote_17 rfl (lv_at hl 1 rfl) ?_
    refine r_ldcS C (i := 16) rfl dX3_putNote_18 ?_
    refine lv_iload_n hx hb dX3_putNote_20 rfl (lv_at hl 0 rfl) ?_
    refine lv_bipush (v := 7) hx hb dX3_putNote_21 (by decide) ?_
    obtain ⟨x2, hx2, hf⟩ := ob hf
    refine r_callS (As := [.int x1, .int 7]) (rest := [.ref (kA K (SBn + 16)), .ref (kA K v0)]) (st1 := [.int x2, .ref (kA K (SBn + 16)), .ref (kA K v0)]) C hR (lv_sub hl [] rfl) (c_J9_floorMod_7cf53 hx2) ms_J9_floorMod_7cf53 ml_X3_33 ⟨rfl, rfl, (Nat.le_of_ble_eq_true rfl), (Nat.le_of_ble_eq_true rfl)⟩ rfl rfl rfl (Nat.le_of_ble_eq_true rfl) ⟨(Nat.le_of_ble_eq_true rfl), (Nat.le_of_ble_eq_true rfl)⟩ dX3_putNote_23 (fun H locs hR => ?_)
    obtain ⟨u3, hu3, hf⟩ := ob hf
    obtain ⟨x4, hx4, hf⟩ := ob hf
    refine r_callV (As := [.int x2]) (rest := [.ref (kA K v0)]) (st1 := [.int x4, .ref (kA K v0)]) C hR (lv_sub hl [] rfl) (c_J0_charAt_5068e hx4) mv_J0_charAt_5068e ml_X3_25 ⟨rfl, rfl, (Nat.le_of_ble_eq_true rfl), (Nat.le_of_ble_eq_true rfl)⟩ (rv_strS C hR hu3) rfl rfl rfl (Nat.le_of_ble_eq_true rfl) ⟨(Nat.le_of_ble_eq_true rfl), (Nat.le_of_ble_eq_true rfl)⟩ dX3_putNote_26 (fun H locs hR => ?_)
    obtain ⟨u5, hu5, hf⟩ := ob hf
    obtain ⟨hs6, hhs6, hf⟩ := ob hf
    refine r_callV (As := [.int x4]) (rest := []) (st1 := []) C hR (lv_sub hl [] rfl) (c_X3_put hhs6) mv_X3_put ml_X3_29 ⟨rfl, rfl, (Nat.le_of_ble_eq_true rfl), (Nat.le_of_ble_eq_true rfl)⟩ (rv_obj C hR hu5 (q := (RX3, TX3, 2)) rfl) rfl rfl rfl (Nat.le_of_ble_eq_true rfl) ⟨(Nat.le_of_ble_eq_true rfl), (Nat.le_of_ble_eq_true rfl)⟩ dX3_putNote_29 (fun H locs hR => ?_)
    refine lv_iload_n hx hb dX3_putNote_32 rfl (lv_at hl 2 rfl) ?_
    obtain ⟨x7, hx7, hf⟩ := ob hf
    refine r_callSN (As := [.int v1]) (rest := []) (st1 := [.int x7]) C hR (lv_sub hl [] rfl) (c_X8_alterationOf hx7) ms_X8_alterationOf mx_X3_56 ⟨rfl, rfl, (Nat.le_of_ble_eq_true rfl), (Nat.le_of_ble_eq_true rfl)⟩ rfl rfl rfl (Nat.le_of_ble_eq_true rfl) ⟨(Nat.le_of_ble_eq_true rfl), (Nat.le_of_ble_eq_true rfl)⟩ dX3_putNote_33 (fun H locs hR => ?_)
    refine lv_if_eq (tgt := 57) hx hb dX3_putNote_36 (by decide) (fun c36 => ?_) (fun c36 => ?_)
    · have hf := ip hf c36
      refine lv_aload_n hx hb dX3_putNote_57 rfl (lv_at hl 1 rfl) ?_
      refine lv_bipush (v := 48) hx hb dX3_putNote_58 (by decide) ?_
      refine lv_iload_n hx hb dX3_putNote_60 rfl (lv_at hl 0 rfl) ?_
      refine lv_bipush (v := 7) hx hb dX3_putNote_61 (by decide) ?_
      refine lv_idiv hx hb dX3_putNote_63 (by decide) ?_
      refine lv_iadd hx hb dX3_putNote_64 ?_
      refine lv_i2c (v := (i2c (48 + (x1 / 7)))) hx hb dX3_putNote_65 rfl ?_
      obtain ⟨u8, hu8, hf⟩ := ob hf
      obtain ⟨hs9, hhs9, hf⟩ := ob hf
      refine r_callV (As := [.int (i2c (48 + (x1 / 7)))]) (rest := []) (st1 := []) C hR (lv_sub hl [] rfl) (c_X3_put hhs9) mv_X3_put ml_X3_29 ⟨rfl, rfl, (Nat.le_of_ble_eq_true rfl), (Nat.le_of_ble_eq_true rfl)⟩ (rv_obj C hR hu8 (q := (RX3, TX3, 2)) rfl) rfl rfl rfl (Nat.le_of_ble_eq_true rfl) ⟨(Nat.le_of_ble_eq_true rfl), (Nat.le_of_ble_eq_true rfl)⟩ dX3_putNote_66 (fun H locs hR => ?_)
      obtain rfl := Option.some.inj hf
      exact r_vret C hR (Nat.le_of_ble_eq_true rfl) (Nat.le_of_ble_eq_true rfl) dX3_putNote_69
    · have hf := iq hf c36
      refine lv_aload_n hx hb dX3_putNote_39 rfl (lv_at hl 1 rfl) ?_
      refine lv_iload_n hx hb dX3_putNote_40 rfl (lv_at hl 2 rfl) ?_
      obtain ⟨x10, hx10, hf⟩ := ob hf
      refine r_callSN (As := [.int v1]) (rest := [.ref (kA K v0)]) (st1 := [.int x10, .ref (kA K v0)]) C hR (lv_sub hl [] rfl) (c_X8_alterationOf hx10) ms_X8_alterationOf mx_X3_56 ⟨rfl, rfl, (Nat.le_of_ble_eq_true rfl), (Nat.le_of_ble_eq_true rfl)⟩ rfl rfl rfl (Nat.le_of_ble_eq_true rfl) ⟨(Nat.le_of_ble_eq_true rfl), (Nat.le_of_ble_eq_true rfl)⟩ dX3_putNote_41 (fun H locs hR => ?_)
      refine lv_if_le (tgt := 52) hx hb dX3_putNote_44 (by decide) (fun c44 => ?_) (fun c44 => ?_)
      · have hf := ip hf c44
        refine lv_bipush (v := 98) hx hb dX3_putNote_52 (by decide) ?_
        exact w_X3_putNote_b54 C  _ _ _ _ _ _ _ _ hf hR (lv_sub hl [1, 0] rfl)
      · have hf := iq hf c44
        refine lv_bipush (v := 35) hx hb dX3_putNote_47 (by decide) ?_
        refine lv_goto (tgt := 54) hx hb dX3_putNote_49 (by decide) ?_
        exact w_X3_putNote_b54 C  _ _ _ _ _ _ _ _ hf hR (lv_sub hl [1, 0] rfl)
  · have hf := ip hf c2
    refine lv_aload_n hx hb dX3_putNote_5 rfl (lv_at hl 0 rfl) ?_
    refine lv_bipush (v := 45) hx hb dX3_putNote_6 (by decide) ?_
    obtain ⟨u11, hu11, hf⟩ := ob hf
    obtain ⟨hs12, hhs12, hf⟩ := ob hf
    refine r_callV (As := [.int 45]) (rest := []) (st1 := []) C hR (lv_sub hl [] rfl) (c_X3_put hhs12) mv_X3_put ml_X3_29 ⟨rfl, rfl, (Nat.le_of_ble_eq_true rfl), (Nat.le_of_ble_eq_true rfl)⟩ (rv_obj C hR hu11 (q := (RX3, TX3, 2)) rfl) rfl rfl rfl (Nat.le_of_ble_eq_true rfl) ⟨(Nat.le_of_ble_eq_true rfl), (Nat.le_of_ble_eq_true rfl)⟩ dX3_putNote_8 (fun H locs hR => ?_)
    obtain rfl := Option.some.inj hf
    exact r_vret C hR (Nat.le_of_ble_eq_true rfl) (Nat.le_of_ble_eq_true rfl) dX3_putNote_11
theorem c_X3_putNote {K : WK} {l : Launch} {hs : AH} {v0 : Nat} {v1 : Int32} {q : AH} (hf : f_X3_putNote v0 v1 hs = some q) : MC K l yX3_putNote cX3_putNote 3 (Option.none : Option Jvm.ClassFile.FieldType) rm_X3_putNote [.ref (kA K v0), .int v1] hs none q 0 0 :=
  MC.of (by decide +kernel) (Nat.le_of_ble_eq_true rfl) (fun p e s m args below meth c C _ hR ls hl => w_X3_putNote_b0 C _ _ hs _ _ ls hf hR hl)
noncomputable def f_X3_putLine_b2 : Nat → Nat → Nat → Int32 → AH → Option (AH)
  | 0, _, _, _, _ => none
  | n + 1, v0, v1, v2, hs =>
  (chk hs v1 2).bind fun u1 =>
  (f_X2_size v1 hs).bind fun x2 =>
  if x2 ≤ v2 then
  (
   some hs)
  else
  (
   if v2 ≤ 0 then
   (
    (chk hs v1 2).bind fun u3 =>
    (f_X2_at v1 v2 hs).bind fun x4 =>
    (chk hs v0 3).bind fun u5 =>
    (f_X3_putNote v0 x4 hs).bind fun hs6 =>
    f_X3_putLine_b2 n v0 v1 (v2 + 1) hs6)
   else
   (
    (chk hs v0 3).bind fun u7 =>
    (f_X3_put v0 44 hs).bind fun hs8 =>
    (chk hs8 v1 2).bind fun u9 =>
    (f_X2_at v1 v2 hs8).bind fun x10 =>
    (chk hs8 v0 3).bind fun u11 =>
    (f_X3_putNote v0 x10 hs8).bind fun hs12 =>
    f_X3_putLine_b2 n v0 v1 (v2 + 1) hs12))
noncomputable def f_X3_putLine (v0 : Nat) (v1 : Nat) (hs : AH) : Option (AH) :=
  f_X3_putLine_b2 FUEL v0 v1 0 hs
abbrev rm_X3_putLine : Room := { frames := 5, cells := 0, slots := 0, locals := 107 }
set_option maxHeartbeats 4000000 in
set_option maxRecDepth 100000 in
theorem w_X3_putLine_b2 {K : WK} {p : Program} {l : Launch} {e : Env} {s : State} {m : MethodId} {args : Array Value} {below : List Frame} {meth : Method} {c : Code} (C : Cx K p s m args meth c RX3 cX3_putLine 3 (Option.none : Option Jvm.ClassFile.FieldType)) {q : AH} : ∀ (n : Nat) (v0 : Nat) (v1 : Nat) (v2 : Int32) (hs : AH) (H : Heap) (locs : List Loc) (ls : Array Slot), f_X3_putLine_b2 n v0 v1 v2 hs = some q → Rl K s hs H locs → lv_has ls 3 [(0, .ref (kA K v0)), (1, .ref (kA K v1)), (2, .int v2)] → W p l e rm_X3_putLine s m args below meth c H locs 0 0 (MQ below (MQo K none q) args s 0 0 (kAx K)) (F0 m 2 ls []) := by
  have hx := C.1
  have hb := C.2.1
  intro n
  induction n with
  | zero =>
    intro v0 v1 v2 hs H locs ls hf
    cases hf
  | succ n ih =>
    intro v0 v1 v2 hs H locs ls hf hR hl
    rw [f_X3_putLine_b2.eq_2] at hf
    refine lv_iload_n hx hb dX3_putLine_2 rfl (lv_at hl 2 rfl) ?_
    refine lv_aload_n hx hb dX3_putLine_3 rfl (lv_at hl 1 rfl) ?_
    obtain ⟨u1, hu1, hf⟩ := ob hf
    obtain ⟨x2, hx2, hf⟩ := ob hf
    refine r_callV (As := []) (rest := [.int v2]) (st1 := [.int x2, .int v2]) C hR (lv_sub hl [] rfl) (c_X2_size hx2) mv_X2_size ml_X3_39 ⟨rfl, rfl, (Nat.le_of_ble_eq_true rfl), (Nat.le_of_ble_eq_true rfl)⟩ (rv_obj C hR hu1 (q := (RX2, TX2, 2)) rfl) rfl rfl rfl (Nat.le_of_ble_eq_true rfl) ⟨(Nat.le_of_ble_eq_true rfl), (Nat.le_of_ble_eq_true rfl)⟩ dX3_putLine_4 (fun H locs hR => ?_)
    refine lv_icmp_ge (tgt := 35) hx hb dX3_putLine_7 (by decide) (fun c7 => ?_) (fun c7 => ?_)
    · have hf := ip hf c7
      obtain rfl := Option.some.inj hf
      exact r_vret C hR (Nat.le_of_ble_eq_true rfl) (Nat.le_of_ble_eq_true rfl) dX3_putLine_35
    · have hf := iq hf c7
      refine lv_iload_n hx hb dX3_putLine_10 rfl (lv_at hl 2 rfl) ?_
      refine lv_if_le (tgt := 20) hx hb dX3_putLine_11 (by decide) (fun c11 => ?_) (fun c11 => ?_)
      · have hf := ip hf c11
        refine lv_aload_n hx hb dX3_putLine_20 rfl (lv_at hl 0 rfl) ?_
        refine lv_aload_n hx hb dX3_putLine_21 rfl (lv_at hl 1 rfl) ?_
        refine lv_iload_n hx hb dX3_putLine_22 rfl (lv_at hl 2 rfl) ?_
        obtain ⟨u3, hu3, hf⟩ := ob hf
        obtain ⟨x4, hx4, hf⟩ := ob hf
        refine r_callV (As := [.int v2]) (rest := [.ref (kA K v0)]) (st1 := [.int x4, .ref (kA K v0)]) C hR (lv_sub hl [] rfl) (c_X2_at hx4) mv_X2_at ml_X3_43 ⟨rfl, rfl, (Nat.le_of_ble_eq_true rfl), (Nat.le_of_ble_eq_true rfl)⟩ (rv_obj C hR hu3 (q := (RX2, TX2, 2)) rfl) rfl rfl rfl (Nat.le_of_ble_eq_true rfl) ⟨(Nat.le_of_ble_eq_true rfl), (Nat.le_of_ble_eq_true rfl)⟩ dX3_putLine_23 (fun H locs hR => ?_)
        obtain ⟨u5, hu5, hf⟩ := ob hf
        obtain ⟨hs6, hhs6, hf⟩ := ob hf
        refine r_callV (As := [.int x4]) (rest := []) (st1 := []) C hR (lv_sub hl [] rfl) (c_X3_putNote hhs6) mv_X3_putNote ml_X3_47 ⟨rfl, rfl, (Nat.le_of_ble_eq_true rfl), (Nat.le_of_ble_eq_true rfl)⟩ (rv_obj C hR hu5 (q := (RX3, TX3, 2)) rfl) rfl rfl rfl (Nat.le_of_ble_eq_true rfl) ⟨(Nat.le_of_ble_eq_true rfl), (Nat.le_of_ble_eq_true rfl)⟩ dX3_putLine_26 (fun H locs hR => ?_)
        refine lv_iinc (v := v2 + 1) (lv' := [(2, .int (v2 + 1)), (0, .ref (kA K v0)), (1, .ref (kA K v1))]) hx hb dX3_putLine_29 hl (k := 2) rfl rfl (by decide) rfl (fun ls hl => ?_)
        refine lv_goto (tgt := 2) hx hb dX3_putLine_32 (by decide) ?_
        exact ih _ _ _ _ _ _ _ hf hR (lv_sub hl [1, 2, 0] rfl)
      · have hf := iq hf c11
        refine lv_aload_n hx hb dX3_putLine_14 rfl (lv_at hl 0 rfl) ?_
        refine lv_bipush (v := 44) hx hb dX3_putLine_15 (by decide) ?_
        obtain ⟨u7, hu7, hf⟩ := ob hf
        obtain ⟨hs8, hhs8, hf⟩ := ob hf
        refine r_callV (As := [.int 44]) (rest := []) (st1 := []) C hR (lv_sub hl [] rfl) (c_X3_put hhs8) mv_X3_put ml_X3_29 ⟨rfl, rfl, (Nat.le_of_ble_eq_true rfl), (Nat.le_of_ble_eq_true rfl)⟩ (rv_obj C hR hu7 (q := (RX3, TX3, 2)) rfl) rfl rfl rfl (Nat.le_of_ble_eq_true rfl) ⟨(Nat.le_of_ble_eq_true rfl), (Nat.le_of_ble_eq_true rfl)⟩ dX3_putLine_17 (fun H locs hR => ?_)
        refine lv_aload_n hx hb dX3_putLine_20 rfl (lv_at hl 0 rfl) ?_
        refine lv_aload_n hx hb dX3_putLine_21 rfl (lv_at hl 1 rfl) ?_
        refine lv_iload_n hx hb dX3_putLine_22 rfl (lv_at hl 2 rfl) ?_
        obtain ⟨u9, hu9, hf⟩ := ob hf
        obtain ⟨x10, hx10, hf⟩ := ob hf
        refine r_callV (As := [.int v2]) (rest := [.ref (kA K v0)]) (st1 := [.int x10, .ref (kA K v0)]) C hR (lv_sub hl [] rfl) (c_X2_at hx10) mv_X2_at ml_X3_43 ⟨rfl, rfl, (Nat.le_of_ble_eq_true rfl), (Nat.le_of_ble_eq_true rfl)⟩ (rv_obj C hR hu9 (q := (RX2, TX2, 2)) rfl) rfl rfl rfl (Nat.le_of_ble_eq_true rfl) ⟨(Nat.le_of_ble_eq_true rfl), (Nat.le_of_ble_eq_true rfl)⟩ dX3_putLine_23 (fun H locs hR => ?_)
        obtain ⟨u11, hu11, hf⟩ := ob hf
        obtain ⟨hs12, hhs12, hf⟩ := ob hf
        refine r_callV (As := [.int x10]) (rest := []) (st1 := []) C hR (lv_sub hl [] rfl) (c_X3_putNote hhs12) mv_X3_putNote ml_X3_47 ⟨rfl, rfl, (Nat.le_of_ble_eq_true rfl), (Nat.le_of_ble_eq_true rfl)⟩ (rv_obj C hR hu11 (q := (RX3, TX3, 2)) rfl) rfl rfl rfl (Nat.le_of_ble_eq_true rfl) ⟨(Nat.le_of_ble_eq_true rfl), (Nat.le_of_ble_eq_true rfl)⟩ dX3_putLine_26 (fun H locs hR => ?_)
        refine lv_iinc (v := v2 + 1) (lv' := [(2, .int (v2 + 1)), (0, .ref (kA K v0)), (1, .ref (kA K v1))]) hx hb dX3_putLine_29 hl (k := 2) rfl rfl (by decide) rfl (fun ls hl => ?_)
        refine lv_goto (tgt := 2) hx hb dX3_putLine_32 (by decide) ?_
        exact ih _ _ _ _ _ _ _ hf hR (lv_sub hl [1, 2, 0] rfl)
set_option maxHeartbeats 4000000 in
set_option maxRecDepth 100000 in
theorem w_X3_putLine_b0 {K : WK} {p : Program} {l : Launch} {e : Env} {s : State} {m : MethodId} {args : Array Value} {below : List Frame} {meth : Method} {c : Code} (C : Cx K p s m args meth c RX3 cX3_putLine 3 (Option.none : Option Jvm.ClassFile.FieldType)) {q : AH} : ∀ (v0 : Nat) (v1 : Nat) (hs : AH) (H : Heap) (locs : List Loc) (ls : Array Slot), f_X3_putLine v0 v1 hs = some q → Rl K s hs H locs → lv_has ls 3 [(0, .ref (kA K v0)), (1, .ref (kA K v1))] → W p l e rm_X3_putLine s m args below meth c H locs 0 0 (MQ below (MQo K none q) args s 0 0 (kAx K)) (F0 m 0 ls []) := by
  have hx := C.1
  have hb := C.2.1
  intro v0 v1 hs H locs ls hf hR hl
  rw [f_X3_putLine.eq_1] at hf
  refine lv_iconst (v := 0) hx hb dX3_putLine_0 (by decide) ?_
  refine lv_istore_n (lv' := [(2, .int 0), (0, .ref (kA K v0)), (1, .ref (kA K v1))]) hx hb dX3_putLine_1 rfl hl (by decide) rfl (fun ls hl => ?_)
  exact w_X3_putLine_b2 C  _ _ _ _ _ _ _ _ hf hR (lv_sub hl [1, 2, 0] rfl)
theorem c_X3_putLine {K : WK} {l : Launch} {hs : AH} {v0 : Nat} {v1 : Nat} {q : AH} (hf : f_X3_putLine v0 v1 hs = some q) : MC K l yX3_putLine cX3_putLine 3 (Option.none : Option Jvm.ClassFile.FieldType) rm_X3_putLine [.ref (kA K v0), .ref (kA K v1)] hs none q 0 0 :=
  MC.of (by decide +kernel) (Nat.le_of_ble_eq_true rfl) (fun p e s m args below meth c C _ hR ls hl => w_X3_putLine_b0 C _ _ hs _ _ ls hf hR hl)
