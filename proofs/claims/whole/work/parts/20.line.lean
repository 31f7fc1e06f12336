/-! ===== printed by wip/whole/genall.py: functions and walks ===== -/
noncomputable def f_X2_size (v0 : Nat) (hs : AH) : Option (Int32) :=
  (gI hs v0 2 1).bind fun x1 =>
  some x1
abbrev rm_X2_size : Room := { frames := 0, cells := 0, slots := 0, locals := 0 }
set_option maxHeartbeats 4000000 in
set_option maxRecDepth 100000 in
theorem w_X2_size_b0 {K : WK} {p : Program} {l : Launch} {e : Env} {s : State} {m : MethodId} {args : Array Value} {below : List Frame} {meth : Method} {c : Code} (C : Cx K p s m args meth c RX2 cX2_size 1 (Option.some Jvm.ClassFile.FieldType.int)) {q : Int32} : ∀ (v0 : Nat) (hs : AH) (H : Heap) (locs : List Loc) (ls : Array Slot), f_X2_size v0 hs = some q → Rl K s hs H locs → lv_has ls 1 [(0, .ref (kA K v0))] → W p l e rm_X2_size s m args below meth c H locs 0 0 (MQ below (MQo K (some (.int q)) hs) args s 0 0 (kAx K)) (F0 m 0 ls []) := by
  have hx := C.1
  have hb := C.2.1
  intro v0 hs H locs ls hf hR hl
  rw [f_X2_size.eq_1] at hf
  refine lv_aload_n hx hb dX2_size_0 rfl (lv_at hl 0 rfl) ?_
  obtain ⟨x1, hx1, hf⟩ := ob hf
  refine r_getI C hR hx1 fl_X2_15 dX2_size_1 ?_
  obtain rfl := Option.some.inj hf
  exact r_iret C hR rfl (Nat.le_of_ble_eq_true rfl) (Nat.le_of_ble_eq_true rfl) dX2_size_4
theorem c_X2_size {K : WK} {l : Launch} {hs : AH} {v0 : Nat} {q : Int32} (hf : f_X2_size v0 hs = some q) : MC K l yX2_size cX2_size 1 (Option.some Jvm.ClassFile.FieldType.int) rm_X2_size [.ref (kA K v0)] hs (some (.int q)) hs 0 0 :=
  MC.of (by decide +kernel) (Nat.le_of_ble_eq_true rfl) (fun p e s m args below meth c C _ hR ls hl => w_X2_size_b0 C _ hs _ _ ls hf hR hl)
noncomputable def f_X2_at (v0 : Nat) (v1 : Int32) (hs : AH) : Option (Int32) :=
  if v1 < 0 then
  (
   some (-1))
  else
  (
   (gI hs v0 2 1).bind fun x1 =>
   if x1 ≤ v1 then
   (
    some (-1))
   else
   (
    (gR hs v0 2 0).bind fun x2 =>
    (aN 0 hs x2 v1).bind fun x3 =>
    some x3))
abbrev rm_X2_at : Room := { frames := 0, cells := 0, slots := 0, locals := 0 }
set_option maxHeartbeats 4000000 in
set_option maxRecDepth 100000 in
theorem w_X2_at_b0 {K : WK} {p : Program} {l : Launch} {e : Env} {s : State} {m : MethodId} {args : Array Value} {below : List Frame} {meth : Method} {c : Code} (C : Cx K p s m args meth c RX2 cX2_at 2 (Option.some Jvm.ClassFile.FieldType.int)) {q : Int32} : ∀ (v0 : Nat) (v1 : Int32) (hs : AH) (H : Heap) (locs : List Loc) (ls : Array Slot), f_X2_at v0 v1 hs = some q → Rl K s hs H locs → lv_has ls 2 [(0, .ref (kA K v0)), (1, .int v1)] → W p l e rm_X2_at s m args below meth c H locs 0 0 (MQ below (MQo K (some (.int q)) hs) args s 0 0 (kAx K)) (F0 m 0 ls []) := by
  have hx := C.1
  have hb := C.2.1
  intro v0 v1 hs H locs ls hf hR hl
  rw [f_X2_at.eq_1] at hf
  refine lv_iload_n hx hb dX2_at_0 rfl (lv_at hl 1 rfl) ?_
  refine lv_if_lt (tgt := 21) hx hb dX2_at_1 (by decide) (fun c1 => ?_) (fun c1 => ?_)
  · have hf := ip hf c1
    refine lv_iconst (v := (-1)) hx hb dX2_at_21 (by decide) ?_
    obtain rfl := Option.some.inj hf
    exact r_iret C hR rfl (Nat.le_of_ble_eq_true rfl) (Nat.le_of_ble_eq_true rfl) dX2_at_22
  · have hf := iq hf c1
    refine lv_iload_n hx hb dX2_at_4 rfl (lv_at hl 1 rfl) ?_
    refine lv_aload_n hx hb dX2_at_5 rfl (lv_at hl 0 rfl) ?_
    obtain ⟨x1, hx1, hf⟩ := ob hf
    refine r_getI C hR hx1 fl_X2_15 dX2_at_6 ?_
    refine lv_icmp_ge (tgt := 21) hx hb dX2_at_9 (by decide) (fun c9 => ?_) (fun c9 => ?_)
    · have hf := ip hf c9
      refine lv_iconst (v := (-1)) hx hb dX2_at_21 (by decide) ?_
      obtain rfl := Option.some.inj hf
      exact r_iret C hR rfl (Nat.le_of_ble_eq_true rfl) (Nat.le_of_ble_eq_true rfl) dX2_at_22
    · have hf := iq hf c9
      refine lv_aload_n hx hb dX2_at_12 rfl (lv_at hl 0 rfl) ?_
      obtain ⟨x2, hx2, hf⟩ := ob hf
      refine r_getR C hR hx2 fl_X2_9 dX2_at_13 ?_
      refine lv_iload_n hx hb dX2_at_16 rfl (lv_at hl 1 rfl) ?_
      obtain ⟨x3, hx3, hf⟩ := ob hf
      refine r_iald C hR hx3 dX2_at_17 ?_
      refine lv_goto (tgt := 22) hx hb dX2_at_18 (by decide) ?_
      obtain rfl := Option.some.inj hf
      exact r_iret C hR rfl (Nat.le_of_ble_eq_true rfl) (Nat.le_of_ble_eq_true rfl) dX2_at_22
theorem c_X2_at {K : WK} {l : Launch} {hs : AH} {v0 : Nat} {v1 : Int32} {q : Int32} (hf : f_X2_at v0 v1 hs = some q) : MC K l yX2_at cX2_at 2 (Option.some Jvm.ClassFile.FieldType.int) rm_X2_at [.ref (kA K v0), .int v1] hs (some (.int q)) hs 0 0 :=
  MC.of (by decide +kernel) (Nat.le_of_ble_eq_true rfl) (fun p e s m args below meth c C _ hR ls hl => w_X2_at_b0 C _ _ hs _ _ ls hf hR hl)
noncomputable def f_X2_add (v0 : Nat) (v1 : Int32) (hs : AH) : Option (AH) :=
  (gI hs v0 2 1).bind fun x1 =>
  if x1 < 0 then
  (
   some hs)
  else
  (
   (gI hs v0 2 1).bind fun x2 =>
   if 45 ≤ x2 then
   (
    some hs)
   else
   (
    (gR hs v0 2 0).bind fun x3 =>
    (gI hs v0 2 1).bind fun x4 =>
    (sN 0 hs x3 x4 v1).bind fun hs5 =>
    (gI hs5 v0 2 1).bind fun x6 =>
    (pI hs5 v0 2 1 (x6 + 1)).bind fun hs7 =>
    some hs7))
abbrev rm_X2_add : Room := { frames := 0, cells := 0, slots := 0, locals := 0 }
set_option maxHeartbeats 4000000 in
set_option maxRecDepth 100000 in
theorem w_X2_add_b0 {K : WK} {p : Program} {l : Launch} {e : Env} {s : State} {m : MethodId} {args : Array Value} {below : List Frame} {meth : Method} {c : Code} (C : Cx K p s m args meth c RX2 cX2_add 2 (Option.none : Option Jvm.ClassFile.FieldType)) {q : AH} : ∀ (v0 : Nat) (v1 : Int32) (hs : AH) (H : Heap) (locs : List Loc) (ls : Array Slot), f_X2_add v0 v1 hs = some q → Rl K s hs H locs → lv_has ls 2 [(0, .ref (kA K v0)), (1, .int v1)] → W p l e rm_X2_add s m args below meth c H locs 0 0 (MQ below (MQo K none q) args s 0 0 (kAx K)) (F0 m 0 ls []) := by
  have hx := C.1
  have hb := C.2.1
  intro v0 v1 hs H locs ls hf hR hl
  rw [f_X2_add.eq_1] at hf
  refine lv_aload_n hx hb dX2_add_0 rfl (lv_at hl 0 rfl) ?_
  obtain ⟨x1, hx1, hf⟩ := ob hf
  refine r_getI C hR hx1 fl_X2_15 dX2_add_1 ?_
  refine lv_if_lt (tgt := 36) hx hb dX2_add_4 (by decide) (fun c4 => ?_) (fun c4 => ?_)
  · have hf := ip hf c4
    obtain rfl := Option.some.inj hf
    exact r_vret C hR (Nat.le_of_ble_eq_true rfl) (Nat.le_of_ble_eq_true rfl) dX2_add_36
  · have hf := iq hf c4
    refine lv_aload_n hx hb dX2_add_7 rfl (lv_at hl 0 rfl) ?_
    obtain ⟨x2, hx2, hf⟩ := ob hf
    refine r_getI C hR hx2 fl_X2_15 dX2_add_8 ?_
    refine lv_bipush (v := 45) hx hb dX2_add_11 (by decide) ?_
    refine lv_icmp_ge (tgt := 36) hx hb dX2_add_13 (by decide) (fun c13 => ?_) (fun c13 => ?_)
    · have hf := ip hf c13
      obtain rfl := Option.some.inj hf
      exact r_vret C hR (Nat.le_of_ble_eq_true rfl) (Nat.le_of_ble_eq_true rfl) dX2_add_36
    · have hf := iq hf c13
      refine lv_aload_n hx hb dX2_add_16 rfl (lv_at hl 0 rfl) ?_
      obtain ⟨x3, hx3, hf⟩ := ob hf
      refine r_getR C hR hx3 fl_X2_9 dX2_add_17 ?_
      refine lv_aload_n hx hb dX2_add_20 rfl (lv_at hl 0 rfl) ?_
      obtain ⟨x4, hx4, hf⟩ := ob hf
      refine r_getI C hR hx4 fl_X2_15 dX2_add_21 ?_
      refine lv_iload_n hx hb dX2_add_24 rfl (lv_at hl 1 rfl) ?_
      obtain ⟨hs5, hhs5, hf⟩ := ob hf
      refine r_iast C hR hhs5 dX2_add_25 (fun H locs hR => ?_)
      refine lv_aload_n hx hb dX2_add_26 rfl (lv_at hl 0 rfl) ?_
      refine lv_dup hx hb dX2_add_27 rfl ?_
      obtain ⟨x6, hx6, hf⟩ := ob hf
      refine r_getI C hR hx6 fl_X2_15 dX2_add_28 ?_
      refine lv_iconst (v := 1) hx hb dX2_add_31 (by decide) ?_
      refine lv_iadd hx hb dX2_add_32 ?_
      obtain ⟨hs7, hhs7, hf⟩ := ob hf
      refine r_putI C hR hhs7 fl_X2_15 dX2_add_33 (fun H locs hR => ?_)
      obtain rfl := Option.some.inj hf
      exact r_vret C hR (Nat.le_of_ble_eq_true rfl) (Nat.le_of_ble_eq_true rfl) dX2_add_36
theorem c_X2_add {K : WK} {l : Launch} {hs : AH} {v0 : Nat} {v1 : Int32} {q : AH} (hf : f_X2_add v0 v1 hs = some q) : MC K l yX2_add cX2_add 2 (Option.none : Option Jvm.ClassFile.FieldType) rm_X2_add [.ref (kA K v0), .int v1] hs none q 0 0 :=
  MC.of (by decide +kernel) (Nat.le_of_ble_eq_true rfl) (fun p e s m args below meth c C _ hR ls hl => w_X2_add_b0 C _ _ hs _ _ ls hf hR hl)
noncomputable def f_X2_put (v0 : Nat) (v1 : Int32) (v2 : Int32) (hs : AH) : Option (Int32 × AH) :=
  (chk hs v0 2).bind fun u1 =>
  (f_X2_at v0 v1 hs).bind fun x2 =>
  if v1 < 0 then
  (
   some (x2, hs))
  else
  (
   (gI hs v0 2 1).bind fun x3 =>
   if x3 ≤ v1 then
   (
    some (x2, hs))
   else
   (
    (gR hs v0 2 0).bind fun x4 =>
    (sN 0 hs x4 v1 v2).bind fun hs5 =>
    some (x2, hs5)))
abbrev rm_X2_put : Room := { frames := 1, cells := 0, slots := 0, locals := 21 }
set_option maxHeartbeats 4000000 in
set_option maxRecDepth 100000 in
theorem w_X2_put_b0 {K : WK} {p : Program} {l : Launch} {e : Env} {s : State} {m : MethodId} {args : Array Value} {below : List Frame} {meth : Method} {c : Code} (C : Cx K p s m args meth c RX2 cX2_put 4 (Option.some Jvm.ClassFile.FieldType.int)) {q : Int32 × AH} : ∀ (v0 : Nat) (v1 : Int32) (v2 : Int32) (hs : AH) (H : Heap) (locs : List Loc) (ls : Array Slot), f_X2_put v0 v1 v2 hs = some q → Rl K s hs H locs → lv_has ls 4 [(0, .ref (kA K v0)), (1, .int v1), (2, .int v2)] → W p l e rm_X2_put s m args below meth c H locs 0 0 (MQ below (MQo K (some (.int q.1)) q.2) args s 0 0 (kAx K)) (F0 m 0 ls []) := by
  have hx := C.1
  have hb := C.2.1
  intro v0 v1 v2 hs H locs ls hf hR hl
  rw [f_X2_put.eq_1] at hf
  refine lv_aload_n hx hb dX2_put_0 rfl (lv_at hl 0 rfl) ?_
  refine lv_iload_n hx hb dX2_put_1 rfl (lv_at hl 1 rfl) ?_
  obtain ⟨u1, hu1, hf⟩ := ob hf
  obtain ⟨x2, hx2, hf⟩ := ob hf
  refine r_callV (As := [.int v1]) (rest := []) (st1 := [.int x2]) C hR (lv_sub hl [] rfl) (c_X2_at hx2) mv_X2_at ml_X2_19 ⟨rfl, rfl, (Nat.le_of_ble_eq_true rfl), (Nat.le_of_ble_eq_true rfl)⟩ (rv_obj C hR hu1 (q := (RX2, TX2, 2)) rfl) rfl rfl rfl (Nat.le_of_ble_eq_true rfl) ⟨(Nat.le_of_ble_eq_true rfl), (Nat.le_of_ble_eq_true rfl)⟩ dX2_put_2 (fun H locs hR => ?_)
  refine lv_istore_n (lv' := [(3, .int x2), (0, .ref (kA K v0)), (1, .int v1), (2, .int v2)]) hx hb dX2_put_5 rfl hl (by decide) rfl (fun ls hl => ?_)
  refine lv_iload_n hx hb dX2_put_6 rfl (lv_at hl 2 rfl) ?_
  refine lv_if_lt (tgt := 25) hx hb dX2_put_7 (by decide) (fun c7 => ?_) (fun c7 => ?_)
  · have hf := ip hf c7
    refine lv_iload_n hx hb dX2_put_25 rfl (lv_at hl 0 rfl) ?_
    obtain rfl := Option.some.inj hf
    exact r_iret C hR rfl (Nat.le_of_ble_eq_true rfl) (Nat.le_of_ble_eq_true rfl) dX2_put_26
  · have hf := iq hf c7
    refine lv_iload_n hx hb dX2_put_10 rfl (lv_at hl 2 rfl) ?_
    refine lv_aload_n hx hb dX2_put_11 rfl (lv_at hl 1 rfl) ?_
    obtain ⟨x3, hx3, hf⟩ := ob hf
    refine r_getI C hR hx3 fl_X2_15 dX2_put_12 ?_
    refine lv_icmp_ge (tgt := 25) hx hb dX2_put_15 (by decide) (fun c15 => ?_) (fun c15 => ?_)
    · have hf := ip hf c15
      refine lv_iload_n hx hb dX2_put_25 rfl (lv_at hl 0 rfl) ?_
      obtain rfl := Option.some.inj hf
      exact r_iret C hR rfl (Nat.le_of_ble_eq_true rfl) (Nat.le_of_ble_eq_true rfl) dX2_put_26
    · have hf := iq hf c15
      refine lv_aload_n hx hb dX2_put_18 rfl (lv_at hl 1 rfl) ?_
      obtain ⟨x4, hx4, hf⟩ := ob hf
      refine r_getR C hR hx4 fl_X2_9 dX2_put_19 ?_
      refine lv_iload_n hx hb dX2_put_22 rfl (lv_at hl 2 rfl) ?_
      refine lv_iload_n hx hb dX2_put_23 rfl (lv_at hl 3 rfl) ?_
      obtain ⟨hs5, hhs5, hf⟩ := ob hf
      refine r_iast C hR hhs5 dX2_put_24 (fun H locs hR => ?_)
      refine lv_iload_n hx hb dX2_put_25 rfl (lv_at hl 0 rfl) ?_
      obtain rfl := Option.some.inj hf
      exact r_iret C hR rfl (Nat.le_of_ble_eq_true rfl) (Nat.le_of_ble_eq_true rfl) dX2_put_26
theorem c_X2_put {K : WK} {l : Launch} {hs : AH} {v0 : Nat} {v1 : Int32} {v2 : Int32} {q : Int32 × AH} (hf : f_X2_put v0 v1 v2 hs = some q) : MC K l yX2_put cX2_put 4 (Option.some Jvm.ClassFile.FieldType.int) rm_X2_put [.ref (kA K v0), .int v1, .int v2] hs (some (.int q.1)) q.2 0 0 :=
  MC.of (by decide +kernel) (Nat.le_of_ble_eq_true rfl) (fun p e s m args below meth c C _ hR ls hl => w_X2_put_b0 C _ _ _ hs _ _ ls hf hR hl)
noncomputable def f_X2_clear (v0 : Nat) (hs : AH) : Option (AH) :=
  (pI hs v0 2 1 0).bind fun hs1 =>
  some hs1
abbrev rm_X2_clear : Room := { frames := 0, cells := 0, slots := 0, locals := 0 }
set_option maxHeartbeats 4000000 in
set_option maxRecDepth 100000 in
theorem w_X2_clear_b0 {K : WK} {p : Program} {l : Launch} {e : Env} {s : State} {m : MethodId} {args : Array Value} {below : List Frame} {meth : Method} {c : Code} (C : Cx K p s m args meth c RX2 cX2_clear 1 (Option.none : Option Jvm.ClassFile.FieldType)) {q : AH} : ∀ (v0 : Nat) (hs : AH) (H : Heap) (locs : List Loc) (ls : Array Slot), f_X2_clear v0 hs = some q → Rl K s hs H locs → lv_has ls 1 [(0, .ref (kA K v0))] → W p l e rm_X2_clear s m args below meth c H locs 0 0 (MQ below (MQo K none q) args s 0 0 (kAx K)) (F0 m 0 ls []) := by
  have hx := C.1
  have hb := C.2.1
  intro v0 hs H locs ls hf hR hl
  rw [f_X2_clear.eq_1] at hf
  refine lv_aload_n hx hb dX2_clear_0 rfl (lv_at hl 0 rfl) ?_
  refine lv_iconst (v := 0) hx hb dX2_clear_1 (by decide) ?_
  obtain ⟨hs1, hhs1, hf⟩ := ob hf
  refine r_putI C hR hhs1 fl_X2_15 dX2_clear_2 (fun H locs hR => ?_)
  obtain rfl := Option.some.inj hf
  exact r_vret C hR (Nat.le_of_ble_eq_true rfl) (Nat.le_of_ble_eq_true rfl) dX2_clear_5
theorem c_X2_clear {K : WK} {l : Launch} {hs : AH} {v0 : Nat} {q : AH} (hf : f_X2_clear v0 hs = some q) : MC K l yX2_clear cX2_clear 1 (Option.none : Option Jvm.ClassFile.FieldType) rm_X2_clear [.ref (kA K v0)] hs none q 0 0 :=
  MC.of (by decide +kernel) (Nat.le_of_ble_eq_true rfl) (fun p e s m args below meth c C _ hR ls hl => w_X2_clear_b0 C _ hs _ _ ls hf hR hl)
noncomputable def f_X2_cutTo (v0 : Nat) (v1 : Int32) (hs : AH) : Option (AH) :=
  if 0 ≤ v1 then
  (
   (gI hs v0 2 1).bind fun x1 =>
   if x1 ≤ v1 then
   (
    (gI hs v0 2 1).bind fun x2 =>
    (pI hs v0 2 1 x2).bind fun hs3 =>
    some hs3)
   else
   (
    (pI hs v0 2 1 v1).bind fun hs4 =>
    some hs4))
  else
  (
   (pI hs v0 2 1 0).bind fun hs5 =>
   some hs5)
abbrev rm_X2_cutTo : Room := { frames := 0, cells := 0, slots := 0, locals := 0 }
set_option maxHeartbeats 4000000 in
set_option maxRecDepth 100000 in
theorem w_X2_cutTo_b0 {K : WK} {p : Program} {l : Launch} {e : Env} {s : State} {m : MethodId} {args : Array Value} {below : List Frame} {meth : Method} {c : Code} (C : Cx K p s m args meth c RX2 cX2_cutTo 2 (Option.none : Option Jvm.ClassFile.FieldType)) {q : AH} : ∀ (v0 : Nat) (v1 : Int32) (hs : AH) (H : Heap) (locs : List Loc) (ls : Array Slot), f_X2_cutTo v0 v1 hs = some q → Rl K s hs H locs → lv_has ls 2 [(0, .ref (kA K v0)), (1, .int v1)] → W p l e rm_X2_cutTo s m args below meth c H locs 0 0 (MQ below (MQo K none q) args s 0 0 (kAx K)) (F0 m 0 ls []) := by
  have hx := C.1
  have hb := C.2.1
  intro v0 v1 hs H locs ls hf hR hl
  rw [f_X2_cutTo.eq_1] at hf
  refine lv_aload_n hx hb dX2_cutTo_0 rfl (lv_at hl 0 rfl) ?_
  refine lv_iload_n hx hb dX2_cutTo_1 rfl (lv_at hl 1 rfl) ?_
  refine lv_if_ge (tgt := 9) hx hb dX2_cutTo_2 (by decide) (fun c2 => ?_) (fun c2 => ?_)
  · have hf := ip hf c2
    refine lv_iload_n hx hb dX2_cutTo_9 rfl (lv_at hl 1 rfl) ?_
    refine lv_aload_n hx hb dX2_cutTo_10 rfl (lv_at hl 0 rfl) ?_
    obtain ⟨x1, hx1, hf⟩ := ob hf
    refine r_getI C hR hx1 fl_X2_15 dX2_cutTo_11 ?_
    refine lv_icmp_ge (tgt := 21) hx hb dX2_cutTo_14 (by decide) (fun c14 => ?_) (fun c14 => ?_)
    · have hf := ip hf c14
      refine lv_aload_n hx hb dX2_cutTo_21 rfl (lv_at hl 0 rfl) ?_
      obtain ⟨x2, hx2, hf⟩ := ob hf
      refine r_getI C hR hx2 fl_X2_15 dX2_cutTo_22 ?_
      obtain ⟨hs3, hhs3, hf⟩ := ob hf
      refine r_putI C hR hhs3 fl_X2_15 dX2_cutTo_25 (fun H locs hR => ?_)
      obtain rfl := Option.some.inj hf
      exact r_vret C hR (Nat.le_of_ble_eq_true rfl) (Nat.le_of_ble_eq_true rfl) dX2_cutTo_28
    · have hf := iq hf c14
      refine lv_iload_n hx hb dX2_cutTo_17 rfl (lv_at hl 1 rfl) ?_
      refine lv_goto (tgt := 25) hx hb dX2_cutTo_18 (by decide) ?_
      obtain ⟨hs4, hhs4, hf⟩ := ob hf
      refine r_putI C hR hhs4 fl_X2_15 dX2_cutTo_25 (fun H locs hR => ?_)
      obtain rfl := Option.some.inj hf
      exact r_vret C hR (Nat.le_of_ble_eq_true rfl) (Nat.le_of_ble_eq_true rfl) dX2_cutTo_28
  · have hf := iq hf c2
    refine lv_iconst (v := 0) hx hb dX2_cutTo_5 (by decide) ?_
    refine lv_goto (tgt := 25) hx hb dX2_cutTo_6 (by decide) ?_
    obtain ⟨hs5, hhs5, hf⟩ := ob hf
    refine r_putI C hR hhs5 fl_X2_15 dX2_cutTo_25 (fun H locs hR => ?_)
    obtain rfl := Option.some.inj hf
    exact r_vret C hR (Nat.le_of_ble_eq_true rfl) (Nat.le_of_ble_eq_true rfl) dX2_cutTo_28
theorem c_X2_cutTo {K : WK} {l : Launch} {hs : AH} {v0 : Nat} {v1 : Int32} {q : AH} (hf : f_X2_cutTo v0 v1 hs = some q) : MC K l yX2_cutTo cX2_cutTo 2 (Option.none : Option Jvm.ClassFile.FieldType) rm_X2_cutTo [.ref (kA K v0), .int v1] hs none q 0 0 :=
  MC.of (by decide +kernel) (Nat.le_of_ble_eq_true rfl) (fun p e s m args below meth c C _ hR ls hl => w_X2_cutTo_b0 C _ _ hs _ _ ls hf hR hl)
noncomputable def f_X2_copyFrom_b7 : Nat → Nat → Nat → Int32 → AH → Option (AH)
  | 0, _, _, _, _ => none
  | n + 1, v0, v1, v2, hs =>
  (gI hs v1 2 1).bind fun x1 =>
  if x1 ≤ v2 then
  (
   some hs)
  else
  (
   (chk hs v1 2).bind fun u2 =>
   (f_X2_at v1 v2 hs).bind fun x3 =>
   (chk hs v0 2).bind fun u4 =>
   (f_X2_add v0 x3 hs).bind fun hs5 =>
   f_X2_copyFrom_b7 n v0 v1 (v2 + 1) hs5)
noncomputable def f_X2_copyFrom (v0 : Nat) (v1 : Nat) (hs : AH) : Option (AH) :=
  (pI hs v0 2 1 0).bind fun hs1 =>
  f_X2_copyFrom_b7 FUEL v0 v1 0 hs1
abbrev rm_X2_copyFrom : Room := { frames := 1, cells := 0, slots := 0, locals := 21 }
set_option maxHeartbeats 4000000 in
set_option maxRecDepth 100000 in
theorem w_X2_copyFrom_b7 {K : WK} {p : Program} {l : Launch} {e : Env} {s : State} {m : MethodId} {args : Array Value} {below : List Frame} {meth : Method} {c : Code} (C : Cx K p s m args meth c RX2 cX2_copyFrom 3 (Option.none : Option Jvm.ClassFile.FieldType)) {q : AH} : ∀ (n : Nat) (v0 : Nat) (v1 : Nat) (v2 : Int32) (hs : AH) (H : Heap) (locs : List Loc) (ls : Array Slot), f_X2_copyFrom_b7 n v0 v1 v2 hs = some q → Rl K s hs H locs → lv_has ls 3 [(0, .ref (kA K v0)), (1, .ref (kA K v1)), (2, .int v2)] → W p l e rm_X2_copyFrom s m args below meth c H locs 0 0 (MQ below (MQo K none q) args s 0 0 (kAx K)) (F0 m 7 ls []) := by
  have hx := C.1
  have hb := C.2.1
  intro n
  induction n with
  | zero =>
    intro v0 v1 v2 hs H locs ls hf
    cases hf
  | succ n ih =>
    intro v0 v1 v2 hs H locs ls hf hR hl
    rw [f_X2_copyFrom_b7.eq_2] at hf
    refine lv_iload_n hx hb dX2_copyFrom_7 rfl (lv_at hl 2 rfl) ?_
    refine lv_aload_n hx hb dX2_copyFrom_8 rfl (lv_at hl 1 rfl) ?_
    obtain ⟨x1, hx1, hf⟩ := ob hf
    refine r_getI C hR hx1 fl_X2_15 dX2_copyFrom_9 ?_
    refine lv_icmp_ge (tgt := 30) hx hb dX2_copyFrom_12 (by decide) (fun c12 => ?_) (fun c12 => ?_)
    · have hf := ip hf c12
      obtain rfl := Option.some.inj hf
      exact r_vret C hR (Nat.le_of_ble_eq_true rfl) (Nat.le_of_ble_eq_true rfl) dX2_copyFrom_30
    · have hf := iq hf c12
      refine lv_aload_n hx hb dX2_copyFrom_15 rfl (lv_at hl 0 rfl) ?_
      refine lv_aload_n hx hb dX2_copyFrom_16 rfl (lv_at hl 1 rfl) ?_
      refine lv_iload_n hx hb dX2_copyFrom_17 rfl (lv_at hl 2 rfl) ?_
      obtain ⟨u2, hu2, hf⟩ := ob hf
      obtain ⟨x3, hx3, hf⟩ := ob hf
      refine r_callV (As := [.int v2]) (rest := [.ref (kA K v0)]) (st1 := [.int x3, .ref (kA K v0)]) C hR (lv_sub hl [] rfl) (c_X2_at hx3) mv_X2_at ml_X2_19 ⟨rfl, rfl, (Nat.le_of_ble_eq_true rfl), (Nat.le_of_ble_eq_true rfl)⟩ (rv_obj C hR hu2 (q := (RX2, TX2, 2)) rfl) rfl rfl rfl (Nat.le_of_ble_eq_true rfl) ⟨(Nat.le_of_ble_eq_true rfl), (Nat.le_of_ble_eq_true rfl)⟩ dX2_copyFrom_18 (fun H locs hR => ?_)
      obtain ⟨u4, hu4, hf⟩ := ob hf
      obtain ⟨hs5, hhs5, hf⟩ := ob hf
      refine r_callV (As := [.int x3]) (rest := []) (st1 := []) C hR (lv_sub hl [] rfl) (c_X2_add hhs5) mv_X2_add ml_X2_23 ⟨rfl, rfl, (Nat.le_of_ble_eq_true rfl), (Nat.le_of_ble_eq_true rfl)⟩ (rv_obj C hR hu4 (q := (RX2, TX2, 2)) rfl) rfl rfl rfl (Nat.le_of_ble_eq_true rfl) ⟨(Nat.le_of_ble_eq_true rfl), (Nat.le_of_ble_eq_true rfl)⟩ dX2_copyFrom_21 (fun H locs hR => ?_)
      refine lv_iinc (v := v2 + 1) (lv' := [(2, .int (v2 + 1)), (0, .ref (kA K v0)), (1, .ref (kA K v1))]) hx hb dX2_copyFrom_24 hl (k := 2) rfl rfl (by decide) rfl (fun ls hl => ?_)
      refine lv_goto (tgt := 7) hx hb dX2_copyFrom_27 (by decide) ?_
      exact ih _ _ _ _ _ _ _ hf hR (lv_sub hl [1, 2, 0] rfl)
set_option maxHeartbeats 4000000 in
set_option maxRecDepth 100000 in
theorem w_X2_copyFrom_b0 {K : WK} {p : Program} {l : Launch} {e : Env} {s : State} {m : MethodId} {args : Array Value} {below : List Frame} {meth : Method} {c : Code} (C : Cx K p s m args meth c RX2 cX2_copyFrom 3 (Option.none : Option Jvm.ClassFile.FieldType)) {q : AH} : ∀ (v0 : Nat) (v1 : Nat) (hs : AH) (H : Heap) (locs : List Loc) (ls : Array Slot), f_X2_copyFrom v0 v1 hs = some q → Rl K s hs H locs → lv_has ls 3 [(0, .ref (kA K v0)), (1, .ref (kA K v1))] → W p l e rm_X2_copyFrom s m args below meth c H locs 0 0 (MQ below (MQo K none q) args s 0 0 (kAx K)) (F0 m 0 ls []) := by
  have hx := C.1
  have hb := C.2.1
  intro v0 v1 hs H locs ls hf hR hl
  rw [f_X2_copyFrom.eq_1] at hf
  refine lv_aload_n hx hb dX2_copyFrom_0 rfl (lv_at hl 0 rfl) ?_
  refine lv_iconst (v := 0) hx hb dX2_copyFrom_1 (by decide) ?_
  obtain ⟨hs1, hhs1, hf⟩ := ob hf
  refine r_putI C hR hhs1 fl_X2_15 dX2_copyFrom_2 (fun H locs hR => ?_)
  refine lv_iconst (v := 0) hx hb dX2_copyFrom_5 (by decide) ?_
  refine lv_istore_n (lv' := [(2, .int 0), (0, .ref (kA K v0)), (1, .ref (kA K v1))]) hx hb dX2_copyFrom_6 rfl hl (by decide) rfl (fun ls hl => ?_)
  exact w_X2_copyFrom_b7 C  _ _ _ _ _ _ _ _ hf hR (lv_sub hl [1, 2, 0] rfl)
theorem c_X2_copyFrom {K : WK} {l : Launch} {hs : AH} {v0 : Nat} {v1 : Nat} {q : AH} (hf : f_X2_copyFrom v0 v1 hs = some q) : MC K l yX2_copyFrom cX2_copyFrom 3 (Option.none : Option Jvm.ClassFile.FieldType) rm_X2_copyFrom [.ref (kA K v0), .ref (kA K v1)] hs none q 0 0 :=
  MC.of (by decide +kernel) (Nat.le_of_ble_eq_true rfl) (fun p e s m args below meth c C _ hR ls hl => w_X2_copyFrom_b0 C _ _ hs _ _ ls hf hR hl)
