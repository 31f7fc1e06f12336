/-! ===== printed by wip/whole/genall.py: functions and walks ===== -/
noncomputable def f_X9_thrown (v0 : Nat) (hs : AH) : Option (Int32) :=
  (gI hs v0 9 0).bind fun x1 =>
  some x1
abbrev rm_X9_thrown : Room := { frames := 0, cells := 0, slots := 0, locals := 0 }
set_option maxHeartbeats 4000000 in
set_option maxRecDepth 100000 in
theorem w_X9_thrown_b0 {K : WK} {p : Program} {l : Launch} {e : Env} {s : State} {m : MethodId} {args : Array Value} {below : List Frame} {meth : Method} {c : Code} (C : Cx K p s m args meth c RX9 cX9_thrown 1 (Option.some Jvm.ClassFile.FieldType.int)) {q : Int32} : ∀ (v0 : Nat) (hs : AH) (H : Heap) (locs : List Loc) (ls : Array Slot), f_X9_thrown v0 hs = some q → Rl K s hs H locs → lv_has ls 1 [(0, .ref (kA K v0))] → W p l e rm_X9_thrown s m args below meth c H locs 0 0 (MQ below (MQo K (some (.int q)) hs) args s 0 0 (kAx K)) (F0 m 0 ls []) := by
  have hx := C.1
  have hb := C.2.1
  intro v0 hs H locs ls hf hR hl
  rw [f_X9_thrown.eq_1] at hf
  refine lv_aload_n hx hb dX9_thrown_0 rfl (lv_at hl 0 rfl) ?_
  obtain ⟨x1, hx1, hf⟩ := ob hf
  refine r_getI C hR hx1 fl_X9_41 dX9_thrown_1 ?_
  obtain rfl := Option.some.inj hf
  exact r_iret C hR rfl (Nat.le_of_ble_eq_true rfl) (Nat.le_of_ble_eq_true rfl) dX9_thrown_4
theorem c_X9_thrown {K : WK} {l : Launch} {hs : AH} {v0 : Nat} {q : Int32} (hf : f_X9_thrown v0 hs = some q) : MC K l yX9_thrown cX9_thrown 1 (Option.some Jvm.ClassFile.FieldType.int) rm_X9_thrown [.ref (kA K v0)] hs (some (.int q)) hs 0 0 :=
  MC.of (by decide +kernel) (Nat.le_of_ble_eq_true rfl) (fun p e s m args below meth c C _ hR ls hl => w_X9_thrown_b0 C _ hs _ _ ls hf hR hl)
noncomputable def f_X9_in (v0 : Int32) (v1 : Int32) (v2 : Int32) : Option (Int32) :=
  if v0 < v1 then
  (
   some 0)
  else
  (
   if v2 < v0 then
   (
    some 0)
   else
   (
    some 1))
abbrev rm_X9_in : Room := { frames := 0, cells := 0, slots := 0, locals := 0 }
set_option maxHeartbeats 4000000 in
set_option maxRecDepth 100000 in
theorem w_X9_in_b0 {K : WK} {p : Program} {l : Launch} {e : Env} {s : State} {m : MethodId} {args : Array Value} {below : List Frame} {meth : Method} {c : Code} (C : Cx K p s m args meth c RX9 cX9_in 3 (Option.some Jvm.ClassFile.FieldType.boolean)) {q : Int32} : ∀ (v0 : Int32) (v1 : Int32) (v2 : Int32) (hs : AH) (H : Heap) (locs : List Loc) (ls : Array Slot), f_X9_in v0 v1 v2 = some q → Rl K s hs H locs → lv_has ls 3 [(0, .int v0), (1, .int v1), (2, .int v2)] → W p l e rm_X9_in s m args below meth c H locs 0 0 (MQ below (MQo K (some (.int q)) hs) args s 0 0 (kAx K)) (F0 m 0 ls []) := by
  have hx := C.1
  have hb := C.2.1
  intro v0 v1 v2 hs H locs ls hf hR hl
  rw [f_X9_in.eq_1] at hf
  refine lv_iload_n hx hb dX9_in_0 rfl (lv_at hl 0 rfl) ?_
  refine lv_iload_n hx hb dX9_in_1 rfl (lv_at hl 1 rfl) ?_
  refine lv_icmp_lt (tgt := 14) hx hb dX9_in_2 (by decide) (fun c2 => ?_) (fun c2 => ?_)
  · have hf := ip hf c2
    refine lv_iconst (v := 0) hx hb dX9_in_14 (by decide) ?_
    obtain rfl := Option.some.inj hf
    exact r_iret C hR rfl (Nat.le_of_ble_eq_true rfl) (Nat.le_of_ble_eq_true rfl) dX9_in_15
  · have hf := iq hf c2
    refine lv_iload_n hx hb dX9_in_5 rfl (lv_at hl 0 rfl) ?_
    refine lv_iload_n hx hb dX9_in_6 rfl (lv_at hl 2 rfl) ?_
    refine lv_icmp_gt (tgt := 14) hx hb dX9_in_7 (by decide) (fun c7 => ?_) (fun c7 => ?_)
    · have hf := ip hf c7
      refine lv_iconst (v := 0) hx hb dX9_in_14 (by decide) ?_
      obtain rfl := Option.some.inj hf
      exact r_iret C hR rfl (Nat.le_of_ble_eq_true rfl) (Nat.le_of_ble_eq_true rfl) dX9_in_15
    · have hf := iq hf c7
      refine lv_iconst (v := 1) hx hb dX9_in_10 (by decide) ?_
      refine lv_goto (tgt := 15) hx hb dX9_in_11 (by decide) ?_
      obtain rfl := Option.some.inj hf
      exact r_iret C hR rfl (Nat.le_of_ble_eq_true rfl) (Nat.le_of_ble_eq_true rfl) dX9_in_15
theorem c_X9_in {K : WK} {l : Launch} {hs : AH} {v0 : Int32} {v1 : Int32} {v2 : Int32} {q : Int32} (hf : f_X9_in v0 v1 v2 = some q) : MC K l yX9_in cX9_in 3 (Option.some Jvm.ClassFile.FieldType.boolean) rm_X9_in [.int v0, .int v1, .int v2] hs (some (.int q)) hs 0 0 :=
  MC.of (by decide +kernel) (Nat.le_of_ble_eq_true rfl) (fun p e s m args below meth c C _ hR ls hl => w_X9_in_b0 C _ _ _ hs _ _ ls hf hR hl)
noncomputable def f_X9_raises (v0 : Nat) (v1 : Int32) (hs : AH) : Option (Int32 × AH) :=
  (pI hs v0 9 0 v1).bind fun hs1 =>
  some (0, hs1)
abbrev rm_X9_raises : Room := { frames := 0, cells := 0, slots := 0, locals := 0 }
set_option maxHeartbeats 4000000 in
set_option maxRecDepth 100000 in
theorem w_X9_raises_b0 {K : WK} {p : Program} {l : Launch} {e : Env} {s : State} {m : MethodId} {args : Array Value} {below : List Frame} {meth : Method} {c : Code} (C : Cx K p s m args meth c RX9 cX9_raises 2 (Option.some Jvm.ClassFile.FieldType.int)) {q : Int32 × AH} : ∀ (v0 : Nat) (v1 : Int32) (hs : AH) (H : Heap) (locs : List Loc) (ls : Array Slot), f_X9_raises v0 v1 hs = some q → Rl K s hs H locs → lv_has ls 2 [(0, .ref (kA K v0)), (1, .int v1)] → W p l e rm_X9_raises s m args below meth c H locs 0 0 (MQ below (MQo K (some (.int q.1)) q.2) args s 0 0 (kAx K)) (F0 m 0 ls []) := by
  have hx := C.1
  have hb := C.2.1
  intro v0 v1 hs H locs ls hf hR hl
  rw [f_X9_raises.eq_1] at hf
  refine lv_aload_n hx hb dX9_raises_0 rfl (lv_at hl 0 rfl) ?_
  refine lv_iload_n hx hb dX9_raises_1 rfl (lv_at hl 1 rfl) ?_
  obtain ⟨hs1, hhs1, hf⟩ := ob hf
  refine r_putI C hR hhs1 fl_X9_41 dX9_raises_2 (fun H locs hR => ?_)
  refine lv_iconst (v := 0) hx hb dX9_raises_5 (by decide) ?_
  obtain rfl := Option.some.inj hf
  exact r_iret C hR rfl (Nat.le_of_ble_eq_true rfl) (Nat.le_of_ble_eq_true rfl) dX9_raises_6
theorem c_X9_raises {K : WK} {l : Launch} {hs : AH} {v0 : Nat} {v1 : Int32} {q : Int32 × AH} (hf : f_X9_raises v0 v1 hs = some q) : MC K l yX9_raises cX9_raises 2 (Option.some Jvm.ClassFile.FieldType.int) rm_X9_raises [.ref (kA K v0), .int v1] hs (some (.int q.1)) q.2 0 0 :=
  MC.of (by decide +kernel) (Nat.le_of_ble_eq_true rfl) (fun p e s m args below meth c C _ hR ls hl => w_X9_raises_b0 C _ _ hs _ _ ls hf hR hl)
noncomputable def f_X9_changes_b51 : Nat → Nat → Int32 → AH → Option (AH)
  | 0, _, _, _ => none
  | n + 1, v0, v1, hs =>
  if 80 ≤ v1 then
  (
   (gI hs v0 9 5).bind fun x1 =>
   (pI hs v0 9 5 (x1 + 1)).bind fun hs2 =>
   some hs2)
  else
  (
   (gR hs v0 9 4).bind fun x3 =>
   (gI hs v0 9 5).bind fun x4 =>
   (gR hs v0 9 1).bind fun x5 =>
   (aN 0 hs x5 v1).bind fun x6 =>
   (sN 0 hs x3 ((80 * x4) + v1) x6).bind fun hs7 =>
   f_X9_changes_b51 n v0 (v1 + 1) hs7)
noncomputable def f_X9_changes_b11 : Nat → Nat → Int32 → AH → Option (AH)
  | 0, _, _, _ => none
  | n + 1, v0, v1, hs =>
  if 400 ≤ v1 then
  (
   (gI hs v0 9 5).bind fun x1 =>
   (pI hs v0 9 5 (x1 - 1)).bind fun hs2 =>
   f_X9_changes_b51 FUEL v0 0 hs2)
  else
  (
   (gR hs v0 9 4).bind fun x3 =>
   (gR hs v0 9 4).bind fun x4 =>
   (aN 0 hs x4 (v1 + 80)).bind fun x5 =>
   (sN 0 hs x3 v1 x5).bind fun hs6 =>
   f_X9_changes_b11 n v0 (v1 + 1) hs6)
noncomputable def f_X9_changes (v0 : Nat) (hs : AH) : Option (AH) :=
  (gI hs v0 9 5).bind fun x1 =>
  if x1 = 6 then
  (
   f_X9_changes_b11 FUEL v0 0 hs)
  else
  (
   f_X9_changes_b51 FUEL v0 0 hs)
abbrev rm_X9_changes : Room := { frames := 0, cells := 0, slots := 0, locals := 0 }
set_option maxHeartbeats 4000000 in
set_option maxRecDepth 100000 in
theorem w_X9_changes_b51 {K : WK} {p : Program} {l : Launch} {e : Env} {s : State} {m : MethodId} {args : Array Value} {below : List Frame} {meth : Method} {c : Code} (C : Cx K p s m args meth c RX9 cX9_changes 2 (Option.none : Option Jvm.ClassFile.FieldType)) {q : AH} : ∀ (n : Nat) (v0 : Nat) (v1 : Int32) (hs : AH) (H : Heap) (locs : List Loc) (ls : Array Slot), f_X9_changes_b51 n v0 v1 hs = some q → Rl K s hs H locs → lv_has ls 2 [(0, .ref (kA K v0)), (1, .int v1)] → W p l e rm_X9_changes s m args below meth c H locs 0 0 (MQ below (MQo K none q) args s 0 0 (kAx K)) (F0 m 51 ls []) := by
  have hx := C.1
  have hb := C.2.1
  intro n
  induction n with
  | zero =>
    intro v0 v1 hs H locs ls hf
    cases hf
  | succ n ih =>
    intro v0 v1 hs H locs ls hf hR hl
    rw [f_X9_changes_b51.eq_2] at hf
    refine lv_iload_n hx hb dX9_changes_51 rfl (lv_at hl 1 rfl) ?_
    refine lv_bipush (v := 80) hx hb dX9_changes_52 (by decide) ?_
    refine lv_icmp_ge (tgt := 83) hx hb dX9_changes_54 (by decide) (fun c54 => ?_) (fun c54 => ?_)
    · have hf := ip hf c54
      refine lv_aload_n hx hb dX9_changes_83 rfl (lv_at hl 0 rfl) ?_
      refine lv_dup hx hb dX9_changes_84 rfl ?_
      obtain ⟨x1, hx1, hf⟩ := ob hf
      refine r_getI C hR hx1 fl_X9_44 dX9_changes_85 ?_
      refine lv_iconst (v := 1) hx hb dX9_changes_88 (by decide) ?_
      refine lv_iadd hx hb dX9_changes_89 ?_
      obtain ⟨hs2, hhs2, hf⟩ := ob hf
      refine r_putI C hR hhs2 fl_X9_44 dX9_changes_90 (fun H locs hR => ?_)
      obtain rfl := Option.some.inj hf
      exact r_vret C hR (Nat.le_of_ble_eq_true rfl) (Nat.le_of_ble_eq_true rfl) dX9_changes_93
    · have hf := iq hf c54
      refine lv_aload_n hx hb dX9_changes_57 rfl (lv_at hl 0 rfl) ?_
      obtain ⟨x3, hx3, hf⟩ := ob hf
      refine r_getR C hR hx3 fl_X9_16 dX9_changes_58 ?_
      refine lv_bipush (v := 80) hx hb dX9_changes_61 (by decide) ?_
      refine lv_aload_n hx hb dX9_changes_63 rfl (lv_at hl 0 rfl) ?_
      obtain ⟨x4, hx4, hf⟩ := ob hf
      refine r_getI C hR hx4 fl_X9_44 dX9_changes_64 ?_
      refine lv_imul hx hb dX9_changes_67 ?_
      refine lv_iload_n hx hb dX9_changes_68 rfl (lv_at hl 1 rfl) ?_
      refine lv_iadd hx hb dX9_changes_69 ?_
      refine lv_aload_n hx hb dX9_changes_70 rfl (lv_at hl 0 rfl) ?_
      obtain ⟨x5, hx5, hf⟩ := ob hf
      refine r_getR C hR hx5 fl_X9_9 dX9_changes_71 ?_
      refine lv_iload_n hx hb dX9_changes_74 rfl (lv_at hl 1 rfl) ?_
      obtain ⟨x6, hx6, hf⟩ := ob hf
      refine r_iald C hR hx6 dX9_changes_75 ?_
      obtain ⟨hs7, hhs7, hf⟩ := ob hf
      refine r_iast C hR hhs7 dX9_changes_76 (fun H locs hR => ?_)
      refine lv_iinc (v := v1 + 1) (lv' := [(1, .int (v1 + 1)), (0, .ref (kA K v0))]) hx hb dX9_changes_77 hl (k := 1) rfl rfl (by decide) rfl (fun ls hl => ?_)
      refine lv_goto (tgt := 51) hx hb dX9_changes_80 (by decide) ?_
      exact ih _ _ _ _ _ _ hf hR (lv_sub hl [1, 0] rfl)
set_option maxHeartbeats 4000000 in
set_option maxRecDepth 100000 in
theorem w_X9_changes_b11 {K : WK} {p : Program} {l : Launch} {e : Env} {s : State} {m : MethodId} {args : Array Value} {below : List Frame} {meth : Method} {c : Code} (C : Cx K p s m args meth c RX9 cX9_changes 2 (Option.none : Option Jvm.ClassFile.FieldType)) {q : AH} : ∀ (n : Nat) (v0 : Nat) (v1 : Int32) (hs : AH) (H : Heap) (locs : List Loc) (ls : Array Slot), f_X9_changes_b11 n v0 v1 hs = some q → Rl K s hs H locs → lv_has ls 2 [(0, .ref (kA K v0)), (1, .int v1)] → W p l e rm_X9_changes s m args below meth c H locs 0 0 (MQ below (MQo K none q) args s 0 0 (kAx K)) (F0 m 11 ls []) := by
  have hx := C.1
  have hb := C.2.1
  intro n
  induction n with
  | zero =>
    intro v0 v1 hs H locs ls hf
    cases hf
  | succ n ih =>
    intro v0 v1 hs H locs ls hf hR hl
    rw [f_X9_changes_b11.eq_2] at hf
    refine lv_iload_n hx hb dX9_changes_11 rfl (lv_at hl 1 rfl) ?_
    refine lv_sipush (v := 400) hx hb dX9_changes_12 (by decide) ?_
    refine lv_icmp_ge (tgt := 39) hx hb dX9_changes_15 (by decide) (fun c15 => ?_) (fun c15 => ?_)
    · have hf := ip hf c15
      refine lv_aload_n hx hb dX9_changes_39 rfl (lv_at hl 0 rfl) ?_
      refine lv_dup hx hb dX9_changes_40 rfl ?_
      obtain ⟨x1, hx1, hf⟩ := ob hf
      refine r_getI C hR hx1 fl_X9_44 dX9_changes_41 ?_
      refine lv_iconst (v := 1) hx hb dX9_changes_44 (by decide) ?_
      refine lv_isub hx hb dX9_changes_45 ?_
      obtain ⟨hs2, hhs2, hf⟩ := ob hf
      refine r_putI C hR hhs2 fl_X9_44 dX9_changes_46 (fun H locs hR => ?_)
      refine lv_iconst (v := 0) hx hb dX9_changes_49 (by decide) ?_
      refine lv_istore_n (lv' := [(1, .int 0), (0, .ref (kA K v0))]) hx hb dX9_changes_50 rfl hl (by decide) rfl (fun ls hl => ?_)
      exact w_X9_changes_b51 C  _ _ _ _ _ _ _ hf hR (lv_sub hl [1, 0] rfl)
    · have hf := iq hf c15
      refine lv_aload_n hx hb dX9_changes_18 rfl (lv_at hl 0 rfl) ?_
      obtain ⟨x3, hx3, hf⟩ := ob hf
      refine r_getR C hR hx3 fl_X9_16 dX9_changes_19 ?_
      refine lv_iload_n hx hb dX9_changes_22 rfl (lv_at hl 1 rfl) ?_
      refine lv_aload_n hx hb dX9_changes_23 rfl (lv_at hl 0 rfl) ?_
      obtain ⟨x4, hx4, hf⟩ := ob hf
      refine r_getR C hR hx4 fl_X9_16 dX9_changes_24 ?_
      refine lv_iload_n hx hb dX9_changes_27 rfl (lv_at hl 1 rfl) ?_
      refine lv_bipush (v := 80) hx hb dX9_changes_28 (by decide) ?_
      refine lv_iadd hx hb dX9_changes_30 ?_
      obtain ⟨x5, hx5, hf⟩ := ob hf
      refine r_iald C hR hx5 dX9_changes_31 ?_
      obtain ⟨hs6, hhs6, hf⟩ := ob hf
      refine r_iast C hR hhs6 dX9_changes_32 (fun H locs hR => ?_)
      refine lv_iinc (v := v1 + 1) (lv' := [(1, .int (v1 + 1)), (0, .ref (kA K v0))]) hx hb dX9_changes_33 hl (k := 1) rfl rfl (by decide) rfl (fun ls hl => ?_)
      refine lv_goto (tgt := 11) hx hb dX9_changes_36 (by decide) ?_
      exact ih _ _ _ _ _ _ hf hR (lv_sub hl [1, 0] rfl)
set_option maxHeartbeats 4000000 in
set_option maxRecDepth 100000 in
theorem w_X9_changes_b0 {K : WK} {p : Program} {l : Launch} {e : Env} {s : State} {m : MethodId} {args : Array Value} {below : List Frame} {meth : Method} {c : Code} (C : Cx K p s m args meth c RX9 cX9_changes 2 (Option.none : Option Jvm.ClassFile.FieldType)) {q : AH} : ∀ (v0 : Nat) (hs : AH) (H : Heap) (locs : List Loc) (ls : Array Slot), f_X9_changes v0 hs = some q → Rl K s hs H locs → lv_has ls 2 [(0, .ref (kA K v0))] → W p l e rm_X9_changes s m args below meth c H locs 0 0 (MQ below (MQo K none q) args s 0 0 (kAx K)) (F0 m 0 ls []) := by
  have hx := C.1
  have hb := C.2.1
  intro v0 hs H locs ls hf hR hl
  rw [f_X9_changes.eq_1] at hf
  refine lv_aload_n hx hb dX9_changes_0 rfl (lv_at hl 0 rfl) ?_
  obtain ⟨x1, hx1, hf⟩ := ob hf
  refine r_getI C hR hx1 fl_X9_44 dX9_changes_1 ?_
  refine lv_bipush (v := 6) hx hb dX9_changes_4 (by decide) ?_
  refine lv_icmp_ne (tgt := 49) hx hb dX9_changes_6 (by decide) (fun c6 => ?_) (fun c6 => ?_)
  · have hf := iq hf c6
    refine lv_iconst (v := 0) hx hb dX9_changes_49 (by decide) ?_
    refine lv_istore_n (lv' := [(1, .int 0), (0, .ref (kA K v0))]) hx hb dX9_changes_50 rfl hl (by decide) rfl (fun ls hl => ?_)
    exact w_X9_changes_b51 C  _ _ _ _ _ _ _ hf hR (lv_sub hl [1, 0] rfl)
  · have hf := ip hf c6
    refine lv_iconst (v := 0) hx hb dX9_changes_9 (by decide) ?_
    refine lv_istore_n (lv' := [(1, .int 0), (0, .ref (kA K v0))]) hx hb dX9_changes_10 rfl hl (by decide) rfl (fun ls hl => ?_)
    exact w_X9_changes_b11 C  _ _ _ _ _ _ _ hf hR (lv_sub hl [1, 0] rfl)
theorem c_X9_changes {K : WK} {l : Launch} {hs : AH} {v0 : Nat} {q : AH} (hf : f_X9_changes v0 hs = some q) : MC K l yX9_changes cX9_changes 2 (Option.none : Option Jvm.ClassFile.FieldType) rm_X9_changes [.ref (kA K v0)] hs none q 0 0 :=
  MC.of (by decide +kernel) (Nat.le_of_ble_eq_true rfl) (fun p e s m args below meth c C _ hR ls hl => w_X9_changes_b0 C _ hs _ _ ls hf hR hl)
noncomputable def f_X9_sets (v0 : Nat) (v1 : Int32) (v2 : Int32) (hs : AH) : Option (Int32 × AH) :=
  (chk hs v0 9).bind fun u1 =>
  (f_X9_changes v0 hs).bind fun hs2 =>
  (gR hs2 v0 9 1).bind fun x3 =>
  (aN 0 hs2 x3 v1).bind fun x4 =>
  (gR hs2 v0 9 1).bind fun x5 =>
  (sN 0 hs2 x5 v1 v2).bind fun hs6 =>
  some (x4, hs6)
abbrev rm_X9_sets : Room := { frames := 1, cells := 0, slots := 0, locals := 21 }
set_option maxHeartbeats 4000000 in
set_option maxRecDepth 100000 in
theorem w_X9_sets_b0 {K : WK} {p : Program} {l : Launch} {e : Env} {s : State} {m : MethodId} {args : Array Value} {below : List Frame} {meth : Method} {c : Code} (C : Cx K p s m args meth c RX9 cX9_sets 4 (Option.some Jvm.ClassFile.FieldType.int)) {q : Int32 × AH} : ∀ (v0 : Nat) (v1 : Int32) (v2 : Int32) (hs : AH) (H : Heap) (locs : List Loc) (ls : Array Slot), f_X9_sets v0 v1 v2 hs = some q → Rl K s hs H locs → lv_has ls 4 [(0, .ref (kA K v0)), (1, .int v1), (2, .int v2)] → W p l e rm_X9_sets s m args below meth c H locs 0 0 (MQ below (MQo K (some (.int q.1)) q.2) args s 0 0 (kAx K)) (F0 m 0 ls []) := by
  have hx := C.1
  have hb := C.2.1
  intro v0 v1 v2 hs H locs ls hf hR hl
  rw [f_X9_sets.eq_1] at hf
  refine lv_aload_n hx hb dX9_sets_0 rfl (lv_at hl 0 rfl) ?_
  obtain ⟨u1, hu1, hf⟩ := ob hf
  obtain ⟨hs2, hhs2, hf⟩ := ob hf
  refine r_callV (As := []) (rest := []) (st1 := []) C hR (lv_sub hl [] rfl) (c_X9_changes hhs2) mv_X9_changes ml_X9_47 ⟨rfl, rfl, (Nat.le_of_ble_eq_true rfl), (Nat.le_of_ble_eq_true rfl)⟩ (rv_obj C hR hu1 (q := (RX9, TX9, 17)) rfl) rfl rfl rfl (Nat.le_of_ble_eq_true rfl) ⟨(Nat.le_of_ble_eq_true rfl), (Nat.le_of_ble_eq_true rfl)⟩ dX9_sets_1 (fun H locs hR => ?_)
  refine lv_aload_n hx hb dX9_sets_4 rfl (lv_at hl 0 rfl) ?_
  obtain ⟨x3, hx3, hf⟩ := ob hf
  refine r_getR C hR hx3 fl_X9_9 dX9_sets_5 ?_
  refine lv_iload_n hx hb dX9_sets_8 rfl (lv_at hl 1 rfl) ?_
  obtain ⟨x4, hx4, hf⟩ := ob hf
  refine r_iald C hR hx4 dX9_sets_9 ?_
  refine lv_istore_n (lv' := [(3, .int x4), (0, .ref (kA K v0)), (1, .int v1), (2, .int v2)]) hx hb dX9_sets_10 rfl hl (by decide) rfl (fun ls hl => ?_)
  refine lv_aload_n hx hb dX9_sets_11 rfl (lv_at hl 1 rfl) ?_
  obtain ⟨x5, hx5, hf⟩ := ob hf
  refine r_getR C hR hx5 fl_X9_9 dX9_sets_12 ?_
  refine lv_iload_n hx hb dX9_sets_15 rfl (lv_at hl 2 rfl) ?_
  refine lv_iload_n hx hb dX9_sets_16 rfl (lv_at hl 3 rfl) ?_
  obtain ⟨hs6, hhs6, hf⟩ := ob hf
  refine r_iast C hR hhs6 dX9_sets_17 (fun H locs hR => ?_)
  refine lv_iload_n hx hb dX9_sets_18 rfl (lv_at hl 0 rfl) ?_
  obtain rfl := Option.some.inj hf
  exact r_iret C hR rfl (Nat.le_of_ble_eq_true rfl) (Nat.le_of_ble_eq_true rfl) dX9_sets_19
theorem c_X9_sets {K : WK} {l : Launch} {hs : AH} {v0 : Nat} {v1 : Int32} {v2 : Int32} {q : Int32 × AH} (hf : f_X9_sets v0 v1 v2 hs = some q) : MC K l yX9_sets cX9_sets 4 (Option.some Jvm.ClassFile.FieldType.int) rm_X9_sets [.ref (kA K v0), .int v1, .int v2] hs (some (.int q.1)) q.2 0 0 :=
  MC.of (by decide +kernel) (Nat.le_of_ble_eq_true rfl) (fun p e s m args below meth c C _ hR ls hl => w_X9_sets_b0 C _ _ _ hs _ _ ls hf hR hl)
noncomputable def f_X9_stepOf (v0 : Int32) : Option (Int32) :=
  some (v0 / 3)
abbrev rm_X9_stepOf : Room := { frames := 0, cells := 0, slots := 0, locals := 0 }
set_option maxHeartbeats 4000000 in
set_option maxRecDepth 100000 in
theorem w_X9_stepOf_b0 {K : WK} {p : Program} {l : Launch} {e : Env} {s : State} {m : MethodId} {args : Array Value} {below : List Frame} {meth : Method} {c : Code} (C : Cx K p s m args meth c RX9 cX9_stepOf 1 (Option.some Jvm.ClassFile.FieldType.int)) {q : Int32} : ∀ (v0 : Int32) (hs : AH) (H : Heap) (locs : List Loc) (ls : Array Slot), f_X9_stepOf v0 = some q → Rl K s hs H locs → lv_has ls 1 [(0, .int v0)] → W p l e rm_X9_stepOf s m args below meth c H locs 0 0 (MQ below (MQo K (some (.int q)) hs) args s 0 0 (kAx K)) (F0 m 0 ls []) := by
  have hx := C.1
  have hb := C.2.1
  intro v0 hs H locs ls hf hR hl
  rw [f_X9_stepOf.eq_1] at hf
  refine lv_iload_n hx hb dX9_stepOf_0 rfl (lv_at hl 0 rfl) ?_
  refine lv_iconst (v := 3) hx hb dX9_stepOf_1 (by decide) ?_
  refine lv_idiv hx hb dX9_stepOf_2 (by decide) ?_
  obtain rfl := Option.some.inj hf
  exact r_iret C hR rfl (Nat.le_of_ble_eq_true rfl) (Nat.le_of_ble_eq_true rfl) dX9_stepOf_3
theorem c_X9_stepOf {K : WK} {l : Launch} {hs : AH} {v0 : Int32} {q : Int32} (hf : f_X9_stepOf v0 = some q) : MC K l yX9_stepOf cX9_stepOf 1 (Option.some Jvm.ClassFile.FieldType.int) rm_X9_stepOf [.int v0] hs (some (.int q)) hs 0 0 :=
  MC.of (by decide +kernel) (Nat.le_of_ble_eq_true rfl) (fun p e s m args below meth c C _ hR ls hl => w_X9_stepOf_b0 C _ hs _ _ ls hf hR hl)
noncomputable def f_X9_alterationOf (v0 : Int32) : Option (Int32) :=
  some ((v0 - v0 / 3 * 3) - 1)
abbrev rm_X9_alterationOf : Room := { frames := 0, cells := 0, slots := 0, locals := 0 }
set_option maxHeartbeats 4000000 in
set_option maxRecDepth 100000 in
theorem w_X9_alterationOf_b0 {K : WK} {p : Program} {l : Launch} {e : Env} {s : State} {m : MethodId} {args : Array Value} {below : List Frame} {meth : Method} {c : Code} (C : Cx K p s m args meth c RX9 cX9_alterationOf 1 (Option.some Jvm.ClassFile.FieldType.int)) {q : Int32} : ∀ (v0 : Int32) (hs : AH) (H : Heap) (locs : List Loc) (ls : Array Slot), f_X9_alterationOf v0 = some q → Rl K s hs H locs → lv_has ls 1 [(0, .int v0)] → W p l e rm_X9_alterationOf s m args below meth c H locs 0 0 (MQ below (MQo K (some (.int q)) hs) args s 0 0 (kAx K)) (F0 m 0 ls []) := by
  have hx := C.1
  have hb := C.2.1
  intro v0 hs H locs ls hf hR hl
  rw [f_X9_alterationOf.eq_1] at hf
  refine lv_iload_n hx hb dX9_alterationOf_0 rfl (lv_at hl 0 rfl) ?_
  refine lv_iconst (v := 3) hx hb dX9_alterationOf_1 (by decide) ?_
  refine lv_irem hx hb dX9_alterationOf_2 (by decide) ?_
  refine lv_iconst (v := 1) hx hb dX9_alterationOf_3 (by decide) ?_
  refine lv_isub hx hb dX9_alterationOf_4 ?_
  obtain rfl := Option.some.inj hf
  exact r_iret C hR rfl (Nat.le_of_ble_eq_true rfl) (Nat.le_of_ble_eq_true rfl) dX9_alterationOf_5
theorem c_X9_alterationOf {K : WK} {l : Launch} {hs : AH} {v0 : Int32} {q : Int32} (hf : f_X9_alterationOf v0 = some q) : MC K l yX9_alterationOf cX9_alterationOf 1 (Option.some Jvm.ClassFile.FieldType.int) rm_X9_alterationOf [.int v0] hs (some (.int q)) hs 0 0 :=
  MC.of (by decide +kernel) (Nat.le_of_ble_eq_true rfl) (fun p e s m args below meth c C _ hR ls hl => w_X9_alterationOf_b0 C _ hs _ _ ls hf hR hl)
noncomputable def f_X9_pitchOf (v0 : Int32) : Option (Int32) :=
  (f_X9_stepOf v0).bind fun x1 =>
  (f_X9_stepOf v0).bind fun x2 =>
  if (x1 - x1 / 7 * 7) ≤ 2 then
  (
   (f_X9_alterationOf v0).bind fun x3 =>
   some ((((12 * (x2 / 7)) + (2 * (x1 - x1 / 7 * 7))) - 0) + x3))
  else
  (
   (f_X9_alterationOf v0).bind fun x4 =>
   some ((((12 * (x2 / 7)) + (2 * (x1 - x1 / 7 * 7))) - 1) + x4))
abbrev rm_X9_pitchOf : Room := { frames := 1, cells := 0, slots := 0, locals := 20 }
set_option maxHeartbeats 4000000 in
set_option maxRecDepth 100000 in
theorem w_X9_pitchOf_b0 {K : WK} {p : Program} {l : Launch} {e : Env} {s : State} {m : MethodId} {args : Array Value} {below : List Frame} {meth : Method} {c : Code} (C : Cx K p s m args meth c RX9 cX9_pitchOf 2 (Option.some Jvm.ClassFile.FieldType.int)) {q : Int32} : ∀ (v0 : Int32) (hs : AH) (H : Heap) (locs : List Loc) (ls : Array Slot), f_X9_pitchOf v0 = some q → Rl K s hs H locs → lv_has ls 2 [(0, .int v0)] → W p l e rm_X9_pitchOf s m args below meth c H locs 0 0 (MQ below (MQo K (some (.int q)) hs) args s 0 0 (kAx K)) (F0 m 0 ls []) := by
  have hx := C.1
  have hb := C.2.1
  intro v0 hs H locs ls hf hR hl
  rw [f_X9_pitchOf.eq_1] at hf
  refine lv_iload_n hx hb dX9_pitchOf_0 rfl (lv_at hl 0 rfl) ?_
  obtain ⟨x1, hx1, hf⟩ := ob hf
  refine r_callS (As := [.int v0]) (rest := []) (st1 := [.int x1]) C hR (lv_sub hl [] rfl) (c_X9_stepOf hx1) ms_X9_stepOf ml_X9_49 ⟨rfl, rfl, (Nat.le_of_ble_eq_true rfl), (Nat.le_of_ble_eq_true rfl)⟩ rfl rfl rfl (Nat.le_of_ble_eq_true rfl) ⟨(Nat.le_of_ble_eq_true rfl), (Nat.le_of_ble_eq_true rfl)⟩ dX9_pitchOf_1 (fun H locs hR => ?_)
  refine lv_bipush (v := 7) hx hb dX9_pitchOf_4 (by decide) ?_
  refine lv_irem hx hb dX9_pitchOf_6 (by decide) ?_
  refine lv_istore_n (lv' := [(1, .int (x1 - x1 / 7 * 7)), (0, .int v0)]) hx hb dX9_pitchOf_7 rfl hl (by decide) rfl (fun ls hl => ?_)
  refine lv_bipush (v := 12) hx hb dX9_pitchOf_8 (by decide) ?_
  refine lv_iload_n hx hb dX9_pitchOf_10 rfl (lv_at hl 1 rfl) ?_
  obtain ⟨x2, hx2, hf⟩ := ob hf
  refine r_callS (As := [.int v0]) (rest := [.int 12]) (st1 := [.int x2, .int 12]) C hR (lv_sub hl [] rfl) (c_X9_stepOf hx2) ms_X9_stepOf ml_X9_49 ⟨rfl, rfl, (Nat.le_of_ble_eq_true rfl), (Nat.le_of_ble_eq_true rfl)⟩ rfl rfl rfl (Nat.le_of_ble_eq_true rfl) ⟨(Nat.le_of_ble_eq_true rfl), (Nat.le_of_ble_eq_true rfl)⟩ dX9_pitchOf_11 (fun H locs hR => ?_)
  refine lv_bipush (v := 7) hx hb dX9_pitchOf_14 (by decide) ?_
  refine lv_idiv hx hb dX9_pitchOf_16 (by decide) ?_
  refine lv_imul hx hb dX9_pitchOf_17 ?_
  refine lv_iconst (v := 2) hx hb dX9_pitchOf_18 (by decide) ?_
  refine lv_iload_n hx hb dX9_pitchOf_19 rfl (lv_at hl 0 rfl) ?_
  refine lv_imul hx hb dX9_pitchOf_20 ?_
  refine lv_iadd hx hb dX9_pitchOf_21 ?_
  refine lv_iload_n hx hb dX9_pitchOf_22 rfl (lv_at hl 0 rfl) ?_
  refine lv_iconst (v := 2) hx hb dX9_pitchOf_23 (by decide) ?_
  refine lv_icmp_le (tgt := 31) hx hb dX9_pitchOf_24 (by decide) (fun c24 => ?_) (fun c24 => ?_)
  · have hf := ip hf c24
    refine lv_iconst (v := 0) hx hb dX9_pitchOf_31 (by decide) ?_
    refine lv_isub hx hb dX9_pitchOf_32 ?_
    refine lv_iload_n hx hb dX9_pitchOf_33 rfl (lv_at hl 1 rfl) ?_
    obtain ⟨x3, hx3, hf⟩ := ob hf
    refine r_callS (As := [.int v0]) (rest := [.int (((12 * (x2 / 7)) + (2 * (x1 - x1 / 7 * 7))) - 0)]) (st1 := [.int x3, .int (((12 * (x2 / 7)) + (2 * (x1 - x1 / 7 * 7))) - 0)]) C hR (lv_sub hl [] rfl) (c_X9_alterationOf hx3) ms_X9_alterationOf ml_X9_53 ⟨rfl, rfl, (Nat.le_of_ble_eq_true rfl), (Nat.le_of_ble_eq_true rfl)⟩ rfl rfl rfl (Nat.le_of_ble_eq_true rfl) ⟨(Nat.le_of_ble_eq_true rfl), (Nat.le_of_ble_eq_true rfl)⟩ dX9_pitchOf_34 (fun H locs hR => ?_)
    refine lv_iadd hx hb dX9_pitchOf_37 ?_
    obtain rfl := Option.some.inj hf
    exact r_iret C hR rfl (Nat.le_of_ble_eq_true rfl) (Nat.le_of_ble_eq_true rfl) dX9_pitchOf_38
  · have hf := iq hf c24
    refine lv_iconst (v := 1) hx hb dX9_pitchOf_27 (by decide) ?_
    refine lv_goto (tgt := 32) hx hb dX9_pitchOf_28 (by decide) ?_
    refine lv_isub hx hb dX9_pitchOf_32 ?_
    refine lv_iload_n hx hb dX9_pitchOf_33 rfl (lv_at hl 1 rfl) ?_
    obtain ⟨x4, hx4, hf⟩ := ob hf
    refine r_callS (As := [.int v0]) (rest := [.int (((12 * (x2 / 7)) + (2 * (x1 - x1 / 7 * 7))) - 1)]) (st1 := [.int x4, .int (((12 * (x2 / 7)) + (2 * (x1 - x1 / 7 * 7))) - 1)]) C hR (lv_sub hl [] rfl) (c_X9_alterationOf hx4) ms_X9_alterationOf ml_X9_53 ⟨rfl, rfl, (Nat.le_of_ble_eq_true rfl), (Nat.le_of_ble_eq_true rfl)⟩ rfl rfl rfl (Nat.le_of_ble_eq_true rfl) ⟨(Nat.le_of_ble_eq_true rfl), (Nat.le_of_ble_eq_true rfl)⟩ dX9_pitchOf_34 (fun H locs hR => ?_)
    refine lv_iadd hx hb dX9_pitchOf_37 ?_
    obtain rfl := Option.some.inj hf
    exact r_iret C hR rfl (Nat.le_of_ble_eq_true rfl) (Nat.le_of_ble_eq_true rfl) dX9_pitchOf_38
theorem c_X9_pitchOf {K : WK} {l : Launch} {hs : AH} {v0 : Int32} {q : Int32} (hf : f_X9_pitchOf v0 = some q) : MC K l yX9_pitchOf cX9_pitchOf 2 (Option.some Jvm.ClassFile.FieldType.int) rm_X9_pitchOf [.int v0] hs (some (.int q)) hs 0 0 :=
  MC.of (by decide +kernel) (Nat.le_of_ble_eq_true rfl) (fun p e s m args below meth c C _ hR ls hl => w_X9_pitchOf_b0 C _ hs _ _ ls hf hR hl)
noncomputable def f_X9_steps (v0 : Int32) (v1 : Int32) : Option (Int32) :=
  (f_X9_stepOf v0).bind fun x1 =>
  (f_X9_stepOf v1).bind fun x2 =>
  some (iabs (x1 - x2))
abbrev rm_X9_steps : Room := { frames := 1, cells := 0, slots := 0, locals := 21 }
set_option maxHeartbeats 4000000 in
set_option maxRecDepth 100000 in
theorem w_X9_steps_b0 {K : WK} {p : Program} {l : Launch} {e : Env} {s : State} {m : MethodId} {args : Array Value} {below : List Frame} {meth : Method} {c : Code} (C : Cx K p s m args meth c RX9 cX9_steps 2 (Option.some Jvm.ClassFile.FieldType.int)) {q : Int32} : ∀ (v0 : Int32) (v1 : Int32) (hs : AH) (H : Heap) (locs : List Loc) (ls : Array Slot), f_X9_steps v0 v1 = some q → Rl K s hs H locs → lv_has ls 2 [(0, .int v0), (1, .int v1)] → W p l e rm_X9_steps s m args below meth c H locs 0 0 (MQ below (MQo K (some (.int q)) hs) args s 0 0 (kAx K)) (F0 m 0 ls []) := by
  have hx := C.1
  have hb := C.2.1
  intro v0 v1 hs H locs ls hf hR hl
  rw [f_X9_steps.eq_1] at hf
  refine lv_iload_n hx hb dX9_steps_0 rfl (lv_at hl 0 rfl) ?_
  obtain ⟨x1, hx1, hf⟩ := ob hf
  refine r_callS (As := [.int v0]) (rest := []) (st1 := [.int x1]) C hR (lv_sub hl [] rfl) (c_X9_stepOf hx1) ms_X9_stepOf ml_X9_49 ⟨rfl, rfl, (Nat.le_of_ble_eq_true rfl), (Nat.le_of_ble_eq_true rfl)⟩ rfl rfl rfl (Nat.le_of_ble_eq_true rfl) ⟨(Nat.le_of_ble_eq_true rfl), (Nat.le_of_ble_eq_true rfl)⟩ dX9_steps_1 (fun H locs hR => ?_)
  refine lv_iload_n hx hb dX9_steps_4 rfl (lv_at hl 1 rfl) ?_
  obtain ⟨x2, hx2, hf⟩ := ob hf
  refine r_callS (As := [.int v1]) (rest := [.int x1]) (st1 := [.int x2, .int x1]) C hR (lv_sub hl [] rfl) (c_X9_stepOf hx2) ms_X9_stepOf ml_X9_49 ⟨rfl, rfl, (Nat.le_of_ble_eq_true rfl), (Nat.le_of_ble_eq_true rfl)⟩ rfl rfl rfl (Nat.le_of_ble_eq_true rfl) ⟨(Nat.le_of_ble_eq_true rfl), (Nat.le_of_ble_eq_true rfl)⟩ dX9_steps_5 (fun H locs hR => ?_)
  refine lv_isub hx hb dX9_steps_8 ?_
  refine r_jabs C (lv_sub hl [] rfl) ml_X9_56 (Nat.le_of_ble_eq_true rfl) (Nat.le_of_ble_eq_true rfl) ⟨(Nat.le_of_ble_eq_true rfl), (Nat.le_of_ble_eq_true rfl)⟩ dX9_steps_9 ?_
  obtain rfl := Option.some.inj hf
  exact r_iret C hR rfl (Nat.le_of_ble_eq_true rfl) (Nat.le_of_ble_eq_true rfl) dX9_steps_12
theorem c_X9_steps {K : WK} {l : Launch} {hs : AH} {v0 : Int32} {v1 : Int32} {q : Int32} (hf : f_X9_steps v0 v1 = some q) : MC K l yX9_steps cX9_steps 2 (Option.some Jvm.ClassFile.FieldType.int) rm_X9_steps [.int v0, .int v1] hs (some (.int q)) hs 0 0 :=
  MC.of (by decide +kernel) (Nat.le_of_ble_eq_true rfl) (fun p e s m args below meth c C _ hR ls hl => w_X9_steps_b0 C _ _ hs _ _ ls hf hR hl)
noncomputable def f_X9_width (v0 : Int32) (v1 : Int32) : Option (Int32) :=
  (f_X9_pitchOf v0).bind fun x1 =>
  (f_X9_pitchOf v1).bind fun x2 =>
  some (iabs (x1 - x2))
abbrev rm_X9_width : Room := { frames := 2, cells := 0, slots := 0, locals := 41 }
set_option maxHeartbeats 4000000 in
set_option maxRecDepth 100000 in
theorem w_X9_width_b0 {K : WK} {p : Program} {l : Launch} {e : Env} {s : State} {m : MethodId} {args : Array Value} {below : List Frame} {meth : Method} {c : Code} (C : Cx K p s m args meth c RX9 cX9_width 2 (Option.some Jvm.ClassFile.FieldType.int)) {q : Int32} : ∀ (v0 : Int32) (v1 : Int32) (hs : AH) (H : Heap) (locs : List Loc) (ls : Array Slot), f_X9_width v0 v1 = some q → Rl K s hs H locs → lv_has ls 2 [(0, .int v0), (1, .int v1)] → W p l e rm_X9_width s m args below meth c H locs 0 0 (MQ below (MQo K (some (.int q)) hs) args s 0 0 (kAx K)) (F0 m 0 ls []) := by
  have hx := C.1
  have hb := C.2.1
  intro v0 v1 hs H locs ls hf hR hl
  rw [f_X9_width.eq_1] at hf
  refine lv_iload_n hx hb dX9_width_0 rfl (lv_at hl 0 rfl) ?_
  obtain ⟨x1, hx1, hf⟩ := ob hf
  refine r_callS (As := [.int v0]) (rest := []) (st1 := [.int x1]) C hR (lv_sub hl [] rfl) (c_X9_pitchOf hx1) ms_X9_pitchOf ml_X9_61 ⟨rfl, rfl, (Nat.le_of_ble_eq_true rfl), (Nat.le_of_ble_eq_true rfl)⟩ rfl rfl rfl (Nat.le_of_ble_eq_true rfl) ⟨(Nat.le_of_ble_eq_true rfl), (Nat.le_of_ble_eq_true rfl)⟩ dX9_width_1 (fun H locs hR => ?_)
  refine lv_iload_n hx hb dX9_width_4 rfl (lv_at hl 1 rfl) ?_
  obtain ⟨x2, hx2, hf⟩ := ob hf
  refine r_callS (As := [.int v1]) (rest := [.int x1]) (st1 := [.int x2, .int x1]) C hR (lv_sub hl [] rfl) (c_X9_pitchOf hx2) ms_X9_pitchOf ml_X9_61 ⟨rfl, rfl, (Nat.le_of_ble_eq_true rfl), (Nat.le_of_ble_eq_true rfl)⟩ rfl rfl rfl (Nat.le_of_ble_eq_true rfl) ⟨(Nat.le_of_ble_eq_true rfl), (Nat.le_of_ble_eq_true rfl)⟩ dX9_width_5 (fun H locs hR => ?_)
  refine lv_isub hx hb dX9_width_8 ?_
  refine r_jabs C (lv_sub hl [] rfl) ml_X9_56 (Nat.le_of_ble_eq_true rfl) (Nat.le_of_ble_eq_true rfl) ⟨(Nat.le_of_ble_eq_true rfl), (Nat.le_of_ble_eq_true rfl)⟩ dX9_width_9 ?_
  obtain rfl := Option.some.inj hf
  exact r_iret C hR rfl (Nat.le_of_ble_eq_true rfl) (Nat.le_of_ble_eq_true rfl) dX9_width_12
theorem c_X9_width {K : WK} {l : Launch} {hs : AH} {v0 : Int32} {v1 : Int32} {q : Int32} (hf : f_X9_width v0 v1 = some q) : MC K l yX9_width cX9_width 2 (Option.some Jvm.ClassFile.FieldType.int) rm_X9_width [.int v0, .int v1] hs (some (.int q)) hs 0 0 :=
  MC.of (by decide +kernel) (Nat.le_of_ble_eq_true rfl) (fun p e s m args below meth c C _ hR ls hl => w_X9_width_b0 C _ _ hs _ _ ls hf hR hl)
noncomputable def f_X9_perfect_b31 (v2 : Int32) (v3 : Int32) : Option (Int32) :=
  if v2 = 4 then
  (
   if v3 = 7 then
   (
    some 5)
   else
   (
    some 0))
  else
  (
   some 0)
noncomputable def f_X9_perfect (v0 : Int32) (v1 : Int32) : Option (Int32) :=
  (f_X9_steps v0 v1).bind fun x1 =>
  (f_X9_width v0 v1).bind fun x2 =>
  if (x1 - x1 / 7 * 7) = 0 then
  (
   if (x2 - x2 / 12 * 12) = 0 then
   (
    some 8)
   else
   (
    f_X9_perfect_b31 (x1 - x1 / 7 * 7) (x2 - x2 / 12 * 12)))
  else
  (
   f_X9_perfect_b31 (x1 - x1 / 7 * 7) (x2 - x2 / 12 * 12))
abbrev rm_X9_perfect : Room := { frames := 3, cells := 0, slots := 0, locals := 62 }
set_option maxHeartbeats 4000000 in
set_option maxRecDepth 100000 in
theorem w_X9_perfect_b31 {K : WK} {p : Program} {l : Launch} {e : Env} {s : State} {m : MethodId} {args : Array Value} {below : List Frame} {meth : Method} {c : Code} (C : Cx K p s m args meth c RX9 cX9_perfect 4 (Option.some Jvm.ClassFile.FieldType.int)) {q : Int32} : ∀ (v2 : Int32) (v3 : Int32) (hs : AH) (H : Heap) (locs : List Loc) (ls : Array Slot), f_X9_perfect_b31 v2 v3 = some q → Rl K s hs H locs → lv_has ls 4 [(2, .int v2), (3, .int v3)] → W p l e rm_X9_perfect s m args below meth c H locs 0 0 (MQ below (MQo K (some (.int q)) hs) args s 0 0 (kAx K)) (F0 m 31 ls []) := by
  have hx := C.1
  have hb := C.2.1
  intro v2 v3 hs H locs ls hf hR hl
  rw [f_X9_perfect_b31.eq_1] at hf
  refine lv_iload_n hx hb dX9_perfect_31 rfl (lv_at hl 0 rfl) ?_
  refine lv_iconst (v := 4) hx hb dX9_perfect_32 (by decide) ?_
  refine lv_icmp_ne (tgt := 46) hx hb dX9_perfect_33 (by decide) (fun c33 => ?_) (fun c33 => ?_)
  · have hf := iq hf c33
    refine lv_iconst (v := 0) hx hb dX9_perfect_46 (by decide) ?_
    obtain rfl := Option.some.inj hf
    exact r_iret C hR rfl (Nat.le_of_ble_eq_true rfl) (Nat.le_of_ble_eq_true rfl) dX9_perfect_47
  · have hf := ip hf c33
    refine lv_iload_n hx hb dX9_perfect_36 rfl (lv_at hl 1 rfl) ?_
    refine lv_bipush (v := 7) hx hb dX9_perfect_37 (by decide) ?_
    refine lv_icmp_ne (tgt := 46) hx hb dX9_perfect_39 (by decide) (fun c39 => ?_) (fun c39 => ?_)
    · have hf := iq hf c39
      refine lv_iconst (v := 0) hx hb dX9_perfect_46 (by decide) ?_
      obtain rfl := Option.some.inj hf
      exact r_iret C hR rfl (Nat.le_of_ble_eq_true rfl) (Nat.le_of_ble_eq_true rfl) dX9_perfect_47
    · have hf := ip hf c39
      refine lv_iconst (v := 5) hx hb dX9_perfect_42 (by decide) ?_
      refine lv_goto (tgt := 47) hx hb dX9_perfect_43 (by decide) ?_
      obtain rfl := Option.some.inj hf
      exact r_iret C hR rfl (Nat.le_of_ble_eq_true rfl) (Nat.le_of_ble_eq_true rfl) dX9_perfect_47
set_option maxHeartbeats 4000000 in
set_option maxRecDepth 100000 in
theorem w_X9_perfect_b0 {K : WK} {p : Program} {l : Launch} {e : Env} {s : State} {m : MethodId} {args : Array Value} {below : List Frame} {meth : Method} {c : Code} (C : Cx K p s m args meth c RX9 cX9_perfect 4 (Option.some Jvm.ClassFile.FieldType.int)) {q : Int32} : ∀ (v0 : Int32) (v1 : Int32) (hs : AH) (H : Heap) (locs : List Loc) (ls : Array Slot), f_X9_perfect v0 v1 = some q → Rl K s hs H locs → lv_has ls 4 [(0, .int v0), (1, .int v1)] → W p l e rm_X9_perfect s m args below meth c H locs 0 0 (MQ below (MQo K (some (.int q)) hs) args s 0 0 (kAx K)) (F0 m 0 ls []) := by
  have hx := C.1
  have hb := C.2.1
  intro v0 v1 hs H locs ls hf hR hl
  rw [f_X9_perfect.eq_1] at hf
  refine lv_iload_n hx hb dX9_perfect_0 rfl (lv_at hl 0 rfl) ?_
  refine lv_iload_n hx hb dX9_perfect_1 rfl (lv_at hl 1 rfl) ?_
  obtain ⟨x1, hx1, hf⟩ := ob hf
  refine r_callS (As := [.int v0, .int v1]) (rest := []) (st1 := [.int x1]) C hR (lv_sub hl [] rfl) (c_X9_steps hx1) ms_X9_steps ml_X9_64 ⟨rfl, rfl, (Nat.le_of_ble_eq_true rfl), (Nat.le_of_ble_eq_true rfl)⟩ rfl rfl rfl (Nat.le_of_ble_eq_true rfl) ⟨(Nat.le_of_ble_eq_true rfl), (Nat.le_of_ble_eq_true rfl)⟩ dX9_perfect_2 (fun H locs hR => ?_)
  refine lv_bipush (v := 7) hx hb dX9_perfect_5 (by decide) ?_
  refine lv_irem hx hb dX9_perfect_7 (by decide) ?_
  refine lv_istore_n (lv' := [(2, .int (x1 - x1 / 7 * 7)), (0, .int v0), (1, .int v1)]) hx hb dX9_perfect_8 rfl hl (by decide) rfl (fun ls hl => ?_)
  refine lv_iload_n hx hb dX9_perfect_9 rfl (lv_at hl 1 rfl) ?_
  refine lv_iload_n hx hb dX9_perfect_10 rfl (lv_at hl 2 rfl) ?_
  obtain ⟨x2, hx2, hf⟩ := ob hf
  refine r_callS (As := [.int v0, .int v1]) (rest := []) (st1 := [.int x2]) C hR (lv_sub hl [] rfl) (c_X9_width hx2) ms_X9_width ml_X9_68 ⟨rfl, rfl, (Nat.le_of_ble_eq_true rfl), (Nat.le_of_ble_eq_true rfl)⟩ rfl rfl rfl (Nat.le_of_ble_eq_true rfl) ⟨(Nat.le_of_ble_eq_true rfl), (Nat.le_of_ble_eq_true rfl)⟩ dX9_perfect_11 (fun H locs hR => ?_)
  refine lv_bipush (v := 12) hx hb dX9_perfect_14 (by decide) ?_
  refine lv_irem hx hb dX9_perfect_16 (by decide) ?_
  refine lv_istore_n (lv' := [(3, .int (x2 - x2 / 12 * 12)), (2, .int (x1 - x1 / 7 * 7)), (0, .int v0), (1, .int v1)]) hx hb dX9_perfect_17 rfl hl (by decide) rfl (fun ls hl => ?_)
  refine lv_iload_n hx hb dX9_perfect_18 rfl (lv_at hl 1 rfl) ?_
  refine lv_if_ne (tgt := 31) hx hb dX9_perfect_19 (by decide) (fun c19 => ?_) (fun c19 => ?_)
  · have hf := iq hf c19
    exact w_X9_perfect_b31 C  _ _ _ _ _ _ hf hR (lv_sub hl [1, 0] rfl)
  · have hf := ip hf c19
    refine lv_iload_n hx hb dX9_perfect_22 rfl (lv_at hl 0 rfl) ?_
    refine lv_if_ne (tgt := 31) hx hb dX9_perfect_23 (by decide) (fun c23 => ?_) (fun c23 => ?_)
    · have hf := iq hf c23
      exact w_X9_perfect_b31 C  _ _ _ _ _ _ hf hR (lv_sub hl [1, 0] rfl)
    · have hf := ip hf c23
      refine lv_bipush (v := 8) hx hb dX9_perfect_26 (by decide) ?_
      refine lv_goto (tgt := 47) hx hb dX9_perfect_28 (by decide) ?_
      obtain rfl := Option.some.inj hf
      exact r_iret C hR rfl (Nat.le_of_ble_eq_true rfl) (Nat.le_of_ble_eq_true rfl) dX9_perfect_47
theorem c_X9_perfect {K : WK} {l : Launch} {hs : AH} {v0 : Int32} {v1 : Int32} {q : Int32} (hf : f_X9_perfect v0 v1 = some q) : MC K l yX9_perfect cX9_perfect 4 (Option.some Jvm.ClassFile.FieldType.int) rm_X9_perfect [.int v0, .int v1] hs (some (.int q)) hs 0 0 :=
  MC.of (by decide +kernel) (Nat.le_of_ble_eq_true rfl) (fun p e s m args below meth c C _ hR ls hl => w_X9_perfect_b0 C _ _ hs _ _ ls hf hR hl)
noncomputable def f_X9_isConsonant_b40 (v2 : Int32) (v3 : Int32) : Option (Int32) :=
  if v2 = 5 then
  (
   (f_X9_in v3 8 9).bind fun x1 =>
   if x1 = 0 then
   (
    some 0)
   else
   (
    some 1))
  else
  (
   some 0)
noncomputable def f_X9_isConsonant (v0 : Int32) (v1 : Int32) : Option (Int32) :=
  (f_X9_steps v0 v1).bind fun x1 =>
  (f_X9_width v0 v1).bind fun x2 =>
  (f_X9_perfect v0 v1).bind fun x3 =>
  if 0 < x3 then
  (
   some 1)
  else
  (
   if (x1 - x1 / 7 * 7) = 2 then
   (
    (f_X9_in (x2 - x2 / 12 * 12) 3 4).bind fun x4 =>
    if x4 = 0 then
    (
     f_X9_isConsonant_b40 (x1 - x1 / 7 * 7) (x2 - x2 / 12 * 12))
    else
    (
     some 1))
   else
   (
    f_X9_isConsonant_b40 (x1 - x1 / 7 * 7) (x2 - x2 / 12 * 12)))
abbrev rm_X9_isConsonant : Room := { frames := 4, cells := 0, slots := 0, locals := 85 }
set_option maxHeartbeats 4000000 in
set_option maxRecDepth 100000 in
theorem w_X9_isConsonant_b40 {K : WK} {p : Program} {l : Launch} {e : Env} {s : State} {m : MethodId} {args : Array Value} {below : List Frame} {meth : Method} {c : Code} (C : Cx K p s m args meth c RX9 cX9_isConsonant 4 (Option.some Jvm.ClassFile.FieldType.boolean)) {q : Int32} : ∀ (v2 : Int32) (v3 : Int32) (hs : AH) (H : Heap) (locs : List Loc) (ls : Array Slot), f_X9_isConsonant_b40 v2 v3 = some q → Rl K s hs H locs → lv_has ls 4 [(2, .int v2), (3, .int v3)] → W p l e rm_X9_isConsonant s m args below meth c H locs 0 0 (MQ below (MQo K (some (.int q)) hs) args s 0 0 (kAx K)) (F0 m 40 ls []) := by
  have hx := C.1
  have hb := C.2.1
  intro v2 v3 hs H locs ls hf hR hl
  rw [f_X9_isConsonant_b40.eq_1] at hf
  refine lv_iload_n hx hb dX9_isConsonant_40 rfl (lv_at hl 0 rfl) ?_
  refine lv_iconst (v := 5) hx hb dX9_isConsonant_41 (by decide) ?_
  refine lv_icmp_ne (tgt := 60) hx hb dX9_isConsonant_42 (by decide) (fun c42 => ?_) (fun c42 => ?_)
  · have hf := iq hf c42
    refine lv_iconst (v := 0) hx hb dX9_isConsonant_60 (by decide) ?_
    obtain rfl := Option.some.inj hf
    exact r_iret C hR rfl (Nat.le_of_ble_eq_true rfl) (Nat.le_of_ble_eq_true rfl) dX9_isConsonant_61
  · have hf := ip hf c42
    refine lv_iload_n hx hb dX9_isConsonant_45 rfl (lv_at hl 1 rfl) ?_
    refine lv_bipush (v := 8) hx hb dX9_isConsonant_46 (by decide) ?_
    refine lv_bipush (v := 9) hx hb dX9_isConsonant_48 (by decide) ?_
    obtain ⟨x1, hx1, hf⟩ := ob hf
    refine r_callS (As := [.int v3, .int 8, .int 9]) (rest := []) (st1 := [.int x1]) C hR (lv_sub hl [] rfl) (c_X9_in hx1) ms_X9_in ml_X9_74 ⟨rfl, rfl, (Nat.le_of_ble_eq_true rfl), (Nat.le_of_ble_eq_true rfl)⟩ rfl rfl rfl (Nat.le_of_ble_eq_true rfl) ⟨(Nat.le_of_ble_eq_true rfl), (Nat.le_of_ble_eq_true rfl)⟩ dX9_isConsonant_50 (fun H locs hR => ?_)
    refine lv_if_eq (tgt := 60) hx hb dX9_isConsonant_53 (by decide) (fun c53 => ?_) (fun c53 => ?_)
    · have hf := ip hf c53
      refine lv_iconst (v := 0) hx hb dX9_isConsonant_60 (by decide) ?_
      obtain rfl := Option.some.inj hf
      exact r_iret C hR rfl (Nat.le_of_ble_eq_true rfl) (Nat.le_of_ble_eq_true rfl) dX9_isConsonant_61
    · have hf := iq hf c53
      refine lv_iconst (v := 1) hx hb dX9_isConsonant_56 (by decide) ?_
      refine lv_goto (tgt := 61) hx hb dX9_isConsonant_57 (by decide) ?_
      obtain rfl := Option.some.inj hf
      exact r_iret C hR rfl (Nat.le_of_ble_eq_true rfl) (Nat.le_of_ble_eq_true rfl) dX9_isConsonant_61
set_option maxHeartbeats 4000000 in
set_option maxRecDepth 100000 in
theorem w_X9_isConsonant_b0 {K : WK} {p : Program} {l : Launch} {e : Env} {s : State} {m : MethodId} {args : Array Value} {below : List Frame} {meth : Method} {c : Code} (C : Cx K p s m args meth c RX9 cX9_isConsonant 4 (Option.some Jvm.ClassFile.FieldType.boolean)) {q : Int32} : ∀ (v0 : Int32) (v1 : Int32) (hs : AH) (H : Heap) (locs : List Loc) (ls : Array Slot), f_X9_isConsonant v0 v1 = some q → Rl K s hs H locs → lv_has ls 4 [(0, .int v0), (1, .int v1)] → W p l e rm_X9_isConsonant s m args below meth c H locs 0 0 (MQ below (MQo K (some (.int q)) hs) args s 0 0 (kAx K)) (F0 m 0 ls []) := by
  have hx := C.1
  have hb := C.2.1
  intro v0 v1 hs H locs ls hf hR hl
  rw [f_X9_isConsonant.eq_1] at hf
  refine lv_iload_n hx hb dX9_isConsonant_0 rfl (lv_at hl 0 rfl) ?_
  refine lv_iload_n hx hb dX9_isConsonant_1 rfl (lv_at hl 1 rfl) ?_
  obtain ⟨x1, hx1, hf⟩ := ob hf
  refine r_callS (As := [.int v0, .int v1]) (rest := []) (st1 := [.int x1]) C hR (lv_sub hl [] rfl) (c_X9_steps hx1) ms_X9_steps ml_X9_64 ⟨rfl, rfl, (Nat.le_of_ble_eq_true rfl), (Nat.le_of_ble_eq_true rfl)⟩ rfl rfl rfl (Nat.le_of_ble_eq_true rfl) ⟨(Nat.le_of_ble_eq_true rfl), (Nat.le_of_ble_eq_true rfl)⟩ dX9_isConsonant_2 (fun H locs hR => ?_)
  refine lv_bipush (v := 7) hx hb dX9_isConsonant_5 (by decide) ?_
  refine lv_irem hx hb dX9_isConsonant_7 (by decide) ?_
  refine lv_istore_n (lv' := [(2, .int (x1 - x1 / 7 * 7)), (0, .int v0), (1, .int v1)]) hx hb dX9_isConsonant_8 rfl hl (by decide) rfl (fun ls hl => ?_)
  refine lv_iload_n hx hb dX9_isConsonant_9 rfl (lv_at hl 1 rfl) ?_
  refine lv_iload_n hx hb dX9_isConsonant_10 rfl (lv_at hl 2 rfl) ?_
  obtain ⟨x2, hx2, hf⟩ := ob hf
  refine r_callS (As := [.int v0, .int v1]) (rest := []) (st1 := [.int x2]) C hR (lv_sub hl [] rfl) (c_X9_width hx2) ms_X9_width ml_X9_68 ⟨rfl, rfl, (Nat.le_of_ble_eq_true rfl), (Nat.le_of_ble_eq_true rfl)⟩ rfl rfl rfl (Nat.le_of_ble_eq_true rfl) ⟨(Nat.le_of_ble_eq_true rfl), (Nat.le_of_ble_eq_true rfl)⟩ dX9_isConsonant_11 (fun H locs hR => ?_)
  refine lv_bipush (v := 12) hx hb dX9_isConsonant_14 (by decide) ?_
  refine lv_irem hx hb dX9_isConsonant_16 (by decide) ?_
  refine lv_istore_n (lv' := [(3, .int (x2 - x2 / 12 * 12)), (2, .int (x1 - x1 / 7 * 7)), (0, .int v0), (1, .int v1)]) hx hb dX9_isConsonant_17 rfl hl (by decide) rfl (fun ls hl => ?_)
  refine lv_iload_n hx hb dX9_isConsonant_18 rfl (lv_at hl 2 rfl) ?_
  refine lv_iload_n hx hb dX9_isConsonant_19 rfl (lv_at hl 3 rfl) ?_
  obtain ⟨x3, hx3, hf⟩ := ob hf
  refine r_callS (As := [.int v0, .int v1]) (rest := []) (st1 := [.int x3]) C hR (lv_sub hl [] rfl) (c_X9_perfect hx3) ms_X9_perfect ml_X9_71 ⟨rfl, rfl, (Nat.le_of_ble_eq_true rfl), (Nat.le_of_ble_eq_true rfl)⟩ rfl rfl rfl (Nat.le_of_ble_eq_true rfl) ⟨(Nat.le_of_ble_eq_true rfl), (Nat.le_of_ble_eq_true rfl)⟩ dX9_isConsonant_20 (fun H locs hR => ?_)
  refine lv_if_gt (tgt := 56) hx hb dX9_isConsonant_23 (by decide) (fun c23 => ?_) (fun c23 => ?_)
  · have hf := ip hf c23
    refine lv_iconst (v := 1) hx hb dX9_isConsonant_56 (by decide) ?_
    refine lv_goto (tgt := 61) hx hb dX9_isConsonant_57 (by decide) ?_
    obtain rfl := Option.some.inj hf
    exact r_iret C hR rfl (Nat.le_of_ble_eq_true rfl) (Nat.le_of_ble_eq_true rfl) dX9_isConsonant_61
  · have hf := iq hf c23
    refine lv_iload_n hx hb dX9_isConsonant_26 rfl (lv_at hl 1 rfl) ?_
    refine lv_iconst (v := 2) hx hb dX9_isConsonant_27 (by decide) ?_
    refine lv_icmp_ne (tgt := 40) hx hb dX9_isConsonant_28 (by decide) (fun c28 => ?_) (fun c28 => ?_)
    · have hf := iq hf c28
      exact w_X9_isConsonant_b40 C  _ _ _ _ _ _ hf hR (lv_sub hl [1, 0] rfl)
    · have hf := ip hf c28
      refine lv_iload_n hx hb dX9_isConsonant_31 rfl (lv_at hl 0 rfl) ?_
      refine lv_iconst (v := 3) hx hb dX9_isConsonant_32 (by decide) ?_
      refine lv_iconst (v := 4) hx hb dX9_isConsonant_33 (by decide) ?_
      obtain ⟨x4, hx4, hf⟩ := ob hf
      refine r_callS (As := [.int (x2 - x2 / 12 * 12), .int 3, .int 4]) (rest := []) (st1 := [.int x4]) C hR (lv_sub hl [] rfl) (c_X9_in hx4) ms_X9_in ml_X9_74 ⟨rfl, rfl, (Nat.le_of_ble_eq_true rfl), (Nat.le_of_ble_eq_true rfl)⟩ rfl rfl rfl (Nat.le_of_ble_eq_true rfl) ⟨(Nat.le_of_ble_eq_true rfl), (Nat.le_of_ble_eq_true rfl)⟩ dX9_isConsonant_34 (fun H locs hR => ?_)
      refine lv_if_ne (tgt := 56) hx hb dX9_isConsonant_37 (by decide) (fun c37 => ?_) (fun c37 => ?_)
      · have hf := iq hf c37
        refine lv_iconst (v := 1) hx hb dX9_isConsonant_56 (by decide) ?_
        refine lv_goto (tgt := 61) hx hb dX9_isConsonant_57 (by decide) ?_
        obtain rfl := Option.some.inj hf
        exact r_iret C hR rfl (Nat.le_of_ble_eq_true rfl) (Nat.le_of_ble_eq_true rfl) dX9_isConsonant_61
      · have hf := ip hf c37
        exact w_X9_isConsonant_b40 C  _ _ _ _ _ _ hf hR (lv_sub hl [1, 0] rfl)
theorem c_X9_isConsonant {K : WK} {l : Launch} {hs : AH} {v0 : Int32} {v1 : Int32} {q : Int32} (hf : f_X9_isConsonant v0 v1 = some q) : MC K l yX9_isConsonant cX9_isConsonant 4 (Option.some Jvm.ClassFile.FieldType.boolean) rm_X9_isConsonant [.int v0, .int v1] hs (some (.int q)) hs 0 0 :=
  MC.of (by decide +kernel) (Nat.le_of_ble_eq_true rfl) (fun p e s m args below meth c C _ hR ls hl => w_X9_isConsonant_b0 C _ _ hs _ _ ls hf hR hl)
noncomputable def f_X9_direction (v0 : Int32) (v1 : Int32) : Option (Int32) :=
  (f_X9_pitchOf v1).bind fun x1 =>
  (f_X9_pitchOf v0).bind fun x2 =>
  (f_J6_compare_7cf53 x1 x2).bind fun x3 =>
  some x3
abbrev rm_X9_direction : Room := { frames := 2, cells := 0, slots := 0, locals := 41 }
set_option maxHeartbeats 4000000 in
set_option maxRecDepth 100000 in
theorem w_X9_direction_b0 {K : WK} {p : Program} {l : Launch} {e : Env} {s : State} {m : MethodId} {args : Array Value} {below : List Frame} {meth : Method} {c : Code} (C : Cx K p s m args meth c RX9 cX9_direction 2 (Option.some Jvm.ClassFile.FieldType.int)) {q : Int32} : ∀ (v0 : Int32) (v1 : Int32) (hs : AH) (H : Heap) (locs : List Loc) (ls : Array Slot), f_X9_direction v0 v1 = some q → Rl K s hs H locs → lv_has ls 2 [(0, .int v0), (1, .int v1)] → W p l e rm_X9_direction s m args below meth c H locs 0 0 (MQ below (MQo K (some (.int q)) hs) args s 0 0 (kAx K)) (F0 m 0 ls []) := by
  have hx := C.1
  have hb := C.2.1
  intro v0 v1 hs H locs ls hf hR hl
  rw [f_X9_direction.eq_1] at hf
  refine lv_iload_n hx hb dX9_direction_0 rfl (lv_at hl 1 rfl) ?_
  obtain ⟨x1, hx1, hf⟩ := ob hf
  refine r_callS (As := [.int v1]) (rest := []) (st1 := [.int x1]) C hR (lv_sub hl [] rfl) (c_X9_pitchOf hx1) ms_X9_pitchOf ml_X9_61 ⟨rfl, rfl, (Nat.le_of_ble_eq_true rfl), (Nat.le_of_ble_eq_true rfl)⟩ rfl rfl rfl (Nat.le_of_ble_eq_true rfl) ⟨(Nat.le_of_ble_eq_true rfl), (Nat.le_of_ble_eq_true rfl)⟩ dX9_direction_1 (fun H locs hR => ?_)
  refine lv_iload_n hx hb dX9_direction_4 rfl (lv_at hl 0 rfl) ?_
  obtain ⟨x2, hx2, hf⟩ := ob hf
  refine r_callS (As := [.int v0]) (rest := [.int x1]) (st1 := [.int x2, .int x1]) C hR (lv_sub hl [] rfl) (c_X9_pitchOf hx2) ms_X9_pitchOf ml_X9_61 ⟨rfl, rfl, (Nat.le_of_ble_eq_true rfl), (Nat.le_of_ble_eq_true rfl)⟩ rfl rfl rfl (Nat.le_of_ble_eq_true rfl) ⟨(Nat.le_of_ble_eq_true rfl), (Nat.le_of_ble_eq_true rfl)⟩ dX9_direction_5 (fun H locs hR => ?_)
  obtain ⟨x3, hx3, hf⟩ := ob hf
  refine r_callS (As := [.int x1, .int x2]) (rest := []) (st1 := [.int x3]) C hR (lv_sub hl [] rfl) (c_J6_compare_7cf53 hx3) ms_J6_compare_7cf53 ml_X9_78 ⟨rfl, rfl, (Nat.le_of_ble_eq_true rfl), (Nat.le_of_ble_eq_true rfl)⟩ rfl rfl rfl (Nat.le_of_ble_eq_true rfl) ⟨(Nat.le_of_ble_eq_true rfl), (Nat.le_of_ble_eq_true rfl)⟩ dX9_direction_8 (fun H locs hR => ?_)
  obtain rfl := Option.some.inj hf
  exact r_iret C hR rfl (Nat.le_of_ble_eq_true rfl) (Nat.le_of_ble_eq_true rfl) dX9_direction_11
theorem c_X9_direction {K : WK} {l : Launch} {hs : AH} {v0 : Int32} {v1 : Int32} {q : Int32} (hf : f_X9_direction v0 v1 = some q) : MC K l yX9_direction cX9_direction 2 (Option.some Jvm.ClassFile.FieldType.int) rm_X9_direction [.int v0, .int v1] hs (some (.int q)) hs 0 0 :=
  MC.of (by decide +kernel) (Nat.le_of_ble_eq_true rfl) (fun p e s m args below meth c C _ hR ls hl => w_X9_direction_b0 C _ _ hs _ _ ls hf hR hl)
noncomputable def f_X9_per (v0 : Nat) (hs : AH) : Option (Int32) :=
  (gR hs v0 9 1).bind fun x1 =>
  (aN 0 hs x1 2).bind fun x2 =>
  if x2 = 3 then
  (
   some 4)
  else
  (
   (gR hs v0 9 1).bind fun x3 =>
   (aN 0 hs x3 2).bind fun x4 =>
   if x4 = 1 then
   (
    some 1)
   else
   (
    some 2))
abbrev rm_X9_per : Room := { frames := 0, cells := 0, slots := 0, locals := 0 }
set_option maxHeartbeats 4000000 in
set_option maxRecDepth 100000 in
theorem w_X9_per_b0 {K : WK} {p : Program} {l : Launch} {e : Env} {s : State} {m : MethodId} {args : Array Value} {below : List Frame} {meth : Method} {c : Code} (C : Cx K p s m args meth c RX9 cX9_per 1 (Option.some Jvm.ClassFile.FieldType.int)) {q : Int32} : ∀ (v0 : Nat) (hs : AH) (H : Heap) (locs : List Loc) (ls : Array Slot), f_X9_per v0 hs = some q → Rl K s hs H locs → lv_has ls 1 [(0, .ref (kA K v0))] → W p l e rm_X9_per s m args below meth c H locs 0 0 (MQ below (MQo K (some (.int q)) hs) args s 0 0 (kAx K)) (F0 m 0 ls []) := by
  have hx := C.1
  have hb := C.2.1
  intro v0 hs H locs ls hf hR hl
  rw [f_X9_per.eq_1] at hf
  refine lv_aload_n hx hb dX9_per_0 rfl (lv_at hl 0 rfl) ?_
  obtain ⟨x1, hx1, hf⟩ := ob hf
  refine r_getR C hR hx1 fl_X9_9 dX9_per_1 ?_
  refine lv_iconst (v := 2) hx hb dX9_per_4 (by decide) ?_
  obtain ⟨x2, hx2, hf⟩ := ob hf
  refine r_iald C hR hx2 dX9_per_5 ?_
  refine lv_iconst (v := 3) hx hb dX9_per_6 (by decide) ?_
  refine lv_icmp_ne (tgt := 14) hx hb dX9_per_7 (by decide) (fun c7 => ?_) (fun c7 => ?_)
  · have hf := iq hf c7
    refine lv_aload_n hx hb dX9_per_14 rfl (lv_at hl 0 rfl) ?_
    obtain ⟨x3, hx3, hf⟩ := ob hf
    refine r_getR C hR hx3 fl_X9_9 dX9_per_15 ?_
    refine lv_iconst (v := 2) hx hb dX9_per_18 (by decide) ?_
    obtain ⟨x4, hx4, hf⟩ := ob hf
    refine r_iald C hR hx4 dX9_per_19 ?_
    refine lv_iconst (v := 1) hx hb dX9_per_20 (by decide) ?_
    refine lv_icmp_ne (tgt := 28) hx hb dX9_per_21 (by decide) (fun c21 => ?_) (fun c21 => ?_)
    · have hf := iq hf c21
      refine lv_iconst (v := 2) hx hb dX9_per_28 (by decide) ?_
      obtain rfl := Option.some.inj hf
      exact r_iret C hR rfl (Nat.le_of_ble_eq_true rfl) (Nat.le_of_ble_eq_true rfl) dX9_per_29
    · have hf := ip hf c21
      refine lv_iconst (v := 1) hx hb dX9_per_24 (by decide) ?_
      refine lv_goto (tgt := 29) hx hb dX9_per_25 (by decide) ?_
      obtain rfl := Option.some.inj hf
      exact r_iret C hR rfl (Nat.le_of_ble_eq_true rfl) (Nat.le_of_ble_eq_true rfl) dX9_per_29
  · have hf := ip hf c7
    refine lv_iconst (v := 4) hx hb dX9_per_10 (by decide) ?_
    refine lv_goto (tgt := 29) hx hb dX9_per_11 (by decide) ?_
    obtain rfl := Option.some.inj hf
    exact r_iret C hR rfl (Nat.le_of_ble_eq_true rfl) (Nat.le_of_ble_eq_true rfl) dX9_per_29
theorem c_X9_per {K : WK} {l : Launch} {hs : AH} {v0 : Nat} {q : Int32} (hf : f_X9_per v0 hs = some q) : MC K l yX9_per cX9_per 1 (Option.some Jvm.ClassFile.FieldType.int) rm_X9_per [.ref (kA K v0)] hs (some (.int q)) hs 0 0 :=
  MC.of (by decide +kernel) (Nat.le_of_ble_eq_true rfl) (fun p e s m args below meth c C _ hR ls hl => w_X9_per_b0 C _ hs _ _ ls hf hR hl)
noncomputable def f_X9_barOf (v0 : Nat) (v1 : Int32) (hs : AH) : Option (Int32) :=
  (chk hs v0 9).bind fun u1 =>
  (f_X9_per v0 hs).bind fun x2 =>
  (dI v1 x2).bind fun x3 =>
  some x3
abbrev rm_X9_barOf : Room := { frames := 1, cells := 0, slots := 0, locals := 20 }
set_option maxHeartbeats 4000000 in
set_option maxRecDepth 100000 in
theorem w_X9_barOf_b0 {K : WK} {p : Program} {l : Launch} {e : Env} {s : State} {m : MethodId} {args : Array Value} {below : List Frame} {meth : Method} {c : Code} (C : Cx K p s m args meth c RX9 cX9_barOf 2 (Option.some Jvm.ClassFile.FieldType.int)) {q : Int32} : ∀ (v0 : Nat) (v1 : Int32) (hs : AH) (H : Heap) (locs : List Loc) (ls : Array Slot), f_X9_barOf v0 v1 hs = some q → Rl K s hs H locs → lv_has ls 2 [(0, .ref (kA K v0)), (1, .int v1)] → W p l e rm_X9_barOf s m args below meth c H locs 0 0 (MQ below (MQo K (some (.int q)) hs) args s 0 0 (kAx K)) (F0 m 0 ls []) := by
  have hx := C.1
  have hb := C.2.1
  intro v0 v1 hs H locs ls hf hR hl
  rw [f_X9_barOf.eq_1] at hf
  refine lv_iload_n hx hb dX9_barOf_0 rfl (lv_at hl 1 rfl) ?_
  refine lv_aload_n hx hb dX9_barOf_1 rfl (lv_at hl 0 rfl) ?_
  obtain ⟨u1, hu1, hf⟩ := ob hf
  obtain ⟨x2, hx2, hf⟩ := ob hf
  refine r_callV (As := []) (rest := [.int v1]) (st1 := [.int x2, .int v1]) C hR (lv_sub hl [] rfl) (c_X9_per hx2) mv_X9_per ml_X9_83 ⟨rfl, rfl, (Nat.le_of_ble_eq_true rfl), (Nat.le_of_ble_eq_true rfl)⟩ (rv_obj C hR hu1 (q := (RX9, TX9, 17)) rfl) rfl rfl rfl (Nat.le_of_ble_eq_true rfl) ⟨(Nat.le_of_ble_eq_true rfl), (Nat.le_of_ble_eq_true rfl)⟩ dX9_barOf_2 (fun H locs hR => ?_)
  obtain ⟨x3, hx3, hf⟩ := ob hf
  refine r_idiv C hx3 dX9_barOf_5 ?_
  obtain rfl := Option.some.inj hf
  exact r_iret C hR rfl (Nat.le_of_ble_eq_true rfl) (Nat.le_of_ble_eq_true rfl) dX9_barOf_6
theorem c_X9_barOf {K : WK} {l : Launch} {hs : AH} {v0 : Nat} {v1 : Int32} {q : Int32} (hf : f_X9_barOf v0 v1 hs = some q) : MC K l yX9_barOf cX9_barOf 2 (Option.some Jvm.ClassFile.FieldType.int) rm_X9_barOf [.ref (kA K v0), .int v1] hs (some (.int q)) hs 0 0 :=
  MC.of (by decide +kernel) (Nat.le_of_ble_eq_true rfl) (fun p e s m args below meth c C _ hR ls hl => w_X9_barOf_b0 C _ _ hs _ _ ls hf hR hl)
noncomputable def f_X9_beatOf (v0 : Nat) (v1 : Int32) (hs : AH) : Option (Int32) :=
  (chk hs v0 9).bind fun u1 =>
  (f_X9_per v0 hs).bind fun x2 =>
  (mI v1 x2).bind fun x3 =>
  some x3
abbrev rm_X9_beatOf : Room := { frames := 1, cells := 0, slots := 0, locals := 20 }
set_option maxHeartbeats 4000000 in
set_option maxRecDepth 100000 in
theorem w_X9_beatOf_b0 {K : WK} {p : Program} {l : Launch} {e : Env} {s : State} {m : MethodId} {args : Array Value} {below : List Frame} {meth : Method} {c : Code} (C : Cx K p s m args meth c RX9 cX9_beatOf 2 (Option.some Jvm.ClassFile.FieldType.int)) {q : Int32} : ∀ (v0 : Nat) (v1 : Int32) (hs : AH) (H : Heap) (locs : List Loc) (ls : Array Slot), f_X9_beatOf v0 v1 hs = some q → Rl K s hs H locs → lv_has ls 2 [(0, .ref (kA K v0)), (1, .int v1)] → W p l e rm_X9_beatOf s m args below meth c H locs 0 0 (MQ below (MQo K (some (.int q)) hs) args s 0 0 (kAx K)) (F0 m 0 ls []) := by
  have hx := C.1
  have hb := C.2.1
  intro v0 v1 hs H locs ls hf hR hl
  rw [f_X9_beatOf.eq_1] at hf
  refine lv_iload_n hx hb dX9_beatOf_0 rfl (lv_at hl 1 rfl) ?_
  refine lv_aload_n hx hb dX9_beatOf_1 rfl (lv_at hl 0 rfl) ?_
  obtain ⟨u1, hu1, hf⟩ := ob hf
  obtain ⟨x2, hx2, hf⟩ := ob hf
  refine r_callV (As := []) (rest := [.int v1]) (st1 := [.int x2, .int v1]) C hR (lv_sub hl [] rfl) (c_X9_per hx2) mv_X9_per ml_X9_83 ⟨rfl, rfl, (Nat.le_of_ble_eq_true rfl), (Nat.le_of_ble_eq_true rfl)⟩ (rv_obj C hR hu1 (q := (RX9, TX9, 17)) rfl) rfl rfl rfl (Nat.le_of_ble_eq_true rfl) ⟨(Nat.le_of_ble_eq_true rfl), (Nat.le_of_ble_eq_true rfl)⟩ dX9_beatOf_2 (fun H locs hR => ?_)
  obtain ⟨x3, hx3, hf⟩ := ob hf
  refine r_irem C hx3 dX9_beatOf_5 ?_
  obtain rfl := Option.some.inj hf
  exact r_iret C hR rfl (Nat.le_of_ble_eq_true rfl) (Nat.le_of_ble_eq_true rfl) dX9_beatOf_6
theorem c_X9_beatOf {K : WK} {l : Launch} {hs : AH} {v0 : Nat} {v1 : Int32} {q : Int32} (hf : f_X9_beatOf v0 v1 hs = some q) : MC K l yX9_beatOf cX9_beatOf 2 (Option.some Jvm.ClassFile.FieldType.int) rm_X9_beatOf [.ref (kA K v0), .int v1] hs (some (.int q)) hs 0 0 :=
  MC.of (by decide +kernel) (Nat.le_of_ble_eq_true rfl) (fun p e s m args below meth c C _ hR ls hl => w_X9_beatOf_b0 C _ _ hs _ _ ls hf hR hl)
noncomputable def f_X9_line (v0 : Nat) (v1 : Int32) (hs : AH) : Option (Int32) :=
  (gR hs v0 9 1).bind fun x1 =>
  (aN 0 hs x1 (35 + v1)).bind fun x2 =>
  some x2
abbrev rm_X9_line : Room := { frames := 0, cells := 0, slots := 0, locals := 0 }
set_option maxHeartbeats 4000000 in
set_option maxRecDepth 100000 in
theorem w_X9_line_b0 {K : WK} {p : Program} {l : Launch} {e : Env} {s : State} {m : MethodId} {args : Array Value} {below : List Frame} {meth : Method} {c : Code} (C : Cx K p s m args meth c RX9 cX9_line 2 (Option.some Jvm.ClassFile.FieldType.int)) {q : Int32} : ∀ (v0 : Nat) (v1 : Int32) (hs : AH) (H : Heap) (locs : List Loc) (ls : Array Slot), f_X9_line v0 v1 hs = some q → Rl K s hs H locs → lv_has ls 2 [(0, .ref (kA K v0)), (1, .int v1)] → W p l e rm_X9_line s m args below meth c H locs 0 0 (MQ below (MQo K (some (.int q)) hs) args s 0 0 (kAx K)) (F0 m 0 ls []) := by
  have hx := C.1
  have hb := C.2.1
  intro v0 v1 hs H locs ls hf hR hl
  rw [f_X9_line.eq_1] at hf
  refine lv_aload_n hx hb dX9_line_0 rfl (lv_at hl 0 rfl) ?_
  obtain ⟨x1, hx1, hf⟩ := ob hf
  refine r_getR C hR hx1 fl_X9_9 dX9_line_1 ?_
  refine lv_bipush (v := 35) hx hb dX9_line_4 (by decide) ?_
  refine lv_iload_n hx hb dX9_line_6 rfl (lv_at hl 1 rfl) ?_
  refine lv_iadd hx hb dX9_line_7 ?_
  obtain ⟨x2, hx2, hf⟩ := ob hf
  refine r_iald C hR hx2 dX9_line_8 ?_
  obtain rfl := Option.some.inj hf
  exact r_iret C hR rfl (Nat.le_of_ble_eq_true rfl) (Nat.le_of_ble_eq_true rfl) dX9_line_9
theorem c_X9_line {K : WK} {l : Launch} {hs : AH} {v0 : Nat} {v1 : Int32} {q : Int32} (hf : f_X9_line v0 v1 hs = some q) : MC K l yX9_line cX9_line 2 (Option.some Jvm.ClassFile.FieldType.int) rm_X9_line [.ref (kA K v0), .int v1] hs (some (.int q)) hs 0 0 :=
  MC.of (by decide +kernel) (Nat.le_of_ble_eq_true rfl) (fun p e s m args below meth c C _ hR ls hl => w_X9_line_b0 C _ _ hs _ _ ls hf hR hl)
noncomputable def f_X9_cantusAt (v0 : Nat) (v1 : Int32) (hs : AH) : Option (Int32) :=
  (gR hs v0 9 1).bind fun x1 =>
  (aN 0 hs x1 (23 + v1)).bind fun x2 =>
  some x2
abbrev rm_X9_cantusAt : Room := { frames := 0, cells := 0, slots := 0, locals := 0 }
set_option maxHeartbeats 4000000 in
set_option maxRecDepth 100000 in
theorem w_X9_cantusAt_b0 {K : WK} {p : Program} {l : Launch} {e : Env} {s : State} {m : MethodId} {args : Array Value} {below : List Frame} {meth : Method} {c : Code} (C : Cx K p s m args meth c RX9 cX9_cantusAt 2 (Option.some Jvm.ClassFile.FieldType.int)) {q : Int32} : ∀ (v0 : Nat) (v1 : Int32) (hs : AH) (H : Heap) (locs : List Loc) (ls : Array Slot), f_X9_cantusAt v0 v1 hs = some q → Rl K s hs H locs → lv_has ls 2 [(0, .ref (kA K v0)), (1, .int v1)] → W p l e rm_X9_cantusAt s m args below meth c H locs 0 0 (MQ below (MQo K (some (.int q)) hs) args s 0 0 (kAx K)) (F0 m 0 ls []) := by
  have hx := C.1
  have hb := C.2.1
  intro v0 v1 hs H locs ls hf hR hl
  rw [f_X9_cantusAt.eq_1] at hf
  refine lv_aload_n hx hb dX9_cantusAt_0 rfl (lv_at hl 0 rfl) ?_
  obtain ⟨x1, hx1, hf⟩ := ob hf
  refine r_getR C hR hx1 fl_X9_9 dX9_cantusAt_1 ?_
  refine lv_bipush (v := 23) hx hb dX9_cantusAt_4 (by decide) ?_
  refine lv_iload_n hx hb dX9_cantusAt_6 rfl (lv_at hl 1 rfl) ?_
  refine lv_iadd hx hb dX9_cantusAt_7 ?_
  obtain ⟨x2, hx2, hf⟩ := ob hf
  refine r_iald C hR hx2 dX9_cantusAt_8 ?_
  obtain rfl := Option.some.inj hf
  exact r_iret C hR rfl (Nat.le_of_ble_eq_true rfl) (Nat.le_of_ble_eq_true rfl) dX9_cantusAt_9
theorem c_X9_cantusAt {K : WK} {l : Launch} {hs : AH} {v0 : Nat} {v1 : Int32} {q : Int32} (hf : f_X9_cantusAt v0 v1 hs = some q) : MC K l yX9_cantusAt cX9_cantusAt 2 (Option.some Jvm.ClassFile.FieldType.int) rm_X9_cantusAt [.ref (kA K v0), .int v1] hs (some (.int q)) hs 0 0 :=
  MC.of (by decide +kernel) (Nat.le_of_ble_eq_true rfl) (fun p e s m args below meth c C _ hR ls hl => w_X9_cantusAt_b0 C _ _ hs _ _ ls hf hR hl)
noncomputable def f_X9_hasLine (v0 : Nat) (hs : AH) : Option (Int32) :=
  (gR hs v0 9 1).bind fun x1 =>
  (aN 0 hs x1 1).bind fun x2 =>
  if x2 ≤ 0 then
  (
   some 0)
  else
  (
   some 1)
abbrev rm_X9_hasLine : Room := { frames := 0, cells := 0, slots := 0, locals := 0 }
set_option maxHeartbeats 4000000 in
set_option maxRecDepth 100000 in
theorem w_X9_hasLine_b0 {K : WK} {p : Program} {l : Launch} {e : Env} {s : State} {m : MethodId} {args : Array Value} {below : List Frame} {meth : Method} {c : Code} (C : Cx K p s m args meth c RX9 cX9_hasLine 1 (Option.some Jvm.ClassFile.FieldType.boolean)) {q : Int32} : ∀ (v0 : Nat) (hs : AH) (H : Heap) (locs : List Loc) (ls : Array Slot), f_X9_hasLine v0 hs = some q → Rl K s hs H locs → lv_has ls 1 [(0, .ref (kA K v0))] → W p l e rm_X9_hasLine s m args below meth c H locs 0 0 (MQ below (MQo K (some (.int q)) hs) args s 0 0 (kAx K)) (F0 m 0 ls []) := by
  have hx := C.1
  have hb := C.2.1
  intro v0 hs H locs ls hf hR hl
  rw [f_X9_hasLine.eq_1] at hf
  refine lv_aload_n hx hb dX9_hasLine_0 rfl (lv_at hl 0 rfl) ?_
  obtain ⟨x1, hx1, hf⟩ := ob hf
  refine r_getR C hR hx1 fl_X9_9 dX9_hasLine_1 ?_
  refine lv_iconst (v := 1) hx hb dX9_hasLine_4 (by decide) ?_
  obtain ⟨x2, hx2, hf⟩ := ob hf
  refine r_iald C hR hx2 dX9_hasLine_5 ?_
  refine lv_if_le (tgt := 13) hx hb dX9_hasLine_6 (by decide) (fun c6 => ?_) (fun c6 => ?_)
  · have hf := ip hf c6
    refine lv_iconst (v := 0) hx hb dX9_hasLine_13 (by decide) ?_
    obtain rfl := Option.some.inj hf
    exact r_iret C hR rfl (Nat.le_of_ble_eq_true rfl) (Nat.le_of_ble_eq_true rfl) dX9_hasLine_14
  · have hf := iq hf c6
    refine lv_iconst (v := 1) hx hb dX9_hasLine_9 (by decide) ?_
    refine lv_goto (tgt := 14) hx hb dX9_hasLine_10 (by decide) ?_
    obtain rfl := Option.some.inj hf
    exact r_iret C hR rfl (Nat.le_of_ble_eq_true rfl) (Nat.le_of_ble_eq_true rfl) dX9_hasLine_14
theorem c_X9_hasLine {K : WK} {l : Launch} {hs : AH} {v0 : Nat} {q : Int32} (hf : f_X9_hasLine v0 hs = some q) : MC K l yX9_hasLine cX9_hasLine 1 (Option.some Jvm.ClassFile.FieldType.boolean) rm_X9_hasLine [.ref (kA K v0)] hs (some (.int q)) hs 0 0 :=
  MC.of (by decide +kernel) (Nat.le_of_ble_eq_true rfl) (fun p e s m args below meth c C _ hR ls hl => w_X9_hasLine_b0 C _ hs _ _ ls hf hR hl)
noncomputable def f_X9_place_b42 (v0 : Nat) (v1 : Int32) (v2 : Int32) (t0 : Int32) (t1 : Int32) (t2 : Int32) (hs : AH) : Option (Int32) :=
  (f_X9_in t0 t1 t2).bind fun x1 =>
  if x1 = 0 then
  (
   some (-1))
  else
  (
   (chk hs v0 9).bind fun u2 =>
   (f_X9_per v0 hs).bind fun x3 =>
   some ((v1 * x3) + v2))
noncomputable def f_X9_place (v0 : Nat) (v1 : Int32) (v2 : Int32) (hs : AH) : Option (Int32) :=
  (gR hs v0 9 1).bind fun x1 =>
  (aN 0 hs x1 0).bind fun x2 =>
  (f_X9_in v1 0 (x2 - 1)).bind fun x3 =>
  if x3 = 0 then
  (
   some (-1))
  else
  (
   (gR hs v0 9 1).bind fun x4 =>
   (aN 0 hs x4 0).bind fun x5 =>
   if v1 = (x5 - 1) then
   (
    f_X9_place_b42 v0 v1 v2 v2 0 0 hs)
   else
   (
    (chk hs v0 9).bind fun u6 =>
    (f_X9_per v0 hs).bind fun x7 =>
    f_X9_place_b42 v0 v1 v2 v2 0 (x7 - 1) hs))
abbrev rm_X9_place : Room := { frames := 1, cells := 0, slots := 0, locals := 22 }
set_option maxHeartbeats 4000000 in
set_option maxRecDepth 100000 in
theorem w_X9_place_b42 {K : WK} {p : Program} {l : Launch} {e : Env} {s : State} {m : MethodId} {args : Array Value} {below : List Frame} {meth : Method} {c : Code} (C : Cx K p s m args meth c RX9 cX9_place 3 (Option.some Jvm.ClassFile.FieldType.int)) {q : Int32} : ∀ (v0 : Nat) (v1 : Int32) (v2 : Int32) (t0 : Int32) (t1 : Int32) (t2 : Int32) (hs : AH) (H : Heap) (locs : List Loc) (ls : Array Slot), f_X9_place_b42 v0 v1 v2 t0 t1 t2 hs = some q → Rl K s hs H locs → lv_has ls 3 [(0, .ref (kA K v0)), (1, .int v1), (2, .int v2)] → W p l e rm_X9_place s m args below meth c H locs 0 0 (MQ below (MQo K (some (.int q)) hs) args s 0 0 (kAx K)) (F0 m 42 ls [.int t2, .int t1, .int t0]) := by
  have hx := C.1
  have hb := C.2.1
  intro v0 v1 v2 t0 t1 t2 hs H locs ls hf hR hl
  rw [f_X9_place_b42.eq_1] at hf
  obtain ⟨x1, hx1, hf⟩ := ob hf
  refine r_callS (As := [.int t0, .int t1, .int t2]) (rest := []) (st1 := [.int x1]) C hR (lv_sub hl [] rfl) (c_X9_in hx1) ms_X9_in ml_X9_74 ⟨rfl, rfl, (Nat.le_of_ble_eq_true rfl), (Nat.le_of_ble_eq_true rfl)⟩ rfl rfl rfl (Nat.le_of_ble_eq_true rfl) ⟨(Nat.le_of_ble_eq_true rfl), (Nat.le_of_ble_eq_true rfl)⟩ dX9_place_42 (fun H locs hR => ?_)
  refine lv_if_eq (tgt := 59) hx hb dX9_place_45 (by decide) (fun c45 => ?_) (fun c45 => ?_)
  · have hf := ip hf c45
    refine lv_iconst (v := (-1)) hx hb dX9_place_59 (by decide) ?_
    obtain rfl := Option.some.inj hf
    exact r_iret C hR rfl (Nat.le_of_ble_eq_true rfl) (Nat.le_of_ble_eq_true rfl) dX9_place_60
  · have hf := iq hf c45
    refine lv_iload_n hx hb dX9_place_48 rfl (lv_at hl 1 rfl) ?_
    refine lv_aload_n hx hb dX9_place_49 rfl (lv_at hl 0 rfl) ?_
    obtain ⟨u2, hu2, hf⟩ := ob hf
    obtain ⟨x3, hx3, hf⟩ := ob hf
    refine r_callV (As := []) (rest := [.int v1]) (st1 := [.int x3, .int v1]) C hR (lv_sub hl [] rfl) (c_X9_per hx3) mv_X9_per ml_X9_83 ⟨rfl, rfl, (Nat.le_of_ble_eq_true rfl), (Nat.le_of_ble_eq_true rfl)⟩ (rv_obj C hR hu2 (q := (RX9, TX9, 17)) rfl) rfl rfl rfl (Nat.le_of_ble_eq_true rfl) ⟨(Nat.le_of_ble_eq_true rfl), (Nat.le_of_ble_eq_true rfl)⟩ dX9_place_50 (fun H locs hR => ?_)
    refine lv_imul hx hb dX9_place_53 ?_
    refine lv_iload_n hx hb dX9_place_54 rfl (lv_at hl 2 rfl) ?_
    refine lv_iadd hx hb dX9_place_55 ?_
    refine lv_goto (tgt := 60) hx hb dX9_place_56 (by decide) ?_
    obtain rfl := Option.some.inj hf
    exact r_iret C hR rfl (Nat.le_of_ble_eq_true rfl) (Nat.le_of_ble_eq_true rfl) dX9_place_60
set_option maxHeartbeats 4000000 in
set_option maxRecDepth 100000 in
theorem w_X9_place_b0 {K : WK} {p : Program} {l : Launch} {e : Env} {s : State} {m : MethodId} {args : Array Value} {below : List Frame} {meth : Method} {c : Code} (C : Cx K p s m args meth c RX9 cX9_place 3 (Option.some Jvm.ClassFile.FieldType.int)) {q : Int32} : ∀ (v0 : Nat) (v1 : Int32) (v2 : Int32) (hs : AH) (H : Heap) (locs : List Loc) (ls : Array Slot), f_X9_place v0 v1 v2 hs = some q → Rl K s hs H locs → lv_has ls 3 [(0, .ref (kA K v0)), (1, .int v1), (2, .int v2)] → W p l e rm_X9_place s m args below meth c H locs 0 0 (MQ below (MQo K (some (.int q)) hs) args s 0 0 (kAx K)) (F0 m 0 ls []) := by
  have hx := C.1
  have hb := C.2.1
  intro v0 v1 v2 hs H locs ls hf hR hl
  rw [f_X9_place.eq_1] at hf
  refine lv_iload_n hx hb dX9_place_0 rfl (lv_at hl 1 rfl) ?_
  refine lv_iconst (v := 0) hx hb dX9_place_1 (by decide) ?_
  refine lv_aload_n hx hb dX9_place_2 rfl (lv_at hl 0 rfl) ?_
  obtain ⟨x1, hx1, hf⟩ := ob hf
  refine r_getR C hR hx1 fl_X9_9 dX9_place_3 ?_
  refine lv_iconst (v := 0) hx hb dX9_place_6 (by decide) ?_
  obtain ⟨x2, hx2, hf⟩ := ob hf
  refine r_iald C hR hx2 dX9_place_7 ?_
  refine lv_iconst (v := 1) hx hb dX9_place_8 (by decide) ?_
  refine lv_isub hx hb dX9_place_9 ?_
  obtain ⟨x3, hx3, hf⟩ := ob hf
  refine r_callS (As := [.int v1, .int 0, .int (x2 - 1)]) (rest := []) (st1 := [.int x3]) C hR (lv_sub hl [] rfl) (c_X9_in hx3) ms_X9_in ml_X9_74 ⟨rfl, rfl, (Nat.le_of_ble_eq_true rfl), (Nat.le_of_ble_eq_true rfl)⟩ rfl rfl rfl (Nat.le_of_ble_eq_true rfl) ⟨(Nat.le_of_ble_eq_true rfl), (Nat.le_of_ble_eq_true rfl)⟩ dX9_place_10 (fun H locs hR => ?_)
  refine lv_if_ne (tgt := 18) hx hb dX9_place_13 (by decide) (fun c13 => ?_) (fun c13 => ?_)
  · have hf := iq hf c13
    refine lv_iload_n hx hb dX9_place_18 rfl (lv_at hl 2 rfl) ?_
    refine lv_iconst (v := 0) hx hb dX9_place_19 (by decide) ?_
    refine lv_iload_n hx hb dX9_place_20 rfl (lv_at hl 1 rfl) ?_
    refine lv_aload_n hx hb dX9_place_21 rfl (lv_at hl 0 rfl) ?_
    obtain ⟨x4, hx4, hf⟩ := ob hf
    refine r_getR C hR hx4 fl_X9_9 dX9_place_22 ?_
    refine lv_iconst (v := 0) hx hb dX9_place_25 (by decide) ?_
    obtain ⟨x5, hx5, hf⟩ := ob hf
    refine r_iald C hR hx5 dX9_place_26 ?_
    refine lv_iconst (v := 1) hx hb dX9_place_27 (by decide) ?_
    refine lv_isub hx hb dX9_place_28 ?_
    refine lv_icmp_ne (tgt := 36) hx hb dX9_place_29 (by decide) (fun c29 => ?_) (fun c29 => ?_)
    · have hf := iq hf c29
      refine lv_aload_n hx hb dX9_place_36 rfl (lv_at hl 0 rfl) ?_
      obtain ⟨u6, hu6, hf⟩ := ob hf
      obtain ⟨x7, hx7, hf⟩ := ob hf
      refine r_callV (As := []) (rest := [.int 0, .int v2]) (st1 := [.int x7, .int 0, .int v2]) C hR (lv_sub hl [] rfl) (c_X9_per hx7) mv_X9_per ml_X9_83 ⟨rfl, rfl, (Nat.le_of_ble_eq_true rfl), (Nat.le_of_ble_eq_true rfl)⟩ (rv_obj C hR hu6 (q := (RX9, TX9, 17)) rfl) rfl rfl rfl (Nat.le_of_ble_eq_true rfl) ⟨(Nat.le_of_ble_eq_true rfl), (Nat.le_of_ble_eq_true rfl)⟩ dX9_place_37 (fun H locs hR => ?_)
      refine lv_iconst (v := 1) hx hb dX9_place_40 (by decide) ?_
      refine lv_isub hx hb dX9_place_41 ?_
      exact w_X9_place_b42 C  _ _ _ _ _ _ _ _ _ _ hf hR (lv_sub hl [0, 1, 2] rfl)
    · have hf := ip hf c29
      refine lv_iconst (v := 0) hx hb dX9_place_32 (by decide) ?_
      refine lv_goto (tgt := 42) hx hb dX9_place_33 (by decide) ?_
      exact w_X9_place_b42 C  _ _ _ _ _ _ _ _ _ _ hf hR (lv_sub hl [0, 1, 2] rfl)
  · have hf := ip hf c13
    refine lv_iconst (v := (-1)) hx hb dX9_place_16 (by decide) ?_
    obtain rfl := Option.some.inj hf
    exact r_iret C hR rfl (Nat.le_of_ble_eq_true rfl) (Nat.le_of_ble_eq_true rfl) dX9_place_17
theorem c_X9_place {K : WK} {l : Launch} {hs : AH} {v0 : Nat} {v1 : Int32} {v2 : Int32} {q : Int32} (hf : f_X9_place v0 v1 v2 hs = some q) : MC K l yX9_place cX9_place 3 (Option.some Jvm.ClassFile.FieldType.int) rm_X9_place [.ref (kA K v0), .int v1, .int v2] hs (some (.int q)) hs 0 0 :=
  MC.of (by decide +kernel) (Nat.le_of_ble_eq_true rfl) (fun p e s m args below meth c C _ hR ls hl => w_X9_place_b0 C _ _ _ hs _ _ ls hf hR hl)
noncomputable def f_X9_isNote (v0 : Nat) (v1 : Int32) (v2 : Int32) (hs : AH) : Option (Int32) :=
  (f_X9_in v1 0 (v2 - 1)).bind fun x1 =>
  if x1 = 0 then
  (
   some 0)
  else
  (
   (chk hs v0 9).bind fun u2 =>
   (f_X9_line v0 v1 hs).bind fun x3 =>
   if x3 = (-1) then
   (
    some 0)
   else
   (
    some 1))
abbrev rm_X9_isNote : Room := { frames := 1, cells := 0, slots := 0, locals := 22 }
set_option maxHeartbeats 4000000 in
set_option maxRecDepth 100000 in
theorem w_X9_isNote_b0 {K : WK} {p : Program} {l : Launch} {e : Env} {s : State} {m : MethodId} {args : Array Value} {below : List Frame} {meth : Method} {c : Code} (C : Cx K p s m args meth c RX9 cX9_isNote 3 (Option.some Jvm.ClassFile.FieldType.boolean)) {q : Int32} : ∀ (v0 : Nat) (v1 : Int32) (v2 : Int32) (hs : AH) (H : Heap) (locs : List Loc) (ls : Array Slot), f_X9_isNote v0 v1 v2 hs = some q → Rl K s hs H locs → lv_has ls 3 [(0, .ref (kA K v0)), (1, .int v1), (2, .int v2)] → W p l e rm_X9_isNote s m args below meth c H locs 0 0 (MQ below (MQo K (some (.int q)) hs) args s 0 0 (kAx K)) (F0 m 0 ls []) := by
  have hx := C.1
  have hb := C.2.1
  intro v0 v1 v2 hs H locs ls hf hR hl
  rw [f_X9_isNote.eq_1] at hf
  refine lv_iload_n hx hb dX9_isNote_0 rfl (lv_at hl 1 rfl) ?_
  refine lv_iconst (v := 0) hx hb dX9_isNote_1 (by decide) ?_
  refine lv_iload_n hx hb dX9_isNote_2 rfl (lv_at hl 2 rfl) ?_
  refine lv_iconst (v := 1) hx hb dX9_isNote_3 (by decide) ?_
  refine lv_isub hx hb dX9_isNote_4 ?_
  obtain ⟨x1, hx1, hf⟩ := ob hf
  refine r_callS (As := [.int v1, .int 0, .int (v2 - 1)]) (rest := []) (st1 := [.int x1]) C hR (lv_sub hl [] rfl) (c_X9_in hx1) ms_X9_in ml_X9_74 ⟨rfl, rfl, (Nat.le_of_ble_eq_true rfl), (Nat.le_of_ble_eq_true rfl)⟩ rfl rfl rfl (Nat.le_of_ble_eq_true rfl) ⟨(Nat.le_of_ble_eq_true rfl), (Nat.le_of_ble_eq_true rfl)⟩ dX9_isNote_5 (fun H locs hR => ?_)
  refine lv_if_eq (tgt := 24) hx hb dX9_isNote_8 (by decide) (fun c8 => ?_) (fun c8 => ?_)
  · have hf := ip hf c8
    refine lv_iconst (v := 0) hx hb dX9_isNote_24 (by decide) ?_
    obtain rfl := Option.some.inj hf
    exact r_iret C hR rfl (Nat.le_of_ble_eq_true rfl) (Nat.le_of_ble_eq_true rfl) dX9_isNote_25
  · have hf := iq hf c8
    refine lv_aload_n hx hb dX9_isNote_11 rfl (lv_at hl 0 rfl) ?_
    refine lv_iload_n hx hb dX9_isNote_12 rfl (lv_at hl 1 rfl) ?_
    obtain ⟨u2, hu2, hf⟩ := ob hf
    obtain ⟨x3, hx3, hf⟩ := ob hf
    refine r_callV (As := [.int v1]) (rest := []) (st1 := [.int x3]) C hR (lv_sub hl [] rfl) (c_X9_line hx3) mv_X9_line ml_X9_87 ⟨rfl, rfl, (Nat.le_of_ble_eq_true rfl), (Nat.le_of_ble_eq_true rfl)⟩ (rv_obj C hR hu2 (q := (RX9, TX9, 17)) rfl) rfl rfl rfl (Nat.le_of_ble_eq_true rfl) ⟨(Nat.le_of_ble_eq_true rfl), (Nat.le_of_ble_eq_true rfl)⟩ dX9_isNote_13 (fun H locs hR => ?_)
    refine lv_iconst (v := (-1)) hx hb dX9_isNote_16 (by decide) ?_
    refine lv_icmp_eq (tgt := 24) hx hb dX9_isNote_17 (by decide) (fun c17 => ?_) (fun c17 => ?_)
    · have hf := ip hf c17
      refine lv_iconst (v := 0) hx hb dX9_isNote_24 (by decide) ?_
      obtain rfl := Option.some.inj hf
      exact r_iret C hR rfl (Nat.le_of_ble_eq_true rfl) (Nat.le_of_ble_eq_true rfl) dX9_isNote_25
    · have hf := iq hf c17
      refine lv_iconst (v := 1) hx hb dX9_isNote_20 (by decide) ?_
      refine lv_goto (tgt := 25) hx hb dX9_isNote_21 (by decide) ?_
      obtain rfl := Option.some.inj hf
      exact r_iret C hR rfl (Nat.le_of_ble_eq_true rfl) (Nat.le_of_ble_eq_true rfl) dX9_isNote_25
theorem c_X9_isNote {K : WK} {l : Launch} {hs : AH} {v0 : Nat} {v1 : Int32} {v2 : Int32} {q : Int32} (hf : f_X9_isNote v0 v1 v2 hs = some q) : MC K l yX9_isNote cX9_isNote 3 (Option.some Jvm.ClassFile.FieldType.boolean) rm_X9_isNote [.ref (kA K v0), .int v1, .int v2] hs (some (.int q)) hs 0 0 :=
  MC.of (by decide +kernel) (Nat.le_of_ble_eq_true rfl) (fun p e s m args below meth c C _ hR ls hl => w_X9_isNote_b0 C _ _ _ hs _ _ ls hf hR hl)
noncomputable def f_X9_isTied (v0 : Nat) (v1 : Int32) (hs : AH) : Option (Int32) :=
  (gR hs v0 9 1).bind fun x1 =>
  (aN 0 hs x1 2).bind fun x2 =>
  if x2 = 4 then
  (
   if v1 ≤ 0 then
   (
    some 0)
   else
   (
    (chk hs v0 9).bind fun u3 =>
    (f_X9_beatOf v0 v1 hs).bind fun x4 =>
    if x4 = 0 then
    (
     (chk hs v0 9).bind fun u5 =>
     (f_X9_line v0 v1 hs).bind fun x6 =>
     (chk hs v0 9).bind fun u7 =>
     (f_X9_line v0 (v1 - 1) hs).bind fun x8 =>
     if x6 = x8 then
     (
      some 1)
     else
     (
      some 0))
    else
    (
     some 0)))
  else
  (
   some 0)
abbrev rm_X9_isTied : Room := { frames := 2, cells := 0, slots := 0, locals := 41 }
set_option maxHeartbeats 4000000 in
set_option maxRecDepth 100000 in
theorem w_X9_isTied_b0 {K : WK} {p : Program} {l : Launch} {e : Env} {s : State} {m : MethodId} {args : Array Value} {below : List Frame} {meth : Method} {c : Code} (C : Cx K p s m args meth c RX9 cX9_isTied 2 (Option.some Jvm.ClassFile.FieldType.boolean)) {q : Int32} : ∀ (v0 : Nat) (v1 : Int32) (hs : AH) (H : Heap) (locs : List Loc) (ls : Array Slot), f_X9_isTied v0 v1 hs = some q → Rl K s hs H locs → lv_has ls 2 [(0, .ref (kA K v0)), (1, .int v1)] → W p l e rm_X9_isTied s m args below meth c H locs 0 0 (MQ below (MQo K (some (.int q)) hs) args s 0 0 (kAx K)) (F0 m 0 ls []) := by
  have hx := C.1
  have hb := C.2.1
  intro v0 v1 hs H locs ls hf hR hl
  rw [f_X9_isTied.eq_1] at hf
  refine lv_aload_n hx hb dX9_isTied_0 rfl (lv_at hl 0 rfl) ?_
  obtain ⟨x1, hx1, hf⟩ := ob hf
  refine r_getR C hR hx1 fl_X9_9 dX9_isTied_1 ?_
  refine lv_iconst (v := 2) hx hb dX9_isTied_4 (by decide) ?_
  obtain ⟨x2, hx2, hf⟩ := ob hf
  refine r_iald C hR hx2 dX9_isTied_5 ?_
  refine lv_iconst (v := 4) hx hb dX9_isTied_6 (by decide) ?_
  refine lv_icmp_ne (tgt := 41) hx hb dX9_isTied_7 (by decide) (fun c7 => ?_) (fun c7 => ?_)
  · have hf := iq hf c7
    refine lv_iconst (v := 0) hx hb dX9_isTied_41 (by decide) ?_
    obtain rfl := Option.some.inj hf
    exact r_iret C hR rfl (Nat.le_of_ble_eq_true rfl) (Nat.le_of_ble_eq_true rfl) dX9_isTied_42
  · have hf := ip hf c7
    refine lv_iload_n hx hb dX9_isTied_10 rfl (lv_at hl 1 rfl) ?_
    refine lv_if_le (tgt := 41) hx hb dX9_isTied_11 (by decide) (fun c11 => ?_) (fun c11 => ?_)
    · have hf := ip hf c11
      refine lv_iconst (v := 0) hx hb dX9_isTied_41 (by decide) ?_
      obtain rfl := Option.some.inj hf
      exact r_iret C hR rfl (Nat.le_of_ble_eq_true rfl) (Nat.le_of_ble_eq_true rfl) dX9_isTied_42
    · have hf := iq hf c11
      refine lv_aload_n hx hb dX9_isTied_14 rfl (lv_at hl 0 rfl) ?_
      refine lv_iload_n hx hb dX9_isTied_15 rfl (lv_at hl 1 rfl) ?_
      obtain ⟨u3, hu3, hf⟩ := ob hf
      obtain ⟨x4, hx4, hf⟩ := ob hf
      refine r_callV (As := [.int v1]) (rest := []) (st1 := [.int x4]) C hR (lv_sub hl [] rfl) (c_X9_beatOf hx4) mv_X9_beatOf ml_X9_90 ⟨rfl, rfl, (Nat.le_of_ble_eq_true rfl), (Nat.le_of_ble_eq_true rfl)⟩ (rv_obj C hR hu3 (q := (RX9, TX9, 17)) rfl) rfl rfl rfl (Nat.le_of_ble_eq_true rfl) ⟨(Nat.le_of_ble_eq_true rfl), (Nat.le_of_ble_eq_true rfl)⟩ dX9_isTied_16 (fun H locs hR => ?_)
      refine lv_if_ne (tgt := 41) hx hb dX9_isTied_19 (by decide) (fun c19 => ?_) (fun c19 => ?_)
      · have hf := iq hf c19
        refine lv_iconst (v := 0) hx hb dX9_isTied_41 (by decide) ?_
        obtain rfl := Option.some.inj hf
        exact r_iret C hR rfl (Nat.le_of_ble_eq_true rfl) (Nat.le_of_ble_eq_true rfl) dX9_isTied_42
      · have hf := ip hf c19
        refine lv_aload_n hx hb dX9_isTied_22 rfl (lv_at hl 0 rfl) ?_
        refine lv_iload_n hx hb dX9_isTied_23 rfl (lv_at hl 1 rfl) ?_
        obtain ⟨u5, hu5, hf⟩ := ob hf
        obtain ⟨x6, hx6, hf⟩ := ob hf
        refine r_callV (As := [.int v1]) (rest := []) (st1 := [.int x6]) C hR (lv_sub hl [] rfl) (c_X9_line hx6) mv_X9_line ml_X9_87 ⟨rfl, rfl, (Nat.le_of_ble_eq_true rfl), (Nat.le_of_ble_eq_true rfl)⟩ (rv_obj C hR hu5 (q := (RX9, TX9, 17)) rfl) rfl rfl rfl (Nat.le_of_ble_eq_true rfl) ⟨(Nat.le_of_ble_eq_true rfl), (Nat.le_of_ble_eq_true rfl)⟩ dX9_isTied_24 (fun H locs hR => ?_)
        refine lv_aload_n hx hb dX9_isTied_27 rfl (lv_at hl 0 rfl) ?_
        refine lv_iload_n hx hb dX9_isTied_28 rfl (lv_at hl 1 rfl) ?_
        refine lv_iconst (v := 1) hx hb dX9_isTied_29 (by decide) ?_
        refine lv_isub hx hb dX9_isTied_30 ?_
        obtain ⟨u7, hu7, hf⟩ := ob hf
        obtain ⟨x8, hx8, hf⟩ := ob hf
        refine r_callV (As := [.int (v1 - 1)]) (rest := [.int x6]) (st1 := [.int x8, .int x6]) C hR (lv_sub hl [] rfl) (c_X9_line hx8) mv_X9_line ml_X9_87 ⟨rfl, rfl, (Nat.le_of_ble_eq_true rfl), (Nat.le_of_ble_eq_true rfl)⟩ (rv_obj C hR hu7 (q := (RX9, TX9, 17)) rfl) rfl rfl rfl (Nat.le_of_ble_eq_true rfl) ⟨(Nat.le_of_ble_eq_true rfl), (Nat.le_of_ble_eq_true rfl)⟩ dX9_isTied_31 (fun H locs hR => ?_)
        refine lv_icmp_ne (tgt := 41) hx hb dX9_isTied_34 (by decide) (fun c34 => ?_) (fun c34 => ?_)
        · have hf := iq hf c34
          refine lv_iconst (v := 0) hx hb dX9_isTied_41 (by decide) ?_
          obtain rfl := Option.some.inj hf
          exact r_iret C hR rfl (Nat.le_of_ble_eq_true rfl) (Nat.le_of_ble_eq_true rfl) dX9_isTied_42
        · have hf := ip hf c34
          refine lv_iconst (v := 1) hx hb dX9_isTied_37 (by decide) ?_
          refine lv_goto (tgt := 42) hx hb dX9_isTied_38 (by decide) ?_
          obtain rfl := Option.some.inj hf
          exact r_iret C hR rfl (Nat.le_of_ble_eq_true rfl) (Nat.le_of_ble_eq_true rfl) dX9_isTied_42
theorem c_X9_isTied {K : WK} {l : Launch} {hs : AH} {v0 : Nat} {v1 : Int32} {q : Int32} (hf : f_X9_isTied v0 v1 hs = some q) : MC K l yX9_isTied cX9_isTied 2 (Option.some Jvm.ClassFile.FieldType.boolean) rm_X9_isTied [.ref (kA K v0), .int v1] hs (some (.int q)) hs 0 0 :=
  MC.of (by decide +kernel) (Nat.le_of_ble_eq_true rfl) (fun p e s m args below meth c C _ hR ls hl => w_X9_isTied_b0 C _ _ hs _ _ ls hf hR hl)
noncomputable def f_X9_isGoodMove (v0 : Nat) (v1 : Int32) (v2 : Int32) : Option (Int32) :=
  (f_X9_steps v1 v2).bind fun x1 =>
  (f_X9_width v1 v2).bind fun x2 =>
  if x1 = 0 then
  (
   if x2 = 0 then
   (
    some 1)
   else
   (
    some 0))
  else
  (
   if x1 = 1 then
   (
    (f_X9_in x2 1 2).bind fun x3 =>
    some (vp_nar .boolean x3))
   else
   (
    if x1 = 2 then
    (
     (f_X9_in x2 3 4).bind fun x4 =>
     some (vp_nar .boolean x4))
    else
    (
     if x1 = 3 then
     (
      if x2 = 5 then
      (
       some 1)
      else
      (
       some 0))
     else
     (
      if x1 = 4 then
      (
       if x2 = 7 then
       (
        some 1)
       else
       (
        some 0))
      else
      (
       if x1 = 5 then
       (
        if x2 = 8 then
        (
         (f_X9_direction v1 v2).bind fun x5 =>
         if x5 ≤ 0 then
         (
          some 0)
         else
         (
          some 1))
        else
        (
         some 0))
       else
       (
        if x1 = 6 then
        (
         some 0)
        else
        (
         if x1 = 7 then
         (
          if x2 = 12 then
          (
           some 1)
          else
          (
           some 0))
         else
         (
          some 0))))))))
abbrev rm_X9_isGoodMove : Room := { frames := 3, cells := 0, slots := 0, locals := 62 }
set_option maxHeartbeats 4000000 in
set_option maxRecDepth 100000 in
theorem w_X9_isGoodMove_b0 {K : WK} {p : Program} {l : Launch} {e : Env} {s : State} {m : MethodId} {args : Array Value} {below : List Frame} {meth : Method} {c : Code} (C : Cx K p s m args meth c RX9 cX9_isGoodMove 5 (Option.some Jvm.ClassFile.FieldType.boolean)) {q : Int32} : ∀ (v0 : Nat) (v1 : Int32) (v2 : Int32) (hs : AH) (H : Heap) (locs : List Loc) (ls : Array Slot), f_X9_isGoodMove v0 v1 v2 = some q → Rl K s hs H locs → lv_has ls 5 [(0, .ref (kA K v0)), (1, .int v1), (2, .int v2)] → W p l e rm_X9_isGoodMove s m args below meth c H locs 0 0 (MQ below (MQo K (some (.int q)) hs) args s 0 0 (kAx K)) (F0 m 0 ls []) := by
  have hx := C.1
  have hb := C.2.1
  intro v0 v1 v2 hs H locs ls hf hR hl
  rw [f_X9_isGoodMove.eq_1] at hf
  refine lv_iload_n hx hb dX9_isGoodMove_0 rfl (lv_at hl 1 rfl) ?_
  refine lv_iload_n hx hb dX9_isGoodMove_1 rfl (lv_at hl 2 rfl) ?_
  obtain ⟨x1, hx1, hf⟩ := ob hf
  refine r_callS (As := [.int v1, .int v2]) (rest := []) (st1 := [.int x1]) C hR (lv_sub hl [] rfl) (c_X9_steps hx1) ms_X9_steps ml_X9_64 ⟨rfl, rfl, (Nat.le_of_ble_eq_true rfl), (Nat.le_of_ble_eq_true rfl)⟩ rfl rfl rfl (Nat.le_of_ble_eq_true rfl) ⟨(Nat.le_of_ble_eq_true rfl), (Nat.le_of_ble_eq_true rfl)⟩ dX9_isGoodMove_2 (fun H locs hR => ?_)
  refine lv_istore_n (lv' := [(3, .int x1), (0, .ref (kA K v0)), (1, .int v1), (2, .int v2)]) hx hb dX9_isGoodMove_5 rfl hl (by decide) rfl (fun ls hl => ?_)
  refine lv_iload_n hx hb dX9_isGoodMove_6 rfl (lv_at hl 2 rfl) ?_
  refine lv_iload_n hx hb dX9_isGoodMove_7 rfl (lv_at hl 3 rfl) ?_
  obtain ⟨x2, hx2, hf⟩ := ob hf
  refine r_callS (As := [.int v1, .int v2]) (rest := []) (st1 := [.int x2]) C hR (lv_sub hl [] rfl) (c_X9_width hx2) ms_X9_width ml_X9_68 ⟨rfl, rfl, (Nat.le_of_ble_eq_true rfl), (Nat.le_of_ble_eq_true rfl)⟩ rfl rfl rfl (Nat.le_of_ble_eq_true rfl) ⟨(Nat.le_of_ble_eq_true rfl), (Nat.le_of_ble_eq_true rfl)⟩ dX9_isGoodMove_8 (fun H locs hR => ?_)
  refine lv_istore (lv' := [(4, .int x2), (3, .int x1), (0, .ref (kA K v0)), (1, .int v1), (2, .int v2)]) hx hb dX9_isGoodMove_11 hl (by decide) rfl (fun ls hl => ?_)
  refine lv_iload_n hx hb dX9_isGoodMove_13 rfl (lv_at hl 1 rfl) ?_
  by_cases c14_0 : x1 = 0
  · have hf := ip hf c14_0
    refine lv_tableIn (tgt := 60) (off := 46) hx hb dX9_isGoodMove_14 (by rw [c14_0]; decide) (by rw [c14_0]; decide) (by rw [c14_0]; decide +kernel) (by decide) ?_
    refine lv_iload hx hb dX9_isGoodMove_60 (lv_at hl 0 rfl) ?_
    refine lv_if_ne (tgt := 69) hx hb dX9_isGoodMove_62 (by decide) (fun c62 => ?_) (fun c62 => ?_)
    · have hf := iq hf c62
      refine lv_iconst (v := 0) hx hb dX9_isGoodMove_69 (by decide) ?_
      obtain rfl := Option.some.inj hf
      exact r_iret C hR rfl (Nat.le_of_ble_eq_true rfl) (Nat.le_of_ble_eq_true rfl) dX9_isGoodMove_70
    · have hf := ip hf c62
      refine lv_iconst (v := 1) hx hb dX9_isGoodMove_65 (by decide) ?_
      refine lv_goto (tgt := 70) hx hb dX9_isGoodMove_66 (by decide) ?_
      obtain rfl := Option.some.inj hf
      exact r_iret C hR rfl (Nat.le_of_ble_eq_true rfl) (Nat.le_of_ble_eq_true rfl) dX9_isGoodMove_70
  · have hf := iq hf c14_0
    by_cases c14_1 : x1 = 1
    · have hf := ip hf c14_1
      refine lv_tableIn (tgt := 71) (off := 57) hx hb dX9_isGoodMove_14 (by rw [c14_1]; decide) (by rw [c14_1]; decide) (by rw [c14_1]; decide +kernel) (by decide) ?_
      refine lv_iload hx hb dX9_isGoodMove_71 (lv_at hl 0 rfl) ?_
      refine lv_iconst (v := 1) hx hb dX9_isGoodMove_73 (by decide) ?_
      refine lv_iconst (v := 2) hx hb dX9_isGoodMove_74 (by decide) ?_
      obtain ⟨x3, hx3, hf⟩ := ob hf
      refine r_callS (As := [.int x2, .int 1, .int 2]) (rest := []) (st1 := [.int x3]) C hR (lv_sub hl [] rfl) (c_X9_in hx3) ms_X9_in ml_X9_74 ⟨rfl, rfl, (Nat.le_of_ble_eq_true rfl), (Nat.le_of_ble_eq_true rfl)⟩ rfl rfl rfl (Nat.le_of_ble_eq_true rfl) ⟨(Nat.le_of_ble_eq_true rfl), (Nat.le_of_ble_eq_true rfl)⟩ dX9_isGoodMove_75 (fun H locs hR => ?_)
      obtain rfl := Option.some.inj hf
      exact r_iret C hR nar_boolean (Nat.le_of_ble_eq_true rfl) (Nat.le_of_ble_eq_true rfl) dX9_isGoodMove_78
    · have hf := iq hf c14_1
      by_cases c14_2 : x1 = 2
      · have hf := ip hf c14_2
        refine lv_tableIn (tgt := 79) (off := 65) hx hb dX9_isGoodMove_14 (by rw [c14_2]; decide) (by rw [c14_2]; decide) (by rw [c14_2]; decide +kernel) (by decide) ?_
        refine lv_iload hx hb dX9_isGoodMove_79 (lv_at hl 0 rfl) ?_
        refine lv_iconst (v := 3) hx hb dX9_isGoodMove_81 (by decide) ?_
        refine lv_iconst (v := 4) hx hb dX9_isGoodMove_82 (by decide) ?_
        obtain ⟨x4, hx4, hf⟩ := ob hf
        refine r_callS (As := [.int x2, .int 3, .int 4]) (rest := []) (st1 := [.int x4]) C hR (lv_sub hl [] rfl) (c_X9_in hx4) ms_X9_in ml_X9_74 ⟨rfl, rfl, (Nat.le_of_ble_eq_true rfl), (Nat.le_of_ble_eq_true rfl)⟩ rfl rfl rfl (Nat.le_of_ble_eq_true rfl) ⟨(Nat.le_of_ble_eq_true rfl), (Nat.le_of_ble_eq_true rfl)⟩ dX9_isGoodMove_83 (fun H locs hR => ?_)
        obtain rfl := Option.some.inj hf
        exact r_iret C hR nar_boolean (Nat.le_of_ble_eq_true rfl) (Nat.le_of_ble_eq_true rfl) dX9_isGoodMove_86
      · have hf := iq hf c14_2
        by_cases c14_3 : x1 = 3
        · have hf := ip hf c14_3
          refine lv_tableIn (tgt := 87) (off := 73) hx hb dX9_isGoodMove_14 (by rw [c14_3]; decide) (by rw [c14_3]; decide) (by rw [c14_3]; decide +kernel) (by decide) ?_
          refine lv_iload hx hb dX9_isGoodMove_87 (lv_at hl 0 rfl) ?_
          refine lv_iconst (v := 5) hx hb dX9_isGoodMove_89 (by decide) ?_
          refine lv_icmp_ne (tgt := 97) hx hb dX9_isGoodMove_90 (by decide) (fun c90 => ?_) (fun c90 => ?_)
          · have hf := iq hf c90
            refine lv_iconst (v := 0) hx hb dX9_isGoodMove_97 (by decide) ?_
            obtain rfl := Option.some.inj hf
            exact r_iret C hR rfl (Nat.le_of_ble_eq_true rfl) (Nat.le_of_ble_eq_true rfl) dX9_isGoodMove_98
          · have hf := ip hf c90
            refine lv_iconst (v := 1) hx hb dX9_isGoodMove_93 (by decide) ?_
            refine lv_goto (tgt := 98) hx hb dX9_isGoodMove_94 (by decide) ?_
            obtain rfl := Option.some.inj hf
            exact r_iret C hR rfl (Nat.le_of_ble_eq_true rfl) (Nat.le_of_ble_eq_true rfl) dX9_isGoodMove_98
        · have hf := iq hf c14_3
          by_cases c14_4 : x1 = 4
          · have hf := ip hf c14_4
            refine lv_tableIn (tgt := 99) (off := 85) hx hb dX9_isGoodMove_14 (by rw [c14_4]; decide) (by rw [c14_4]; decide) (by rw [c14_4]; decide +kernel) (by decide) ?_
            refine lv_iload hx hb dX9_isGoodMove_99 (lv_at hl 0 rfl) ?_
            refine lv_bipush (v := 7) hx hb dX9_isGoodMove_101 (by decide) ?_
            refine lv_icmp_ne (tgt := 110) hx hb dX9_isGoodMove_103 (by decide) (fun c103 => ?_) (fun c103 => ?_)
            · have hf := iq hf c103
              refine lv_iconst (v := 0) hx hb dX9_isGoodMove_110 (by decide) ?_
              obtain rfl := Option.some.inj hf
              exact r_iret C hR rfl (Nat.le_of_ble_eq_true rfl) (Nat.le_of_ble_eq_true rfl) dX9_isGoodMove_111
            · have hf := ip hf c103
              refine lv_iconst (v := 1) hx hb dX9_isGoodMove_106 (by decide) ?_
              refine lv_goto (tgt := 111) hx hb dX9_isGoodMove_107 (by decide) ?_
              obtain rfl := Option.some.inj hf
              exact r_iret C hR rfl (Nat.le_of_ble_eq_true rfl) (Nat.le_of_ble_eq_true rfl) dX9_isGoodMove_111
          · have hf := iq hf c14_4
            by_cases c14_5 : x1 = 5
            · have hf := ip hf c14_5
              refine lv_tableIn (tgt := 112) (off := 98) hx hb dX9_isGoodMove_14 (by rw [c14_5]; decide) (by rw [c14_5]; decide) (by rw [c14_5]; decide +kernel) (by decide) ?_
              refine lv_iload hx hb dX9_isGoodMove_112 (lv_at hl 0 rfl) ?_
              refine lv_bipush (v := 8) hx hb dX9_isGoodMove_114 (by decide) ?_
              refine lv_icmp_ne (tgt := 131) hx hb dX9_isGoodMove_116 (by decide) (fun c116 => ?_) (fun c116 => ?_)
              · have hf := iq hf c116
                refine lv_iconst (v := 0) hx hb dX9_isGoodMove_131 (by decide) ?_
                obtain rfl := Option.some.inj hf
                exact r_iret C hR rfl (Nat.le_of_ble_eq_true rfl) (Nat.le_of_ble_eq_true rfl) dX9_isGoodMove_132
              · have hf := ip hf c116
                refine lv_iload_n hx hb dX9_isGoodMove_119 rfl (lv_at hl 3 rfl) ?_
                refine lv_iload_n hx hb dX9_isGoodMove_120 rfl (lv_at hl 4 rfl) ?_
                obtain ⟨x5, hx5, hf⟩ := ob hf
                refine r_callS (As := [.int v1, .int v2]) (rest := []) (st1 := [.int x5]) C hR (lv_sub hl [] rfl) (c_X9_direction hx5) ms_X9_direction ml_X9_93 ⟨rfl, rfl, (Nat.le_of_ble_eq_true rfl), (Nat.le_of_ble_eq_true rfl)⟩ rfl rfl rfl (Nat.le_of_ble_eq_true rfl) ⟨(Nat.le_of_ble_eq_true rfl), (Nat.le_of_ble_eq_true rfl)⟩ dX9_isGoodMove_121 (fun H locs hR => ?_)
                refine lv_if_le (tgt := 131) hx hb dX9_isGoodMove_124 (by decide) (fun c124 => ?_) (fun c124 => ?_)
                · have hf := ip hf c124
                  refine lv_iconst (v := 0) hx hb dX9_isGoodMove_131 (by decide) ?_
                  obtain rfl := Option.some.inj hf
                  exact r_iret C hR rfl (Nat.le_of_ble_eq_true rfl) (Nat.le_of_ble_eq_true rfl) dX9_isGoodMove_132
                · have hf := iq hf c124
                  refine lv_iconst (v := 1) hx hb dX9_isGoodMove_127 (by decide) ?_
                  refine lv_goto (tgt := 132) hx hb dX9_isGoodMove_128 (by decide) ?_
                  obtain rfl := Option.some.inj hf
                  exact r_iret C hR rfl (Nat.le_of_ble_eq_true rfl) (Nat.le_of_ble_eq_true rfl) dX9_isGoodMove_132
            · have hf := iq hf c14_5
              by_cases c14_6 : x1 = 6
              · have hf := ip hf c14_6
                refine lv_tableIn (tgt := 146) (off := 132) hx hb dX9_isGoodMove_14 (by rw [c14_6]; decide) (by rw [c14_6]; decide) (by rw [c14_6]; decide +kernel) (by decide) ?_
                refine lv_iconst (v := 0) hx hb dX9_isGoodMove_146 (by decide) ?_
                obtain rfl := Option.some.inj hf
                exact r_iret C hR rfl (Nat.le_of_ble_eq_true rfl) (Nat.le_of_ble_eq_true rfl) dX9_isGoodMove_147
              · have hf := iq hf c14_6
                by_cases c14_7 : x1 = 7
                · have hf := ip hf c14_7
                  refine lv_tableIn (tgt := 133) (off := 119) hx hb dX9_isGoodMove_14 (by rw [c14_7]; decide) (by rw [c14_7]; decide) (by rw [c14_7]; decide +kernel) (by decide) ?_
                  refine lv_iload hx hb dX9_isGoodMove_133 (lv_at hl 0 rfl) ?_
                  refine lv_bipush (v := 12) hx hb dX9_isGoodMove_135 (by decide) ?_
                  refine lv_icmp_ne (tgt := 144) hx hb dX9_isGoodMove_137 (by decide) (fun c137 => ?_) (fun c137 => ?_)
                  · have hf := iq hf c137
                    refine lv_iconst (v := 0) hx hb dX9_isGoodMove_144 (by decide) ?_
                    obtain rfl := Option.some.inj hf
                    exact r_iret C hR rfl (Nat.le_of_ble_eq_true rfl) (Nat.le_of_ble_eq_true rfl) dX9_isGoodMove_145
                  · have hf := ip hf c137
                    refine lv_iconst (v := 1) hx hb dX9_isGoodMove_140 (by decide) ?_
                    refine lv_goto (tgt := 145) hx hb dX9_isGoodMove_141 (by decide) ?_
                    obtain rfl := Option.some.inj hf
                    exact r_iret C hR rfl (Nat.le_of_ble_eq_true rfl) (Nat.le_of_ble_eq_true rfl) dX9_isGoodMove_145
                · have hf := iq hf c14_7
                  refine lv_tableOut (tgt := 146) hx hb dX9_isGoodMove_14 (by have z0 := tn c14_0 (a := 0) rfl; have z1 := tn c14_1 (a := 1) rfl; have z2 := tn c14_2 (a := 2) rfl; have z3 := tn c14_3 (a := 3) rfl; have z4 := tn c14_4 (a := 4) rfl; have z5 := tn c14_5 (a := 5) rfl; have z6 := tn c14_6 (a := 6) rfl; have z7 := tn c14_7 (a := 7) rfl; omega) (by decide) ?_
                  refine lv_iconst (v := 0) hx hb dX9_isGoodMove_146 (by decide) ?_
                  obtain rfl := Option.some.inj hf
                  exact r_iret C hR rfl (Nat.le_of_ble_eq_true rfl) (Nat.le_of_ble_eq_true rfl) dX9_isGoodMove_147
theorem c_X9_isGoodMove {K : WK} {l : Launch} {hs : AH} {v0 : Nat} {v1 : Int32} {v2 : Int32} {q : Int32} (hf : f_X9_isGoodMove v0 v1 v2 = some q) : MC K l yX9_isGoodMove cX9_isGoodMove 5 (Option.some Jvm.ClassFile.FieldType.boolean) rm_X9_isGoodMove [.ref (kA K v0), .int v1, .int v2] hs (some (.int q)) hs 0 0 :=
  MC.of (by decide +kernel) (Nat.le_of_ble_eq_true rfl) (fun p e s m args below meth c C _ hR ls hl => w_X9_isGoodMove_b0 C _ _ _ hs _ _ ls hf hR hl)
noncomputable def f_X9_recover (v0 : Nat) (v1 : Int32) (hs : AH) : Option (Int32) :=
  (chk hs v0 9).bind fun u1 =>
  (f_X9_line v0 (v1 - 2) hs).bind fun x2 =>
  (chk hs v0 9).bind fun u3 =>
  (f_X9_line v0 (v1 - 1) hs).bind fun x4 =>
  (f_X9_steps x2 x4).bind fun x5 =>
  if 4 ≤ x5 then
  (
   (chk hs v0 9).bind fun u6 =>
   (f_X9_line v0 (v1 - 1) hs).bind fun x7 =>
   (chk hs v0 9).bind fun u8 =>
   (f_X9_line v0 v1 hs).bind fun x9 =>
   (f_X9_steps x7 x9).bind fun x10 =>
   if x10 = 1 then
   (
    (chk hs v0 9).bind fun u11 =>
    (f_X9_line v0 (v1 - 1) hs).bind fun x12 =>
    (chk hs v0 9).bind fun u13 =>
    (f_X9_line v0 v1 hs).bind fun x14 =>
    (f_X9_direction x12 x14).bind fun x15 =>
    (chk hs v0 9).bind fun u16 =>
    (f_X9_line v0 (v1 - 2) hs).bind fun x17 =>
    (chk hs v0 9).bind fun u18 =>
    (f_X9_line v0 (v1 - 1) hs).bind fun x19 =>
    (f_X9_direction x17 x19).bind fun x20 =>
    if 0 ≤ (x15 * x20) then
    (
     some x5)
    else
    (
     some (-1)))
   else
   (
    some x5))
  else
  (
   some (-1))
abbrev rm_X9_recover : Room := { frames := 3, cells := 0, slots := 0, locals := 62 }
set_option maxHeartbeats 4000000 in
set_option maxRecDepth 100000 in
theorem w_X9_recover_b0 {K : WK} {p : Program} {l : Launch} {e : Env} {s : State} {m : MethodId} {args : Array Value} {below : List Frame} {meth : Method} {c : Code} (C : Cx K p s m args meth c RX9 cX9_recover 4 (Option.some Jvm.ClassFile.FieldType.int)) {q : Int32} : ∀ (v0 : Nat) (v1 : Int32) (hs : AH) (H : Heap) (locs : List Loc) (ls : Array Slot), f_X9_recover v0 v1 hs = some q → Rl K s hs H locs → lv_has ls 4 [(0, .ref (kA K v0)), (1, .int v1)] → W p l e rm_X9_recover s m args below meth c H locs 0 0 (MQ below (MQo K (some (.int q)) hs) args s 0 0 (kAx K)) (F0 m 0 ls []) := by
  have hx := C.1
  have hb := C.2.1
  intro v0 v1 hs H locs ls hf hR hl
  rw [f_X9_recover.eq_1] at hf
  refine lv_aload_n hx hb dX9_recover_0 rfl (lv_at hl 0 rfl) ?_
  refine lv_iload_n hx hb dX9_recover_1 rfl (lv_at hl 1 rfl) ?_
  refine lv_iconst (v := 2) hx hb dX9_recover_2 (by decide) ?_
  refine lv_isub hx hb dX9_recover_3 ?_
  obtain ⟨u1, hu1, hf⟩ := ob hf
  obtain ⟨x2, hx2, hf⟩ := ob hf
  refine r_callV (As := [.int (v1 - 2)]) (rest := []) (st1 := [.int x2]) C hR (lv_sub hl [] rfl) (c_X9_line hx2) mv_X9_line ml_X9_87 ⟨rfl, rfl, (Nat.le_of_ble_eq_true rfl), (Nat.le_of_ble_eq_true rfl)⟩ (rv_obj C hR hu1 (q := (RX9, TX9, 17)) rfl) rfl rfl rfl (Nat.le_of_ble_eq_true rfl) ⟨(Nat.le_of_ble_eq_true rfl), (Nat.le_of_ble_eq_true rfl)⟩ dX9_recover_4 (fun H locs hR => ?_)
  refine lv_aload_n hx hb dX9_recover_7 rfl (lv_at hl 0 rfl) ?_
  refine lv_iload_n hx hb dX9_recover_8 rfl (lv_at hl 1 rfl) ?_
  refine lv_iconst (v := 1) hx hb dX9_recover_9 (by decide) ?_
  refine lv_isub hx hb dX9_recover_10 ?_
  obtain ⟨u3, hu3, hf⟩ := ob hf
  obtain ⟨x4, hx4, hf⟩ := ob hf
  refine r_callV (As := [.int (v1 - 1)]) (rest := [.int x2]) (st1 := [.int x4, .int x2]) C hR (lv_sub hl [] rfl) (c_X9_line hx4) mv_X9_line ml_X9_87 ⟨rfl, rfl, (Nat.le_of_ble_eq_true rfl), (Nat.le_of_ble_eq_true rfl)⟩ (rv_obj C hR hu3 (q := (RX9, TX9, 17)) rfl) rfl rfl rfl (Nat.le_of_ble_eq_true rfl) ⟨(Nat.le_of_ble_eq_true rfl), (Nat.le_of_ble_eq_true rfl)⟩ dX9_recover_11 (fun H locs hR => ?_)
  obtain ⟨x5, hx5, hf⟩ := ob hf
  refine r_callS (As := [.int x2, .int x4]) (rest := []) (st1 := [.int x5]) C hR (lv_sub hl [] rfl) (c_X9_steps hx5) ms_X9_steps ml_X9_64 ⟨rfl, rfl, (Nat.le_of_ble_eq_true rfl), (Nat.le_of_ble_eq_true rfl)⟩ rfl rfl rfl (Nat.le_of_ble_eq_true rfl) ⟨(Nat.le_of_ble_eq_true rfl), (Nat.le_of_ble_eq_true rfl)⟩ dX9_recover_14 (fun H locs hR => ?_)
  refine lv_istore_n (lv' := [(2, .int x5), (0, .ref (kA K v0)), (1, .int v1)]) hx hb dX9_recover_17 rfl hl (by decide) rfl (fun ls hl => ?_)
  refine lv_iload_n hx hb dX9_recover_18 rfl (lv_at hl 0 rfl) ?_
  refine lv_iconst (v := 4) hx hb dX9_recover_19 (by decide) ?_
  refine lv_icmp_ge (tgt := 25) hx hb dX9_recover_20 (by decide) (fun c20 => ?_) (fun c20 => ?_)
  · have hf := ip hf c20
    refine lv_aload_n hx hb dX9_recover_25 rfl (lv_at hl 1 rfl) ?_
    refine lv_iload_n hx hb dX9_recover_26 rfl (lv_at hl 2 rfl) ?_
    refine lv_iconst (v := 1) hx hb dX9_recover_27 (by decide) ?_
    refine lv_isub hx hb dX9_recover_28 ?_
    obtain ⟨u6, hu6, hf⟩ := ob hf
    obtain ⟨x7, hx7, hf⟩ := ob hf
    refine r_callV (As := [.int (v1 - 1)]) (rest := []) (st1 := [.int x7]) C hR (lv_sub hl [] rfl) (c_X9_line hx7) mv_X9_line ml_X9_87 ⟨rfl, rfl, (Nat.le_of_ble_eq_true rfl), (Nat.le_of_ble_eq_true rfl)⟩ (rv_obj C hR hu6 (q := (RX9, TX9, 17)) rfl) rfl rfl rfl (Nat.le_of_ble_eq_true rfl) ⟨(Nat.le_of_ble_eq_true rfl), (Nat.le_of_ble_eq_true rfl)⟩ dX9_recover_29 (fun H locs hR => ?_)
    refine lv_aload_n hx hb dX9_recover_32 rfl (lv_at hl 1 rfl) ?_
    refine lv_iload_n hx hb dX9_recover_33 rfl (lv_at hl 2 rfl) ?_
    obtain ⟨u8, hu8, hf⟩ := ob hf
    obtain ⟨x9, hx9, hf⟩ := ob hf
    refine r_callV (As := [.int v1]) (rest := [.int x7]) (st1 := [.int x9, .int x7]) C hR (lv_sub hl [] rfl) (c_X9_line hx9) mv_X9_line ml_X9_87 ⟨rfl, rfl, (Nat.le_of_ble_eq_true rfl), (Nat.le_of_ble_eq_true rfl)⟩ (rv_obj C hR hu8 (q := (RX9, TX9, 17)) rfl) rfl rfl rfl (Nat.le_of_ble_eq_true rfl) ⟨(Nat.le_of_ble_eq_true rfl), (Nat.le_of_ble_eq_true rfl)⟩ dX9_recover_34 (fun H locs hR => ?_)
    obtain ⟨x10, hx10, hf⟩ := ob hf
    refine r_callS (As := [.int x7, .int x9]) (rest := []) (st1 := [.int x10]) C hR (lv_sub hl [] rfl) (c_X9_steps hx10) ms_X9_steps ml_X9_64 ⟨rfl, rfl, (Nat.le_of_ble_eq_true rfl), (Nat.le_of_ble_eq_true rfl)⟩ rfl rfl rfl (Nat.le_of_ble_eq_true rfl) ⟨(Nat.le_of_ble_eq_true rfl), (Nat.le_of_ble_eq_true rfl)⟩ dX9_recover_37 (fun H locs hR => ?_)
    refine lv_iconst (v := 1) hx hb dX9_recover_40 (by decide) ?_
    refine lv_icmp_ne (tgt := 84) hx hb dX9_recover_41 (by decide) (fun c41 => ?_) (fun c41 => ?_)
    · have hf := iq hf c41
      refine lv_iconst (v := 0) hx hb dX9_recover_84 (by decide) ?_
      refine lv_istore_n (lv' := [(3, .int 0), (2, .int x5), (0, .ref (kA K v0)), (1, .int v1)]) hx hb dX9_recover_85 rfl hl (by decide) rfl (fun ls hl => ?_)
      refine lv_iload_n hx hb dX9_recover_86 rfl (lv_at hl 0 rfl) ?_
      refine lv_if_eq (tgt := 94) hx hb dX9_recover_87 (by decide) (fun c87 => ?_) (fun c87 => ?_)
      · skip
        refine lv_iload_n hx hb dX9_recover_94 rfl (lv_at hl 1 rfl) ?_
        obtain rfl := Option.some.inj hf
        exact r_iret C hR rfl (Nat.le_of_ble_eq_true rfl) (Nat.le_of_ble_eq_true rfl) dX9_recover_95
      · exact absurd c87 (by decide)
    · have hf := ip hf c41
      refine lv_aload_n hx hb dX9_recover_44 rfl (lv_at hl 1 rfl) ?_
      refine lv_iload_n hx hb dX9_recover_45 rfl (lv_at hl 2 rfl) ?_
      refine lv_iconst (v := 1) hx hb dX9_recover_46 (by decide) ?_
      refine lv_isub hx hb dX9_recover_47 ?_
      obtain ⟨u11, hu11, hf⟩ := ob hf
      obtain ⟨x12, hx12, hf⟩ := ob hf
      refine r_callV (As := [.int (v1 - 1)]) (rest := []) (st1 := [.int x12]) C hR (lv_sub hl [] rfl) (c_X9_line hx12) mv_X9_line ml_X9_87 ⟨rfl, rfl, (Nat.le_of_ble_eq_true rfl), (Nat.le_of_ble_eq_true rfl)⟩ (rv_obj C hR hu11 (q := (RX9, TX9, 17)) rfl) rfl rfl rfl (Nat.le_of_ble_eq_true rfl) ⟨(Nat.le_of_ble_eq_true rfl), (Nat.le_of_ble_eq_true rfl)⟩ dX9_recover_48 (fun H locs hR => ?_)
      refine lv_aload_n hx hb dX9_recover_51 rfl (lv_at hl 1 rfl) ?_
      refine lv_iload_n hx hb dX9_recover_52 rfl (lv_at hl 2 rfl) ?_
      obtain ⟨u13, hu13, hf⟩ := ob hf
      obtain ⟨x14, hx14, hf⟩ := ob hf
      refine r_callV (As := [.int v1]) (rest := [.int x12]) (st1 := [.int x14, .int x12]) C hR (lv_sub hl [] rfl) (c_X9_line hx14) mv_X9_line ml_X9_87 ⟨rfl, rfl, (Nat.le_of_ble_eq_true rfl), (Nat.le_of_ble_eq_true rfl)⟩ (rv_obj C hR hu13 (q := (RX9, TX9, 17)) rfl) rfl rfl rfl (Nat.le_of_ble_eq_true rfl) ⟨(Nat.le_of_ble_eq_true rfl), (Nat.le_of_ble_eq_true rfl)⟩ dX9_recover_53 (fun H locs hR => ?_)
      obtain ⟨x15, hx15, hf⟩ := ob hf
      refine r_callS (As := [.int x12, .int x14]) (rest := []) (st1 := [.int x15]) C hR (lv_sub hl [] rfl) (c_X9_direction hx15) ms_X9_direction ml_X9_93 ⟨rfl, rfl, (Nat.le_of_ble_eq_true rfl), (Nat.le_of_ble_eq_true rfl)⟩ rfl rfl rfl (Nat.le_of_ble_eq_true rfl) ⟨(Nat.le_of_ble_eq_true rfl), (Nat.le_of_ble_eq_true rfl)⟩ dX9_recover_56 (fun H locs hR => ?_)
      refine lv_aload_n hx hb dX9_recover_59 rfl (lv_at hl 1 rfl) ?_
      refine lv_iload_n hx hb dX9_recover_60 rfl (lv_at hl 2 rfl) ?_
      refine lv_iconst (v := 2) hx hb dX9_recover_61 (by decide) ?_
      refine lv_isub hx hb dX9_recover_62 ?_
      obtain ⟨u16, hu16, hf⟩ := ob hf
      obtain ⟨x17, hx17, hf⟩ := ob hf
      refine r_callV (As := [.int (v1 - 2)]) (rest := [.int x15]) (st1 := [.int x17, .int x15]) C hR (lv_sub hl [] rfl) (c_X9_line hx17) mv_X9_line ml_X9_87 ⟨rfl, rfl, (Nat.le_of_ble_eq_true rfl), (Nat.le_of_ble_eq_true rfl)⟩ (rv_obj C hR hu16 (q := (RX9, TX9, 17)) rfl) rfl rfl rfl (Nat.le_of_ble_eq_true rfl) ⟨(Nat.le_of_ble_eq_true rfl), (Nat.le_of_ble_eq_true rfl)⟩ dX9_recover_63 (fun H locs hR => ?_)
      refine lv_aload_n hx hb dX9_recover_66 rfl (lv_at hl 1 rfl) ?_
      refine lv_iload_n hx hb dX9_recover_67 rfl (lv_at hl 2 rfl) ?_
      refine lv_iconst (v := 1) hx hb dX9_recover_68 (by decide) ?_
      refine lv_isub hx hb dX9_recover_69 ?_
      obtain ⟨u18, hu18, hf⟩ := ob hf
      obtain ⟨x19, hx19, hf⟩ := ob hf
      refine r_callV (As := [.int (v1 - 1)]) (rest := [.int x17, .int x15]) (st1 := [.int x19, .int x17, .int x15]) C hR (lv_sub hl [] rfl) (c_X9_line hx19) mv_X9_line ml_X9_87 ⟨rfl, rfl, (Nat.le_of_ble_eq_true rfl), (Nat.le_of_ble_eq_true rfl)⟩ (rv_obj C hR hu18 (q := (RX9, TX9, 17)) rfl) rfl rfl rfl (Nat.le_of_ble_eq_true rfl) ⟨(Nat.le_of_ble_eq_true rfl), (Nat.le_of_ble_eq_true rfl)⟩ dX9_recover_70 (fun H locs hR => ?_)
      obtain ⟨x20, hx20, hf⟩ := ob hf
      refine r_callS (As := [.int x17, .int x19]) (rest := [.int x15]) (st1 := [.int x20, .int x15]) C hR (lv_sub hl [] rfl) (c_X9_direction hx20) ms_X9_direction ml_X9_93 ⟨rfl, rfl, (Nat.le_of_ble_eq_true rfl), (Nat.le_of_ble_eq_true rfl)⟩ rfl rfl rfl (Nat.le_of_ble_eq_true rfl) ⟨(Nat.le_of_ble_eq_true rfl), (Nat.le_of_ble_eq_true rfl)⟩ dX9_recover_73 (fun H locs hR => ?_)
      refine lv_imul hx hb dX9_recover_76 ?_
      refine lv_if_ge (tgt := 84) hx hb dX9_recover_77 (by decide) (fun c77 => ?_) (fun c77 => ?_)
      · have hf := ip hf c77
        refine lv_iconst (v := 0) hx hb dX9_recover_84 (by decide) ?_
        refine lv_istore_n (lv' := [(3, .int 0), (2, .int x5), (0, .ref (kA K v0)), (1, .int v1)]) hx hb dX9_recover_85 rfl hl (by decide) rfl (fun ls hl => ?_)
        refine lv_iload_n hx hb dX9_recover_86 rfl (lv_at hl 0 rfl) ?_
        refine lv_if_eq (tgt := 94) hx hb dX9_recover_87 (by decide) (fun c87 => ?_) (fun c87 => ?_)
        · skip
          refine lv_iload_n hx hb dX9_recover_94 rfl (lv_at hl 1 rfl) ?_
          obtain rfl := Option.some.inj hf
          exact r_iret C hR rfl (Nat.le_of_ble_eq_true rfl) (Nat.le_of_ble_eq_true rfl) dX9_recover_95
        · exact absurd c87 (by decide)
      · have hf := iq hf c77
        refine lv_iconst (v := 1) hx hb dX9_recover_80 (by decide) ?_
        refine lv_goto (tgt := 85) hx hb dX9_recover_81 (by decide) ?_
        refine lv_istore_n (lv' := [(3, .int 1), (2, .int x5), (0, .ref (kA K v0)), (1, .int v1)]) hx hb dX9_recover_85 rfl hl (by decide) rfl (fun ls hl => ?_)
        refine lv_iload_n hx hb dX9_recover_86 rfl (lv_at hl 0 rfl) ?_
        refine lv_if_eq (tgt := 94) hx hb dX9_recover_87 (by decide) (fun c87 => ?_) (fun c87 => ?_)
        · exact absurd c87 (by decide)
        · skip
          refine lv_iconst (v := (-1)) hx hb dX9_recover_90 (by decide) ?_
          refine lv_goto (tgt := 95) hx hb dX9_recover_91 (by decide) ?_
          obtain rfl := Option.some.inj hf
          exact r_iret C hR rfl (Nat.le_of_ble_eq_true rfl) (Nat.le_of_ble_eq_true rfl) dX9_recover_95
  · have hf := iq hf c20
    refine lv_iconst (v := (-1)) hx hb dX9_recover_23 (by decide) ?_
    obtain rfl := Option.some.inj hf
    exact r_iret C hR rfl (Nat.le_of_ble_eq_true rfl) (Nat.le_of_ble_eq_true rfl) dX9_recover_24
theorem c_X9_recover {K : WK} {l : Launch} {hs : AH} {v0 : Nat} {v1 : Int32} {q : Int32} (hf : f_X9_recover v0 v1 hs = some q) : MC K l yX9_recover cX9_recover 4 (Option.some Jvm.ClassFile.FieldType.int) rm_X9_recover [.ref (kA K v0), .int v1] hs (some (.int q)) hs 0 0 :=
  MC.of (by decide +kernel) (Nat.le_of_ble_eq_true rfl) (fun p e s m args below meth c C _ hR ls hl => w_X9_recover_b0 C _ _ hs _ _ ls hf hR hl)
noncomputable def f_X9_outline_b85 (v2 : Int32) (v3 : Int32) (t0 : Int32) (hs : AH) : Option (Int32) :=
  if t0 = 0 then
  (
   some (-1))
  else
  (
   if (v2 + v3) = 6 then
   (
    some (v2 + v3))
   else
   (
    if (v2 + v3) ≤ 7 then
    (
     some (-1))
    else
    (
     some (v2 + v3))))
noncomputable def f_X9_outline (v0 : Nat) (v1 : Int32) (hs : AH) : Option (Int32) :=
  (chk hs v0 9).bind fun u1 =>
  (f_X9_line v0 (v1 - 2) hs).bind fun x2 =>
  (chk hs v0 9).bind fun u3 =>
  (f_X9_line v0 (v1 - 1) hs).bind fun x4 =>
  (f_X9_steps x2 x4).bind fun x5 =>
  (chk hs v0 9).bind fun u6 =>
  (f_X9_line v0 (v1 - 1) hs).bind fun x7 =>
  (chk hs v0 9).bind fun u8 =>
  (f_X9_line v0 v1 hs).bind fun x9 =>
  (f_X9_steps x7 x9).bind fun x10 =>
  if x5 ≤ 1 then
  (
   f_X9_outline_b85 x5 x10 0 hs)
  else
  (
   if x10 ≤ 1 then
   (
    f_X9_outline_b85 x5 x10 0 hs)
   else
   (
    (chk hs v0 9).bind fun u11 =>
    (f_X9_line v0 (v1 - 2) hs).bind fun x12 =>
    (chk hs v0 9).bind fun u13 =>
    (f_X9_line v0 (v1 - 1) hs).bind fun x14 =>
    (f_X9_direction x12 x14).bind fun x15 =>
    (chk hs v0 9).bind fun u16 =>
    (f_X9_line v0 (v1 - 1) hs).bind fun x17 =>
    (chk hs v0 9).bind fun u18 =>
    (f_X9_line v0 v1 hs).bind fun x19 =>
    (f_X9_direction x17 x19).bind fun x20 =>
    if (x15 * x20) ≤ 0 then
    (
     f_X9_outline_b85 x5 x10 0 hs)
    else
    (
     f_X9_outline_b85 x5 x10 1 hs)))
abbrev rm_X9_outline : Room := { frames := 3, cells := 0, slots := 0, locals := 62 }
set_option maxHeartbeats 4000000 in
set_option maxRecDepth 100000 in
theorem w_X9_outline_b85 {K : WK} {p : Program} {l : Launch} {e : Env} {s : State} {m : MethodId} {args : Array Value} {below : List Frame} {meth : Method} {c : Code} (C : Cx K p s m args meth c RX9 cX9_outline 5 (Option.some Jvm.ClassFile.FieldType.int)) {q : Int32} : ∀ (v2 : Int32) (v3 : Int32) (t0 : Int32) (hs : AH) (H : Heap) (locs : List Loc) (ls : Array Slot), f_X9_outline_b85 v2 v3 t0 hs = some q → Rl K s hs H locs → lv_has ls 5 [(2, .int v2), (3, .int v3)] → W p l e rm_X9_outline s m args below meth c H locs 0 0 (MQ below (MQo K (some (.int q)) hs) args s 0 0 (kAx K)) (F0 m 85 ls [.int t0]) := by
  have hx := C.1
  have hb := C.2.1
  intro v2 v3 t0 hs H locs ls hf hR hl
  rw [f_X9_outline_b85.eq_1] at hf
  refine lv_istore (lv' := [(4, .int t0), (2, .int v2), (3, .int v3)]) hx hb dX9_outline_85 hl (by decide) rfl (fun ls hl => ?_)
  refine lv_iload hx hb dX9_outline_87 (lv_at hl 0 rfl) ?_
  refine lv_if_eq (tgt := 114) hx hb dX9_outline_89 (by decide) (fun c89 => ?_) (fun c89 => ?_)
  · have hf := ip hf c89
    refine lv_iconst (v := (-1)) hx hb dX9_outline_114 (by decide) ?_
    obtain rfl := Option.some.inj hf
    exact r_iret C hR rfl (Nat.le_of_ble_eq_true rfl) (Nat.le_of_ble_eq_true rfl) dX9_outline_115
  · have hf := iq hf c89
    refine lv_iload_n hx hb dX9_outline_92 rfl (lv_at hl 1 rfl) ?_
    refine lv_iload_n hx hb dX9_outline_93 rfl (lv_at hl 2 rfl) ?_
    refine lv_iadd hx hb dX9_outline_94 ?_
    refine lv_bipush (v := 6) hx hb dX9_outline_95 (by decide) ?_
    refine lv_icmp_eq (tgt := 108) hx hb dX9_outline_97 (by decide) (fun c97 => ?_) (fun c97 => ?_)
    · have hf := ip hf c97
      refine lv_iload_n hx hb dX9_outline_108 rfl (lv_at hl 1 rfl) ?_
      refine lv_iload_n hx hb dX9_outline_109 rfl (lv_at hl 2 rfl) ?_
      refine lv_iadd hx hb dX9_outline_110 ?_
      refine lv_goto (tgt := 115) hx hb dX9_outline_111 (by decide) ?_
      obtain rfl := Option.some.inj hf
      exact r_iret C hR rfl (Nat.le_of_ble_eq_true rfl) (Nat.le_of_ble_eq_true rfl) dX9_outline_115
    · have hf := iq hf c97
      refine lv_iload_n hx hb dX9_outline_100 rfl (lv_at hl 1 rfl) ?_
      refine lv_iload_n hx hb dX9_outline_101 rfl (lv_at hl 2 rfl) ?_
      refine lv_iadd hx hb dX9_outline_102 ?_
      refine lv_bipush (v := 7) hx hb dX9_outline_103 (by decide) ?_
      refine lv_icmp_le (tgt := 114) hx hb dX9_outline_105 (by decide) (fun c105 => ?_) (fun c105 => ?_)
      · have hf := ip hf c105
        refine lv_iconst (v := (-1)) hx hb dX9_outline_114 (by decide) ?_
        obtain rfl := Option.some.inj hf
        exact r_iret C hR rfl (Nat.le_of_ble_eq_true rfl) (Nat.le_of_ble_eq_true rfl) dX9_outline_115
      · have hf := iq hf c105
        refine lv_iload_n hx hb dX9_outline_108 rfl (lv_at hl 1 rfl) ?_
        refine lv_iload_n hx hb dX9_outline_109 rfl (lv_at hl 2 rfl) ?_
        refine lv_iadd hx hb dX9_outline_110 ?_
        refine lv_goto (tgt := 115) hx hb dX9_outline_111 (by decide) ?_
        obtain rfl := Option.some.inj hf
        exact r_iret C hR rfl (Nat.le_of_ble_eq_true rfl) (Nat.le_of_ble_eq_true rfl) dX9_outline_115
set_option maxHeartbeats 4000000 in
set_option maxRecDepth 100000 in
theorem w_X9_outline_b0 {K : WK} {p : Program} {l : Launch} {e : Env} {s : State} {m : MethodId} {args : Array Value} {below : List Frame} {meth : Method} {c : Code} (C : Cx K p s m args meth c RX9 cX9_outline 5 (Option.some Jvm.ClassFile.FieldType.int)) {q : Int32} : ∀ (v0 : Nat) (v1 : Int32) (hs : AH) (H : Heap) (locs : List Loc) (ls : Array Slot), f_X9_outline v0 v1 hs = some q → Rl K s hs H locs → lv_has ls 5 [(0, .ref (kA K v0)), (1, .int v1)] → W p l e rm_X9_outline s m args below meth c H locs 0 0 (MQ below (MQo K (some (.int q)) hs) args s 0 0 (kAx K)) (F0 m 0 ls []) := by
  have hx := C.1
  have hb := C.2.1
  intro v0 v1 hs H locs ls hf hR hl
  rw [f_X9_outline.eq_1] at hf
  refine lv_aload_n hx hb dX9_outline_0 rfl (lv_at hl 0 rfl) ?_
  refine lv_iload_n hx hb dX9_outline_1 rfl (lv_at hl 1 rfl) ?_
  refine lv_iconst (v := 2) hx hb dX9_outline_2 (by decide) ?_
  refine lv_isub hx hb dX9_outline_3 ?_
  obtain ⟨u1, hu1, hf⟩ := ob hf
  obtain ⟨x2, hx2, hf⟩ := ob hf
  refine r_callV (As := [.int (v1 - 2)]) (rest := []) (st1 := [.int x2]) C hR (lv_sub hl [] rfl) (c_X9_line hx2) mv_X9_line ml_X9_87 ⟨rfl, rfl, (Nat.le_of_ble_eq_true rfl), (Nat.le_of_ble_eq_true rfl)⟩ (rv_obj C hR hu1 (q := (RX9, TX9, 17)) rfl) rfl rfl rfl (Nat.le_of_ble_eq_true rfl) ⟨(Nat.le_of_ble_eq_true rfl), (Nat.le_of_ble_eq_true rfl)⟩ dX9_outline_4 (fun H locs hR => ?_)
  refine lv_aload_n hx hb dX9_outline_7 rfl (lv_at hl 0 rfl) ?_
  refine lv_iload_n hx hb dX9_outline_8 rfl (lv_at hl 1 rfl) ?_
  refine lv_iconst (v := 1) hx hb dX9_outline_9 (by decide) ?_
  refine lv_isub hx hb dX9_outline_10 ?_
  obtain ⟨u3, hu3, hf⟩ := ob hf
  obtain ⟨x4, hx4, hf⟩ := ob hf
  refine r_callV (As := [.int (v1 - 1)]) (rest := [.int x2]) (st1 := [.int x4, .int x2]) C hR (lv_sub hl [] rfl) (c_X9_line hx4) mv_X9_line ml_X9_87 ⟨rfl, rfl, (Nat.le_of_ble_eq_true rfl), (Nat.le_of_ble_eq_true rfl)⟩ (rv_obj C hR hu3 (q := (RX9, TX9, 17)) rfl) rfl rfl rfl (Nat.le_of_ble_eq_true rfl) ⟨(Nat.le_of_ble_eq_true rfl), (Nat.le_of_ble_eq_true rfl)⟩ dX9_outline_11 (fun H locs hR => ?_)
  obtain ⟨x5, hx5, hf⟩ := ob hf
  refine r_callS (As := [.int x2, .int x4]) (rest := []) (st1 := [.int x5]) C hR (lv_sub hl [] rfl) (c_X9_steps hx5) ms_X9_steps ml_X9_64 ⟨rfl, rfl, (Nat.le_of_ble_eq_true rfl), (Nat.le_of_ble_eq_true rfl)⟩ rfl rfl rfl (Nat.le_of_ble_eq_true rfl) ⟨(Nat.le_of_ble_eq_true rfl), (Nat.le_of_ble_eq_true rfl)⟩ dX9_outline_14 (fun H locs hR => ?_)
  refine lv_istore_n (lv' := [(2, .int x5), (0, .ref (kA K v0)), (1, .int v1)]) hx hb dX9_outline_17 rfl hl (by decide) rfl (fun ls hl => ?_)
  refine lv_aload_n hx hb dX9_outline_18 rfl (lv_at hl 1 rfl) ?_
  refine lv_iload_n hx hb dX9_outline_19 rfl (lv_at hl 2 rfl) ?_
  refine lv_iconst (v := 1) hx hb dX9_outline_20 (by decide) ?_
  refine lv_isub hx hb dX9_outline_21 ?_
  obtain ⟨u6, hu6, hf⟩ := ob hf
  obtain ⟨x7, hx7, hf⟩ := ob hf
  refine r_callV (As := [.int (v1 - 1)]) (rest := []) (st1 := [.int x7]) C hR (lv_sub hl [] rfl) (c_X9_line hx7) mv_X9_line ml_X9_87 ⟨rfl, rfl, (Nat.le_of_ble_eq_true rfl), (Nat.le_of_ble_eq_true rfl)⟩ (rv_obj C hR hu6 (q := (RX9, TX9, 17)) rfl) rfl rfl rfl (Nat.le_of_ble_eq_true rfl) ⟨(Nat.le_of_ble_eq_true rfl), (Nat.le_of_ble_eq_true rfl)⟩ dX9_outline_22 (fun H locs hR => ?_)
  refine lv_aload_n hx hb dX9_outline_25 rfl (lv_at hl 1 rfl) ?_
  refine lv_iload_n hx hb dX9_outline_26 rfl (lv_at hl 2 rfl) ?_
  obtain ⟨u8, hu8, hf⟩ := ob hf
  obtain ⟨x9, hx9, hf⟩ := ob hf
  refine r_callV (As := [.int v1]) (rest := [.int x7]) (st1 := [.int x9, .int x7]) C hR (lv_sub hl [] rfl) (c_X9_line hx9) mv_X9_line ml_X9_87 ⟨rfl, rfl, (Nat.le_of_ble_eq_true rfl), (Nat.le_of_ble_eq_true rfl)⟩ (rv_obj C hR hu8 (q := (RX9, TX9, 17)) rfl) rfl rfl rfl (Nat.le_of_ble_eq_true rfl) ⟨(Nat.le_of_ble_eq_true rfl), (Nat.le_of_ble_eq_true rfl)⟩ dX9_outline_27 (fun H locs hR => ?_)
  obtain ⟨x10, hx10, hf⟩ := ob hf
  refine r_callS (As := [.int x7, .int x9]) (rest := []) (st1 := [.int x10]) C hR (lv_sub hl [] rfl) (c_X9_steps hx10) ms_X9_steps ml_X9_64 ⟨rfl, rfl, (Nat.le_of_ble_eq_true rfl), (Nat.le_of_ble_eq_true rfl)⟩ rfl rfl rfl (Nat.le_of_ble_eq_true rfl) ⟨(Nat.le_of_ble_eq_true rfl), (Nat.le_of_ble_eq_true rfl)⟩ dX9_outline_30 (fun H locs hR => ?_)
  refine lv_istore_n (lv' := [(3, .int x10), (2, .int x5), (0, .ref (kA K v0)), (1, .int v1)]) hx hb dX9_outline_33 rfl hl (by decide) rfl (fun ls hl => ?_)
  refine lv_iload_n hx hb dX9_outline_34 rfl (lv_at hl 1 rfl) ?_
  refine lv_iconst (v := 1) hx hb dX9_outline_35 (by decide) ?_
  refine lv_icmp_le (tgt := 84) hx hb dX9_outline_36 (by decide) (fun c36 => ?_) (fun c36 => ?_)
  · have hf := ip hf c36
    refine lv_iconst (v := 0) hx hb dX9_outline_84 (by decide) ?_
    exact w_X9_outline_b85 C  _ _ _ _ _ _ _ hf hR (lv_sub hl [1, 0] rfl)
  · have hf := iq hf c36
    refine lv_iload_n hx hb dX9_outline_39 rfl (lv_at hl 0 rfl) ?_
    refine lv_iconst (v := 1) hx hb dX9_outline_40 (by decide) ?_
    refine lv_icmp_le (tgt := 84) hx hb dX9_outline_41 (by decide) (fun c41 => ?_) (fun c41 => ?_)
    · have hf := ip hf c41
      refine lv_iconst (v := 0) hx hb dX9_outline_84 (by decide) ?_
      exact w_X9_outline_b85 C  _ _ _ _ _ _ _ hf hR (lv_sub hl [1, 0] rfl)
    · have hf := iq hf c41
      refine lv_aload_n hx hb dX9_outline_44 rfl (lv_at hl 2 rfl) ?_
      refine lv_iload_n hx hb dX9_outline_45 rfl (lv_at hl 3 rfl) ?_
      refine lv_iconst (v := 2) hx hb dX9_outline_46 (by decide) ?_
      refine lv_isub hx hb dX9_outline_47 ?_
      obtain ⟨u11, hu11, hf⟩ := ob hf
      obtain ⟨x12, hx12, hf⟩ := ob hf
      refine r_callV (As := [.int (v1 - 2)]) (rest := []) (st1 := [.int x12]) C hR (lv_sub hl [] rfl) (c_X9_line hx12) mv_X9_line ml_X9_87 ⟨rfl, rfl, (Nat.le_of_ble_eq_true rfl), (Nat.le_of_ble_eq_true rfl)⟩ (rv_obj C hR hu11 (q := (RX9, TX9, 17)) rfl) rfl rfl rfl (Nat.le_of_ble_eq_true rfl) ⟨(Nat.le_of_ble_eq_true rfl), (Nat.le_of_ble_eq_true rfl)⟩ dX9_outline_48 (fun H locs hR => ?_)
      refine lv_aload_n hx hb dX9_outline_51 rfl (lv_at hl 2 rfl) ?_
      refine lv_iload_n hx hb dX9_outline_52 rfl (lv_at hl 3 rfl) ?_
      refine lv_iconst (v := 1) hx hb dX9_outline_53 (by decide) ?_
      refine lv_isub hx hb dX9_outline_54 ?_
      obtain ⟨u13, hu13, hf⟩ := ob hf
      obtain ⟨x14, hx14, hf⟩ := ob hf
      refine r_callV (As := [.int (v1 - 1)]) (rest := [.int x12]) (st1 := [.int x14, .int x12]) C hR (lv_sub hl [] rfl) (c_X9_line hx14) mv_X9_line ml_X9_87 ⟨rfl, rfl, (Nat.le_of_ble_eq_true rfl), (Nat.le_of_ble_eq_true rfl)⟩ (rv_obj C hR hu13 (q := (RX9, TX9, 17)) rfl) rfl rfl rfl (Nat.le_of_ble_eq_true rfl) ⟨(Nat.le_of_ble_eq_true rfl), (Nat.le_of_ble_eq_true rfl)⟩ dX9_outline_55 (fun H locs hR => ?_)
      obtain ⟨x15, hx15, hf⟩ := ob hf
      refine r_callS (As := [.int x12, .int x14]) (rest := []) (st1 := [.int x15]) C hR (lv_sub hl [] rfl) (c_X9_direction hx15) ms_X9_direction ml_X9_93 ⟨rfl, rfl, (Nat.le_of_ble_eq_true rfl), (Nat.le_of_ble_eq_true rfl)⟩ rfl rfl rfl (Nat.le_of_ble_eq_true rfl) ⟨(Nat.le_of_ble_eq_true rfl), (Nat.le_of_ble_eq_true rfl)⟩ dX9_outline_58 (fun H locs hR => ?_)
      refine lv_aload_n hx hb dX9_outline_61 rfl (lv_at hl 2 rfl) ?_
      refine lv_iload_n hx hb dX9_outline_62 rfl (lv_at hl 3 rfl) ?_
      refine lv_iconst (v := 1) hx hb dX9_outline_63 (by decide) ?_
      refine lv_isub hx hb dX9_outline_64 ?_
      obtain ⟨u16, hu16, hf⟩ := ob hf
      obtain ⟨x17, hx17, hf⟩ := ob hf
      refine r_callV (As := [.int (v1 - 1)]) (rest := [.int x15]) (st1 := [.int x17, .int x15]) C hR (lv_sub hl [] rfl) (c_X9_line hx17) mv_X9_line ml_X9_87 ⟨rfl, rfl, (Nat.le_of_ble_eq_true rfl), (Nat.le_of_ble_eq_true rfl)⟩ (rv_obj C hR hu16 (q := (RX9, TX9, 17)) rfl) rfl rfl rfl (Nat.le_of_ble_eq_true rfl) ⟨(Nat.le_of_ble_eq_true rfl), (Nat.le_of_ble_eq_true rfl)⟩ dX9_outline_65 (fun H locs hR => ?_)
      refine lv_aload_n hx hb dX9_outline_68 rfl (lv_at hl 2 rfl) ?_
      refine lv_iload_n hx hb dX9_outline_69 rfl (lv_at hl 3 rfl) ?_
      obtain ⟨u18, hu18, hf⟩ := ob hf
      obtain ⟨x19, hx19, hf⟩ := ob hf
      refine r_callV (As := [.int v1]) (rest := [.int x17, .int x15]) (st1 := [.int x19, .int x17, .int x15]) C hR (lv_sub hl [] rfl) (c_X9_line hx19) mv_X9_line ml_X9_87 ⟨rfl, rfl, (Nat.le_of_ble_eq_true rfl), (Nat.le_of_ble_eq_true rfl)⟩ (rv_obj C hR hu18 (q := (RX9, TX9, 17)) rfl) rfl rfl rfl (Nat.le_of_ble_eq_true rfl) ⟨(Nat.le_of_ble_eq_true rfl), (Nat.le_of_ble_eq_true rfl)⟩ dX9_outline_70 (fun H locs hR => ?_)
      obtain ⟨x20, hx20, hf⟩ := ob hf
      refine r_callS (As := [.int x17, .int x19]) (rest := [.int x15]) (st1 := [.int x20, .int x15]) C hR (lv_sub hl [] rfl) (c_X9_direction hx20) ms_X9_direction ml_X9_93 ⟨rfl, rfl, (Nat.le_of_ble_eq_true rfl), (Nat.le_of_ble_eq_true rfl)⟩ rfl rfl rfl (Nat.le_of_ble_eq_true rfl) ⟨(Nat.le_of_ble_eq_true rfl), (Nat.le_of_ble_eq_true rfl)⟩ dX9_outline_73 (fun H locs hR => ?_)
      refine lv_imul hx hb dX9_outline_76 ?_
      refine lv_if_le (tgt := 84) hx hb dX9_outline_77 (by decide) (fun c77 => ?_) (fun c77 => ?_)
      · have hf := ip hf c77
        refine lv_iconst (v := 0) hx hb dX9_outline_84 (by decide) ?_
        exact w_X9_outline_b85 C  _ _ _ _ _ _ _ hf hR (lv_sub hl [1, 0] rfl)
      · have hf := iq hf c77
        refine lv_iconst (v := 1) hx hb dX9_outline_80 (by decide) ?_
        refine lv_goto (tgt := 85) hx hb dX9_outline_81 (by decide) ?_
        exact w_X9_outline_b85 C  _ _ _ _ _ _ _ hf hR (lv_sub hl [1, 0] rfl)
theorem c_X9_outline {K : WK} {l : Launch} {hs : AH} {v0 : Nat} {v1 : Int32} {q : Int32} (hf : f_X9_outline v0 v1 hs = some q) : MC K l yX9_outline cX9_outline 5 (Option.some Jvm.ClassFile.FieldType.int) rm_X9_outline [.ref (kA K v0), .int v1] hs (some (.int q)) hs 0 0 :=
  MC.of (by decide +kernel) (Nat.le_of_ble_eq_true rfl) (fun p e s m args below meth c C _ hR ls hl => w_X9_outline_b0 C _ _ hs _ _ ls hf hR hl)
noncomputable def f_X9_climax_b96 (o18 : Nat → Int32 → Int32 → Int32 → Int32 → Int32 → Int32 → AH → Option (Int32)) (v0 : Nat) (v1 : Int32) (v2 : Int32) (v3 : Int32) (v4 : Int32) (v5 : Int32) (v6 : Int32) (hs : AH) : Option (Int32) :=
  (chk hs v0 9).bind fun u1 =>
  (f_X9_isTied v0 v6 hs).bind fun x2 =>
  if x2 = 0 then
  (
   o18 v0 v1 v2 v3 (v4 + 1) v5 (v6 + 1) hs)
  else
  (
   o18 v0 v1 v2 v3 v4 v5 (v6 + 1) hs)
noncomputable def f_X9_climax_b18 : Nat → Nat → Int32 → Int32 → Int32 → Int32 → Int32 → Int32 → AH → Option (Int32)
  | 0, _, _, _, _, _, _, _, _ => none
  | n + 1, v0, v1, v2, v3, v4, v5, v6, hs =>
  if v2 ≤ v6 then
  (
   if v5 = 0 then
   (
    some (-1))
   else
   (
    (chk hs v0 9).bind fun u1 =>
    (f_X9_isTied v0 v1 hs).bind fun x2 =>
    if x2 = 0 then
    (
     some v4)
    else
    (
     some (-1))))
  else
  (
   (chk hs v0 9).bind fun u3 =>
   (f_X9_isNote v0 v6 v2 hs).bind fun x4 =>
   if x4 = 0 then
   (
    f_X9_climax_b18 n v0 v1 v2 v3 v4 v5 (v6 + 1) hs)
   else
   (
    (chk hs v0 9).bind fun u5 =>
    (f_X9_line v0 v6 hs).bind fun x6 =>
    (f_X9_pitchOf x6).bind fun x7 =>
    if x7 ≤ v3 then
    (
     if x7 = v3 then
     (
      if v1 ≤ v6 then
      (
       if v1 ≤ v6 then
       (
        f_X9_climax_b96 (f_X9_climax_b18 n) v0 v1 v2 v3 v4 v5 v6 hs)
       else
       (
        f_X9_climax_b96 (f_X9_climax_b18 n) v0 v1 v2 v3 v4 1 v6 hs))
      else
      (
       if v5 = 0 then
       (
        if v1 ≤ v6 then
        (
         f_X9_climax_b96 (f_X9_climax_b18 n) v0 v1 v2 v3 v4 v5 v6 hs)
        else
        (
         f_X9_climax_b96 (f_X9_climax_b18 n) v0 v1 v2 v3 v4 1 v6 hs))
       else
       (
        (chk hs v0 9).bind fun u8 =>
        (f_X9_isTied v0 v6 hs).bind fun x9 =>
        if x9 = 0 then
        (
         some (-1))
        else
        (
         if v1 ≤ v6 then
         (
          f_X9_climax_b96 (f_X9_climax_b18 n) v0 v1 v2 v3 v4 v5 v6 hs)
         else
         (
          f_X9_climax_b96 (f_X9_climax_b18 n) v0 v1 v2 v3 v4 1 v6 hs)))))
     else
     (
      f_X9_climax_b18 n v0 v1 v2 v3 v4 v5 (v6 + 1) hs))
    else
    (
     some (-1))))
noncomputable def f_X9_climax (v0 : Nat) (v1 : Int32) (v2 : Int32) (hs : AH) : Option (Int32) :=
  (chk hs v0 9).bind fun u1 =>
  (f_X9_line v0 v1 hs).bind fun x2 =>
  (f_X9_pitchOf x2).bind fun x3 =>
  f_X9_climax_b18 FUEL v0 v1 v2 x3 0 0 0 hs
abbrev rm_X9_climax : Room := { frames := 3, cells := 0, slots := 0, locals := 62 }
set_option maxHeartbeats 4000000 in
set_option maxRecDepth 100000 in
theorem w_X9_climax_b96 {K : WK} {p : Program} {l : Launch} {e : Env} {s : State} {m : MethodId} {args : Array Value} {below : List Frame} {meth : Method} {c : Code} (C : Cx K p s m args meth c RX9 cX9_climax 8 (Option.some Jvm.ClassFile.FieldType.int)) {q : Int32} (o18 : Nat → Int32 → Int32 → Int32 → Int32 → Int32 → Int32 → AH → Option (Int32)) (ho18 : ∀ (v0 : Nat) (v1 : Int32) (v2 : Int32) (v3 : Int32) (v4 : Int32) (v5 : Int32) (v6 : Int32) (hs : AH) (H : Heap) (locs : List Loc) (ls : Array Slot), o18 v0 v1 v2 v3 v4 v5 v6 hs = some q → Rl K s hs H locs → lv_has ls 8 [(0, .ref (kA K v0)), (1, .int v1), (2, .int v2), (3, .int v3), (4, .int v4), (5, .int v5), (6, .int v6)] → W p l e rm_X9_climax s m args below meth c H locs 0 0 (MQ below (MQo K (some (.int q)) hs) args s 0 0 (kAx K)) (F0 m 18 ls [])) : ∀ (v0 : Nat) (v1 : Int32) (v2 : Int32) (v3 : Int32) (v4 : Int32) (v5 : Int32) (v6 : Int32) (hs : AH) (H : Heap) (locs : List Loc) (ls : Array Slot), f_X9_climax_b96 o18 v0 v1 v2 v3 v4 v5 v6 hs = some q → Rl K s hs H locs → lv_has ls 8 [(0, .ref (kA K v0)), (1, .int v1), (2, .int v2), (3, .int v3), (4, .int v4), (5, .int v5), (6, .int v6)] → W p l e rm_X9_climax s m args below meth c H locs 0 0 (MQ below (MQo K (some (.int q)) hs) args s 0 0 (kAx K)) (F0 m 96 ls []) := by
  have hx := C.1
  have hb := C.2.1
  intro v0 v1 v2 v3 v4 v5 v6 hs H locs ls hf hR hl
  rw [f_X9_climax_b96.eq_1] at hf
  refine lv_aload_n hx hb dX9_climax_96 rfl (lv_at hl 0 rfl) ?_
  refine lv_iload hx hb dX9_climax_97 (lv_at hl 6 rfl) ?_
  obtain ⟨u1, hu1, hf⟩ := ob hf
  obtain ⟨x2, hx2, hf⟩ := ob hf
  refine r_callV (As := [.int v6]) (rest := []) (st1 := [.int x2]) C hR (lv_sub hl [] rfl) (c_X9_isTied hx2) mv_X9_isTied ml_X9_100 ⟨rfl, rfl, (Nat.le_of_ble_eq_true rfl), (Nat.le_of_ble_eq_true rfl)⟩ (rv_obj C hR hu1 (q := (RX9, TX9, 17)) rfl) rfl rfl rfl (Nat.le_of_ble_eq_true rfl) ⟨(Nat.le_of_ble_eq_true rfl), (Nat.le_of_ble_eq_true rfl)⟩ dX9_climax_99 (fun H locs hR => ?_)
  refine lv_if_ne (tgt := 108) hx hb dX9_climax_102 (by decide) (fun c102 => ?_) (fun c102 => ?_)
  · have hf := iq hf c102
    refine lv_iinc (v := v6 + 1) (lv' := [(6, .int (v6 + 1)), (0, .ref (kA K v0)), (1, .int v1), (2, .int v2), (3, .int v3), (4, .int v4), (5, .int v5)]) hx hb dX9_climax_108 hl (k := 6) rfl rfl (by decide) rfl (fun ls hl => ?_)
    refine lv_goto (tgt := 18) hx hb dX9_climax_111 (by decide) ?_
    exact ho18 _ _ _ _ _ _ _ _ _ _ _ hf hR (lv_sub hl [1, 2, 3, 4, 5, 6, 0] rfl)
  · have hf := ip hf c102
    refine lv_iinc (v := v4 + 1) (lv' := [(4, .int (v4 + 1)), (0, .ref (kA K v0)), (1, .int v1), (2, .int v2), (3, .int v3), (5, .int v5), (6, .int v6)]) hx hb dX9_climax_105 hl (k := 4) rfl rfl (by decide) rfl (fun ls hl => ?_)
    refine lv_iinc (v := v6 + 1) (lv' := [(6, .int (v6 + 1)), (4, .int (v4 + 1)), (0, .ref (kA K v0)), (1, .int v1), (2, .int v2), (3, .int v3), (5, .int v5)]) hx hb dX9_climax_108 hl (k := 6) rfl rfl (by decide) rfl (fun ls hl => ?_)
    refine lv_goto (tgt := 18) hx hb dX9_climax_111 (by decide) ?_
    exact ho18 _ _ _ _ _ _ _ _ _ _ _ hf hR (lv_sub hl [2, 3, 4, 5, 1, 6, 0] rfl)
set_option maxHeartbeats 4000000 in
set_option maxRecDepth 100000 in
theorem w_X9_climax_b18 {K : WK} {p : Program} {l : Launch} {e : Env} {s : State} {m : MethodId} {args : Array Value} {below : List Frame} {meth : Method} {c : Code} (C : Cx K p s m args meth c RX9 cX9_climax 8 (Option.some Jvm.ClassFile.FieldType.int)) {q : Int32} : ∀ (n : Nat) (v0 : Nat) (v1 : Int32) (v2 : Int32) (v3 : Int32) (v4 : Int32) (v5 : Int32) (v6 : Int32) (hs : AH) (H : Heap) (locs : List Loc) (ls : Array Slot), f_X9_climax_b18 n v0 v1 v2 v3 v4 v5 v6 hs = some q → Rl K s hs H locs → lv_has ls 8 [(0, .ref (kA K v0)), (1, .int v1), (2, .int v2), (3, .int v3), (4, .int v4), (5, .int v5), (6, .int v6)] → W p l e rm_X9_climax s m args below meth c H locs 0 0 (MQ below (MQo K (some (.int q)) hs) args s 0 0 (kAx K)) (F0 m 18 ls []) := by
  have hx := C.1
  have hb := C.2.1
  intro n
  induction n with
  | zero =>
    intro v0 v1 v2 v3 v4 v5 v6 hs H locs ls hf
    cases hf
  | succ n ih =>
    intro v0 v1 v2 v3 v4 v5 v6 hs H locs ls hf hR hl
    rw [f_X9_climax_b18.eq_2] at hf
    refine lv_iload hx hb dX9_climax_18 (lv_at hl 6 rfl) ?_
    refine lv_iload_n hx hb dX9_climax_20 rfl (lv_at hl 2 rfl) ?_
    refine lv_icmp_ge (tgt := 114) hx hb dX9_climax_21 (by decide) (fun c21 => ?_) (fun c21 => ?_)
    · have hf := ip hf c21
      refine lv_iload hx hb dX9_climax_114 (lv_at hl 5 rfl) ?_
      refine lv_if_eq (tgt := 132) hx hb dX9_climax_116 (by decide) (fun c116 => ?_) (fun c116 => ?_)
      · have hf := ip hf c116
        refine lv_iconst (v := (-1)) hx hb dX9_climax_132 (by decide) ?_
        obtain rfl := Option.some.inj hf
        exact r_iret C hR rfl (Nat.le_of_ble_eq_true rfl) (Nat.le_of_ble_eq_true rfl) dX9_climax_133
      · have hf := iq hf c116
        refine lv_aload_n hx hb dX9_climax_119 rfl (lv_at hl 0 rfl) ?_
        refine lv_iload_n hx hb dX9_climax_120 rfl (lv_at hl 1 rfl) ?_
        obtain ⟨u1, hu1, hf⟩ := ob hf
        obtain ⟨x2, hx2, hf⟩ := ob hf
        refine r_callV (As := [.int v1]) (rest := []) (st1 := [.int x2]) C hR (lv_sub hl [] rfl) (c_X9_isTied hx2) mv_X9_isTied ml_X9_100 ⟨rfl, rfl, (Nat.le_of_ble_eq_true rfl), (Nat.le_of_ble_eq_true rfl)⟩ (rv_obj C hR hu1 (q := (RX9, TX9, 17)) rfl) rfl rfl rfl (Nat.le_of_ble_eq_true rfl) ⟨(Nat.le_of_ble_eq_true rfl), (Nat.le_of_ble_eq_true rfl)⟩ dX9_climax_121 (fun H locs hR => ?_)
        refine lv_if_ne (tgt := 132) hx hb dX9_climax_124 (by decide) (fun c124 => ?_) (fun c124 => ?_)
        · have hf := iq hf c124
          refine lv_iconst (v := (-1)) hx hb dX9_climax_132 (by decide) ?_
          obtain rfl := Option.some.inj hf
          exact r_iret C hR rfl (Nat.le_of_ble_eq_true rfl) (Nat.le_of_ble_eq_true rfl) dX9_climax_133
        · have hf := ip hf c124
          refine lv_iload hx hb dX9_climax_127 (lv_at hl 4 rfl) ?_
          refine lv_goto (tgt := 133) hx hb dX9_climax_129 (by decide) ?_
          obtain rfl := Option.some.inj hf
          exact r_iret C hR rfl (Nat.le_of_ble_eq_true rfl) (Nat.le_of_ble_eq_true rfl) dX9_climax_133
    · have hf := iq hf c21
      refine lv_aload_n hx hb dX9_climax_24 rfl (lv_at hl 0 rfl) ?_
      refine lv_iload hx hb dX9_climax_25 (lv_at hl 6 rfl) ?_
      refine lv_iload_n hx hb dX9_climax_27 rfl (lv_at hl 2 rfl) ?_
      obtain ⟨u3, hu3, hf⟩ := ob hf
      obtain ⟨x4, hx4, hf⟩ := ob hf
      refine r_callV (As := [.int v6, .int v2]) (rest := []) (st1 := [.int x4]) C hR (lv_sub hl [] rfl) (c_X9_isNote hx4) mv_X9_isNote ml_X9_96 ⟨rfl, rfl, (Nat.le_of_ble_eq_true rfl), (Nat.le_of_ble_eq_true rfl)⟩ (rv_obj C hR hu3 (q := (RX9, TX9, 17)) rfl) rfl rfl rfl (Nat.le_of_ble_eq_true rfl) ⟨(Nat.le_of_ble_eq_true rfl), (Nat.le_of_ble_eq_true rfl)⟩ dX9_climax_28 (fun H locs hR => ?_)
      refine lv_if_ne (tgt := 37) hx hb dX9_climax_31 (by decide) (fun c31 => ?_) (fun c31 => ?_)
      · have hf := iq hf c31
        refine lv_aload_n hx hb dX9_climax_37 rfl (lv_at hl 0 rfl) ?_
        refine lv_iload hx hb dX9_climax_38 (lv_at hl 6 rfl) ?_
        obtain ⟨u5, hu5, hf⟩ := ob hf
        obtain ⟨x6, hx6, hf⟩ := ob hf
        refine r_callV (As := [.int v6]) (rest := []) (st1 := [.int x6]) C hR (lv_sub hl [] rfl) (c_X9_line hx6) mv_X9_line ml_X9_87 ⟨rfl, rfl, (Nat.le_of_ble_eq_true rfl), (Nat.le_of_ble_eq_true rfl)⟩ (rv_obj C hR hu5 (q := (RX9, TX9, 17)) rfl) rfl rfl rfl (Nat.le_of_ble_eq_true rfl) ⟨(Nat.le_of_ble_eq_true rfl), (Nat.le_of_ble_eq_true rfl)⟩ dX9_climax_40 (fun H locs hR => ?_)
        obtain ⟨x7, hx7, hf⟩ := ob hf
        refine r_callS (As := [.int x6]) (rest := []) (st1 := [.int x7]) C hR (lv_sub hl [] rfl) (c_X9_pitchOf hx7) ms_X9_pitchOf ml_X9_61 ⟨rfl, rfl, (Nat.le_of_ble_eq_true rfl), (Nat.le_of_ble_eq_true rfl)⟩ rfl rfl rfl (Nat.le_of_ble_eq_true rfl) ⟨(Nat.le_of_ble_eq_true rfl), (Nat.le_of_ble_eq_true rfl)⟩ dX9_climax_43 (fun H locs hR => ?_)
        refine lv_istore (lv' := [(7, .int x7), (0, .ref (kA K v0)), (1, .int v1), (2, .int v2), (3, .int v3), (4, .int v4), (5, .int v5), (6, .int v6)]) hx hb dX9_climax_46 hl (by decide) rfl (fun ls hl => ?_)
        refine lv_iload hx hb dX9_climax_48 (lv_at hl 0 rfl) ?_
        refine lv_iload_n hx hb dX9_climax_50 rfl (lv_at hl 4 rfl) ?_
        refine lv_icmp_le (tgt := 56) hx hb dX9_climax_51 (by decide) (fun c51 => ?_) (fun c51 => ?_)
        · have hf := ip hf c51
          refine lv_iload hx hb dX9_climax_56 (lv_at hl 0 rfl) ?_
          refine lv_iload_n hx hb dX9_climax_58 rfl (lv_at hl 4 rfl) ?_
          refine lv_icmp_eq (tgt := 65) hx hb dX9_climax_59 (by decide) (fun c59 => ?_) (fun c59 => ?_)
          · have hf := ip hf c59
            refine lv_iload hx hb dX9_climax_65 (lv_at hl 7 rfl) ?_
            refine lv_iload_n hx hb dX9_climax_67 rfl (lv_at hl 2 rfl) ?_
            refine lv_icmp_ge (tgt := 87) hx hb dX9_climax_68 (by decide) (fun c68 => ?_) (fun c68 => ?_)
            · have hf := ip hf c68
              refine lv_iload hx hb dX9_climax_87 (lv_at hl 7 rfl) ?_
              refine lv_iload_n hx hb dX9_climax_89 rfl (lv_at hl 2 rfl) ?_
              refine lv_icmp_ge (tgt := 96) hx hb dX9_climax_90 (by decide) (fun c90 => ?_) (fun c90 => ?_)
              · have hf := ip hf c90
                exact w_X9_climax_b96 C _ ih _ _ _ _ _ _ _ _ _ _ _ hf hR (lv_sub hl [1, 2, 3, 4, 5, 6, 7] rfl)
              · have hf := iq hf c90
                refine lv_iconst (v := 1) hx hb dX9_climax_93 (by decide) ?_
                refine lv_istore (lv' := [(5, .int 1), (7, .int x7), (0, .ref (kA K v0)), (1, .int v1), (2, .int v2), (3, .int v3), (4, .int v4), (6, .int v6)]) hx hb dX9_climax_94 hl (by decide) rfl (fun ls hl => ?_)
                exact w_X9_climax_b96 C _ ih _ _ _ _ _ _ _ _ _ _ _ hf hR (lv_sub hl [2, 3, 4, 5, 6, 0, 7] rfl)
            · have hf := iq hf c68
              refine lv_iload hx hb dX9_climax_71 (lv_at hl 6 rfl) ?_
              refine lv_if_eq (tgt := 87) hx hb dX9_climax_73 (by decide) (fun c73 => ?_) (fun c73 => ?_)
              · have hf := ip hf c73
                refine lv_iload hx hb dX9_climax_87 (lv_at hl 7 rfl) ?_
                refine lv_iload_n hx hb dX9_climax_89 rfl (lv_at hl 2 rfl) ?_
                refine lv_icmp_ge (tgt := 96) hx hb dX9_climax_90 (by decide) (fun c90 => ?_) (fun c90 => ?_)
                · have hf := ip hf c90
                  exact w_X9_climax_b96 C _ ih _ _ _ _ _ _ _ _ _ _ _ hf hR (lv_sub hl [1, 2, 3, 4, 5, 6, 7] rfl)
                · have hf := iq hf c90
                  refine lv_iconst (v := 1) hx hb dX9_climax_93 (by decide) ?_
                  refine lv_istore (lv' := [(5, .int 1), (7, .int x7), (0, .ref (kA K v0)), (1, .int v1), (2, .int v2), (3, .int v3), (4, .int v4), (6, .int v6)]) hx hb dX9_climax_94 hl (by decide) rfl (fun ls hl => ?_)
                  exact w_X9_climax_b96 C _ ih _ _ _ _ _ _ _ _ _ _ _ hf hR (lv_sub hl [2, 3, 4, 5, 6, 0, 7] rfl)
              · have hf := iq hf c73
                refine lv_aload_n hx hb dX9_climax_76 rfl (lv_at hl 1 rfl) ?_
                refine lv_iload hx hb dX9_climax_77 (lv_at hl 7 rfl) ?_
                obtain ⟨u8, hu8, hf⟩ := ob hf
                obtain ⟨x9, hx9, hf⟩ := ob hf
                refine r_callV (As := [.int v6]) (rest := []) (st1 := [.int x9]) C hR (lv_sub hl [] rfl) (c_X9_isTied hx9) mv_X9_isTied ml_X9_100 ⟨rfl, rfl, (Nat.le_of_ble_eq_true rfl), (Nat.le_of_ble_eq_true rfl)⟩ (rv_obj C hR hu8 (q := (RX9, TX9, 17)) rfl) rfl rfl rfl (Nat.le_of_ble_eq_true rfl) ⟨(Nat.le_of_ble_eq_true rfl), (Nat.le_of_ble_eq_true rfl)⟩ dX9_climax_79 (fun H locs hR => ?_)
                refine lv_if_ne (tgt := 87) hx hb dX9_climax_82 (by decide) (fun c82 => ?_) (fun c82 => ?_)
                · have hf := iq hf c82
                  refine lv_iload hx hb dX9_climax_87 (lv_at hl 7 rfl) ?_
                  refine lv_iload_n hx hb dX9_climax_89 rfl (lv_at hl 2 rfl) ?_
                  refine lv_icmp_ge (tgt := 96) hx hb dX9_climax_90 (by decide) (fun c90 => ?_) (fun c90 => ?_)
                  · have hf := ip hf c90
                    exact w_X9_climax_b96 C _ ih _ _ _ _ _ _ _ _ _ _ _ hf hR (lv_sub hl [1, 2, 3, 4, 5, 6, 7] rfl)
                  · have hf := iq hf c90
                    refine lv_iconst (v := 1) hx hb dX9_climax_93 (by decide) ?_
                    refine lv_istore (lv' := [(5, .int 1), (7, .int x7), (0, .ref (kA K v0)), (1, .int v1), (2, .int v2), (3, .int v3), (4, .int v4), (6, .int v6)]) hx hb dX9_climax_94 hl (by decide) rfl (fun ls hl => ?_)
                    exact w_X9_climax_b96 C _ ih _ _ _ _ _ _ _ _ _ _ _ hf hR (lv_sub hl [2, 3, 4, 5, 6, 0, 7] rfl)
                · have hf := ip hf c82
                  refine lv_iconst (v := (-1)) hx hb dX9_climax_85 (by decide) ?_
                  obtain rfl := Option.some.inj hf
                  exact r_iret C hR rfl (Nat.le_of_ble_eq_true rfl) (Nat.le_of_ble_eq_true rfl) dX9_climax_86
          · have hf := iq hf c59
            refine lv_goto (tgt := 108) hx hb dX9_climax_62 (by decide) ?_
            refine lv_iinc (v := v6 + 1) (lv' := [(6, .int (v6 + 1)), (7, .int x7), (0, .ref (kA K v0)), (1, .int v1), (2, .int v2), (3, .int v3), (4, .int v4), (5, .int v5)]) hx hb dX9_climax_108 hl (k := 7) rfl rfl (by decide) rfl (fun ls hl => ?_)
            refine lv_goto (tgt := 18) hx hb dX9_climax_111 (by decide) ?_
            exact ih _ _ _ _ _ _ _ _ _ _ _ hf hR (lv_sub hl [2, 3, 4, 5, 6, 7, 0] rfl)
        · have hf := iq hf c51
          refine lv_iconst (v := (-1)) hx hb dX9_climax_54 (by decide) ?_
          obtain rfl := Option.some.inj hf
          exact r_iret C hR rfl (Nat.le_of_ble_eq_true rfl) (Nat.le_of_ble_eq_true rfl) dX9_climax_55
      · have hf := ip hf c31
        refine lv_goto (tgt := 108) hx hb dX9_climax_34 (by decide) ?_
        refine lv_iinc (v := v6 + 1) (lv' := [(6, .int (v6 + 1)), (0, .ref (kA K v0)), (1, .int v1), (2, .int v2), (3, .int v3), (4, .int v4), (5, .int v5)]) hx hb dX9_climax_108 hl (k := 6) rfl rfl (by decide) rfl (fun ls hl => ?_)
        refine lv_goto (tgt := 18) hx hb dX9_climax_111 (by decide) ?_
        exact ih _ _ _ _ _ _ _ _ _ _ _ hf hR (lv_sub hl [1, 2, 3, 4, 5, 6, 0] rfl)
set_option maxHeartbeats 4000000 in
set_option maxRecDepth 100000 in
theorem w_X9_climax_b0 {K : WK} {p : Program} {l : Launch} {e : Env} {s : State} {m : MethodId} {args : Array Value} {below : List Frame} {meth : Method} {c : Code} (C : Cx K p s m args meth c RX9 cX9_climax 8 (Option.some Jvm.ClassFile.FieldType.int)) {q : Int32} : ∀ (v0 : Nat) (v1 : Int32) (v2 : Int32) (hs : AH) (H : Heap) (locs : List Loc) (ls : Array Slot), f_X9_climax v0 v1 v2 hs = some q → Rl K s hs H locs → lv_has ls 8 [(0, .ref (kA K v0)), (1, .int v1), (2, .int v2)] → W p l e rm_X9_climax s m args below meth c H locs 0 0 (MQ below (MQo K (some (.int q)) hs) args s 0 0 (kAx K)) (F0 m 0 ls []) := by
  have hx := C.1
  have hb := C.2.1
  intro v0 v1 v2 hs H locs ls hf hR hl
  rw [f_X9_climax.eq_1] at hf
  refine lv_aload_n hx hb dX9_climax_0 rfl (lv_at hl 0 rfl) ?_
  refine lv_iload_n hx hb dX9_climax_1 rfl (lv_at hl 1 rfl) ?_
  obtain ⟨u1, hu1, hf⟩ := ob hf
  obtain ⟨x2, hx2, hf⟩ := ob hf
  refine r_callV (As := [.int v1]) (rest := []) (st1 := [.int x2]) C hR (lv_sub hl [] rfl) (c_X9_line hx2) mv_X9_line ml_X9_87 ⟨rfl, rfl, (Nat.le_of_ble_eq_true rfl), (Nat.le_of_ble_eq_true rfl)⟩ (rv_obj C hR hu1 (q := (RX9, TX9, 17)) rfl) rfl rfl rfl (Nat.le_of_ble_eq_true rfl) ⟨(Nat.le_of_ble_eq_true rfl), (Nat.le_of_ble_eq_true rfl)⟩ dX9_climax_2 (fun H locs hR => ?_)
  obtain ⟨x3, hx3, hf⟩ := ob hf
  refine r_callS (As := [.int x2]) (rest := []) (st1 := [.int x3]) C hR (lv_sub hl [] rfl) (c_X9_pitchOf hx3) ms_X9_pitchOf ml_X9_61 ⟨rfl, rfl, (Nat.le_of_ble_eq_true rfl), (Nat.le_of_ble_eq_true rfl)⟩ rfl rfl rfl (Nat.le_of_ble_eq_true rfl) ⟨(Nat.le_of_ble_eq_true rfl), (Nat.le_of_ble_eq_true rfl)⟩ dX9_climax_5 (fun H locs hR => ?_)
  refine lv_istore_n (lv' := [(3, .int x3), (0, .ref (kA K v0)), (1, .int v1), (2, .int v2)]) hx hb dX9_climax_8 rfl hl (by decide) rfl (fun ls hl => ?_)
  refine lv_iconst (v := 0) hx hb dX9_climax_9 (by decide) ?_
  refine lv_istore (lv' := [(4, .int 0), (3, .int x3), (0, .ref (kA K v0)), (1, .int v1), (2, .int v2)]) hx hb dX9_climax_10 hl (by decide) rfl (fun ls hl => ?_)
  refine lv_iconst (v := 0) hx hb dX9_climax_12 (by decide) ?_
  refine lv_istore (lv' := [(5, .int 0), (4, .int 0), (3, .int x3), (0, .ref (kA K v0)), (1, .int v1), (2, .int v2)]) hx hb dX9_climax_13 hl (by decide) rfl (fun ls hl => ?_)
  refine lv_iconst (v := 0) hx hb dX9_climax_15 (by decide) ?_
  refine lv_istore (lv' := [(6, .int 0), (5, .int 0), (4, .int 0), (3, .int x3), (0, .ref (kA K v0)), (1, .int v1), (2, .int v2)]) hx hb dX9_climax_16 hl (by decide) rfl (fun ls hl => ?_)
  exact w_X9_climax_b18 C  _ _ _ _ _ _ _ _ _ _ _ _ hf hR (lv_sub hl [4, 5, 6, 3, 2, 1, 0] rfl)
theorem c_X9_climax {K : WK} {l : Launch} {hs : AH} {v0 : Nat} {v1 : Int32} {v2 : Int32} {q : Int32} (hf : f_X9_climax v0 v1 v2 hs = some q) : MC K l yX9_climax cX9_climax 8 (Option.some Jvm.ClassFile.FieldType.int) rm_X9_climax [.ref (kA K v0), .int v1, .int v2] hs (some (.int q)) hs 0 0 :=
  MC.of (by decide +kernel) (Nat.le_of_ble_eq_true rfl) (fun p e s m args below meth c C _ hR ls hl => w_X9_climax_b0 C _ _ _ hs _ _ ls hf hR hl)
noncomputable def f_X9_weak_b160 (v0 : Nat) (v1 : Int32) (v3 : Int32) (v4 : Int32) (v5 : Int32) (hs : AH) : Option (Int32) :=
  if v4 = 0 then
  (
   (chk hs v0 9).bind fun u1 =>
   (f_X9_line v0 v1 hs).bind fun x2 =>
   (f_X9_width x2 v3).bind fun x3 =>
   some x3)
  else
  (
   if v5 = 3 then
   (
    (chk hs v0 9).bind fun u7 =>
    (f_X9_line v0 (v1 - 1) hs).bind fun x8 =>
    (chk hs v0 9).bind fun u9 =>
    (f_X9_line v0 (v1 + 1) hs).bind fun x10 =>
    if x8 = x10 then
    (
     some (-1))
    else
    (
     (chk hs v0 9).bind fun u11 =>
     (f_X9_line v0 v1 hs).bind fun x12 =>
     (f_X9_width x12 v3).bind fun x13 =>
     some x13))
   else
   (
    (chk hs v0 9).bind fun u4 =>
    (f_X9_line v0 v1 hs).bind fun x5 =>
    (f_X9_width x5 v3).bind fun x6 =>
    some x6))
noncomputable def f_X9_weak_b124 (v0 : Nat) (v1 : Int32) (v3 : Int32) (v4 : Int32) (v5 : Int32) (hs : AH) : Option (Int32) :=
  (chk hs v0 9).bind fun u1 =>
  (f_X9_line v0 (v1 - 1) hs).bind fun x2 =>
  (chk hs v0 9).bind fun u3 =>
  (f_X9_line v0 v1 hs).bind fun x4 =>
  (f_X9_direction x2 x4).bind fun x5 =>
  (chk hs v0 9).bind fun u6 =>
  (f_X9_line v0 v1 hs).bind fun x7 =>
  (chk hs v0 9).bind fun u8 =>
  (f_X9_line v0 (v1 + 1) hs).bind fun x9 =>
  (f_X9_direction x7 x9).bind fun x10 =>
  if (x5 * x10) ≤ 0 then
  (
   f_X9_weak_b160 v0 v1 v3 v4 v5 hs)
  else
  (
   some (-1))
noncomputable def f_X9_weak_b97 (v0 : Nat) (v1 : Int32) (v3 : Int32) (t0 : Int32) (hs : AH) : Option (Int32) :=
  (gR hs v0 9 1).bind fun x1 =>
  (aN 0 hs x1 2).bind fun x2 =>
  if t0 = 0 then
  (
   f_X9_weak_b160 v0 v1 v3 t0 x2 hs)
  else
  (
   if x2 = 2 then
   (
    f_X9_weak_b124 v0 v1 v3 t0 x2 hs)
   else
   (
    if x2 = 3 then
    (
     f_X9_weak_b124 v0 v1 v3 t0 x2 hs)
    else
    (
     f_X9_weak_b160 v0 v1 v3 t0 x2 hs)))
noncomputable def f_X9_weak (v0 : Nat) (v1 : Int32) (v2 : Int32) (hs : AH) : Option (Int32) :=
  (chk hs v0 9).bind fun u1 =>
  (f_X9_barOf v0 v1 hs).bind fun x2 =>
  (chk hs v0 9).bind fun u3 =>
  (f_X9_cantusAt v0 x2 hs).bind fun x4 =>
  (chk hs v0 9).bind fun u5 =>
  (f_X9_beatOf v0 v1 hs).bind fun x6 =>
  if x6 = 0 then
  (
   some (-1))
  else
  (
   (chk hs v0 9).bind fun u7 =>
   (f_X9_line v0 v1 hs).bind fun x8 =>
   (f_X9_isConsonant x8 x4).bind fun x9 =>
   if x9 = 0 then
   (
    (chk hs v0 9).bind fun u10 =>
    (f_X9_isNote v0 (v1 - 1) v2 hs).bind fun x11 =>
    if x11 = 0 then
    (
     f_X9_weak_b97 v0 v1 x4 0 hs)
    else
    (
     (chk hs v0 9).bind fun u12 =>
     (f_X9_isNote v0 (v1 + 1) v2 hs).bind fun x13 =>
     if x13 = 0 then
     (
      f_X9_weak_b97 v0 v1 x4 0 hs)
     else
     (
      (chk hs v0 9).bind fun u14 =>
      (f_X9_line v0 (v1 - 1) hs).bind fun x15 =>
      (chk hs v0 9).bind fun u16 =>
      (f_X9_line v0 v1 hs).bind fun x17 =>
      (f_X9_steps x15 x17).bind fun x18 =>
      if x18 = 1 then
      (
       (chk hs v0 9).bind fun u19 =>
       (f_X9_line v0 v1 hs).bind fun x20 =>
       (chk hs v0 9).bind fun u21 =>
       (f_X9_line v0 (v1 + 1) hs).bind fun x22 =>
       (f_X9_steps x20 x22).bind fun x23 =>
       if x23 = 1 then
       (
        f_X9_weak_b97 v0 v1 x4 1 hs)
       else
       (
        f_X9_weak_b97 v0 v1 x4 0 hs))
      else
      (
       f_X9_weak_b97 v0 v1 x4 0 hs))))
   else
   (
    some (-1)))
abbrev rm_X9_weak : Room := { frames := 5, cells := 0, slots := 0, locals := 108 }
set_option maxHeartbeats 4000000 in
set_option maxRecDepth 100000 in
theorem w_X9_weak_b160 {K : WK} {p : Program} {l : Launch} {e : Env} {s : State} {m : MethodId} {args : Array Value} {below : List Frame} {meth : Method} {c : Code} (C : Cx K p s m args meth c RX9 cX9_weak 6 (Option.some Jvm.ClassFile.FieldType.int)) {q : Int32} : ∀ (v0 : Nat) (v1 : Int32) (v3 : Int32) (v4 : Int32) (v5 : Int32) (hs : AH) (H : Heap) (locs : List Loc) (ls : Array Slot), f_X9_weak_b160 v0 v1 v3 v4 v5 hs = some q → Rl K s hs H locs → lv_has ls 6 [(0, .ref (kA K v0)), (1, .int v1), (3, .int v3), (4, .int v4), (5, .int v5)] → W p l e rm_X9_weak s m args below meth c H locs 0 0 (MQ below (MQo K (some (.int q)) hs) args s 0 0 (kAx K)) (F0 m 160 ls []) := by
  have hx := C.1
  have hb := C.2.1
  intro v0 v1 v3 v4 v5 hs H locs ls hf hR hl
  rw [f_X9_weak_b160.eq_1] at hf
  refine lv_iload hx hb dX9_weak_160 (lv_at hl 3 rfl) ?_
  refine lv_if_eq (tgt := 190) hx hb dX9_weak_162 (by decide) (fun c162 => ?_) (fun c162 => ?_)
  · have hf := ip hf c162
    refine lv_aload_n hx hb dX9_weak_190 rfl (lv_at hl 0 rfl) ?_
    refine lv_iload_n hx hb dX9_weak_191 rfl (lv_at hl 1 rfl) ?_
    obtain ⟨u1, hu1, hf⟩ := ob hf
    obtain ⟨x2, hx2, hf⟩ := ob hf
    refine r_callV (As := [.int v1]) (rest := []) (st1 := [.int x2]) C hR (lv_sub hl [] rfl) (c_X9_line hx2) mv_X9_line ml_X9_87 ⟨rfl, rfl, (Nat.le_of_ble_eq_true rfl), (Nat.le_of_ble_eq_true rfl)⟩ (rv_obj C hR hu1 (q := (RX9, TX9, 17)) rfl) rfl rfl rfl (Nat.le_of_ble_eq_true rfl) ⟨(Nat.le_of_ble_eq_true rfl), (Nat.le_of_ble_eq_true rfl)⟩ dX9_weak_192 (fun H locs hR => ?_)
    refine lv_iload_n hx hb dX9_weak_195 rfl (lv_at hl 2 rfl) ?_
    obtain ⟨x3, hx3, hf⟩ := ob hf
    refine r_callS (As := [.int x2, .int v3]) (rest := []) (st1 := [.int x3]) C hR (lv_sub hl [] rfl) (c_X9_width hx3) ms_X9_width ml_X9_68 ⟨rfl, rfl, (Nat.le_of_ble_eq_true rfl), (Nat.le_of_ble_eq_true rfl)⟩ rfl rfl rfl (Nat.le_of_ble_eq_true rfl) ⟨(Nat.le_of_ble_eq_true rfl), (Nat.le_of_ble_eq_true rfl)⟩ dX9_weak_196 (fun H locs hR => ?_)
    obtain rfl := Option.some.inj hf
    exact r_iret C hR rfl (Nat.le_of_ble_eq_true rfl) (Nat.le_of_ble_eq_true rfl) dX9_weak_199
  · have hf := iq hf c162
    refine lv_iload hx hb dX9_weak_165 (lv_at hl 4 rfl) ?_
    refine lv_iconst (v := 3) hx hb dX9_weak_167 (by decide) ?_
    refine lv_icmp_ne (tgt := 190) hx hb dX9_weak_168 (by decide) (fun c168 => ?_) (fun c168 => ?_)
    · have hf := iq hf c168
      refine lv_aload_n hx hb dX9_weak_190 rfl (lv_at hl 0 rfl) ?_
      refine lv_iload_n hx hb dX9_weak_191 rfl (lv_at hl 1 rfl) ?_
      obtain ⟨u4, hu4, hf⟩ := ob hf
      obtain ⟨x5, hx5, hf⟩ := ob hf
      refine r_callV (As := [.int v1]) (rest := []) (st1 := [.int x5]) C hR (lv_sub hl [] rfl) (c_X9_line hx5) mv_X9_line ml_X9_87 ⟨rfl, rfl, (Nat.le_of_ble_eq_true rfl), (Nat.le_of_ble_eq_true rfl)⟩ (rv_obj C hR hu4 (q := (RX9, TX9, 17)) rfl) rfl rfl rfl (Nat.le_of_ble_eq_true rfl) ⟨(Nat.le_of_ble_eq_true rfl), (Nat.le_of_ble_eq_true rfl)⟩ dX9_weak_192 (fun H locs hR => ?_)
      refine lv_iload_n hx hb dX9_weak_195 rfl (lv_at hl 2 rfl) ?_
      obtain ⟨x6, hx6, hf⟩ := ob hf
      refine r_callS (As := [.int x5, .int v3]) (rest := []) (st1 := [.int x6]) C hR (lv_sub hl [] rfl) (c_X9_width hx6) ms_X9_width ml_X9_68 ⟨rfl, rfl, (Nat.le_of_ble_eq_true rfl), (Nat.le_of_ble_eq_true rfl)⟩ rfl rfl rfl (Nat.le_of_ble_eq_true rfl) ⟨(Nat.le_of_ble_eq_true rfl), (Nat.le_of_ble_eq_true rfl)⟩ dX9_weak_196 (fun H locs hR => ?_)
      obtain rfl := Option.some.inj hf
      exact r_iret C hR rfl (Nat.le_of_ble_eq_true rfl) (Nat.le_of_ble_eq_true rfl) dX9_weak_199
    · have hf := ip hf c168
      refine lv_aload_n hx hb dX9_weak_171 rfl (lv_at hl 0 rfl) ?_
      refine lv_iload_n hx hb dX9_weak_172 rfl (lv_at hl 1 rfl) ?_
      refine lv_iconst (v := 1) hx hb dX9_weak_173 (by decide) ?_
      refine lv_isub hx hb dX9_weak_174 ?_
      obtain ⟨u7, hu7, hf⟩ := ob hf
      obtain ⟨x8, hx8, hf⟩ := ob hf
      refine r_callV (As := [.int (v1 - 1)]) (rest := []) (st1 := [.int x8]) C hR (lv_sub hl [] rfl) (c_X9_line hx8) mv_X9_line ml_X9_87 ⟨rfl, rfl, (Nat.le_of_ble_eq_true rfl), (Nat.le_of_ble_eq_true rfl)⟩ (rv_obj C hR hu7 (q := (RX9, TX9, 17)) rfl) rfl rfl rfl (Nat.le_of_ble_eq_true rfl) ⟨(Nat.le_of_ble_eq_true rfl), (Nat.le_of_ble_eq_true rfl)⟩ dX9_weak_175 (fun H locs hR => ?_)
      refine lv_aload_n hx hb dX9_weak_178 rfl (lv_at hl 0 rfl) ?_
      refine lv_iload_n hx hb dX9_weak_179 rfl (lv_at hl 1 rfl) ?_
      refine lv_iconst (v := 1) hx hb dX9_weak_180 (by decide) ?_
      refine lv_iadd hx hb dX9_weak_181 ?_
      obtain ⟨u9, hu9, hf⟩ := ob hf
      obtain ⟨x10, hx10, hf⟩ := ob hf
      refine r_callV (As := [.int (v1 + 1)]) (rest := [.int x8]) (st1 := [.int x10, .int x8]) C hR (lv_sub hl [] rfl) (c_X9_line hx10) mv_X9_line ml_X9_87 ⟨rfl, rfl, (Nat.le_of_ble_eq_true rfl), (Nat.le_of_ble_eq_true rfl)⟩ (rv_obj C hR hu9 (q := (RX9, TX9, 17)) rfl) rfl rfl rfl (Nat.le_of_ble_eq_true rfl) ⟨(Nat.le_of_ble_eq_true rfl), (Nat.le_of_ble_eq_true rfl)⟩ dX9_weak_182 (fun H locs hR => ?_)
      refine lv_icmp_ne (tgt := 190) hx hb dX9_weak_185 (by decide) (fun c185 => ?_) (fun c185 => ?_)
      · have hf := iq hf c185
        refine lv_aload_n hx hb dX9_weak_190 rfl (lv_at hl 0 rfl) ?_
        refine lv_iload_n hx hb dX9_weak_191 rfl (lv_at hl 1 rfl) ?_
        obtain ⟨u11, hu11, hf⟩ := ob hf
        obtain ⟨x12, hx12, hf⟩ := ob hf
        refine r_callV (As := [.int v1]) (rest := []) (st1 := [.int x12]) C hR (lv_sub hl [] rfl) (c_X9_line hx12) mv_X9_line ml_X9_87 ⟨rfl, rfl, (Nat.le_of_ble_eq_true rfl), (Nat.le_of_ble_eq_true rfl)⟩ (rv_obj C hR hu11 (q := (RX9, TX9, 17)) rfl) rfl rfl rfl (Nat.le_of_ble_eq_true rfl) ⟨(Nat.le_of_ble_eq_true rfl), (Nat.le_of_ble_eq_true rfl)⟩ dX9_weak_192 (fun H locs hR => ?_)
        refine lv_iload_n hx hb dX9_weak_195 rfl (lv_at hl 2 rfl) ?_
        obtain ⟨x13, hx13, hf⟩ := ob hf
        refine r_callS (As := [.int x12, .int v3]) (rest := []) (st1 := [.int x13]) C hR (lv_sub hl [] rfl) (c_X9_width hx13) ms_X9_width ml_X9_68 ⟨rfl, rfl, (Nat.le_of_ble_eq_true rfl), (Nat.le_of_ble_eq_true rfl)⟩ rfl rfl rfl (Nat.le_of_ble_eq_true rfl) ⟨(Nat.le_of_ble_eq_true rfl), (Nat.le_of_ble_eq_true rfl)⟩ dX9_weak_196 (fun H locs hR => ?_)
        obtain rfl := Option.some.inj hf
        exact r_iret C hR rfl (Nat.le_of_ble_eq_true rfl) (Nat.le_of_ble_eq_true rfl) dX9_weak_199
      · have hf := ip hf c185
        refine lv_iconst (v := (-1)) hx hb dX9_weak_188 (by decide) ?_
        obtain rfl := Option.some.inj hf
        exact r_iret C hR rfl (Nat.le_of_ble_eq_true rfl) (Nat.le_of_ble_eq_true rfl) dX9_weak_189
set_option maxHeartbeats 4000000 in
set_option maxRecDepth 100000 in
theorem w_X9_weak_b124 {K : WK} {p : Program} {l : Launch} {e : Env} {s : State} {m : MethodId} {args : Array Value} {below : List Frame} {meth : Method} {c : Code} (C : Cx K p s m args meth c RX9 cX9_weak 6 (Option.some Jvm.ClassFile.FieldType.int)) {q : Int32} : ∀ (v0 : Nat) (v1 : Int32) (v3 : Int32) (v4 : Int32) (v5 : Int32) (hs : AH) (H : Heap) (locs : List Loc) (ls : Array Slot), f_X9_weak_b124 v0 v1 v3 v4 v5 hs = some q → Rl K s hs H locs → lv_has ls 6 [(0, .ref (kA K v0)), (1, .int v1), (3, .int v3), (4, .int v4), (5, .int v5)] → W p l e rm_X9_weak s m args below meth c H locs 0 0 (MQ below (MQo K (some (.int q)) hs) args s 0 0 (kAx K)) (F0 m 124 ls []) := by
  have hx := C.1
  have hb := C.2.1
  intro v0 v1 v3 v4 v5 hs H locs ls hf hR hl
  rw [f_X9_weak_b124.eq_1] at hf
  refine lv_aload_n hx hb dX9_weak_124 rfl (lv_at hl 0 rfl) ?_
  refine lv_iload_n hx hb dX9_weak_125 rfl (lv_at hl 1 rfl) ?_
  refine lv_iconst (v := 1) hx hb dX9_weak_126 (by decide) ?_
  refine lv_isub hx hb dX9_weak_127 ?_
  obtain ⟨u1, hu1, hf⟩ := ob hf
  obtain ⟨x2, hx2, hf⟩ := ob hf
  refine r_callV (As := [.int (v1 - 1)]) (rest := []) (st1 := [.int x2]) C hR (lv_sub hl [] rfl) (c_X9_line hx2) mv_X9_line ml_X9_87 ⟨rfl, rfl, (Nat.le_of_ble_eq_true rfl), (Nat.le_of_ble_eq_true rfl)⟩ (rv_obj C hR hu1 (q := (RX9, TX9, 17)) rfl) rfl rfl rfl (Nat.le_of_ble_eq_true rfl) ⟨(Nat.le_of_ble_eq_true rfl), (Nat.le_of_ble_eq_true rfl)⟩ dX9_weak_128 (fun H locs hR => ?_)
  refine lv_aload_n hx hb dX9_weak_131 rfl (lv_at hl 0 rfl) ?_
  refine lv_iload_n hx hb dX9_weak_132 rfl (lv_at hl 1 rfl) ?_
  obtain ⟨u3, hu3, hf⟩ := ob hf
  obtain ⟨x4, hx4, hf⟩ := ob hf
  refine r_callV (As := [.int v1]) (rest := [.int x2]) (st1 := [.int x4, .int x2]) C hR (lv_sub hl [] rfl) (c_X9_line hx4) mv_X9_line ml_X9_87 ⟨rfl, rfl, (Nat.le_of_ble_eq_true rfl), (Nat.le_of_ble_eq_true rfl)⟩ (rv_obj C hR hu3 (q := (RX9, TX9, 17)) rfl) rfl rfl rfl (Nat.le_of_ble_eq_true rfl) ⟨(Nat.le_of_ble_eq_true rfl), (Nat.le_of_ble_eq_true rfl)⟩ dX9_weak_133 (fun H locs hR => ?_)
  obtain ⟨x5, hx5, hf⟩ := ob hf
  refine r_callS (As := [.int x2, .int x4]) (rest := []) (st1 := [.int x5]) C hR (lv_sub hl [] rfl) (c_X9_direction hx5) ms_X9_direction ml_X9_93 ⟨rfl, rfl, (Nat.le_of_ble_eq_true rfl), (Nat.le_of_ble_eq_true rfl)⟩ rfl rfl rfl (Nat.le_of_ble_eq_true rfl) ⟨(Nat.le_of_ble_eq_true rfl), (Nat.le_of_ble_eq_true rfl)⟩ dX9_weak_136 (fun H locs hR => ?_)
  refine lv_aload_n hx hb dX9_weak_139 rfl (lv_at hl 0 rfl) ?_
  refine lv_iload_n hx hb dX9_weak_140 rfl (lv_at hl 1 rfl) ?_
  obtain ⟨u6, hu6, hf⟩ := ob hf
  obtain ⟨x7, hx7, hf⟩ := ob hf
  refine r_callV (As := [.int v1]) (rest := [.int x5]) (st1 := [.int x7, .int x5]) C hR (lv_sub hl [] rfl) (c_X9_line hx7) mv_X9_line ml_X9_87 ⟨rfl, rfl, (Nat.le_of_ble_eq_true rfl), (Nat.le_of_ble_eq_true rfl)⟩ (rv_obj C hR hu6 (q := (RX9, TX9, 17)) rfl) rfl rfl rfl (Nat.le_of_ble_eq_true rfl) ⟨(Nat.le_of_ble_eq_true rfl), (Nat.le_of_ble_eq_true rfl)⟩ dX9_weak_141 (fun H locs hR => ?_)
  refine lv_aload_n hx hb dX9_weak_144 rfl (lv_at hl 0 rfl) ?_
  refine lv_iload_n hx hb dX9_weak_145 rfl (lv_at hl 1 rfl) ?_
  refine lv_iconst (v := 1) hx hb dX9_weak_146 (by decide) ?_
  refine lv_iadd hx hb dX9_weak_147 ?_
  obtain ⟨u8, hu8, hf⟩ := ob hf
  obtain ⟨x9, hx9, hf⟩ := ob hf
  refine r_callV (As := [.int (v1 + 1)]) (rest := [.int x7, .int x5]) (st1 := [.int x9, .int x7, .int x5]) C hR (lv_sub hl [] rfl) (c_X9_line hx9) mv_X9_line ml_X9_87 ⟨rfl, rfl, (Nat.le_of_ble_eq_true rfl), (Nat.le_of_ble_eq_true rfl)⟩ (rv_obj C hR hu8 (q := (RX9, TX9, 17)) rfl) rfl rfl rfl (Nat.le_of_ble_eq_true rfl) ⟨(Nat.le_of_ble_eq_true rfl), (Nat.le_of_ble_eq_true rfl)⟩ dX9_weak_148 (fun H locs hR => ?_)
  obtain ⟨x10, hx10, hf⟩ := ob hf
  refine r_callS (As := [.int x7, .int x9]) (rest := [.int x5]) (st1 := [.int x10, .int x5]) C hR (lv_sub hl [] rfl) (c_X9_direction hx10) ms_X9_direction ml_X9_93 ⟨rfl, rfl, (Nat.le_of_ble_eq_true rfl), (Nat.le_of_ble_eq_true rfl)⟩ rfl rfl rfl (Nat.le_of_ble_eq_true rfl) ⟨(Nat.le_of_ble_eq_true rfl), (Nat.le_of_ble_eq_true rfl)⟩ dX9_weak_151 (fun H locs hR => ?_)
  refine lv_imul hx hb dX9_weak_154 ?_
  refine lv_if_le (tgt := 160) hx hb dX9_weak_155 (by decide) (fun c155 => ?_) (fun c155 => ?_)
  · have hf := ip hf c155
    exact w_X9_weak_b160 C  _ _ _ _ _ _ _ _ _ hf hR (lv_sub hl [0, 1, 2, 3, 4] rfl)
  · have hf := iq hf c155
    refine lv_iconst (v := (-1)) hx hb dX9_weak_158 (by decide) ?_
    obtain rfl := Option.some.inj hf
    exact r_iret C hR rfl (Nat.le_of_ble_eq_true rfl) (Nat.le_of_ble_eq_true rfl) dX9_weak_159
set_option maxHeartbeats 4000000 in
set_option maxRecDepth 100000 in
theorem w_X9_weak_b97 {K : WK} {p : Program} {l : Launch} {e : Env} {s : State} {m : MethodId} {args : Array Value} {below : List Frame} {meth : Method} {c : Code} (C : Cx K p s m args meth c RX9 cX9_weak 6 (Option.some Jvm.ClassFile.FieldType.int)) {q : Int32} : ∀ (v0 : Nat) (v1 : Int32) (v3 : Int32) (t0 : Int32) (hs : AH) (H : Heap) (locs : List Loc) (ls : Array Slot), f_X9_weak_b97 v0 v1 v3 t0 hs = some q → Rl K s hs H locs → lv_has ls 6 [(0, .ref (kA K v0)), (1, .int v1), (3, .int v3)] → W p l e rm_X9_weak s m args below meth c H locs 0 0 (MQ below (MQo K (some (.int q)) hs) args s 0 0 (kAx K)) (F0 m 97 ls [.int t0]) := by
  have hx := C.1
  have hb := C.2.1
  intro v0 v1 v3 t0 hs H locs ls hf hR hl
  rw [f_X9_weak_b97.eq_1] at hf
  refine lv_istore (lv' := [(4, .int t0), (0, .ref (kA K v0)), (1, .int v1), (3, .int v3)]) hx hb dX9_weak_97 hl (by decide) rfl (fun ls hl => ?_)
  refine lv_aload_n hx hb dX9_weak_99 rfl (lv_at hl 1 rfl) ?_
  obtain ⟨x1, hx1, hf⟩ := ob hf
  refine r_getR C hR hx1 fl_X9_9 dX9_weak_100 ?_
  refine lv_iconst (v := 2) hx hb dX9_weak_103 (by decide) ?_
  obtain ⟨x2, hx2, hf⟩ := ob hf
  refine r_iald C hR hx2 dX9_weak_104 ?_
  refine lv_istore (lv' := [(5, .int x2), (4, .int t0), (0, .ref (kA K v0)), (1, .int v1), (3, .int v3)]) hx hb dX9_weak_105 hl (by decide) rfl (fun ls hl => ?_)
  refine lv_iload hx hb dX9_weak_107 (lv_at hl 1 rfl) ?_
  refine lv_if_eq (tgt := 160) hx hb dX9_weak_109 (by decide) (fun c109 => ?_) (fun c109 => ?_)
  · have hf := ip hf c109
    exact w_X9_weak_b160 C  _ _ _ _ _ _ _ _ _ hf hR (lv_sub hl [2, 3, 4, 1, 0] rfl)
  · have hf := iq hf c109
    refine lv_iload hx hb dX9_weak_112 (lv_at hl 0 rfl) ?_
    refine lv_iconst (v := 2) hx hb dX9_weak_114 (by decide) ?_
    refine lv_icmp_eq (tgt := 124) hx hb dX9_weak_115 (by decide) (fun c115 => ?_) (fun c115 => ?_)
    · have hf := ip hf c115
      exact w_X9_weak_b124 C  _ _ _ _ _ _ _ _ _ hf hR (lv_sub hl [2, 3, 4, 1, 0] rfl)
    · have hf := iq hf c115
      refine lv_iload hx hb dX9_weak_118 (lv_at hl 0 rfl) ?_
      refine lv_iconst (v := 3) hx hb dX9_weak_120 (by decide) ?_
      refine lv_icmp_ne (tgt := 160) hx hb dX9_weak_121 (by decide) (fun c121 => ?_) (fun c121 => ?_)
      · have hf := iq hf c121
        exact w_X9_weak_b160 C  _ _ _ _ _ _ _ _ _ hf hR (lv_sub hl [2, 3, 4, 1, 0] rfl)
      · have hf := ip hf c121
        exact w_X9_weak_b124 C  _ _ _ _ _ _ _ _ _ hf hR (lv_sub hl [2, 3, 4, 1, 0] rfl)
set_option maxHeartbeats 4000000 in
set_option maxRecDepth 100000 in
theorem w_X9_weak_b0 {K : WK} {p : Program} {l : Launch} {e : Env} {s : State} {m : MethodId} {args : Array Value} {below : List Frame} {meth : Method} {c : Code} (C : Cx K p s m args meth c RX9 cX9_weak 6 (Option.some Jvm.ClassFile.FieldType.int)) {q : Int32} : ∀ (v0 : Nat) (v1 : Int32) (v2 : Int32) (hs : AH) (H : Heap) (locs : List Loc) (ls : Array Slot), f_X9_weak v0 v1 v2 hs = some q → Rl K s hs H locs → lv_has ls 6 [(0, .ref (kA K v0)), (1, .int v1), (2, .int v2)] → W p l e rm_X9_weak s m args below meth c H locs 0 0 (MQ below (MQo K (some (.int q)) hs) args s 0 0 (kAx K)) (F0 m 0 ls []) := by
  have hx := C.1
  have hb := C.2.1
  intro v0 v1 v2 hs H locs ls hf hR hl
  rw [f_X9_weak.eq_1] at hf
  refine lv_aload_n hx hb dX9_weak_0 rfl (lv_at hl 0 rfl) ?_
  refine lv_aload_n hx hb dX9_weak_1 rfl (lv_at hl 0 rfl) ?_
  refine lv_iload_n hx hb dX9_weak_2 rfl (lv_at hl 1 rfl) ?_
  obtain ⟨u1, hu1, hf⟩ := ob hf
  obtain ⟨x2, hx2, hf⟩ := ob hf
  refine r_callV (As := [.int v1]) (rest := [.ref (kA K v0)]) (st1 := [.int x2, .ref (kA K v0)]) C hR (lv_sub hl [] rfl) (c_X9_barOf hx2) mv_X9_barOf ml_X9_104 ⟨rfl, rfl, (Nat.le_of_ble_eq_true rfl), (Nat.le_of_ble_eq_true rfl)⟩ (rv_obj C hR hu1 (q := (RX9, TX9, 17)) rfl) rfl rfl rfl (Nat.le_of_ble_eq_true rfl) ⟨(Nat.le_of_ble_eq_true rfl), (Nat.le_of_ble_eq_true rfl)⟩ dX9_weak_3 (fun H locs hR => ?_)
  obtain ⟨u3, hu3, hf⟩ := ob hf
  obtain ⟨x4, hx4, hf⟩ := ob hf
  refine r_callV (As := [.int x2]) (rest := []) (st1 := [.int x4]) C hR (lv_sub hl [] rfl) (c_X9_cantusAt hx4) mv_X9_cantusAt ml_X9_107 ⟨rfl, rfl, (Nat.le_of_ble_eq_true rfl), (Nat.le_of_ble_eq_true rfl)⟩ (rv_obj C hR hu3 (q := (RX9, TX9, 17)) rfl) rfl rfl rfl (Nat.le_of_ble_eq_true rfl) ⟨(Nat.le_of_ble_eq_true rfl), (Nat.le_of_ble_eq_true rfl)⟩ dX9_weak_6 (fun H locs hR => ?_)
  refine lv_istore_n (lv' := [(3, .int x4), (0, .ref (kA K v0)), (1, .int v1), (2, .int v2)]) hx hb dX9_weak_9 rfl hl (by decide) rfl (fun ls hl => ?_)
  refine lv_aload_n hx hb dX9_weak_10 rfl (lv_at hl 1 rfl) ?_
  refine lv_iload_n hx hb dX9_weak_11 rfl (lv_at hl 2 rfl) ?_
  obtain ⟨u5, hu5, hf⟩ := ob hf
  obtain ⟨x6, hx6, hf⟩ := ob hf
  refine r_callV (As := [.int v1]) (rest := []) (st1 := [.int x6]) C hR (lv_sub hl [] rfl) (c_X9_beatOf hx6) mv_X9_beatOf ml_X9_90 ⟨rfl, rfl, (Nat.le_of_ble_eq_true rfl), (Nat.le_of_ble_eq_true rfl)⟩ (rv_obj C hR hu5 (q := (RX9, TX9, 17)) rfl) rfl rfl rfl (Nat.le_of_ble_eq_true rfl) ⟨(Nat.le_of_ble_eq_true rfl), (Nat.le_of_ble_eq_true rfl)⟩ dX9_weak_12 (fun H locs hR => ?_)
  refine lv_if_eq (tgt := 30) hx hb dX9_weak_15 (by decide) (fun c15 => ?_) (fun c15 => ?_)
  · have hf := ip hf c15
    refine lv_iconst (v := (-1)) hx hb dX9_weak_30 (by decide) ?_
    obtain rfl := Option.some.inj hf
    exact r_iret C hR rfl (Nat.le_of_ble_eq_true rfl) (Nat.le_of_ble_eq_true rfl) dX9_weak_31
  · have hf := iq hf c15
    refine lv_aload_n hx hb dX9_weak_18 rfl (lv_at hl 1 rfl) ?_
    refine lv_iload_n hx hb dX9_weak_19 rfl (lv_at hl 2 rfl) ?_
    obtain ⟨u7, hu7, hf⟩ := ob hf
    obtain ⟨x8, hx8, hf⟩ := ob hf
    refine r_callV (As := [.int v1]) (rest := []) (st1 := [.int x8]) C hR (lv_sub hl [] rfl) (c_X9_line hx8) mv_X9_line ml_X9_87 ⟨rfl, rfl, (Nat.le_of_ble_eq_true rfl), (Nat.le_of_ble_eq_true rfl)⟩ (rv_obj C hR hu7 (q := (RX9, TX9, 17)) rfl) rfl rfl rfl (Nat.le_of_ble_eq_true rfl) ⟨(Nat.le_of_ble_eq_true rfl), (Nat.le_of_ble_eq_true rfl)⟩ dX9_weak_20 (fun H locs hR => ?_)
    refine lv_iload_n hx hb dX9_weak_23 rfl (lv_at hl 0 rfl) ?_
    obtain ⟨x9, hx9, hf⟩ := ob hf
    refine r_callS (As := [.int x8, .int x4]) (rest := []) (st1 := [.int x9]) C hR (lv_sub hl [] rfl) (c_X9_isConsonant hx9) ms_X9_isConsonant ml_X9_110 ⟨rfl, rfl, (Nat.le_of_ble_eq_true rfl), (Nat.le_of_ble_eq_true rfl)⟩ rfl rfl rfl (Nat.le_of_ble_eq_true rfl) ⟨(Nat.le_of_ble_eq_true rfl), (Nat.le_of_ble_eq_true rfl)⟩ dX9_weak_24 (fun H locs hR => ?_)
    refine lv_if_eq (tgt := 32) hx hb dX9_weak_27 (by decide) (fun c27 => ?_) (fun c27 => ?_)
    · have hf := ip hf c27
      refine lv_aload_n hx hb dX9_weak_32 rfl (lv_at hl 1 rfl) ?_
      refine lv_iload_n hx hb dX9_weak_33 rfl (lv_at hl 2 rfl) ?_
      refine lv_iconst (v := 1) hx hb dX9_weak_34 (by decide) ?_
      refine lv_isub hx hb dX9_weak_35 ?_
      refine lv_iload_n hx hb dX9_weak_36 rfl (lv_at hl 3 rfl) ?_
      obtain ⟨u10, hu10, hf⟩ := ob hf
      obtain ⟨x11, hx11, hf⟩ := ob hf
      refine r_callV (As := [.int (v1 - 1), .int v2]) (rest := []) (st1 := [.int x11]) C hR (lv_sub hl [] rfl) (c_X9_isNote hx11) mv_X9_isNote ml_X9_96 ⟨rfl, rfl, (Nat.le_of_ble_eq_true rfl), (Nat.le_of_ble_eq_true rfl)⟩ (rv_obj C hR hu10 (q := (RX9, TX9, 17)) rfl) rfl rfl rfl (Nat.le_of_ble_eq_true rfl) ⟨(Nat.le_of_ble_eq_true rfl), (Nat.le_of_ble_eq_true rfl)⟩ dX9_weak_37 (fun H locs hR => ?_)
      refine lv_if_eq (tgt := 96) hx hb dX9_weak_40 (by decide) (fun c40 => ?_) (fun c40 => ?_)
      · have hf := ip hf c40
        refine lv_iconst (v := 0) hx hb dX9_weak_96 (by decide) ?_
        exact w_X9_weak_b97 C  _ _ _ _ _ _ _ _ hf hR (lv_sub hl [1, 2, 0] rfl)
      · have hf := iq hf c40
        refine lv_aload_n hx hb dX9_weak_43 rfl (lv_at hl 1 rfl) ?_
        refine lv_iload_n hx hb dX9_weak_44 rfl (lv_at hl 2 rfl) ?_
        refine lv_iconst (v := 1) hx hb dX9_weak_45 (by decide) ?_
        refine lv_iadd hx hb dX9_weak_46 ?_
        refine lv_iload_n hx hb dX9_weak_47 rfl (lv_at hl 3 rfl) ?_
        obtain ⟨u12, hu12, hf⟩ := ob hf
        obtain ⟨x13, hx13, hf⟩ := ob hf
        refine r_callV (As := [.int (v1 + 1), .int v2]) (rest := []) (st1 := [.int x13]) C hR (lv_sub hl [] rfl) (c_X9_isNote hx13) mv_X9_isNote ml_X9_96 ⟨rfl, rfl, (Nat.le_of_ble_eq_true rfl), (Nat.le_of_ble_eq_true rfl)⟩ (rv_obj C hR hu12 (q := (RX9, TX9, 17)) rfl) rfl rfl rfl (Nat.le_of_ble_eq_true rfl) ⟨(Nat.le_of_ble_eq_true rfl), (Nat.le_of_ble_eq_true rfl)⟩ dX9_weak_48 (fun H locs hR => ?_)
        refine lv_if_eq (tgt := 96) hx hb dX9_weak_51 (by decide) (fun c51 => ?_) (fun c51 => ?_)
        · have hf := ip hf c51
          refine lv_iconst (v := 0) hx hb dX9_weak_96 (by decide) ?_
          exact w_X9_weak_b97 C  _ _ _ _ _ _ _ _ hf hR (lv_sub hl [1, 2, 0] rfl)
        · have hf := iq hf c51
          refine lv_aload_n hx hb dX9_weak_54 rfl (lv_at hl 1 rfl) ?_
          refine lv_iload_n hx hb dX9_weak_55 rfl (lv_at hl 2 rfl) ?_
          refine lv_iconst (v := 1) hx hb dX9_weak_56 (by decide) ?_
          refine lv_isub hx hb dX9_weak_57 ?_
          obtain ⟨u14, hu14, hf⟩ := ob hf
          obtain ⟨x15, hx15, hf⟩ := ob hf
          refine r_callV (As := [.int (v1 - 1)]) (rest := []) (st1 := [.int x15]) C hR (lv_sub hl [] rfl) (c_X9_line hx15) mv_X9_line ml_X9_87 ⟨rfl, rfl, (Nat.le_of_ble_eq_true rfl), (Nat.le_of_ble_eq_true rfl)⟩ (rv_obj C hR hu14 (q := (RX9, TX9, 17)) rfl) rfl rfl rfl (Nat.le_of_ble_eq_true rfl) ⟨(Nat.le_of_ble_eq_true rfl), (Nat.le_of_ble_eq_true rfl)⟩ dX9_weak_58 (fun H locs hR => ?_)
          refine lv_aload_n hx hb dX9_weak_61 rfl (lv_at hl 1 rfl) ?_
          refine lv_iload_n hx hb dX9_weak_62 rfl (lv_at hl 2 rfl) ?_
          obtain ⟨u16, hu16, hf⟩ := ob hf
          obtain ⟨x17, hx17, hf⟩ := ob hf
          refine r_callV (As := [.int v1]) (rest := [.int x15]) (st1 := [.int x17, .int x15]) C hR (lv_sub hl [] rfl) (c_X9_line hx17) mv_X9_line ml_X9_87 ⟨rfl, rfl, (Nat.le_of_ble_eq_true rfl), (Nat.le_of_ble_eq_true rfl)⟩ (rv_obj C hR hu16 (q := (RX9, TX9, 17)) rfl) rfl rfl rfl (Nat.le_of_ble_eq_true rfl) ⟨(Nat.le_of_ble_eq_true rfl), (Nat.le_of_ble_eq_true rfl)⟩ dX9_weak_63 (fun H locs hR => ?_)
          obtain ⟨x18, hx18, hf⟩ := ob hf
          refine r_callS (As := [.int x15, .int x17]) (rest := []) (st1 := [.int x18]) C hR (lv_sub hl [] rfl) (c_X9_steps hx18) ms_X9_steps ml_X9_64 ⟨rfl, rfl, (Nat.le_of_ble_eq_true rfl), (Nat.le_of_ble_eq_true rfl)⟩ rfl rfl rfl (Nat.le_of_ble_eq_true rfl) ⟨(Nat.le_of_ble_eq_true rfl), (Nat.le_of_ble_eq_true rfl)⟩ dX9_weak_66 (fun H locs hR => ?_)
          refine lv_iconst (v := 1) hx hb dX9_weak_69 (by decide) ?_
          refine lv_icmp_ne (tgt := 96) hx hb dX9_weak_70 (by decide) (fun c70 => ?_) (fun c70 => ?_)
          · have hf := iq hf c70
            refine lv_iconst (v := 0) hx hb dX9_weak_96 (by decide) ?_
            exact w_X9_weak_b97 C  _ _ _ _ _ _ _ _ hf hR (lv_sub hl [1, 2, 0] rfl)
          · have hf := ip hf c70
            refine lv_aload_n hx hb dX9_weak_73 rfl (lv_at hl 1 rfl) ?_
            refine lv_iload_n hx hb dX9_weak_74 rfl (lv_at hl 2 rfl) ?_
            obtain ⟨u19, hu19, hf⟩ := ob hf
            obtain ⟨x20, hx20, hf⟩ := ob hf
            refine r_callV (As := [.int v1]) (rest := []) (st1 := [.int x20]) C hR (lv_sub hl [] rfl) (c_X9_line hx20) mv_X9_line ml_X9_87 ⟨rfl, rfl, (Nat.le_of_ble_eq_true rfl), (Nat.le_of_ble_eq_true rfl)⟩ (rv_obj C hR hu19 (q := (RX9, TX9, 17)) rfl) rfl rfl rfl (Nat.le_of_ble_eq_true rfl) ⟨(Nat.le_of_ble_eq_true rfl), (Nat.le_of_ble_eq_true rfl)⟩ dX9_weak_75 (fun H locs hR => ?_)
            refine lv_aload_n hx hb dX9_weak_78 rfl (lv_at hl 1 rfl) ?_
            refine lv_iload_n hx hb dX9_weak_79 rfl (lv_at hl 2 rfl) ?_
            refine lv_iconst (v := 1) hx hb dX9_weak_80 (by decide) ?_
            refine lv_iadd hx hb dX9_weak_81 ?_
            obtain ⟨u21, hu21, hf⟩ := ob hf
            obtain ⟨x22, hx22, hf⟩ := ob hf
            refine r_callV (As := [.int (v1 + 1)]) (rest := [.int x20]) (st1 := [.int x22, .int x20]) C hR (lv_sub hl [] rfl) (c_X9_line hx22) mv_X9_line ml_X9_87 ⟨rfl, rfl, (Nat.le_of_ble_eq_true rfl), (Nat.le_of_ble_eq_true rfl)⟩ (rv_obj C hR hu21 (q := (RX9, TX9, 17)) rfl) rfl rfl rfl (Nat.le_of_ble_eq_true rfl) ⟨(Nat.le_of_ble_eq_true rfl), (Nat.le_of_ble_eq_true rfl)⟩ dX9_weak_82 (fun H locs hR => ?_)
            obtain ⟨x23, hx23, hf⟩ := ob hf
            refine r_callS (As := [.int x20, .int x22]) (rest := []) (st1 := [.int x23]) C hR (lv_sub hl [] rfl) (c_X9_steps hx23) ms_X9_steps ml_X9_64 ⟨rfl, rfl, (Nat.le_of_ble_eq_true rfl), (Nat.le_of_ble_eq_true rfl)⟩ rfl rfl rfl (Nat.le_of_ble_eq_true rfl) ⟨(Nat.le_of_ble_eq_true rfl), (Nat.le_of_ble_eq_true rfl)⟩ dX9_weak_85 (fun H locs hR => ?_)
            refine lv_iconst (v := 1) hx hb dX9_weak_88 (by decide) ?_
            refine lv_icmp_ne (tgt := 96) hx hb dX9_weak_89 (by decide) (fun c89 => ?_) (fun c89 => ?_)
            · have hf := iq hf c89
              refine lv_iconst (v := 0) hx hb dX9_weak_96 (by decide) ?_
              exact w_X9_weak_b97 C  _ _ _ _ _ _ _ _ hf hR (lv_sub hl [1, 2, 0] rfl)
            · have hf := ip hf c89
              refine lv_iconst (v := 1) hx hb dX9_weak_92 (by decide) ?_
              refine lv_goto (tgt := 97) hx hb dX9_weak_93 (by decide) ?_
              exact w_X9_weak_b97 C  _ _ _ _ _ _ _ _ hf hR (lv_sub hl [1, 2, 0] rfl)
    · have hf := iq hf c27
      refine lv_iconst (v := (-1)) hx hb dX9_weak_30 (by decide) ?_
      obtain rfl := Option.some.inj hf
      exact r_iret C hR rfl (Nat.le_of_ble_eq_true rfl) (Nat.le_of_ble_eq_true rfl) dX9_weak_31
theorem c_X9_weak {K : WK} {l : Launch} {hs : AH} {v0 : Nat} {v1 : Int32} {v2 : Int32} {q : Int32} (hf : f_X9_weak v0 v1 v2 hs = some q) : MC K l yX9_weak cX9_weak 6 (Option.some Jvm.ClassFile.FieldType.int) rm_X9_weak [.ref (kA K v0), .int v1, .int v2] hs (some (.int q)) hs 0 0 :=
  MC.of (by decide +kernel) (Nat.le_of_ble_eq_true rfl) (fun p e s m args below meth c C _ hR ls hl => w_X9_weak_b0 C _ _ _ hs _ _ ls hf hR hl)
noncomputable def f_X9_isParallel (v0 : Nat) (v1 : Int32) (v2 : Int32) (hs : AH) : Option (Int32) :=
  (chk hs v0 9).bind fun u1 =>
  (f_X9_barOf v0 v1 hs).bind fun x2 =>
  (chk hs v0 9).bind fun u3 =>
  (f_X9_line v0 v1 hs).bind fun x4 =>
  (chk hs v0 9).bind fun u5 =>
  (f_X9_cantusAt v0 x2 hs).bind fun x6 =>
  (f_X9_perfect x4 x6).bind fun x7 =>
  if x7 = 0 then
  (
   some 0)
  else
  (
   (chk hs v0 9).bind fun u8 =>
   (f_X9_line v0 v2 hs).bind fun x9 =>
   if x9 = (-1) then
   (
    some 0)
   else
   (
    (chk hs v0 9).bind fun u10 =>
    (f_X9_line v0 v2 hs).bind fun x11 =>
    (chk hs v0 9).bind fun u12 =>
    (f_X9_cantusAt v0 (x2 - 1) hs).bind fun x13 =>
    (f_X9_perfect x11 x13).bind fun x14 =>
    if x14 = x7 then
    (
     (chk hs v0 9).bind fun u15 =>
     (f_X9_line v0 v2 hs).bind fun x16 =>
     (f_X9_pitchOf x16).bind fun x17 =>
     (chk hs v0 9).bind fun u18 =>
     (f_X9_line v0 v1 hs).bind fun x19 =>
     (f_X9_pitchOf x19).bind fun x20 =>
     if x17 = x20 then
     (
      some 0)
     else
     (
      (chk hs v0 9).bind fun u21 =>
      (f_X9_cantusAt v0 (x2 - 1) hs).bind fun x22 =>
      (f_X9_pitchOf x22).bind fun x23 =>
      (chk hs v0 9).bind fun u24 =>
      (f_X9_cantusAt v0 x2 hs).bind fun x25 =>
      (f_X9_pitchOf x25).bind fun x26 =>
      if x23 = x26 then
      (
       some 0)
      else
      (
       some 1)))
    else
    (
     some 0)))
abbrev rm_X9_isParallel : Room := { frames := 4, cells := 0, slots := 0, locals := 85 }
set_option maxHeartbeats 4000000 in
set_option maxRecDepth 100000 in
theorem w_X9_isParallel_b0 {K : WK} {p : Program} {l : Launch} {e : Env} {s : State} {m : MethodId} {args : Array Value} {below : List Frame} {meth : Method} {c : Code} (C : Cx K p s m args meth c RX9 cX9_isParallel 5 (Option.some Jvm.ClassFile.FieldType.boolean)) {q : Int32} : ∀ (v0 : Nat) (v1 : Int32) (v2 : Int32) (hs : AH) (H : Heap) (locs : List Loc) (ls : Array Slot), f_X9_isParallel v0 v1 v2 hs = some q → Rl K s hs H locs → lv_has ls 5 [(0, .ref (kA K v0)), (1, .int v1), (2, .int v2)] → W p l e rm_X9_isParallel s m args below meth c H locs 0 0 (MQ below (MQo K (some (.int q)) hs) args s 0 0 (kAx K)) (F0 m 0 ls []) := by
  have hx := C.1
  have hb := C.2.1
  intro v0 v1 v2 hs H locs ls hf hR hl
  rw [f_X9_isParallel.eq_1] at hf
  refine lv_aload_n hx hb dX9_isParallel_0 rfl (lv_at hl 0 rfl) ?_
  refine lv_iload_n hx hb dX9_isParallel_1 rfl (lv_at hl 1 rfl) ?_
  obtain ⟨u1, hu1, hf⟩ := ob hf
  obtain ⟨x2, hx2, hf⟩ := ob hf
  refine r_callV (As := [.int v1]) (rest := []) (st1 := [.int x2]) C hR (lv_sub hl [] rfl) (c_X9_barOf hx2) mv_X9_barOf ml_X9_104 ⟨rfl, rfl, (Nat.le_of_ble_eq_true rfl), (Nat.le_of_ble_eq_true rfl)⟩ (rv_obj C hR hu1 (q := (RX9, TX9, 17)) rfl) rfl rfl rfl (Nat.le_of_ble_eq_true rfl) ⟨(Nat.le_of_ble_eq_true rfl), (Nat.le_of_ble_eq_true rfl)⟩ dX9_isParallel_2 (fun H locs hR => ?_)
  refine lv_istore_n (lv' := [(3, .int x2), (0, .ref (kA K v0)), (1, .int v1), (2, .int v2)]) hx hb dX9_isParallel_5 rfl hl (by decide) rfl (fun ls hl => ?_)
  refine lv_aload_n hx hb dX9_isParallel_6 rfl (lv_at hl 1 rfl) ?_
  refine lv_iload_n hx hb dX9_isParallel_7 rfl (lv_at hl 2 rfl) ?_
  obtain ⟨u3, hu3, hf⟩ := ob hf
  obtain ⟨x4, hx4, hf⟩ := ob hf
  refine r_callV (As := [.int v1]) (rest := []) (st1 := [.int x4]) C hR (lv_sub hl [] rfl) (c_X9_line hx4) mv_X9_line ml_X9_87 ⟨rfl, rfl, (Nat.le_of_ble_eq_true rfl), (Nat.le_of_ble_eq_true rfl)⟩ (rv_obj C hR hu3 (q := (RX9, TX9, 17)) rfl) rfl rfl rfl (Nat.le_of_ble_eq_true rfl) ⟨(Nat.le_of_ble_eq_true rfl), (Nat.le_of_ble_eq_true rfl)⟩ dX9_isParallel_8 (fun H locs hR => ?_)
  refine lv_aload_n hx hb dX9_isParallel_11 rfl (lv_at hl 1 rfl) ?_
  refine lv_iload_n hx hb dX9_isParallel_12 rfl (lv_at hl 0 rfl) ?_
  obtain ⟨u5, hu5, hf⟩ := ob hf
  obtain ⟨x6, hx6, hf⟩ := ob hf
  refine r_callV (As := [.int x2]) (rest := [.int x4]) (st1 := [.int x6, .int x4]) C hR (lv_sub hl [] rfl) (c_X9_cantusAt hx6) mv_X9_cantusAt ml_X9_107 ⟨rfl, rfl, (Nat.le_of_ble_eq_true rfl), (Nat.le_of_ble_eq_true rfl)⟩ (rv_obj C hR hu5 (q := (RX9, TX9, 17)) rfl) rfl rfl rfl (Nat.le_of_ble_eq_true rfl) ⟨(Nat.le_of_ble_eq_true rfl), (Nat.le_of_ble_eq_true rfl)⟩ dX9_isParallel_13 (fun H locs hR => ?_)
  obtain ⟨x7, hx7, hf⟩ := ob hf
  refine r_callS (As := [.int x4, .int x6]) (rest := []) (st1 := [.int x7]) C hR (lv_sub hl [] rfl) (c_X9_perfect hx7) ms_X9_perfect ml_X9_71 ⟨rfl, rfl, (Nat.le_of_ble_eq_true rfl), (Nat.le_of_ble_eq_true rfl)⟩ rfl rfl rfl (Nat.le_of_ble_eq_true rfl) ⟨(Nat.le_of_ble_eq_true rfl), (Nat.le_of_ble_eq_true rfl)⟩ dX9_isParallel_16 (fun H locs hR => ?_)
  refine lv_istore (lv' := [(4, .int x7), (3, .int x2), (0, .ref (kA K v0)), (1, .int v1), (2, .int v2)]) hx hb dX9_isParallel_19 hl (by decide) rfl (fun ls hl => ?_)
  refine lv_iload hx hb dX9_isParallel_21 (lv_at hl 0 rfl) ?_
  refine lv_if_eq (tgt := 35) hx hb dX9_isParallel_23 (by decide) (fun c23 => ?_) (fun c23 => ?_)
  · have hf := ip hf c23
    refine lv_iconst (v := 0) hx hb dX9_isParallel_35 (by decide) ?_
    obtain rfl := Option.some.inj hf
    exact r_iret C hR rfl (Nat.le_of_ble_eq_true rfl) (Nat.le_of_ble_eq_true rfl) dX9_isParallel_36
  · have hf := iq hf c23
    refine lv_aload_n hx hb dX9_isParallel_26 rfl (lv_at hl 2 rfl) ?_
    refine lv_iload_n hx hb dX9_isParallel_27 rfl (lv_at hl 4 rfl) ?_
    obtain ⟨u8, hu8, hf⟩ := ob hf
    obtain ⟨x9, hx9, hf⟩ := ob hf
    refine r_callV (As := [.int v2]) (rest := []) (st1 := [.int x9]) C hR (lv_sub hl [] rfl) (c_X9_line hx9) mv_X9_line ml_X9_87 ⟨rfl, rfl, (Nat.le_of_ble_eq_true rfl), (Nat.le_of_ble_eq_true rfl)⟩ (rv_obj C hR hu8 (q := (RX9, TX9, 17)) rfl) rfl rfl rfl (Nat.le_of_ble_eq_true rfl) ⟨(Nat.le_of_ble_eq_true rfl), (Nat.le_of_ble_eq_true rfl)⟩ dX9_isParallel_28 (fun H locs hR => ?_)
    refine lv_iconst (v := (-1)) hx hb dX9_isParallel_31 (by decide) ?_
    refine lv_icmp_ne (tgt := 37) hx hb dX9_isParallel_32 (by decide) (fun c32 => ?_) (fun c32 => ?_)
    · have hf := iq hf c32
      refine lv_aload_n hx hb dX9_isParallel_37 rfl (lv_at hl 2 rfl) ?_
      refine lv_iload_n hx hb dX9_isParallel_38 rfl (lv_at hl 4 rfl) ?_
      obtain ⟨u10, hu10, hf⟩ := ob hf
      obtain ⟨x11, hx11, hf⟩ := ob hf
      refine r_callV (As := [.int v2]) (rest := []) (st1 := [.int x11]) C hR (lv_sub hl [] rfl) (c_X9_line hx11) mv_X9_line ml_X9_87 ⟨rfl, rfl, (Nat.le_of_ble_eq_true rfl), (Nat.le_of_ble_eq_true rfl)⟩ (rv_obj C hR hu10 (q := (RX9, TX9, 17)) rfl) rfl rfl rfl (Nat.le_of_ble_eq_true rfl) ⟨(Nat.le_of_ble_eq_true rfl), (Nat.le_of_ble_eq_true rfl)⟩ dX9_isParallel_39 (fun H locs hR => ?_)
      refine lv_aload_n hx hb dX9_isParallel_42 rfl (lv_at hl 2 rfl) ?_
      refine lv_iload_n hx hb dX9_isParallel_43 rfl (lv_at hl 1 rfl) ?_
      refine lv_iconst (v := 1) hx hb dX9_isParallel_44 (by decide) ?_
      refine lv_isub hx hb dX9_isParallel_45 ?_
      obtain ⟨u12, hu12, hf⟩ := ob hf
      obtain ⟨x13, hx13, hf⟩ := ob hf
      refine r_callV (As := [.int (x2 - 1)]) (rest := [.int x11]) (st1 := [.int x13, .int x11]) C hR (lv_sub hl [] rfl) (c_X9_cantusAt hx13) mv_X9_cantusAt ml_X9_107 ⟨rfl, rfl, (Nat.le_of_ble_eq_true rfl), (Nat.le_of_ble_eq_true rfl)⟩ (rv_obj C hR hu12 (q := (RX9, TX9, 17)) rfl) rfl rfl rfl (Nat.le_of_ble_eq_true rfl) ⟨(Nat.le_of_ble_eq_true rfl), (Nat.le_of_ble_eq_true rfl)⟩ dX9_isParallel_46 (fun H locs hR => ?_)
      obtain ⟨x14, hx14, hf⟩ := ob hf
      refine r_callS (As := [.int x11, .int x13]) (rest := []) (st1 := [.int x14]) C hR (lv_sub hl [] rfl) (c_X9_perfect hx14) ms_X9_perfect ml_X9_71 ⟨rfl, rfl, (Nat.le_of_ble_eq_true rfl), (Nat.le_of_ble_eq_true rfl)⟩ rfl rfl rfl (Nat.le_of_ble_eq_true rfl) ⟨(Nat.le_of_ble_eq_true rfl), (Nat.le_of_ble_eq_true rfl)⟩ dX9_isParallel_49 (fun H locs hR => ?_)
      refine lv_iload hx hb dX9_isParallel_52 (lv_at hl 0 rfl) ?_
      refine lv_icmp_ne (tgt := 101) hx hb dX9_isParallel_54 (by decide) (fun c54 => ?_) (fun c54 => ?_)
      · have hf := iq hf c54
        refine lv_iconst (v := 0) hx hb dX9_isParallel_101 (by decide) ?_
        obtain rfl := Option.some.inj hf
        exact r_iret C hR rfl (Nat.le_of_ble_eq_true rfl) (Nat.le_of_ble_eq_true rfl) dX9_isParallel_102
      · have hf := ip hf c54
        refine lv_aload_n hx hb dX9_isParallel_57 rfl (lv_at hl 2 rfl) ?_
        refine lv_iload_n hx hb dX9_isParallel_58 rfl (lv_at hl 4 rfl) ?_
        obtain ⟨u15, hu15, hf⟩ := ob hf
        obtain ⟨x16, hx16, hf⟩ := ob hf
        refine r_callV (As := [.int v2]) (rest := []) (st1 := [.int x16]) C hR (lv_sub hl [] rfl) (c_X9_line hx16) mv_X9_line ml_X9_87 ⟨rfl, rfl, (Nat.le_of_ble_eq_true rfl), (Nat.le_of_ble_eq_true rfl)⟩ (rv_obj C hR hu15 (q := (RX9, TX9, 17)) rfl) rfl rfl rfl (Nat.le_of_ble_eq_true rfl) ⟨(Nat.le_of_ble_eq_true rfl), (Nat.le_of_ble_eq_true rfl)⟩ dX9_isParallel_59 (fun H locs hR => ?_)
        obtain ⟨x17, hx17, hf⟩ := ob hf
        refine r_callS (As := [.int x16]) (rest := []) (st1 := [.int x17]) C hR (lv_sub hl [] rfl) (c_X9_pitchOf hx17) ms_X9_pitchOf ml_X9_61 ⟨rfl, rfl, (Nat.le_of_ble_eq_true rfl), (Nat.le_of_ble_eq_true rfl)⟩ rfl rfl rfl (Nat.le_of_ble_eq_true rfl) ⟨(Nat.le_of_ble_eq_true rfl), (Nat.le_of_ble_eq_true rfl)⟩ dX9_isParallel_62 (fun H locs hR => ?_)
        refine lv_aload_n hx hb dX9_isParallel_65 rfl (lv_at hl 2 rfl) ?_
        refine lv_iload_n hx hb dX9_isParallel_66 rfl (lv_at hl 3 rfl) ?_
        obtain ⟨u18, hu18, hf⟩ := ob hf
        obtain ⟨x19, hx19, hf⟩ := ob hf
        refine r_callV (As := [.int v1]) (rest := [.int x17]) (st1 := [.int x19, .int x17]) C hR (lv_sub hl [] rfl) (c_X9_line hx19) mv_X9_line ml_X9_87 ⟨rfl, rfl, (Nat.le_of_ble_eq_true rfl), (Nat.le_of_ble_eq_true rfl)⟩ (rv_obj C hR hu18 (q := (RX9, TX9, 17)) rfl) rfl rfl rfl (Nat.le_of_ble_eq_true rfl) ⟨(Nat.le_of_ble_eq_true rfl), (Nat.le_of_ble_eq_true rfl)⟩ dX9_isParallel_67 (fun H locs hR => ?_)
        obtain ⟨x20, hx20, hf⟩ := ob hf
        refine r_callS (As := [.int x19]) (rest := [.int x17]) (st1 := [.int x20, .int x17]) C hR (lv_sub hl [] rfl) (c_X9_pitchOf hx20) ms_X9_pitchOf ml_X9_61 ⟨rfl, rfl, (Nat.le_of_ble_eq_true rfl), (Nat.le_of_ble_eq_true rfl)⟩ rfl rfl rfl (Nat.le_of_ble_eq_true rfl) ⟨(Nat.le_of_ble_eq_true rfl), (Nat.le_of_ble_eq_true rfl)⟩ dX9_isParallel_70 (fun H locs hR => ?_)
        refine lv_icmp_eq (tgt := 101) hx hb dX9_isParallel_73 (by decide) (fun c73 => ?_) (fun c73 => ?_)
        · have hf := ip hf c73
          refine lv_iconst (v := 0) hx hb dX9_isParallel_101 (by decide) ?_
          obtain rfl := Option.some.inj hf
          exact r_iret C hR rfl (Nat.le_of_ble_eq_true rfl) (Nat.le_of_ble_eq_true rfl) dX9_isParallel_102
        · have hf := iq hf c73
          refine lv_aload_n hx hb dX9_isParallel_76 rfl (lv_at hl 2 rfl) ?_
          refine lv_iload_n hx hb dX9_isParallel_77 rfl (lv_at hl 1 rfl) ?_
          refine lv_iconst (v := 1) hx hb dX9_isParallel_78 (by decide) ?_
          refine lv_isub hx hb dX9_isParallel_79 ?_
          obtain ⟨u21, hu21, hf⟩ := ob hf
          obtain ⟨x22, hx22, hf⟩ := ob hf
          refine r_callV (As := [.int (x2 - 1)]) (rest := []) (st1 := [.int x22]) C hR (lv_sub hl [] rfl) (c_X9_cantusAt hx22) mv_X9_cantusAt ml_X9_107 ⟨rfl, rfl, (Nat.le_of_ble_eq_true rfl), (Nat.le_of_ble_eq_true rfl)⟩ (rv_obj C hR hu21 (q := (RX9, TX9, 17)) rfl) rfl rfl rfl (Nat.le_of_ble_eq_true rfl) ⟨(Nat.le_of_ble_eq_true rfl), (Nat.le_of_ble_eq_true rfl)⟩ dX9_isParallel_80 (fun H locs hR => ?_)
          obtain ⟨x23, hx23, hf⟩ := ob hf
          refine r_callS (As := [.int x22]) (rest := []) (st1 := [.int x23]) C hR (lv_sub hl [] rfl) (c_X9_pitchOf hx23) ms_X9_pitchOf ml_X9_61 ⟨rfl, rfl, (Nat.le_of_ble_eq_true rfl), (Nat.le_of_ble_eq_true rfl)⟩ rfl rfl rfl (Nat.le_of_ble_eq_true rfl) ⟨(Nat.le_of_ble_eq_true rfl), (Nat.le_of_ble_eq_true rfl)⟩ dX9_isParallel_83 (fun H locs hR => ?_)
          refine lv_aload_n hx hb dX9_isParallel_86 rfl (lv_at hl 2 rfl) ?_
          refine lv_iload_n hx hb dX9_isParallel_87 rfl (lv_at hl 1 rfl) ?_
          obtain ⟨u24, hu24, hf⟩ := ob hf
          obtain ⟨x25, hx25, hf⟩ := ob hf
          refine r_callV (As := [.int x2]) (rest := [.int x23]) (st1 := [.int x25, .int x23]) C hR (lv_sub hl [] rfl) (c_X9_cantusAt hx25) mv_X9_cantusAt ml_X9_107 ⟨rfl, rfl, (Nat.le_of_ble_eq_true rfl), (Nat.le_of_ble_eq_true rfl)⟩ (rv_obj C hR hu24 (q := (RX9, TX9, 17)) rfl) rfl rfl rfl (Nat.le_of_ble_eq_true rfl) ⟨(Nat.le_of_ble_eq_true rfl), (Nat.le_of_ble_eq_true rfl)⟩ dX9_isParallel_88 (fun H locs hR => ?_)
          obtain ⟨x26, hx26, hf⟩ := ob hf
          refine r_callS (As := [.int x25]) (rest := [.int x23]) (st1 := [.int x26, .int x23]) C hR (lv_sub hl [] rfl) (c_X9_pitchOf hx26) ms_X9_pitchOf ml_X9_61 ⟨rfl, rfl, (Nat.le_of_ble_eq_true rfl), (Nat.le_of_ble_eq_true rfl)⟩ rfl rfl rfl (Nat.le_of_ble_eq_true rfl) ⟨(Nat.le_of_ble_eq_true rfl), (Nat.le_of_ble_eq_true rfl)⟩ dX9_isParallel_91 (fun H locs hR => ?_)
          refine lv_icmp_eq (tgt := 101) hx hb dX9_isParallel_94 (by decide) (fun c94 => ?_) (fun c94 => ?_)
          · have hf := ip hf c94
            refine lv_iconst (v := 0) hx hb dX9_isParallel_101 (by decide) ?_
            obtain rfl := Option.some.inj hf
            exact r_iret C hR rfl (Nat.le_of_ble_eq_true rfl) (Nat.le_of_ble_eq_true rfl) dX9_isParallel_102
          · have hf := iq hf c94
            refine lv_iconst (v := 1) hx hb dX9_isParallel_97 (by decide) ?_
            refine lv_goto (tgt := 102) hx hb dX9_isParallel_98 (by decide) ?_
            obtain rfl := Option.some.inj hf
            exact r_iret C hR rfl (Nat.le_of_ble_eq_true rfl) (Nat.le_of_ble_eq_true rfl) dX9_isParallel_102
    · have hf := ip hf c32
      refine lv_iconst (v := 0) hx hb dX9_isParallel_35 (by decide) ?_
      obtain rfl := Option.some.inj hf
      exact r_iret C hR rfl (Nat.le_of_ble_eq_true rfl) (Nat.le_of_ble_eq_true rfl) dX9_isParallel_36
theorem c_X9_isParallel {K : WK} {l : Launch} {hs : AH} {v0 : Nat} {v1 : Int32} {v2 : Int32} {q : Int32} (hf : f_X9_isParallel v0 v1 v2 hs = some q) : MC K l yX9_isParallel cX9_isParallel 5 (Option.some Jvm.ClassFile.FieldType.boolean) rm_X9_isParallel [.ref (kA K v0), .int v1, .int v2] hs (some (.int q)) hs 0 0 :=
  MC.of (by decide +kernel) (Nat.le_of_ble_eq_true rfl) (fun p e s m args below meth c C _ hR ls hl => w_X9_isParallel_b0 C _ _ _ hs _ _ ls hf hR hl)
noncomputable def f_X9_direct_b135 (v0 : Nat) (v1 : Int32) (v3 : Int32) (t0 : Int32) (hs : AH) : Option (Int32) :=
  if t0 ≤ 1 then
  (
   some (-1))
  else
  (
   (chk hs v0 9).bind fun u1 =>
   (f_X9_line v0 v1 hs).bind fun x2 =>
   (f_X9_perfect x2 v3).bind fun x3 =>
   some x3)
noncomputable def f_X9_direct_b104 (v0 : Nat) (v1 : Int32) (v3 : Int32) (v4 : Int32) (t0 : Int32) (hs : AH) : Option (Int32) :=
  if t0 = 0 then
  (
   (f_X9_steps v4 v3).bind fun x1 =>
   f_X9_direct_b135 v0 v1 v3 x1 hs)
  else
  (
   (chk hs v0 9).bind fun u2 =>
   (f_X9_line v0 (v1 - 1) hs).bind fun x3 =>
   (chk hs v0 9).bind fun u4 =>
   (f_X9_line v0 v1 hs).bind fun x5 =>
   (f_X9_steps x3 x5).bind fun x6 =>
   f_X9_direct_b135 v0 v1 v3 x6 hs)
noncomputable def f_X9_direct (v0 : Nat) (v1 : Int32) (hs : AH) : Option (Int32) :=
  (chk hs v0 9).bind fun u1 =>
  (f_X9_barOf v0 v1 hs).bind fun x2 =>
  (chk hs v0 9).bind fun u3 =>
  (f_X9_cantusAt v0 x2 hs).bind fun x4 =>
  (chk hs v0 9).bind fun u5 =>
  (f_X9_cantusAt v0 (x2 - 1) hs).bind fun x6 =>
  (chk hs v0 9).bind fun u7 =>
  (f_X9_line v0 v1 hs).bind fun x8 =>
  (f_X9_perfect x8 x4).bind fun x9 =>
  if x9 = 0 then
  (
   some (-1))
  else
  (
   (chk hs v0 9).bind fun u10 =>
   (f_X9_line v0 (v1 - 1) hs).bind fun x11 =>
   if x11 = (-1) then
   (
    some (-1))
   else
   (
    (chk hs v0 9).bind fun u12 =>
    (f_X9_isParallel v0 v1 (v1 - 1) hs).bind fun x13 =>
    if x13 = 0 then
    (
     (chk hs v0 9).bind fun u14 =>
     (f_X9_line v0 (v1 - 1) hs).bind fun x15 =>
     (chk hs v0 9).bind fun u16 =>
     (f_X9_line v0 v1 hs).bind fun x17 =>
     (f_X9_direction x15 x17).bind fun x18 =>
     (f_X9_direction x6 x4).bind fun x19 =>
     if 0 < (x18 * x19) then
     (
      (chk hs v0 9).bind fun u20 =>
      (f_X9_line v0 v1 hs).bind fun x21 =>
      (f_X9_pitchOf x21).bind fun x22 =>
      (f_X9_pitchOf x4).bind fun x23 =>
      if x22 < x23 then
      (
       f_X9_direct_b104 v0 v1 x4 x6 0 hs)
      else
      (
       f_X9_direct_b104 v0 v1 x4 x6 1 hs))
     else
     (
      some (-1)))
    else
    (
     some (-1))))
abbrev rm_X9_direct : Room := { frames := 5, cells := 0, slots := 0, locals := 109 }
set_option maxHeartbeats 4000000 in
set_option maxRecDepth 100000 in
theorem w_X9_direct_b135 {K : WK} {p : Program} {l : Launch} {e : Env} {s : State} {m : MethodId} {args : Array Value} {below : List Frame} {meth : Method} {c : Code} (C : Cx K p s m args meth c RX9 cX9_direct 6 (Option.some Jvm.ClassFile.FieldType.int)) {q : Int32} : ∀ (v0 : Nat) (v1 : Int32) (v3 : Int32) (t0 : Int32) (hs : AH) (H : Heap) (locs : List Loc) (ls : Array Slot), f_X9_direct_b135 v0 v1 v3 t0 hs = some q → Rl K s hs H locs → lv_has ls 6 [(0, .ref (kA K v0)), (1, .int v1), (3, .int v3)] → W p l e rm_X9_direct s m args below meth c H locs 0 0 (MQ below (MQo K (some (.int q)) hs) args s 0 0 (kAx K)) (F0 m 135 ls [.int t0]) := by
  have hx := C.1
  have hb := C.2.1
  intro v0 v1 v3 t0 hs H locs ls hf hR hl
  rw [f_X9_direct_b135.eq_1] at hf
  refine lv_iconst (v := 1) hx hb dX9_direct_135 (by decide) ?_
  refine lv_icmp_le (tgt := 151) hx hb dX9_direct_136 (by decide) (fun c136 => ?_) (fun c136 => ?_)
  · have hf := ip hf c136
    refine lv_iconst (v := (-1)) hx hb dX9_direct_151 (by decide) ?_
    obtain rfl := Option.some.inj hf
    exact r_iret C hR rfl (Nat.le_of_ble_eq_true rfl) (Nat.le_of_ble_eq_true rfl) dX9_direct_152
  · have hf := iq hf c136
    refine lv_aload_n hx hb dX9_direct_139 rfl (lv_at hl 0 rfl) ?_
    refine lv_iload_n hx hb dX9_direct_140 rfl (lv_at hl 1 rfl) ?_
    obtain ⟨u1, hu1, hf⟩ := ob hf
    obtain ⟨x2, hx2, hf⟩ := ob hf
    refine r_callV (As := [.int v1]) (rest := []) (st1 := [.int x2]) C hR (lv_sub hl [] rfl) (c_X9_line hx2) mv_X9_line ml_X9_87 ⟨rfl, rfl, (Nat.le_of_ble_eq_true rfl), (Nat.le_of_ble_eq_true rfl)⟩ (rv_obj C hR hu1 (q := (RX9, TX9, 17)) rfl) rfl rfl rfl (Nat.le_of_ble_eq_true rfl) ⟨(Nat.le_of_ble_eq_true rfl), (Nat.le_of_ble_eq_true rfl)⟩ dX9_direct_141 (fun H locs hR => ?_)
    refine lv_iload_n hx hb dX9_direct_144 rfl (lv_at hl 2 rfl) ?_
    obtain ⟨x3, hx3, hf⟩ := ob hf
    refine r_callS (As := [.int x2, .int v3]) (rest := []) (st1 := [.int x3]) C hR (lv_sub hl [] rfl) (c_X9_perfect hx3) ms_X9_perfect ml_X9_71 ⟨rfl, rfl, (Nat.le_of_ble_eq_true rfl), (Nat.le_of_ble_eq_true rfl)⟩ rfl rfl rfl (Nat.le_of_ble_eq_true rfl) ⟨(Nat.le_of_ble_eq_true rfl), (Nat.le_of_ble_eq_true rfl)⟩ dX9_direct_145 (fun H locs hR => ?_)
    refine lv_goto (tgt := 152) hx hb dX9_direct_148 (by decide) ?_
    obtain rfl := Option.some.inj hf
    exact r_iret C hR rfl (Nat.le_of_ble_eq_true rfl) (Nat.le_of_ble_eq_true rfl) dX9_direct_152
set_option maxHeartbeats 4000000 in
set_option maxRecDepth 100000 in
theorem w_X9_direct_b104 {K : WK} {p : Program} {l : Launch} {e : Env} {s : State} {m : MethodId} {args : Array Value} {below : List Frame} {meth : Method} {c : Code} (C : Cx K p s m args meth c RX9 cX9_direct 6 (Option.some Jvm.ClassFile.FieldType.int)) {q : Int32} : ∀ (v0 : Nat) (v1 : Int32) (v3 : Int32) (v4 : Int32) (t0 : Int32) (hs : AH) (H : Heap) (locs : List Loc) (ls : Array Slot), f_X9_direct_b104 v0 v1 v3 v4 t0 hs = some q → Rl K s hs H locs → lv_has ls 6 [(0, .ref (kA K v0)), (1, .int v1), (3, .int v3), (4, .int v4)] → W p l e rm_X9_direct s m args below meth c H locs 0 0 (MQ below (MQo K (some (.int q)) hs) args s 0 0 (kAx K)) (F0 m 104 ls [.int t0]) := by
  have hx := C.1
  have hb := C.2.1
  intro v0 v1 v3 v4 t0 hs H locs ls hf hR hl
  rw [f_X9_direct_b104.eq_1] at hf
  refine lv_istore (lv' := [(5, .int t0), (0, .ref (kA K v0)), (1, .int v1), (3, .int v3), (4, .int v4)]) hx hb dX9_direct_104 hl (by decide) rfl (fun ls hl => ?_)
  refine lv_iload hx hb dX9_direct_106 (lv_at hl 0 rfl) ?_
  refine lv_if_eq (tgt := 129) hx hb dX9_direct_108 (by decide) (fun c108 => ?_) (fun c108 => ?_)
  · have hf := ip hf c108
    refine lv_iload hx hb dX9_direct_129 (lv_at hl 4 rfl) ?_
    refine lv_iload_n hx hb dX9_direct_131 rfl (lv_at hl 3 rfl) ?_
    obtain ⟨x1, hx1, hf⟩ := ob hf
    refine r_callS (As := [.int v4, .int v3]) (rest := []) (st1 := [.int x1]) C hR (lv_sub hl [] rfl) (c_X9_steps hx1) ms_X9_steps ml_X9_64 ⟨rfl, rfl, (Nat.le_of_ble_eq_true rfl), (Nat.le_of_ble_eq_true rfl)⟩ rfl rfl rfl (Nat.le_of_ble_eq_true rfl) ⟨(Nat.le_of_ble_eq_true rfl), (Nat.le_of_ble_eq_true rfl)⟩ dX9_direct_132 (fun H locs hR => ?_)
    exact w_X9_direct_b135 C  _ _ _ _ _ _ _ _ hf hR (lv_sub hl [1, 2, 3] rfl)
  · have hf := iq hf c108
    refine lv_aload_n hx hb dX9_direct_111 rfl (lv_at hl 1 rfl) ?_
    refine lv_iload_n hx hb dX9_direct_112 rfl (lv_at hl 2 rfl) ?_
    refine lv_iconst (v := 1) hx hb dX9_direct_113 (by decide) ?_
    refine lv_isub hx hb dX9_direct_114 ?_
    obtain ⟨u2, hu2, hf⟩ := ob hf
    obtain ⟨x3, hx3, hf⟩ := ob hf
    refine r_callV (As := [.int (v1 - 1)]) (rest := []) (st1 := [.int x3]) C hR (lv_sub hl [] rfl) (c_X9_line hx3) mv_X9_line ml_X9_87 ⟨rfl, rfl, (Nat.le_of_ble_eq_true rfl), (Nat.le_of_ble_eq_true rfl)⟩ (rv_obj C hR hu2 (q := (RX9, TX9, 17)) rfl) rfl rfl rfl (Nat.le_of_ble_eq_true rfl) ⟨(Nat.le_of_ble_eq_true rfl), (Nat.le_of_ble_eq_true rfl)⟩ dX9_direct_115 (fun H locs hR => ?_)
    refine lv_aload_n hx hb dX9_direct_118 rfl (lv_at hl 1 rfl) ?_
    refine lv_iload_n hx hb dX9_direct_119 rfl (lv_at hl 2 rfl) ?_
    obtain ⟨u4, hu4, hf⟩ := ob hf
    obtain ⟨x5, hx5, hf⟩ := ob hf
    refine r_callV (As := [.int v1]) (rest := [.int x3]) (st1 := [.int x5, .int x3]) C hR (lv_sub hl [] rfl) (c_X9_line hx5) mv_X9_line ml_X9_87 ⟨rfl, rfl, (Nat.le_of_ble_eq_true rfl), (Nat.le_of_ble_eq_true rfl)⟩ (rv_obj C hR hu4 (q := (RX9, TX9, 17)) rfl) rfl rfl rfl (Nat.le_of_ble_eq_true rfl) ⟨(Nat.le_of_ble_eq_true rfl), (Nat.le_of_ble_eq_true rfl)⟩ dX9_direct_120 (fun H locs hR => ?_)
    obtain ⟨x6, hx6, hf⟩ := ob hf
    refine r_callS (As := [.int x3, .int x5]) (rest := []) (st1 := [.int x6]) C hR (lv_sub hl [] rfl) (c_X9_steps hx6) ms_X9_steps ml_X9_64 ⟨rfl, rfl, (Nat.le_of_ble_eq_true rfl), (Nat.le_of_ble_eq_true rfl)⟩ rfl rfl rfl (Nat.le_of_ble_eq_true rfl) ⟨(Nat.le_of_ble_eq_true rfl), (Nat.le_of_ble_eq_true rfl)⟩ dX9_direct_123 (fun H locs hR => ?_)
    refine lv_goto (tgt := 135) hx hb dX9_direct_126 (by decide) ?_
    exact w_X9_direct_b135 C  _ _ _ _ _ _ _ _ hf hR (lv_sub hl [1, 2, 3] rfl)
set_option maxHeartbeats 4000000 in
set_option maxRecDepth 100000 in
theorem w_X9_direct_b0 {K : WK} {p : Program} {l : Launch} {e : Env} {s : State} {m : MethodId} {args : Array Value} {below : List Frame} {meth : Method} {c : Code} (C : Cx K p s m args meth c RX9 cX9_direct 6 (Option.some Jvm.ClassFile.FieldType.int)) {q : Int32} : ∀ (v0 : Nat) (v1 : Int32) (hs : AH) (H : Heap) (locs : List Loc) (ls : Array Slot), f_X9_direct v0 v1 hs = some q → Rl K s hs H locs → lv_has ls 6 [(0, .ref (kA K v0)), (1, .int v1)] → W p l e rm_X9_direct s m args below meth c H locs 0 0 (MQ below (MQo K (some (.int q)) hs) args s 0 0 (kAx K)) (F0 m 0 ls []) := by
  have hx := C.1
  have hb := C.2.1
  intro v0 v1 hs H locs ls hf hR hl
  rw [f_X9_direct.eq_1] at hf
  refine lv_aload_n hx hb dX9_direct_0 rfl (lv_at hl 0 rfl) ?_
  refine lv_iload_n hx hb dX9_direct_1 rfl (lv_at hl 1 rfl) ?_
  obtain ⟨u1, hu1, hf⟩ := ob hf
  obtain ⟨x2, hx2, hf⟩ := ob hf
  refine r_callV (As := [.int v1]) (rest := []) (st1 := [.int x2]) C hR (lv_sub hl [] rfl) (c_X9_barOf hx2) mv_X9_barOf ml_X9_104 ⟨rfl, rfl, (Nat.le_of_ble_eq_true rfl), (Nat.le_of_ble_eq_true rfl)⟩ (rv_obj C hR hu1 (q := (RX9, TX9, 17)) rfl) rfl rfl rfl (Nat.le_of_ble_eq_true rfl) ⟨(Nat.le_of_ble_eq_true rfl), (Nat.le_of_ble_eq_true rfl)⟩ dX9_direct_2 (fun H locs hR => ?_)
  refine lv_istore_n (lv' := [(2, .int x2), (0, .ref (kA K v0)), (1, .int v1)]) hx hb dX9_direct_5 rfl hl (by decide) rfl (fun ls hl => ?_)
  refine lv_aload_n hx hb dX9_direct_6 rfl (lv_at hl 1 rfl) ?_
  refine lv_iload_n hx hb dX9_direct_7 rfl (lv_at hl 0 rfl) ?_
  obtain ⟨u3, hu3, hf⟩ := ob hf
  obtain ⟨x4, hx4, hf⟩ := ob hf
  refine r_callV (As := [.int x2]) (rest := []) (st1 := [.int x4]) C hR (lv_sub hl [] rfl) (c_X9_cantusAt hx4) mv_X9_cantusAt ml_X9_107 ⟨rfl, rfl, (Nat.le_of_ble_eq_true rfl), (Nat.le_of_ble_eq_true rfl)⟩ (rv_obj C hR hu3 (q := (RX9, TX9, 17)) rfl) rfl rfl rfl (Nat.le_of_ble_eq_true rfl) ⟨(Nat.le_of_ble_eq_true rfl), (Nat.le_of_ble_eq_true rfl)⟩ dX9_direct_8 (fun H locs hR => ?_)
  refine lv_istore_n (lv' := [(3, .int x4), (2, .int x2), (0, .ref (kA K v0)), (1, .int v1)]) hx hb dX9_direct_11 rfl hl (by decide) rfl (fun ls hl => ?_)
  refine lv_aload_n hx hb dX9_direct_12 rfl (lv_at hl 2 rfl) ?_
  refine lv_iload_n hx hb dX9_direct_13 rfl (lv_at hl 1 rfl) ?_
  refine lv_iconst (v := 1) hx hb dX9_direct_14 (by decide) ?_
  refine lv_isub hx hb dX9_direct_15 ?_
  obtain ⟨u5, hu5, hf⟩ := ob hf
  obtain ⟨x6, hx6, hf⟩ := ob hf
  refine r_callV (As := [.int (x2 - 1)]) (rest := []) (st1 := [.int x6]) C hR (lv_sub hl [] rfl) (c_X9_cantusAt hx6) mv_X9_cantusAt ml_X9_107 ⟨rfl, rfl, (Nat.le_of_ble_eq_true rfl), (Nat.le_of_ble_eq_true rfl)⟩ (rv_obj C hR hu5 (q := (RX9, TX9, 17)) rfl) rfl rfl rfl (Nat.le_of_ble_eq_true rfl) ⟨(Nat.le_of_ble_eq_true rfl), (Nat.le_of_ble_eq_true rfl)⟩ dX9_direct_16 (fun H locs hR => ?_)
  refine lv_istore (lv' := [(4, .int x6), (3, .int x4), (2, .int x2), (0, .ref (kA K v0)), (1, .int v1)]) hx hb dX9_direct_19 hl (by decide) rfl (fun ls hl => ?_)
  refine lv_aload_n hx hb dX9_direct_21 rfl (lv_at hl 3 rfl) ?_
  refine lv_iload_n hx hb dX9_direct_22 rfl (lv_at hl 4 rfl) ?_
  obtain ⟨u7, hu7, hf⟩ := ob hf
  obtain ⟨x8, hx8, hf⟩ := ob hf
  refine r_callV (As := [.int v1]) (rest := []) (st1 := [.int x8]) C hR (lv_sub hl [] rfl) (c_X9_line hx8) mv_X9_line ml_X9_87 ⟨rfl, rfl, (Nat.le_of_ble_eq_true rfl), (Nat.le_of_ble_eq_true rfl)⟩ (rv_obj C hR hu7 (q := (RX9, TX9, 17)) rfl) rfl rfl rfl (Nat.le_of_ble_eq_true rfl) ⟨(Nat.le_of_ble_eq_true rfl), (Nat.le_of_ble_eq_true rfl)⟩ dX9_direct_23 (fun H locs hR => ?_)
  refine lv_iload_n hx hb dX9_direct_26 rfl (lv_at hl 1 rfl) ?_
  obtain ⟨x9, hx9, hf⟩ := ob hf
  refine r_callS (As := [.int x8, .int x4]) (rest := []) (st1 := [.int x9]) C hR (lv_sub hl [] rfl) (c_X9_perfect hx9) ms_X9_perfect ml_X9_71 ⟨rfl, rfl, (Nat.le_of_ble_eq_true rfl), (Nat.le_of_ble_eq_true rfl)⟩ rfl rfl rfl (Nat.le_of_ble_eq_true rfl) ⟨(Nat.le_of_ble_eq_true rfl), (Nat.le_of_ble_eq_true rfl)⟩ dX9_direct_27 (fun H locs hR => ?_)
  refine lv_if_eq (tgt := 55) hx hb dX9_direct_30 (by decide) (fun c30 => ?_) (fun c30 => ?_)
  · have hf := ip hf c30
    refine lv_iconst (v := (-1)) hx hb dX9_direct_55 (by decide) ?_
    obtain rfl := Option.some.inj hf
    exact r_iret C hR rfl (Nat.le_of_ble_eq_true rfl) (Nat.le_of_ble_eq_true rfl) dX9_direct_56
  · have hf := iq hf c30
    refine lv_aload_n hx hb dX9_direct_33 rfl (lv_at hl 3 rfl) ?_
    refine lv_iload_n hx hb dX9_direct_34 rfl (lv_at hl 4 rfl) ?_
    refine lv_iconst (v := 1) hx hb dX9_direct_35 (by decide) ?_
    refine lv_isub hx hb dX9_direct_36 ?_
    obtain ⟨u10, hu10, hf⟩ := ob hf
    obtain ⟨x11, hx11, hf⟩ := ob hf
    refine r_callV (As := [.int (v1 - 1)]) (rest := []) (st1 := [.int x11]) C hR (lv_sub hl [] rfl) (c_X9_line hx11) mv_X9_line ml_X9_87 ⟨rfl, rfl, (Nat.le_of_ble_eq_true rfl), (Nat.le_of_ble_eq_true rfl)⟩ (rv_obj C hR hu10 (q := (RX9, TX9, 17)) rfl) rfl rfl rfl (Nat.le_of_ble_eq_true rfl) ⟨(Nat.le_of_ble_eq_true rfl), (Nat.le_of_ble_eq_true rfl)⟩ dX9_direct_37 (fun H locs hR => ?_)
    refine lv_iconst (v := (-1)) hx hb dX9_direct_40 (by decide) ?_
    refine lv_icmp_eq (tgt := 55) hx hb dX9_direct_41 (by decide) (fun c41 => ?_) (fun c41 => ?_)
    · have hf := ip hf c41
      refine lv_iconst (v := (-1)) hx hb dX9_direct_55 (by decide) ?_
      obtain rfl := Option.some.inj hf
      exact r_iret C hR rfl (Nat.le_of_ble_eq_true rfl) (Nat.le_of_ble_eq_true rfl) dX9_direct_56
    · have hf := iq hf c41
      refine lv_aload_n hx hb dX9_direct_44 rfl (lv_at hl 3 rfl) ?_
      refine lv_iload_n hx hb dX9_direct_45 rfl (lv_at hl 4 rfl) ?_
      refine lv_iload_n hx hb dX9_direct_46 rfl (lv_at hl 4 rfl) ?_
      refine lv_iconst (v := 1) hx hb dX9_direct_47 (by decide) ?_
      refine lv_isub hx hb dX9_direct_48 ?_
      obtain ⟨u12, hu12, hf⟩ := ob hf
      obtain ⟨x13, hx13, hf⟩ := ob hf
      refine r_callV (As := [.int v1, .int (v1 - 1)]) (rest := []) (st1 := [.int x13]) C hR (lv_sub hl [] rfl) (c_X9_isParallel hx13) mv_X9_isParallel ml_X9_113 ⟨rfl, rfl, (Nat.le_of_ble_eq_true rfl), (Nat.le_of_ble_eq_true rfl)⟩ (rv_obj C hR hu12 (q := (RX9, TX9, 17)) rfl) rfl rfl rfl (Nat.le_of_ble_eq_true rfl) ⟨(Nat.le_of_ble_eq_true rfl), (Nat.le_of_ble_eq_true rfl)⟩ dX9_direct_49 (fun H locs hR => ?_)
      refine lv_if_eq (tgt := 57) hx hb dX9_direct_52 (by decide) (fun c52 => ?_) (fun c52 => ?_)
      · have hf := ip hf c52
        refine lv_aload_n hx hb dX9_direct_57 rfl (lv_at hl 3 rfl) ?_
        refine lv_iload_n hx hb dX9_direct_58 rfl (lv_at hl 4 rfl) ?_
        refine lv_iconst (v := 1) hx hb dX9_direct_59 (by decide) ?_
        refine lv_isub hx hb dX9_direct_60 ?_
        obtain ⟨u14, hu14, hf⟩ := ob hf
        obtain ⟨x15, hx15, hf⟩ := ob hf
        refine r_callV (As := [.int (v1 - 1)]) (rest := []) (st1 := [.int x15]) C hR (lv_sub hl [] rfl) (c_X9_line hx15) mv_X9_line ml_X9_87 ⟨rfl, rfl, (Nat.le_of_ble_eq_true rfl), (Nat.le_of_ble_eq_true rfl)⟩ (rv_obj C hR hu14 (q := (RX9, TX9, 17)) rfl) rfl rfl rfl (Nat.le_of_ble_eq_true rfl) ⟨(Nat.le_of_ble_eq_true rfl), (Nat.le_of_ble_eq_true rfl)⟩ dX9_direct_61 (fun H locs hR => ?_)
        refine lv_aload_n hx hb dX9_direct_64 rfl (lv_at hl 3 rfl) ?_
        refine lv_iload_n hx hb dX9_direct_65 rfl (lv_at hl 4 rfl) ?_
        obtain ⟨u16, hu16, hf⟩ := ob hf
        obtain ⟨x17, hx17, hf⟩ := ob hf
        refine r_callV (As := [.int v1]) (rest := [.int x15]) (st1 := [.int x17, .int x15]) C hR (lv_sub hl [] rfl) (c_X9_line hx17) mv_X9_line ml_X9_87 ⟨rfl, rfl, (Nat.le_of_ble_eq_true rfl), (Nat.le_of_ble_eq_true rfl)⟩ (rv_obj C hR hu16 (q := (RX9, TX9, 17)) rfl) rfl rfl rfl (Nat.le_of_ble_eq_true rfl) ⟨(Nat.le_of_ble_eq_true rfl), (Nat.le_of_ble_eq_true rfl)⟩ dX9_direct_66 (fun H locs hR => ?_)
        obtain ⟨x18, hx18, hf⟩ := ob hf
        refine r_callS (As := [.int x15, .int x17]) (rest := []) (st1 := [.int x18]) C hR (lv_sub hl [] rfl) (c_X9_direction hx18) ms_X9_direction ml_X9_93 ⟨rfl, rfl, (Nat.le_of_ble_eq_true rfl), (Nat.le_of_ble_eq_true rfl)⟩ rfl rfl rfl (Nat.le_of_ble_eq_true rfl) ⟨(Nat.le_of_ble_eq_true rfl), (Nat.le_of_ble_eq_true rfl)⟩ dX9_direct_69 (fun H locs hR => ?_)
        refine lv_iload hx hb dX9_direct_72 (lv_at hl 0 rfl) ?_
        refine lv_iload_n hx hb dX9_direct_74 rfl (lv_at hl 1 rfl) ?_
        obtain ⟨x19, hx19, hf⟩ := ob hf
        refine r_callS (As := [.int x6, .int x4]) (rest := [.int x18]) (st1 := [.int x19, .int x18]) C hR (lv_sub hl [] rfl) (c_X9_direction hx19) ms_X9_direction ml_X9_93 ⟨rfl, rfl, (Nat.le_of_ble_eq_true rfl), (Nat.le_of_ble_eq_true rfl)⟩ rfl rfl rfl (Nat.le_of_ble_eq_true rfl) ⟨(Nat.le_of_ble_eq_true rfl), (Nat.le_of_ble_eq_true rfl)⟩ dX9_direct_75 (fun H locs hR => ?_)
        refine lv_imul hx hb dX9_direct_78 ?_
        refine lv_if_gt (tgt := 84) hx hb dX9_direct_79 (by decide) (fun c79 => ?_) (fun c79 => ?_)
        · have hf := ip hf c79
          refine lv_aload_n hx hb dX9_direct_84 rfl (lv_at hl 3 rfl) ?_
          refine lv_iload_n hx hb dX9_direct_85 rfl (lv_at hl 4 rfl) ?_
          obtain ⟨u20, hu20, hf⟩ := ob hf
          obtain ⟨x21, hx21, hf⟩ := ob hf
          refine r_callV (As := [.int v1]) (rest := []) (st1 := [.int x21]) C hR (lv_sub hl [] rfl) (c_X9_line hx21) mv_X9_line ml_X9_87 ⟨rfl, rfl, (Nat.le_of_ble_eq_true rfl), (Nat.le_of_ble_eq_true rfl)⟩ (rv_obj C hR hu20 (q := (RX9, TX9, 17)) rfl) rfl rfl rfl (Nat.le_of_ble_eq_true rfl) ⟨(Nat.le_of_ble_eq_true rfl), (Nat.le_of_ble_eq_true rfl)⟩ dX9_direct_86 (fun H locs hR => ?_)
          obtain ⟨x22, hx22, hf⟩ := ob hf
          refine r_callS (As := [.int x21]) (rest := []) (st1 := [.int x22]) C hR (lv_sub hl [] rfl) (c_X9_pitchOf hx22) ms_X9_pitchOf ml_X9_61 ⟨rfl, rfl, (Nat.le_of_ble_eq_true rfl), (Nat.le_of_ble_eq_true rfl)⟩ rfl rfl rfl (Nat.le_of_ble_eq_true rfl) ⟨(Nat.le_of_ble_eq_true rfl), (Nat.le_of_ble_eq_true rfl)⟩ dX9_direct_89 (fun H locs hR => ?_)
          refine lv_iload_n hx hb dX9_direct_92 rfl (lv_at hl 1 rfl) ?_
          obtain ⟨x23, hx23, hf⟩ := ob hf
          refine r_callS (As := [.int x4]) (rest := [.int x22]) (st1 := [.int x23, .int x22]) C hR (lv_sub hl [] rfl) (c_X9_pitchOf hx23) ms_X9_pitchOf ml_X9_61 ⟨rfl, rfl, (Nat.le_of_ble_eq_true rfl), (Nat.le_of_ble_eq_true rfl)⟩ rfl rfl rfl (Nat.le_of_ble_eq_true rfl) ⟨(Nat.le_of_ble_eq_true rfl), (Nat.le_of_ble_eq_true rfl)⟩ dX9_direct_93 (fun H locs hR => ?_)
          refine lv_icmp_lt (tgt := 103) hx hb dX9_direct_96 (by decide) (fun c96 => ?_) (fun c96 => ?_)
          · have hf := ip hf c96
            refine lv_iconst (v := 0) hx hb dX9_direct_103 (by decide) ?_
            exact w_X9_direct_b104 C  _ _ _ _ _ _ _ _ _ hf hR (lv_sub hl [3, 4, 1, 0] rfl)
          · have hf := iq hf c96
            refine lv_iconst (v := 1) hx hb dX9_direct_99 (by decide) ?_
            refine lv_goto (tgt := 104) hx hb dX9_direct_100 (by decide) ?_
            exact w_X9_direct_b104 C  _ _ _ _ _ _ _ _ _ hf hR (lv_sub hl [3, 4, 1, 0] rfl)
        · have hf := iq hf c79
          refine lv_iconst (v := (-1)) hx hb dX9_direct_82 (by decide) ?_
          obtain rfl := Option.some.inj hf
          exact r_iret C hR rfl (Nat.le_of_ble_eq_true rfl) (Nat.le_of_ble_eq_true rfl) dX9_direct_83
      · have hf := iq hf c52
        refine lv_iconst (v := (-1)) hx hb dX9_direct_55 (by decide) ?_
        obtain rfl := Option.some.inj hf
        exact r_iret C hR rfl (Nat.le_of_ble_eq_true rfl) (Nat.le_of_ble_eq_true rfl) dX9_direct_56
theorem c_X9_direct {K : WK} {l : Launch} {hs : AH} {v0 : Nat} {v1 : Int32} {q : Int32} (hf : f_X9_direct v0 v1 hs = some q) : MC K l yX9_direct cX9_direct 6 (Option.some Jvm.ClassFile.FieldType.int) rm_X9_direct [.ref (kA K v0), .int v1] hs (some (.int q)) hs 0 0 :=
  MC.of (by decide +kernel) (Nat.le_of_ble_eq_true rfl) (fun p e s m args below meth c C _ hR ls hl => w_X9_direct_b0 C _ _ hs _ _ ls hf hR hl)
noncomputable def f_X9_cadence (v0 : Nat) (v1 : Int32) (v2 : Int32) (hs : AH) : Option (Int32) :=
  (gR hs v0 9 1).bind fun x1 =>
  (aN 0 hs x1 0).bind fun x2 =>
  (chk hs v0 9).bind fun u3 =>
  (f_X9_cantusAt v0 (x2 - 1) hs).bind fun x4 =>
  (chk hs v0 9).bind fun u5 =>
  (f_X9_line v0 v1 hs).bind fun x6 =>
  (f_X9_perfect x6 x4).bind fun x7 =>
  if x7 = 8 then
  (
   (chk hs v0 9).bind fun u8 =>
   (f_X9_isNote v0 (v1 - 1) v2 hs).bind fun x9 =>
   if x9 = 0 then
   (
    some 2)
   else
   (
    (chk hs v0 9).bind fun u10 =>
    (f_X9_line v0 (v1 - 1) hs).bind fun x11 =>
    (chk hs v0 9).bind fun u12 =>
    (f_X9_line v0 v1 hs).bind fun x13 =>
    (f_X9_steps x11 x13).bind fun x14 =>
    if x14 = 1 then
    (
     (chk hs v0 9).bind fun u15 =>
     (f_X9_line v0 (v1 - 1) hs).bind fun x16 =>
     (chk hs v0 9).bind fun u17 =>
     (f_X9_line v0 v1 hs).bind fun x18 =>
     (f_X9_direction x16 x18).bind fun x19 =>
     (chk hs v0 9).bind fun u20 =>
     (f_X9_cantusAt v0 ((x2 - 1) - 1) hs).bind fun x21 =>
     (f_X9_steps x21 x4).bind fun x22 =>
     if x22 = 1 then
     (
      (chk hs v0 9).bind fun u23 =>
      (f_X9_cantusAt v0 ((x2 - 1) - 1) hs).bind fun x24 =>
      (f_X9_direction x24 x4).bind fun x25 =>
      if (x25 * x19) < 0 then
      (
       if x19 ≤ 0 then
       (
        (chk hs v0 9).bind fun u26 =>
        (f_X9_cantusAt v0 ((x2 - 1) - 1) hs).bind fun x27 =>
        (f_X9_width x27 x4).bind fun x28 =>
        if x28 = 1 then
        (
         some (-1))
        else
        (
         some 4))
       else
       (
        (chk hs v0 9).bind fun u29 =>
        (f_X9_line v0 (v1 - 1) hs).bind fun x30 =>
        (chk hs v0 9).bind fun u31 =>
        (f_X9_line v0 v1 hs).bind fun x32 =>
        (f_X9_width x30 x32).bind fun x33 =>
        if x33 = 1 then
        (
         some (-1))
        else
        (
         some 4)))
      else
      (
       some 3))
     else
     (
      some 3))
    else
    (
     some 2)))
  else
  (
   some 1)
abbrev rm_X9_cadence : Room := { frames := 4, cells := 0, slots := 0, locals := 85 }
set_option maxHeartbeats 4000000 in
set_option maxRecDepth 100000 in
theorem w_X9_cadence_b0 {K : WK} {p : Program} {l : Launch} {e : Env} {s : State} {m : MethodId} {args : Array Value} {below : List Frame} {meth : Method} {c : Code} (C : Cx K p s m args meth c RX9 cX9_cadence 7 (Option.some Jvm.ClassFile.FieldType.int)) {q : Int32} : ∀ (v0 : Nat) (v1 : Int32) (v2 : Int32) (hs : AH) (H : Heap) (locs : List Loc) (ls : Array Slot), f_X9_cadence v0 v1 v2 hs = some q → Rl K s hs H locs → lv_has ls 7 [(0, .ref (kA K v0)), (1, .int v1), (2, .int v2)] → W p l e rm_X9_cadence s m args below meth c H locs 0 0 (MQ below (MQo K (some (.int q)) hs) args s 0 0 (kAx K)) (F0 m 0 ls []) := by
  have hx := C.1
  have hb := C.2.1
  intro v0 v1 v2 hs H locs ls hf hR hl
  rw [f_X9_cadence.eq_1] at hf
  refine lv_aload_n hx hb dX9_cadence_0 rfl (lv_at hl 0 rfl) ?_
  obtain ⟨x1, hx1, hf⟩ := ob hf
  refine r_getR C hR hx1 fl_X9_9 dX9_cadence_1 ?_
  refine lv_iconst (v := 0) hx hb dX9_cadence_4 (by decide) ?_
  obtain ⟨x2, hx2, hf⟩ := ob hf
  refine r_iald C hR hx2 dX9_cadence_5 ?_
  refine lv_iconst (v := 1) hx hb dX9_cadence_6 (by decide) ?_
  refine lv_isub hx hb dX9_cadence_7 ?_
  refine lv_istore_n (lv' := [(3, .int (x2 - 1)), (0, .ref (kA K v0)), (1, .int v1), (2, .int v2)]) hx hb dX9_cadence_8 rfl hl (by decide) rfl (fun ls hl => ?_)
  refine lv_aload_n hx hb dX9_cadence_9 rfl (lv_at hl 1 rfl) ?_
  refine lv_iload_n hx hb dX9_cadence_10 rfl (lv_at hl 0 rfl) ?_
  obtain ⟨u3, hu3, hf⟩ := ob hf
  obtain ⟨x4, hx4, hf⟩ := ob hf
  refine r_callV (As := [.int (x2 - 1)]) (rest := []) (st1 := [.int x4]) C hR (lv_sub hl [] rfl) (c_X9_cantusAt hx4) mv_X9_cantusAt ml_X9_107 ⟨rfl, rfl, (Nat.le_of_ble_eq_true rfl), (Nat.le_of_ble_eq_true rfl)⟩ (rv_obj C hR hu3 (q := (RX9, TX9, 17)) rfl) rfl rfl rfl (Nat.le_of_ble_eq_true rfl) ⟨(Nat.le_of_ble_eq_true rfl), (Nat.le_of_ble_eq_true rfl)⟩ dX9_cadence_11 (fun H locs hR => ?_)
  refine lv_istore (lv' := [(4, .int x4), (3, .int (x2 - 1)), (0, .ref (kA K v0)), (1, .int v1), (2, .int v2)]) hx hb dX9_cadence_14 hl (by decide) rfl (fun ls hl => ?_)
  refine lv_aload_n hx hb dX9_cadence_16 rfl (lv_at hl 2 rfl) ?_
  refine lv_iload_n hx hb dX9_cadence_17 rfl (lv_at hl 3 rfl) ?_
  obtain ⟨u5, hu5, hf⟩ := ob hf
  obtain ⟨x6, hx6, hf⟩ := ob hf
  refine r_callV (As := [.int v1]) (rest := []) (st1 := [.int x6]) C hR (lv_sub hl [] rfl) (c_X9_line hx6) mv_X9_line ml_X9_87 ⟨rfl, rfl, (Nat.le_of_ble_eq_true rfl), (Nat.le_of_ble_eq_true rfl)⟩ (rv_obj C hR hu5 (q := (RX9, TX9, 17)) rfl) rfl rfl rfl (Nat.le_of_ble_eq_true rfl) ⟨(Nat.le_of_ble_eq_true rfl), (Nat.le_of_ble_eq_true rfl)⟩ dX9_cadence_18 (fun H locs hR => ?_)
  refine lv_iload hx hb dX9_cadence_21 (lv_at hl 0 rfl) ?_
  obtain ⟨x7, hx7, hf⟩ := ob hf
  refine r_callS (As := [.int x6, .int x4]) (rest := []) (st1 := [.int x7]) C hR (lv_sub hl [] rfl) (c_X9_perfect hx7) ms_X9_perfect ml_X9_71 ⟨rfl, rfl, (Nat.le_of_ble_eq_true rfl), (Nat.le_of_ble_eq_true rfl)⟩ rfl rfl rfl (Nat.le_of_ble_eq_true rfl) ⟨(Nat.le_of_ble_eq_true rfl), (Nat.le_of_ble_eq_true rfl)⟩ dX9_cadence_23 (fun H locs hR => ?_)
  refine lv_bipush (v := 8) hx hb dX9_cadence_26 (by decide) ?_
  refine lv_icmp_eq (tgt := 33) hx hb dX9_cadence_28 (by decide) (fun c28 => ?_) (fun c28 => ?_)
  · have hf := ip hf c28
    refine lv_aload_n hx hb dX9_cadence_33 rfl (lv_at hl 2 rfl) ?_
    refine lv_iload_n hx hb dX9_cadence_34 rfl (lv_at hl 3 rfl) ?_
    refine lv_iconst (v := 1) hx hb dX9_cadence_35 (by decide) ?_
    refine lv_isub hx hb dX9_cadence_36 ?_
    refine lv_iload_n hx hb dX9_cadence_37 rfl (lv_at hl 4 rfl) ?_
    obtain ⟨u8, hu8, hf⟩ := ob hf
    obtain ⟨x9, hx9, hf⟩ := ob hf
    refine r_callV (As := [.int (v1 - 1), .int v2]) (rest := []) (st1 := [.int x9]) C hR (lv_sub hl [] rfl) (c_X9_isNote hx9) mv_X9_isNote ml_X9_96 ⟨rfl, rfl, (Nat.le_of_ble_eq_true rfl), (Nat.le_of_ble_eq_true rfl)⟩ (rv_obj C hR hu8 (q := (RX9, TX9, 17)) rfl) rfl rfl rfl (Nat.le_of_ble_eq_true rfl) ⟨(Nat.le_of_ble_eq_true rfl), (Nat.le_of_ble_eq_true rfl)⟩ dX9_cadence_38 (fun H locs hR => ?_)
    refine lv_if_eq (tgt := 63) hx hb dX9_cadence_41 (by decide) (fun c41 => ?_) (fun c41 => ?_)
    · have hf := ip hf c41
      refine lv_iconst (v := 2) hx hb dX9_cadence_63 (by decide) ?_
      obtain rfl := Option.some.inj hf
      exact r_iret C hR rfl (Nat.le_of_ble_eq_true rfl) (Nat.le_of_ble_eq_true rfl) dX9_cadence_64
    · have hf := iq hf c41
      refine lv_aload_n hx hb dX9_cadence_44 rfl (lv_at hl 2 rfl) ?_
      refine lv_iload_n hx hb dX9_cadence_45 rfl (lv_at hl 3 rfl) ?_
      refine lv_iconst (v := 1) hx hb dX9_cadence_46 (by decide) ?_
      refine lv_isub hx hb dX9_cadence_47 ?_
      obtain ⟨u10, hu10, hf⟩ := ob hf
      obtain ⟨x11, hx11, hf⟩ := ob hf
      refine r_callV (As := [.int (v1 - 1)]) (rest := []) (st1 := [.int x11]) C hR (lv_sub hl [] rfl) (c_X9_line hx11) mv_X9_line ml_X9_87 ⟨rfl, rfl, (Nat.le_of_ble_eq_true rfl), (Nat.le_of_ble_eq_true rfl)⟩ (rv_obj C hR hu10 (q := (RX9, TX9, 17)) rfl) rfl rfl rfl (Nat.le_of_ble_eq_true rfl) ⟨(Nat.le_of_ble_eq_true rfl), (Nat.le_of_ble_eq_true rfl)⟩ dX9_cadence_48 (fun H locs hR => ?_)
      refine lv_aload_n hx hb dX9_cadence_51 rfl (lv_at hl 2 rfl) ?_
      refine lv_iload_n hx hb dX9_cadence_52 rfl (lv_at hl 3 rfl) ?_
      obtain ⟨u12, hu12, hf⟩ := ob hf
      obtain ⟨x13, hx13, hf⟩ := ob hf
      refine r_callV (As := [.int v1]) (rest := [.int x11]) (st1 := [.int x13, .int x11]) C hR (lv_sub hl [] rfl) (c_X9_line hx13) mv_X9_line ml_X9_87 ⟨rfl, rfl, (Nat.le_of_ble_eq_true rfl), (Nat.le_of_ble_eq_true rfl)⟩ (rv_obj C hR hu12 (q := (RX9, TX9, 17)) rfl) rfl rfl rfl (Nat.le_of_ble_eq_true rfl) ⟨(Nat.le_of_ble_eq_true rfl), (Nat.le_of_ble_eq_true rfl)⟩ dX9_cadence_53 (fun H locs hR => ?_)
      obtain ⟨x14, hx14, hf⟩ := ob hf
      refine r_callS (As := [.int x11, .int x13]) (rest := []) (st1 := [.int x14]) C hR (lv_sub hl [] rfl) (c_X9_steps hx14) ms_X9_steps ml_X9_64 ⟨rfl, rfl, (Nat.le_of_ble_eq_true rfl), (Nat.le_of_ble_eq_true rfl)⟩ rfl rfl rfl (Nat.le_of_ble_eq_true rfl) ⟨(Nat.le_of_ble_eq_true rfl), (Nat.le_of_ble_eq_true rfl)⟩ dX9_cadence_56 (fun H locs hR => ?_)
      refine lv_iconst (v := 1) hx hb dX9_cadence_59 (by decide) ?_
      refine lv_icmp_eq (tgt := 65) hx hb dX9_cadence_60 (by decide) (fun c60 => ?_) (fun c60 => ?_)
      · have hf := ip hf c60
        refine lv_aload_n hx hb dX9_cadence_65 rfl (lv_at hl 2 rfl) ?_
        refine lv_iload_n hx hb dX9_cadence_66 rfl (lv_at hl 3 rfl) ?_
        refine lv_iconst (v := 1) hx hb dX9_cadence_67 (by decide) ?_
        refine lv_isub hx hb dX9_cadence_68 ?_
        obtain ⟨u15, hu15, hf⟩ := ob hf
        obtain ⟨x16, hx16, hf⟩ := ob hf
        refine r_callV (As := [.int (v1 - 1)]) (rest := []) (st1 := [.int x16]) C hR (lv_sub hl [] rfl) (c_X9_line hx16) mv_X9_line ml_X9_87 ⟨rfl, rfl, (Nat.le_of_ble_eq_true rfl), (Nat.le_of_ble_eq_true rfl)⟩ (rv_obj C hR hu15 (q := (RX9, TX9, 17)) rfl) rfl rfl rfl (Nat.le_of_ble_eq_true rfl) ⟨(Nat.le_of_ble_eq_true rfl), (Nat.le_of_ble_eq_true rfl)⟩ dX9_cadence_69 (fun H locs hR => ?_)
        refine lv_aload_n hx hb dX9_cadence_72 rfl (lv_at hl 2 rfl) ?_
        refine lv_iload_n hx hb dX9_cadence_73 rfl (lv_at hl 3 rfl) ?_
        obtain ⟨u17, hu17, hf⟩ := ob hf
        obtain ⟨x18, hx18, hf⟩ := ob hf
        refine r_callV (As := [.int v1]) (rest := [.int x16]) (st1 := [.int x18, .int x16]) C hR (lv_sub hl [] rfl) (c_X9_line hx18) mv_X9_line ml_X9_87 ⟨rfl, rfl, (Nat.le_of_ble_eq_true rfl), (Nat.le_of_ble_eq_true rfl)⟩ (rv_obj C hR hu17 (q := (RX9, TX9, 17)) rfl) rfl rfl rfl (Nat.le_of_ble_eq_true rfl) ⟨(Nat.le_of_ble_eq_true rfl), (Nat.le_of_ble_eq_true rfl)⟩ dX9_cadence_74 (fun H locs hR => ?_)
        obtain ⟨x19, hx19, hf⟩ := ob hf
        refine r_callS (As := [.int x16, .int x18]) (rest := []) (st1 := [.int x19]) C hR (lv_sub hl [] rfl) (c_X9_direction hx19) ms_X9_direction ml_X9_93 ⟨rfl, rfl, (Nat.le_of_ble_eq_true rfl), (Nat.le_of_ble_eq_true rfl)⟩ rfl rfl rfl (Nat.le_of_ble_eq_true rfl) ⟨(Nat.le_of_ble_eq_true rfl), (Nat.le_of_ble_eq_true rfl)⟩ dX9_cadence_77 (fun H locs hR => ?_)
        refine lv_istore (lv' := [(5, .int x19), (4, .int x4), (3, .int (x2 - 1)), (0, .ref (kA K v0)), (1, .int v1), (2, .int v2)]) hx hb dX9_cadence_80 hl (by decide) rfl (fun ls hl => ?_)
        refine lv_aload_n hx hb dX9_cadence_82 rfl (lv_at hl 3 rfl) ?_
        refine lv_iload_n hx hb dX9_cadence_83 rfl (lv_at hl 2 rfl) ?_
        refine lv_iconst (v := 1) hx hb dX9_cadence_84 (by decide) ?_
        refine lv_isub hx hb dX9_cadence_85 ?_
        obtain ⟨u20, hu20, hf⟩ := ob hf
        obtain ⟨x21, hx21, hf⟩ := ob hf
        refine r_callV (As := [.int ((x2 - 1) - 1)]) (rest := []) (st1 := [.int x21]) C hR (lv_sub hl [] rfl) (c_X9_cantusAt hx21) mv_X9_cantusAt ml_X9_107 ⟨rfl, rfl, (Nat.le_of_ble_eq_true rfl), (Nat.le_of_ble_eq_true rfl)⟩ (rv_obj C hR hu20 (q := (RX9, TX9, 17)) rfl) rfl rfl rfl (Nat.le_of_ble_eq_true rfl) ⟨(Nat.le_of_ble_eq_true rfl), (Nat.le_of_ble_eq_true rfl)⟩ dX9_cadence_86 (fun H locs hR => ?_)
        refine lv_iload hx hb dX9_cadence_89 (lv_at hl 1 rfl) ?_
        obtain ⟨x22, hx22, hf⟩ := ob hf
        refine r_callS (As := [.int x21, .int x4]) (rest := []) (st1 := [.int x22]) C hR (lv_sub hl [] rfl) (c_X9_steps hx22) ms_X9_steps ml_X9_64 ⟨rfl, rfl, (Nat.le_of_ble_eq_true rfl), (Nat.le_of_ble_eq_true rfl)⟩ rfl rfl rfl (Nat.le_of_ble_eq_true rfl) ⟨(Nat.le_of_ble_eq_true rfl), (Nat.le_of_ble_eq_true rfl)⟩ dX9_cadence_91 (fun H locs hR => ?_)
        refine lv_iconst (v := 1) hx hb dX9_cadence_94 (by decide) ?_
        refine lv_icmp_ne (tgt := 116) hx hb dX9_cadence_95 (by decide) (fun c95 => ?_) (fun c95 => ?_)
        · have hf := iq hf c95
          refine lv_iconst (v := 3) hx hb dX9_cadence_116 (by decide) ?_
          obtain rfl := Option.some.inj hf
          exact r_iret C hR rfl (Nat.le_of_ble_eq_true rfl) (Nat.le_of_ble_eq_true rfl) dX9_cadence_117
        · have hf := ip hf c95
          refine lv_aload_n hx hb dX9_cadence_98 rfl (lv_at hl 3 rfl) ?_
          refine lv_iload_n hx hb dX9_cadence_99 rfl (lv_at hl 2 rfl) ?_
          refine lv_iconst (v := 1) hx hb dX9_cadence_100 (by decide) ?_
          refine lv_isub hx hb dX9_cadence_101 ?_
          obtain ⟨u23, hu23, hf⟩ := ob hf
          obtain ⟨x24, hx24, hf⟩ := ob hf
          refine r_callV (As := [.int ((x2 - 1) - 1)]) (rest := []) (st1 := [.int x24]) C hR (lv_sub hl [] rfl) (c_X9_cantusAt hx24) mv_X9_cantusAt ml_X9_107 ⟨rfl, rfl, (Nat.le_of_ble_eq_true rfl), (Nat.le_of_ble_eq_true rfl)⟩ (rv_obj C hR hu23 (q := (RX9, TX9, 17)) rfl) rfl rfl rfl (Nat.le_of_ble_eq_true rfl) ⟨(Nat.le_of_ble_eq_true rfl), (Nat.le_of_ble_eq_true rfl)⟩ dX9_cadence_102 (fun H locs hR => ?_)
          refine lv_iload hx hb dX9_cadence_105 (lv_at hl 1 rfl) ?_
          obtain ⟨x25, hx25, hf⟩ := ob hf
          refine r_callS (As := [.int x24, .int x4]) (rest := []) (st1 := [.int x25]) C hR (lv_sub hl [] rfl) (c_X9_direction hx25) ms_X9_direction ml_X9_93 ⟨rfl, rfl, (Nat.le_of_ble_eq_true rfl), (Nat.le_of_ble_eq_true rfl)⟩ rfl rfl rfl (Nat.le_of_ble_eq_true rfl) ⟨(Nat.le_of_ble_eq_true rfl), (Nat.le_of_ble_eq_true rfl)⟩ dX9_cadence_107 (fun H locs hR => ?_)
          refine lv_iload hx hb dX9_cadence_110 (lv_at hl 0 rfl) ?_
          refine lv_imul hx hb dX9_cadence_112 ?_
          refine lv_if_lt (tgt := 118) hx hb dX9_cadence_113 (by decide) (fun c113 => ?_) (fun c113 => ?_)
          · have hf := ip hf c113
            refine lv_iload hx hb dX9_cadence_118 (lv_at hl 0 rfl) ?_
            refine lv_if_le (tgt := 141) hx hb dX9_cadence_120 (by decide) (fun c120 => ?_) (fun c120 => ?_)
            · have hf := ip hf c120
              refine lv_aload_n hx hb dX9_cadence_141 rfl (lv_at hl 3 rfl) ?_
              refine lv_iload_n hx hb dX9_cadence_142 rfl (lv_at hl 2 rfl) ?_
              refine lv_iconst (v := 1) hx hb dX9_cadence_143 (by decide) ?_
              refine lv_isub hx hb dX9_cadence_144 ?_
              obtain ⟨u26, hu26, hf⟩ := ob hf
              obtain ⟨x27, hx27, hf⟩ := ob hf
              refine r_callV (As := [.int ((x2 - 1) - 1)]) (rest := []) (st1 := [.int x27]) C hR (lv_sub hl [] rfl) (c_X9_cantusAt hx27) mv_X9_cantusAt ml_X9_107 ⟨rfl, rfl, (Nat.le_of_ble_eq_true rfl), (Nat.le_of_ble_eq_true rfl)⟩ (rv_obj C hR hu26 (q := (RX9, TX9, 17)) rfl) rfl rfl rfl (Nat.le_of_ble_eq_true rfl) ⟨(Nat.le_of_ble_eq_true rfl), (Nat.le_of_ble_eq_true rfl)⟩ dX9_cadence_145 (fun H locs hR => ?_)
              refine lv_iload hx hb dX9_cadence_148 (lv_at hl 1 rfl) ?_
              obtain ⟨x28, hx28, hf⟩ := ob hf
              refine r_callS (As := [.int x27, .int x4]) (rest := []) (st1 := [.int x28]) C hR (lv_sub hl [] rfl) (c_X9_width hx28) ms_X9_width ml_X9_68 ⟨rfl, rfl, (Nat.le_of_ble_eq_true rfl), (Nat.le_of_ble_eq_true rfl)⟩ rfl rfl rfl (Nat.le_of_ble_eq_true rfl) ⟨(Nat.le_of_ble_eq_true rfl), (Nat.le_of_ble_eq_true rfl)⟩ dX9_cadence_150 (fun H locs hR => ?_)
              refine lv_istore (lv' := [(6, .int x28), (5, .int x19), (4, .int x4), (3, .int (x2 - 1)), (0, .ref (kA K v0)), (1, .int v1), (2, .int v2)]) hx hb dX9_cadence_153 hl (by decide) rfl (fun ls hl => ?_)
              refine lv_iload hx hb dX9_cadence_155 (lv_at hl 0 rfl) ?_
              refine lv_iconst (v := 1) hx hb dX9_cadence_157 (by decide) ?_
              refine lv_icmp_ne (tgt := 165) hx hb dX9_cadence_158 (by decide) (fun c158 => ?_) (fun c158 => ?_)
              · have hf := iq hf c158
                refine lv_iconst (v := 4) hx hb dX9_cadence_165 (by decide) ?_
                obtain rfl := Option.some.inj hf
                exact r_iret C hR rfl (Nat.le_of_ble_eq_true rfl) (Nat.le_of_ble_eq_true rfl) dX9_cadence_166
              · have hf := ip hf c158
                refine lv_iconst (v := (-1)) hx hb dX9_cadence_161 (by decide) ?_
                refine lv_goto (tgt := 166) hx hb dX9_cadence_162 (by decide) ?_
                obtain rfl := Option.some.inj hf
                exact r_iret C hR rfl (Nat.le_of_ble_eq_true rfl) (Nat.le_of_ble_eq_true rfl) dX9_cadence_166
            · have hf := iq hf c120
              refine lv_aload_n hx hb dX9_cadence_123 rfl (lv_at hl 3 rfl) ?_
              refine lv_iload_n hx hb dX9_cadence_124 rfl (lv_at hl 4 rfl) ?_
              refine lv_iconst (v := 1) hx hb dX9_cadence_125 (by decide) ?_
              refine lv_isub hx hb dX9_cadence_126 ?_
              obtain ⟨u29, hu29, hf⟩ := ob hf
              obtain ⟨x30, hx30, hf⟩ := ob hf
              refine r_callV (As := [.int (v1 - 1)]) (rest := []) (st1 := [.int x30]) C hR (lv_sub hl [] rfl) (c_X9_line hx30) mv_X9_line ml_X9_87 ⟨rfl, rfl, (Nat.le_of_ble_eq_true rfl), (Nat.le_of_ble_eq_true rfl)⟩ (rv_obj C hR hu29 (q := (RX9, TX9, 17)) rfl) rfl rfl rfl (Nat.le_of_ble_eq_true rfl) ⟨(Nat.le_of_ble_eq_true rfl), (Nat.le_of_ble_eq_true rfl)⟩ dX9_cadence_127 (fun H locs hR => ?_)
              refine lv_aload_n hx hb dX9_cadence_130 rfl (lv_at hl 3 rfl) ?_
              refine lv_iload_n hx hb dX9_cadence_131 rfl (lv_at hl 4 rfl) ?_
              obtain ⟨u31, hu31, hf⟩ := ob hf
              obtain ⟨x32, hx32, hf⟩ := ob hf
              refine r_callV (As := [.int v1]) (rest := [.int x30]) (st1 := [.int x32, .int x30]) C hR (lv_sub hl [] rfl) (c_X9_line hx32) mv_X9_line ml_X9_87 ⟨rfl, rfl, (Nat.le_of_ble_eq_true rfl), (Nat.le_of_ble_eq_true rfl)⟩ (rv_obj C hR hu31 (q := (RX9, TX9, 17)) rfl) rfl rfl rfl (Nat.le_of_ble_eq_true rfl) ⟨(Nat.le_of_ble_eq_true rfl), (Nat.le_of_ble_eq_true rfl)⟩ dX9_cadence_132 (fun H locs hR => ?_)
              obtain ⟨x33, hx33, hf⟩ := ob hf
              refine r_callS (As := [.int x30, .int x32]) (rest := []) (st1 := [.int x33]) C hR (lv_sub hl [] rfl) (c_X9_width hx33) ms_X9_width ml_X9_68 ⟨rfl, rfl, (Nat.le_of_ble_eq_true rfl), (Nat.le_of_ble_eq_true rfl)⟩ rfl rfl rfl (Nat.le_of_ble_eq_true rfl) ⟨(Nat.le_of_ble_eq_true rfl), (Nat.le_of_ble_eq_true rfl)⟩ dX9_cadence_135 (fun H locs hR => ?_)
              refine lv_goto (tgt := 153) hx hb dX9_cadence_138 (by decide) ?_
              refine lv_istore (lv' := [(6, .int x33), (5, .int x19), (4, .int x4), (3, .int (x2 - 1)), (0, .ref (kA K v0)), (1, .int v1), (2, .int v2)]) hx hb dX9_cadence_153 hl (by decide) rfl (fun ls hl => ?_)
              refine lv_iload hx hb dX9_cadence_155 (lv_at hl 0 rfl) ?_
              refine lv_iconst (v := 1) hx hb dX9_cadence_157 (by decide) ?_
              refine lv_icmp_ne (tgt := 165) hx hb dX9_cadence_158 (by decide) (fun c158 => ?_) (fun c158 => ?_)
              · have hf := iq hf c158
                refine lv_iconst (v := 4) hx hb dX9_cadence_165 (by decide) ?_
                obtain rfl := Option.some.inj hf
                exact r_iret C hR rfl (Nat.le_of_ble_eq_true rfl) (Nat.le_of_ble_eq_true rfl) dX9_cadence_166
              · have hf := ip hf c158
                refine lv_iconst (v := (-1)) hx hb dX9_cadence_161 (by decide) ?_
                refine lv_goto (tgt := 166) hx hb dX9_cadence_162 (by decide) ?_
                obtain rfl := Option.some.inj hf
                exact r_iret C hR rfl (Nat.le_of_ble_eq_true rfl) (Nat.le_of_ble_eq_true rfl) dX9_cadence_166
          · have hf := iq hf c113
            refine lv_iconst (v := 3) hx hb dX9_cadence_116 (by decide) ?_
            obtain rfl := Option.some.inj hf
            exact r_iret C hR rfl (Nat.le_of_ble_eq_true rfl) (Nat.le_of_ble_eq_true rfl) dX9_cadence_117
      · have hf := iq hf c60
        refine lv_iconst (v := 2) hx hb dX9_cadence_63 (by decide) ?_
        obtain rfl := Option.some.inj hf
        exact r_iret C hR rfl (Nat.le_of_ble_eq_true rfl) (Nat.le_of_ble_eq_true rfl) dX9_cadence_64
  · have hf := iq hf c28
    refine lv_iconst (v := 1) hx hb dX9_cadence_31 (by decide) ?_
    obtain rfl := Option.some.inj hf
    exact r_iret C hR rfl (Nat.le_of_ble_eq_true rfl) (Nat.le_of_ble_eq_true rfl) dX9_cadence_32
theorem c_X9_cadence {K : WK} {l : Launch} {hs : AH} {v0 : Nat} {v1 : Int32} {v2 : Int32} {q : Int32} (hf : f_X9_cadence v0 v1 v2 hs = some q) : MC K l yX9_cadence cX9_cadence 7 (Option.some Jvm.ClassFile.FieldType.int) rm_X9_cadence [.ref (kA K v0), .int v1, .int v2] hs (some (.int q)) hs 0 0 :=
  MC.of (by decide +kernel) (Nat.le_of_ble_eq_true rfl) (fun p e s m args below meth c C _ hR ls hl => w_X9_cadence_b0 C _ _ _ hs _ _ ls hf hR hl)
