/-! ===== printed by wip/whole/genall.py: functions and walks ===== -/
noncomputable def f_X8_pitchOf_b23 (v0 : Int32) (t0 : Int32) : Option (Int32) :=
  some ((((12 * (v0 / 21)) + t0) + (v0 - v0 / 3 * 3)) - 1)
noncomputable def f_X8_pitchOf (v0 : Int32) : Option (Int32) :=
  if 3 ≤ ((v0 / 3) - (v0 / 3) / 7 * 7) then
  (
   f_X8_pitchOf_b23 v0 ((2 * ((v0 / 3) - (v0 / 3) / 7 * 7)) - 1))
  else
  (
   f_X8_pitchOf_b23 v0 (2 * ((v0 / 3) - (v0 / 3) / 7 * 7)))
abbrev rm_X8_pitchOf : Room := { frames := 0, cells := 0, slots := 0, locals := 0 }
set_option maxHeartbeats 4000000 in
set_option maxRecDepth 100000 in
theorem w_X8_pitchOf_b23 {K : WK} {p : Program} {l : Launch} {e : Env} {s : State} {m : MethodId} {args : Array Value} {below : List Frame} {meth : Method} {c : Code} (C : Cx K p s m args meth c RX8 cX8_pitchOf 3 (Option.some Jvm.ClassFile.FieldType.int)) {q : Int32} : ∀ (v0 : Int32) (t0 : Int32) (hs : AH) (H : Heap) (locs : List Loc) (ls : Array Slot), f_X8_pitchOf_b23 v0 t0 = some q → Rl K s hs H locs → lv_has ls 3 [(0, .int v0)] → W p l e rm_X8_pitchOf s m args below meth c H locs 0 0 (MQ below (MQo K (some (.int q)) hs) args s 0 0 (kAx K)) (F0 m 23 ls [.int t0]) := by
  have hx := C.1
  have hb := C.2.1
  intro v0 t0 hs H locs ls hf hR hl
  rw [f_X8_pitchOf_b23.eq_1] at hf
  refine lv_istore_n (lv' := [(2, .int t0), (0, .int v0)]) hx hb dX8_pitchOf_23 rfl hl (by decide) rfl (fun ls hl => ?_)
  refine lv_bipush (v := 12) hx hb dX8_pitchOf_24 (by decide) ?_
  refine lv_iload_n hx hb dX8_pitchOf_26 rfl (lv_at hl 1 rfl) ?_
  refine lv_bipush (v := 21) hx hb dX8_pitchOf_27 (by decide) ?_
  refine lv_idiv hx hb dX8_pitchOf_29 (by decide) ?_
  refine lv_imul hx hb dX8_pitchOf_30 ?_
  refine lv_iload_n hx hb dX8_pitchOf_31 rfl (lv_at hl 0 rfl) ?_
  refine lv_iadd hx hb dX8_pitchOf_32 ?_
  refine lv_iload_n hx hb dX8_pitchOf_33 rfl (lv_at hl 1 rfl) ?_
  refine lv_iconst (v := 3) hx hb dX8_pitchOf_34 (by decide) ?_
  refine lv_irem hx hb dX8_pitchOf_35 (by decide) ?_
  refine lv_iadd hx hb dX8_pitchOf_36 ?_
  refine lv_iconst (v := 1) hx hb dX8_pitchOf_37 (by decide) ?_
  refine lv_isub hx hb dX8_pitchOf_38 ?_
  obtain rfl := Option.some.inj hf
  exact r_iret C hR rfl (Nat.le_of_ble_eq_true rfl) (Nat.le_of_ble_eq_true rfl) dX8_pitchOf_39
set_option maxHeartbeats 4000000 in
set_option maxRecDepth 100000 in
theorem w_X8_pitchOf_b0 {K : WK} {p : Program} {l : Launch} {e : Env} {s : State} {m : MethodId} {args : Array Value} {below : List Frame} {meth : Method} {c : Code} (C : Cx K p s m args meth c RX8 cX8_pitchOf 3 (Option.some Jvm.ClassFile.FieldType.int)) {q : Int32} : ∀ (v0 : Int32) (hs : AH) (H : Heap) (locs : List Loc) (ls : Array Slot), f_X8_pitchOf v0 = some q → Rl K s hs H locs → lv_has ls 3 [(0, .int v0)] → W p l e rm_X8_pitchOf s m args below meth c H locs 0 0 (MQ below (MQo K (some (.int q)) hs) args s 0 0 (kAx K)) (F0 m 0 ls []) := by
  have hx := C.1
  have hb := C.2.1
  intro v0 hs H locs ls hf hR hl
  rw [f_X8_pitchOf.eq_1] at hf
  refine lv_iload_n hx hb dX8_pitchOf_0 rfl (lv_at hl 0 rfl) ?_
  refine lv_iconst (v := 3) hx hb dX8_pitchOf_1 (by decide) ?_
  refine lv_idiv hx hb dX8_pitchOf_2 (by decide) ?_
  refine lv_bipush (v := 7) hx hb dX8_pitchOf_3 (by decide) ?_
  refine lv_irem hx hb dX8_pitchOf_5 (by decide) ?_
  refine lv_istore_n (lv' := [(1, .int ((v0 / 3) - (v0 / 3) / 7 * 7)), (0, .int v0)]) hx hb dX8_pitchOf_6 rfl hl (by decide) rfl (fun ls hl => ?_)
  refine lv_iload_n hx hb dX8_pitchOf_7 rfl (lv_at hl 0 rfl) ?_
  refine lv_iconst (v := 3) hx hb dX8_pitchOf_8 (by decide) ?_
  refine lv_icmp_ge (tgt := 18) hx hb dX8_pitchOf_9 (by decide) (fun c9 => ?_) (fun c9 => ?_)
  · have hf := ip hf c9
    refine lv_iconst (v := 2) hx hb dX8_pitchOf_18 (by decide) ?_
    refine lv_iload_n hx hb dX8_pitchOf_19 rfl (lv_at hl 0 rfl) ?_
    refine lv_imul hx hb dX8_pitchOf_20 ?_
    refine lv_iconst (v := 1) hx hb dX8_pitchOf_21 (by decide) ?_
    refine lv_isub hx hb dX8_pitchOf_22 ?_
    exact w_X8_pitchOf_b23 C  _ _ _ _ _ _ hf hR (lv_sub hl [1] rfl)
  · have hf := iq hf c9
    refine lv_iconst (v := 2) hx hb dX8_pitchOf_12 (by decide) ?_
    refine lv_iload_n hx hb dX8_pitchOf_13 rfl (lv_at hl 0 rfl) ?_
    refine lv_imul hx hb dX8_pitchOf_14 ?_
    refine lv_goto (tgt := 23) hx hb dX8_pitchOf_15 (by decide) ?_
    exact w_X8_pitchOf_b23 C  _ _ _ _ _ _ hf hR (lv_sub hl [1] rfl)
theorem c_X8_pitchOf {K : WK} {l : Launch} {hs : AH} {v0 : Int32} {q : Int32} (hf : f_X8_pitchOf v0 = some q) : MC K l yX8_pitchOf cX8_pitchOf 3 (Option.some Jvm.ClassFile.FieldType.int) rm_X8_pitchOf [.int v0] hs (some (.int q)) hs 0 0 :=
  MC.of (by decide +kernel) (Nat.le_of_ble_eq_true rfl) (fun p e s m args below meth c C _ hR ls hl => w_X8_pitchOf_b0 C _ hs _ _ ls hf hR hl)
noncomputable def f_X7_leaves (v0 : Nat) (v1 : Int32) (v2 : Int32) (hs : AH) : Option (Int32) :=
  (gI hs v0 7 1).bind fun x1 =>
  if (x1 - x1 / 7 * 7) = v1 then
  (
   (gI hs v0 7 2).bind fun x2 =>
   if (x2 - x2 / 12 * 12) = v2 then
   (
    some 1)
   else
   (
    some 0))
  else
  (
   some 0)
abbrev rm_X7_leaves : Room := { frames := 0, cells := 0, slots := 0, locals := 0 }
set_option maxHeartbeats 4000000 in
set_option maxRecDepth 100000 in
theorem w_X7_leaves_b0 {K : WK} {p : Program} {l : Launch} {e : Env} {s : State} {m : MethodId} {args : Array Value} {below : List Frame} {meth : Method} {c : Code} (C : Cx K p s m args meth c RX7 cX7_leaves 3 (Option.some Jvm.ClassFile.FieldType.boolean)) {q : Int32} : ∀ (v0 : Nat) (v1 : Int32) (v2 : Int32) (hs : AH) (H : Heap) (locs : List Loc) (ls : Array Slot), f_X7_leaves v0 v1 v2 hs = some q → Rl K s hs H locs → lv_has ls 3 [(0, .ref (kA K v0)), (1, .int v1), (2, .int v2)] → W p l e rm_X7_leaves s m args below meth c H locs 0 0 (MQ below (MQo K (some (.int q)) hs) args s 0 0 (kAx K)) (F0 m 0 ls []) := by
  have hx := C.1
  have hb := C.2.1
  intro v0 v1 v2 hs H locs ls hf hR hl
  rw [f_X7_leaves.eq_1] at hf
  refine lv_aload_n hx hb dX7_leaves_0 rfl (lv_at hl 0 rfl) ?_
  obtain ⟨x1, hx1, hf⟩ := ob hf
  refine r_getI C hR hx1 fl_X7_15 dX7_leaves_1 ?_
  refine lv_bipush (v := 7) hx hb dX7_leaves_4 (by decide) ?_
  refine lv_irem hx hb dX7_leaves_6 (by decide) ?_
  refine lv_iload_n hx hb dX7_leaves_7 rfl (lv_at hl 1 rfl) ?_
  refine lv_icmp_ne (tgt := 26) hx hb dX7_leaves_8 (by decide) (fun c8 => ?_) (fun c8 => ?_)
  · have hf := iq hf c8
    refine lv_iconst (v := 0) hx hb dX7_leaves_26 (by decide) ?_
    obtain rfl := Option.some.inj hf
    exact r_iret C hR rfl (Nat.le_of_ble_eq_true rfl) (Nat.le_of_ble_eq_true rfl) dX7_leaves_27
  · have hf := ip hf c8
    refine lv_aload_n hx hb dX7_leaves_11 rfl (lv_at hl 0 rfl) ?_
    obtain ⟨x2, hx2, hf⟩ := ob hf
    refine r_getI C hR hx2 fl_X7_19 dX7_leaves_12 ?_
    refine lv_bipush (v := 12) hx hb dX7_leaves_15 (by decide) ?_
    refine lv_irem hx hb dX7_leaves_17 (by decide) ?_
    refine lv_iload_n hx hb dX7_leaves_18 rfl (lv_at hl 2 rfl) ?_
    refine lv_icmp_ne (tgt := 26) hx hb dX7_leaves_19 (by decide) (fun c19 => ?_) (fun c19 => ?_)
    · have hf := iq hf c19
      refine lv_iconst (v := 0) hx hb dX7_leaves_26 (by decide) ?_
      obtain rfl := Option.some.inj hf
      exact r_iret C hR rfl (Nat.le_of_ble_eq_true rfl) (Nat.le_of_ble_eq_true rfl) dX7_leaves_27
    · have hf := ip hf c19
      refine lv_iconst (v := 1) hx hb dX7_leaves_22 (by decide) ?_
      refine lv_goto (tgt := 27) hx hb dX7_leaves_23 (by decide) ?_
      obtain rfl := Option.some.inj hf
      exact r_iret C hR rfl (Nat.le_of_ble_eq_true rfl) (Nat.le_of_ble_eq_true rfl) dX7_leaves_27
theorem c_X7_leaves {K : WK} {l : Launch} {hs : AH} {v0 : Nat} {v1 : Int32} {v2 : Int32} {q : Int32} (hf : f_X7_leaves v0 v1 v2 hs = some q) : MC K l yX7_leaves cX7_leaves 3 (Option.some Jvm.ClassFile.FieldType.boolean) rm_X7_leaves [.ref (kA K v0), .int v1, .int v2] hs (some (.int q)) hs 0 0 :=
  MC.of (by decide +kernel) (Nat.le_of_ble_eq_true rfl) (fun p e s m args below meth c C _ hR ls hl => w_X7_leaves_b0 C _ _ _ hs _ _ ls hf hR hl)
noncomputable def f_X7_measure_b93 (v0 : Nat) (t0 : Nat) (t1 : Int32) (hs : AH) : Option (AH) :=
  (pI hs t0 7 3 t1).bind fun hs1 =>
  (gI hs1 v0 7 0).bind fun x2 =>
  if x2 = 0 then
  (
   (pI hs1 v0 7 4 0).bind fun hs10 =>
   some hs10)
  else
  (
   (chk hs1 v0 7).bind fun u3 =>
   (f_X7_leaves v0 0 0 hs1).bind fun x4 =>
   if x4 = 0 then
   (
    (chk hs1 v0 7).bind fun u5 =>
    (f_X7_leaves v0 4 7 hs1).bind fun x6 =>
    if x6 = 0 then
    (
     (pI hs1 v0 7 4 0).bind fun hs7 =>
     some hs7)
    else
    (
     (pI hs1 v0 7 4 5).bind fun hs8 =>
     some hs8))
   else
   (
    (pI hs1 v0 7 4 8).bind fun hs9 =>
    some hs9))
noncomputable def f_X7_measure_b64 (v0 : Nat) (v3 : Int32) (t0 : Nat) (t1 : Int32) (hs : AH) : Option (AH) :=
  (pI hs t0 7 1 t1).bind fun hs1 =>
  (pI hs1 v0 7 2 (iabs v3)).bind fun hs2 =>
  if v3 ≤ 0 then
  (
   if 0 ≤ v3 then
   (
    f_X7_measure_b93 v0 v0 0 hs2)
   else
   (
    f_X7_measure_b93 v0 v0 (-1) hs2))
  else
  (
   f_X7_measure_b93 v0 v0 1 hs2)
noncomputable def f_X7_measure_b39 (v0 : Nat) (v1 : Int32) (v2 : Int32) (t0 : Int32) (hs : AH) : Option (AH) :=
  (gI hs v0 7 0).bind fun x1 =>
  if x1 = 0 then
  (
   f_X7_measure_b64 v0 t0 v0 0 hs)
  else
  (
   (f_X8_stepOf v2).bind fun x2 =>
   (f_X8_stepOf v1).bind fun x3 =>
   f_X7_measure_b64 v0 t0 v0 (iabs (x2 - x3)) hs)
noncomputable def f_X7_measure_b16 (v0 : Nat) (v1 : Int32) (v2 : Int32) (t0 : Nat) (t1 : Int32) (hs : AH) : Option (AH) :=
  (pZ hs t0 7 0 t1).bind fun hs1 =>
  (gI hs1 v0 7 0).bind fun x2 =>
  if x2 = 0 then
  (
   f_X7_measure_b39 v0 v1 v2 0 hs1)
  else
  (
   (f_X8_pitchOf v2).bind fun x3 =>
   (f_X8_pitchOf v1).bind fun x4 =>
   f_X7_measure_b39 v0 v1 v2 (x3 - x4) hs1)
noncomputable def f_X7_measure (v0 : Nat) (v1 : Int32) (v2 : Int32) (hs : AH) : Option (AH) :=
  if v1 = (-1) then
  (
   f_X7_measure_b16 v0 v1 v2 v0 0 hs)
  else
  (
   if v2 = (-1) then
   (
    f_X7_measure_b16 v0 v1 v2 v0 0 hs)
   else
   (
    f_X7_measure_b16 v0 v1 v2 v0 1 hs))
abbrev rm_X7_measure : Room := { frames := 1, cells := 0, slots := 0, locals := 22 }
set_option maxHeartbeats 4000000 in
set_option maxRecDepth 100000 in
theorem w_X7_measure_b93 {K : WK} {p : Program} {l : Launch} {e : Env} {s : State} {m : MethodId} {args : Array Value} {below : List Frame} {meth : Method} {c : Code} (C : Cx K p s m args meth c RX7 cX7_measure 4 (Option.none : Option Jvm.ClassFile.FieldType)) {q : AH} : ∀ (v0 : Nat) (t0 : Nat) (t1 : Int32) (hs : AH) (H : Heap) (locs : List Loc) (ls : Array Slot), f_X7_measure_b93 v0 t0 t1 hs = some q → Rl K s hs H locs → lv_has ls 4 [(0, .ref (kA K v0))] → W p l e rm_X7_measure s m args below meth c H locs 0 0 (MQ below (MQo K none q) args s 0 0 (kAx K)) (F0 m 93 ls [.int t1, .ref (kA K t0)]) := by
  have hx := C.1
  have hb := C.2.1
  intro v0 t0 t1 hs H locs ls hf hR hl
  rw [f_X7_measure_b93.eq_1] at hf
  obtain ⟨hs1, hhs1, hf⟩ := ob hf
  refine r_putI C hR hhs1 fl_X7_22 dX7_measure_93 (fun H locs hR => ?_)
  refine lv_aload_n hx hb dX7_measure_96 rfl (lv_at hl 0 rfl) ?_
  refine lv_aload_n hx hb dX7_measure_97 rfl (lv_at hl 0 rfl) ?_
  obtain ⟨x2, hx2, hf⟩ := ob hf
  refine r_getI C hR hx2 fl_X7_9 dX7_measure_98 ?_
  refine lv_if_ne (tgt := 108) hx hb dX7_measure_101 (by decide) (fun c101 => ?_) (fun c101 => ?_)
  · have hf := iq hf c101
    refine lv_aload_n hx hb dX7_measure_108 rfl (lv_at hl 0 rfl) ?_
    refine lv_iconst (v := 0) hx hb dX7_measure_109 (by decide) ?_
    refine lv_iconst (v := 0) hx hb dX7_measure_110 (by decide) ?_
    obtain ⟨u3, hu3, hf⟩ := ob hf
    obtain ⟨x4, hx4, hf⟩ := ob hf
    refine r_callV (As := [.int 0, .int 0]) (rest := [.ref (kA K v0)]) (st1 := [.int x4, .ref (kA K v0)]) C hR (lv_sub hl [] rfl) (c_X7_leaves hx4) mv_X7_leaves ml_X7_40 ⟨rfl, rfl, (Nat.le_of_ble_eq_true rfl), (Nat.le_of_ble_eq_true rfl)⟩ (rv_obj C hR hu3 (q := (RX7, TX7, 5)) rfl) rfl rfl rfl (Nat.le_of_ble_eq_true rfl) ⟨(Nat.le_of_ble_eq_true rfl), (Nat.le_of_ble_eq_true rfl)⟩ dX7_measure_111 (fun H locs hR => ?_)
    refine lv_if_eq (tgt := 122) hx hb dX7_measure_114 (by decide) (fun c114 => ?_) (fun c114 => ?_)
    · have hf := ip hf c114
      refine lv_aload_n hx hb dX7_measure_122 rfl (lv_at hl 0 rfl) ?_
      refine lv_iconst (v := 4) hx hb dX7_measure_123 (by decide) ?_
      refine lv_bipush (v := 7) hx hb dX7_measure_124 (by decide) ?_
      obtain ⟨u5, hu5, hf⟩ := ob hf
      obtain ⟨x6, hx6, hf⟩ := ob hf
      refine r_callV (As := [.int 4, .int 7]) (rest := [.ref (kA K v0)]) (st1 := [.int x6, .ref (kA K v0)]) C hR (lv_sub hl [] rfl) (c_X7_leaves hx6) mv_X7_leaves ml_X7_40 ⟨rfl, rfl, (Nat.le_of_ble_eq_true rfl), (Nat.le_of_ble_eq_true rfl)⟩ (rv_obj C hR hu5 (q := (RX7, TX7, 5)) rfl) rfl rfl rfl (Nat.le_of_ble_eq_true rfl) ⟨(Nat.le_of_ble_eq_true rfl), (Nat.le_of_ble_eq_true rfl)⟩ dX7_measure_126 (fun H locs hR => ?_)
      refine lv_if_eq (tgt := 136) hx hb dX7_measure_129 (by decide) (fun c129 => ?_) (fun c129 => ?_)
      · have hf := ip hf c129
        refine lv_iconst (v := 0) hx hb dX7_measure_136 (by decide) ?_
        obtain ⟨hs7, hhs7, hf⟩ := ob hf
        refine r_putI C hR hhs7 fl_X7_25 dX7_measure_137 (fun H locs hR => ?_)
        obtain rfl := Option.some.inj hf
        exact r_vret C hR (Nat.le_of_ble_eq_true rfl) (Nat.le_of_ble_eq_true rfl) dX7_measure_140
      · have hf := iq hf c129
        refine lv_iconst (v := 5) hx hb dX7_measure_132 (by decide) ?_
        refine lv_goto (tgt := 137) hx hb dX7_measure_133 (by decide) ?_
        obtain ⟨hs8, hhs8, hf⟩ := ob hf
        refine r_putI C hR hhs8 fl_X7_25 dX7_measure_137 (fun H locs hR => ?_)
        obtain rfl := Option.some.inj hf
        exact r_vret C hR (Nat.le_of_ble_eq_true rfl) (Nat.le_of_ble_eq_true rfl) dX7_measure_140
    · have hf := iq hf c114
      refine lv_bipush (v := 8) hx hb dX7_measure_117 (by decide) ?_
      refine lv_goto (tgt := 137) hx hb dX7_measure_119 (by decide) ?_
      obtain ⟨hs9, hhs9, hf⟩ := ob hf
      refine r_putI C hR hhs9 fl_X7_25 dX7_measure_137 (fun H locs hR => ?_)
      obtain rfl := Option.some.inj hf
      exact r_vret C hR (Nat.le_of_ble_eq_true rfl) (Nat.le_of_ble_eq_true rfl) dX7_measure_140
  · have hf := ip hf c101
    refine lv_iconst (v := 0) hx hb dX7_measure_104 (by decide) ?_
    refine lv_goto (tgt := 137) hx hb dX7_measure_105 (by decide) ?_
    obtain ⟨hs10, hhs10, hf⟩ := ob hf
    refine r_putI C hR hhs10 fl_X7_25 dX7_measure_137 (fun H locs hR => ?_)
    obtain rfl := Option.some.inj hf
    exact r_vret C hR (Nat.le_of_ble_eq_true rfl) (Nat.le_of_ble_eq_true rfl) dX7_measure_140
set_option maxHeartbeats 4000000 in
set_option maxRecDepth 100000 in
theorem w_X7_measure_b64 {K : WK} {p : Program} {l : Launch} {e : Env} {s : State} {m : MethodId} {args : Array Value} {below : List Frame} {meth : Method} {c : Code} (C : Cx K p s m args meth c RX7 cX7_measure 4 (Option.none : Option Jvm.ClassFile.FieldType)) {q : AH} : ∀ (v0 : Nat) (v3 : Int32) (t0 : Nat) (t1 : Int32) (hs : AH) (H : Heap) (locs : List Loc) (ls : Array Slot), f_X7_measure_b64 v0 v3 t0 t1 hs = some q → Rl K s hs H locs → lv_has ls 4 [(0, .ref (kA K v0)), (3, .int v3)] → W p l e rm_X7_measure s m args below meth c H locs 0 0 (MQ below (MQo K none q) args s 0 0 (kAx K)) (F0 m 64 ls [.int t1, .ref (kA K t0)]) := by
  have hx := C.1
  have hb := C.2.1
  intro v0 v3 t0 t1 hs H locs ls hf hR hl
  rw [f_X7_measure_b64.eq_1] at hf
  obtain ⟨hs1, hhs1, hf⟩ := ob hf
  refine r_putI C hR hhs1 fl_X7_15 dX7_measure_64 (fun H locs hR => ?_)
  refine lv_aload_n hx hb dX7_measure_67 rfl (lv_at hl 0 rfl) ?_
  refine lv_iload_n hx hb dX7_measure_68 rfl (lv_at hl 1 rfl) ?_
  refine r_jabs C (lv_sub hl [] rfl) ml_X7_35 (Nat.le_of_ble_eq_true rfl) (Nat.le_of_ble_eq_true rfl) ⟨(Nat.le_of_ble_eq_true rfl), (Nat.le_of_ble_eq_true rfl)⟩ dX7_measure_69 ?_
  obtain ⟨hs2, hhs2, hf⟩ := ob hf
  refine r_putI C hR hhs2 fl_X7_19 dX7_measure_72 (fun H locs hR => ?_)
  refine lv_aload_n hx hb dX7_measure_75 rfl (lv_at hl 0 rfl) ?_
  refine lv_iload_n hx hb dX7_measure_76 rfl (lv_at hl 1 rfl) ?_
  refine lv_if_le (tgt := 84) hx hb dX7_measure_77 (by decide) (fun c77 => ?_) (fun c77 => ?_)
  · have hf := ip hf c77
    refine lv_iload_n hx hb dX7_measure_84 rfl (lv_at hl 1 rfl) ?_
    refine lv_if_ge (tgt := 92) hx hb dX7_measure_85 (by decide) (fun c85 => ?_) (fun c85 => ?_)
    · have hf := ip hf c85
      refine lv_iconst (v := 0) hx hb dX7_measure_92 (by decide) ?_
      exact w_X7_measure_b93 C  _ _ _ _ _ _ _ hf hR (lv_sub hl [0] rfl)
    · have hf := iq hf c85
      refine lv_iconst (v := (-1)) hx hb dX7_measure_88 (by decide) ?_
      refine lv_goto (tgt := 93) hx hb dX7_measure_89 (by decide) ?_
      exact w_X7_measure_b93 C  _ _ _ _ _ _ _ hf hR (lv_sub hl [0] rfl)
  · have hf := iq hf c77
    refine lv_iconst (v := 1) hx hb dX7_measure_80 (by decide) ?_
    refine lv_goto (tgt := 93) hx hb dX7_measure_81 (by decide) ?_
    exact w_X7_measure_b93 C  _ _ _ _ _ _ _ hf hR (lv_sub hl [0] rfl)
set_option maxHeartbeats 4000000 in
set_option maxRecDepth 100000 in
theorem w_X7_measure_b39 {K : WK} {p : Program} {l : Launch} {e : Env} {s : State} {m : MethodId} {args : Array Value} {below : List Frame} {meth : Method} {c : Code} (C : Cx K p s m args meth c RX7 cX7_measure 4 (Option.none : Option Jvm.ClassFile.FieldType)) {q : AH} : ∀ (v0 : Nat) (v1 : Int32) (v2 : Int32) (t0 : Int32) (hs : AH) (H : Heap) (locs : List Loc) (ls : Array Slot), f_X7_measure_b39 v0 v1 v2 t0 hs = some q → Rl K s hs H locs → lv_has ls 4 [(0, .ref (kA K v0)), (1, .int v1), (2, .int v2)] → W p l e rm_X7_measure s m args below meth c H locs 0 0 (MQ below (MQo K none q) args s 0 0 (kAx K)) (F0 m 39 ls [.int t0]) := by
  have hx := C.1
  have hb := C.2.1
  intro v0 v1 v2 t0 hs H locs ls hf hR hl
  rw [f_X7_measure_b39.eq_1] at hf
  refine lv_istore_n (lv' := [(3, .int t0), (0, .ref (kA K v0)), (1, .int v1), (2, .int v2)]) hx hb dX7_measure_39 rfl hl (by decide) rfl (fun ls hl => ?_)
  refine lv_aload_n hx hb dX7_measure_40 rfl (lv_at hl 1 rfl) ?_
  refine lv_aload_n hx hb dX7_measure_41 rfl (lv_at hl 1 rfl) ?_
  obtain ⟨x1, hx1, hf⟩ := ob hf
  refine r_getI C hR hx1 fl_X7_9 dX7_measure_42 ?_
  refine lv_if_eq (tgt := 63) hx hb dX7_measure_45 (by decide) (fun c45 => ?_) (fun c45 => ?_)
  · have hf := ip hf c45
    refine lv_iconst (v := 0) hx hb dX7_measure_63 (by decide) ?_
    exact w_X7_measure_b64 C  _ _ _ _ _ _ _ _ hf hR (lv_sub hl [1, 0] rfl)
  · have hf := iq hf c45
    refine lv_iload_n hx hb dX7_measure_48 rfl (lv_at hl 3 rfl) ?_
    obtain ⟨x2, hx2, hf⟩ := ob hf
    refine r_callSN (As := [.int v2]) (rest := [.ref (kA K v0)]) (st1 := [.int x2, .ref (kA K v0)]) C hR (lv_sub hl [] rfl) (c_X8_stepOf hx2) ms_X8_stepOf mx_X7_32 ⟨rfl, rfl, (Nat.le_of_ble_eq_true rfl), (Nat.le_of_ble_eq_true rfl)⟩ rfl rfl rfl (Nat.le_of_ble_eq_true rfl) ⟨(Nat.le_of_ble_eq_true rfl), (Nat.le_of_ble_eq_true rfl)⟩ dX7_measure_49 (fun H locs hR => ?_)
    refine lv_iload_n hx hb dX7_measure_52 rfl (lv_at hl 2 rfl) ?_
    obtain ⟨x3, hx3, hf⟩ := ob hf
    refine r_callSN (As := [.int v1]) (rest := [.int x2, .ref (kA K v0)]) (st1 := [.int x3, .int x2, .ref (kA K v0)]) C hR (lv_sub hl [] rfl) (c_X8_stepOf hx3) ms_X8_stepOf mx_X7_32 ⟨rfl, rfl, (Nat.le_of_ble_eq_true rfl), (Nat.le_of_ble_eq_true rfl)⟩ rfl rfl rfl (Nat.le_of_ble_eq_true rfl) ⟨(Nat.le_of_ble_eq_true rfl), (Nat.le_of_ble_eq_true rfl)⟩ dX7_measure_53 (fun H locs hR => ?_)
    refine lv_isub hx hb dX7_measure_56 ?_
    refine r_jabs C (lv_sub hl [] rfl) ml_X7_35 (Nat.le_of_ble_eq_true rfl) (Nat.le_of_ble_eq_true rfl) ⟨(Nat.le_of_ble_eq_true rfl), (Nat.le_of_ble_eq_true rfl)⟩ dX7_measure_57 ?_
    refine lv_goto (tgt := 64) hx hb dX7_measure_60 (by decide) ?_
    exact w_X7_measure_b64 C  _ _ _ _ _ _ _ _ hf hR (lv_sub hl [1, 0] rfl)
set_option maxHeartbeats 4000000 in
set_option maxRecDepth 100000 in
theorem w_X7_measure_b16 {K : WK} {p : Program} {l : Launch} {e : Env} {s : State} {m : MethodId} {args : Array Value} {below : List Frame} {meth : Method} {c : Code} (C : Cx K p s m args meth c RX7 cX7_measure 4 (Option.none : Option Jvm.ClassFile.FieldType)) {q : AH} : ∀ (v0 : Nat) (v1 : Int32) (v2 : Int32) (t0 : Nat) (t1 : Int32) (hs : AH) (H : Heap) (locs : List Loc) (ls : Array Slot), f_X7_measure_b16 v0 v1 v2 t0 t1 hs = some q → Rl K s hs H locs → lv_has ls 4 [(0, .ref (kA K v0)), (1, .int v1), (2, .int v2)] → W p l e rm_X7_measure s m args below meth c H locs 0 0 (MQ below (MQo K none q) args s 0 0 (kAx K)) (F0 m 16 ls [.int t1, .ref (kA K t0)]) := by
  have hx := C.1
  have hb := C.2.1
  intro v0 v1 v2 t0 t1 hs H locs ls hf hR hl
  rw [f_X7_measure_b16.eq_1] at hf
  obtain ⟨hs1, hhs1, hf⟩ := ob hf
  refine r_putZ C hR hhs1 fl_X7_9 dX7_measure_16 (fun H locs hR => ?_)
  refine lv_aload_n hx hb dX7_measure_19 rfl (lv_at hl 0 rfl) ?_
  obtain ⟨x2, hx2, hf⟩ := ob hf
  refine r_getI C hR hx2 fl_X7_9 dX7_measure_20 ?_
  refine lv_if_eq (tgt := 38) hx hb dX7_measure_23 (by decide) (fun c23 => ?_) (fun c23 => ?_)
  · have hf := ip hf c23
    refine lv_iconst (v := 0) hx hb dX7_measure_38 (by decide) ?_
    exact w_X7_measure_b39 C  _ _ _ _ _ _ _ _ hf hR (lv_sub hl [0, 1, 2] rfl)
  · have hf := iq hf c23
    refine lv_iload_n hx hb dX7_measure_26 rfl (lv_at hl 2 rfl) ?_
    obtain ⟨x3, hx3, hf⟩ := ob hf
    refine r_callSN (As := [.int v2]) (rest := []) (st1 := [.int x3]) C hR (lv_sub hl [] rfl) (c_X8_pitchOf hx3) ms_X8_pitchOf mx_X7_28 ⟨rfl, rfl, (Nat.le_of_ble_eq_true rfl), (Nat.le_of_ble_eq_true rfl)⟩ rfl rfl rfl (Nat.le_of_ble_eq_true rfl) ⟨(Nat.le_of_ble_eq_true rfl), (Nat.le_of_ble_eq_true rfl)⟩ dX7_measure_27 (fun H locs hR => ?_)
    refine lv_iload_n hx hb dX7_measure_30 rfl (lv_at hl 1 rfl) ?_
    obtain ⟨x4, hx4, hf⟩ := ob hf
    refine r_callSN (As := [.int v1]) (rest := [.int x3]) (st1 := [.int x4, .int x3]) C hR (lv_sub hl [] rfl) (c_X8_pitchOf hx4) ms_X8_pitchOf mx_X7_28 ⟨rfl, rfl, (Nat.le_of_ble_eq_true rfl), (Nat.le_of_ble_eq_true rfl)⟩ rfl rfl rfl (Nat.le_of_ble_eq_true rfl) ⟨(Nat.le_of_ble_eq_true rfl), (Nat.le_of_ble_eq_true rfl)⟩ dX7_measure_31 (fun H locs hR => ?_)
    refine lv_isub hx hb dX7_measure_34 ?_
    refine lv_goto (tgt := 39) hx hb dX7_measure_35 (by decide) ?_
    exact w_X7_measure_b39 C  _ _ _ _ _ _ _ _ hf hR (lv_sub hl [0, 1, 2] rfl)
set_option maxHeartbeats 4000000 in
set_option maxRecDepth 100000 in
theorem w_X7_measure_b0 {K : WK} {p : Program} {l : Launch} {e : Env} {s : State} {m : MethodId} {args : Array Value} {below : List Frame} {meth : Method} {c : Code} (C : Cx K p s m args meth c RX7 cX7_measure 4 (Option.none : Option Jvm.ClassFile.FieldType)) {q : AH} : ∀ (v0 : Nat) (v1 : Int32) (v2 : Int32) (hs : AH) (H : Heap) (locs : List Loc) (ls : Array Slot), f_X7_measure v0 v1 v2 hs = some q → Rl K s hs H locs → lv_has ls 4 [(0, .ref (kA K v0)), (1, .int v1), (2, .int v2)] → W p l e rm_X7_measure s m args below meth c H locs 0 0 (MQ below (MQo K none q) args s 0 0 (kAx K)) (F0 m 0 ls []) := by
  have hx := C.1
  have hb := C.2.1
  intro v0 v1 v2 hs H locs ls hf hR hl
  rw [f_X7_measure.eq_1] at hf
  refine lv_aload_n hx hb dX7_measure_0 rfl (lv_at hl 0 rfl) ?_
  refine lv_iload_n hx hb dX7_measure_1 rfl (lv_at hl 1 rfl) ?_
  refine lv_iconst (v := (-1)) hx hb dX7_measure_2 (by decide) ?_
  refine lv_icmp_eq (tgt := 15) hx hb dX7_measure_3 (by decide) (fun c3 => ?_) (fun c3 => ?_)
  · have hf := ip hf c3
    refine lv_iconst (v := 0) hx hb dX7_measure_15 (by decide) ?_
    exact w_X7_measure_b16 C  _ _ _ _ _ _ _ _ _ hf hR (lv_sub hl [0, 1, 2] rfl)
  · have hf := iq hf c3
    refine lv_iload_n hx hb dX7_measure_6 rfl (lv_at hl 2 rfl) ?_
    refine lv_iconst (v := (-1)) hx hb dX7_measure_7 (by decide) ?_
    refine lv_icmp_eq (tgt := 15) hx hb dX7_measure_8 (by decide) (fun c8 => ?_) (fun c8 => ?_)
    · have hf := ip hf c8
      refine lv_iconst (v := 0) hx hb dX7_measure_15 (by decide) ?_
      exact w_X7_measure_b16 C  _ _ _ _ _ _ _ _ _ hf hR (lv_sub hl [0, 1, 2] rfl)
    · have hf := iq hf c8
      refine lv_iconst (v := 1) hx hb dX7_measure_11 (by decide) ?_
      refine lv_goto (tgt := 16) hx hb dX7_measure_12 (by decide) ?_
      exact w_X7_measure_b16 C  _ _ _ _ _ _ _ _ _ hf hR (lv_sub hl [0, 1, 2] rfl)
theorem c_X7_measure {K : WK} {l : Launch} {hs : AH} {v0 : Nat} {v1 : Int32} {v2 : Int32} {q : AH} (hf : f_X7_measure v0 v1 v2 hs = some q) : MC K l yX7_measure cX7_measure 4 (Option.none : Option Jvm.ClassFile.FieldType) rm_X7_measure [.ref (kA K v0), .int v1, .int v2] hs none q 0 0 :=
  MC.of (by decide +kernel) (Nat.le_of_ble_eq_true rfl) (fun p e s m args below meth c C _ hR ls hl => w_X7_measure_b0 C _ _ _ hs _ _ ls hf hR hl)
noncomputable def f_X7_isThere (v0 : Nat) (hs : AH) : Option (Int32) :=
  (gI hs v0 7 0).bind fun x1 =>
  some (vp_nar .boolean x1)
abbrev rm_X7_isThere : Room := { frames := 0, cells := 0, slots := 0, locals := 0 }
set_option maxHeartbeats 4000000 in
set_option maxRecDepth 100000 in
theorem w_X7_isThere_b0 {K : WK} {p : Program} {l : Launch} {e : Env} {s : State} {m : MethodId} {args : Array Value} {below : List Frame} {meth : Method} {c : Code} (C : Cx K p s m args meth c RX7 cX7_isThere 1 (Option.some Jvm.ClassFile.FieldType.boolean)) {q : Int32} : ∀ (v0 : Nat) (hs : AH) (H : Heap) (locs : List Loc) (ls : Array Slot), f_X7_isThere v0 hs = some q → Rl K s hs H locs → lv_has ls 1 [(0, .ref (kA K v0))] → W p l e rm_X7_isThere s m args below meth c H locs 0 0 (MQ below (MQo K (some (.int q)) hs) args s 0 0 (kAx K)) (F0 m 0 ls []) := by
  have hx := C.1
  have hb := C.2.1
  intro v0 hs H locs ls hf hR hl
  rw [f_X7_isThere.eq_1] at hf
  refine lv_aload_n hx hb dX7_isThere_0 rfl (lv_at hl 0 rfl) ?_
  obtain ⟨x1, hx1, hf⟩ := ob hf
  refine r_getI C hR hx1 fl_X7_9 dX7_isThere_1 ?_
  obtain rfl := Option.some.inj hf
  exact r_iret C hR nar_boolean (Nat.le_of_ble_eq_true rfl) (Nat.le_of_ble_eq_true rfl) dX7_isThere_4
theorem c_X7_isThere {K : WK} {l : Launch} {hs : AH} {v0 : Nat} {q : Int32} (hf : f_X7_isThere v0 hs = some q) : MC K l yX7_isThere cX7_isThere 1 (Option.some Jvm.ClassFile.FieldType.boolean) rm_X7_isThere [.ref (kA K v0)] hs (some (.int q)) hs 0 0 :=
  MC.of (by decide +kernel) (Nat.le_of_ble_eq_true rfl) (fun p e s m args below meth c C _ hR ls hl => w_X7_isThere_b0 C _ hs _ _ ls hf hR hl)
noncomputable def f_X7_steps (v0 : Nat) (hs : AH) : Option (Int32) :=
  (gI hs v0 7 1).bind fun x1 =>
  some x1
abbrev rm_X7_steps : Room := { frames := 0, cells := 0, slots := 0, locals := 0 }
set_option maxHeartbeats 4000000 in
set_option maxRecDepth 100000 in
theorem w_X7_steps_b0 {K : WK} {p : Program} {l : Launch} {e : Env} {s : State} {m : MethodId} {args : Array Value} {below : List Frame} {meth : Method} {c : Code} (C : Cx K p s m args meth c RX7 cX7_steps 1 (Option.some Jvm.ClassFile.FieldType.int)) {q : Int32} : ∀ (v0 : Nat) (hs : AH) (H : Heap) (locs : List Loc) (ls : Array Slot), f_X7_steps v0 hs = some q → Rl K s hs H locs → lv_has ls 1 [(0, .ref (kA K v0))] → W p l e rm_X7_steps s m args below meth c H locs 0 0 (MQ below (MQo K (some (.int q)) hs) args s 0 0 (kAx K)) (F0 m 0 ls []) := by
  have hx := C.1
  have hb := C.2.1
  intro v0 hs H locs ls hf hR hl
  rw [f_X7_steps.eq_1] at hf
  refine lv_aload_n hx hb dX7_steps_0 rfl (lv_at hl 0 rfl) ?_
  obtain ⟨x1, hx1, hf⟩ := ob hf
  refine r_getI C hR hx1 fl_X7_15 dX7_steps_1 ?_
  obtain rfl := Option.some.inj hf
  exact r_iret C hR rfl (Nat.le_of_ble_eq_true rfl) (Nat.le_of_ble_eq_true rfl) dX7_steps_4
theorem c_X7_steps {K : WK} {l : Launch} {hs : AH} {v0 : Nat} {q : Int32} (hf : f_X7_steps v0 hs = some q) : MC K l yX7_steps cX7_steps 1 (Option.some Jvm.ClassFile.FieldType.int) rm_X7_steps [.ref (kA K v0)] hs (some (.int q)) hs 0 0 :=
  MC.of (by decide +kernel) (Nat.le_of_ble_eq_true rfl) (fun p e s m args below meth c C _ hR ls hl => w_X7_steps_b0 C _ hs _ _ ls hf hR hl)
noncomputable def f_X7_width (v0 : Nat) (hs : AH) : Option (Int32) :=
  (gI hs v0 7 2).bind fun x1 =>
  some x1
abbrev rm_X7_width : Room := { frames := 0, cells := 0, slots := 0, locals := 0 }
set_option maxHeartbeats 4000000 in
set_option maxRecDepth 100000 in
theorem w_X7_width_b0 {K : WK} {p : Program} {l : Launch} {e : Env} {s : State} {m : MethodId} {args : Array Value} {below : List Frame} {meth : Method} {c : Code} (C : Cx K p s m args meth c RX7 cX7_width 1 (Option.some Jvm.ClassFile.FieldType.int)) {q : Int32} : ∀ (v0 : Nat) (hs : AH) (H : Heap) (locs : List Loc) (ls : Array Slot), f_X7_width v0 hs = some q → Rl K s hs H locs → lv_has ls 1 [(0, .ref (kA K v0))] → W p l e rm_X7_width s m args below meth c H locs 0 0 (MQ below (MQo K (some (.int q)) hs) args s 0 0 (kAx K)) (F0 m 0 ls []) := by
  have hx := C.1
  have hb := C.2.1
  intro v0 hs H locs ls hf hR hl
  rw [f_X7_width.eq_1] at hf
  refine lv_aload_n hx hb dX7_width_0 rfl (lv_at hl 0 rfl) ?_
  obtain ⟨x1, hx1, hf⟩ := ob hf
  refine r_getI C hR hx1 fl_X7_19 dX7_width_1 ?_
  obtain rfl := Option.some.inj hf
  exact r_iret C hR rfl (Nat.le_of_ble_eq_true rfl) (Nat.le_of_ble_eq_true rfl) dX7_width_4
theorem c_X7_width {K : WK} {l : Launch} {hs : AH} {v0 : Nat} {q : Int32} (hf : f_X7_width v0 hs = some q) : MC K l yX7_width cX7_width 1 (Option.some Jvm.ClassFile.FieldType.int) rm_X7_width [.ref (kA K v0)] hs (some (.int q)) hs 0 0 :=
  MC.of (by decide +kernel) (Nat.le_of_ble_eq_true rfl) (fun p e s m args below meth c C _ hR ls hl => w_X7_width_b0 C _ hs _ _ ls hf hR hl)
noncomputable def f_X7_way (v0 : Nat) (hs : AH) : Option (Int32) :=
  (gI hs v0 7 3).bind fun x1 =>
  some x1
abbrev rm_X7_way : Room := { frames := 0, cells := 0, slots := 0, locals := 0 }
set_option maxHeartbeats 4000000 in
set_option maxRecDepth 100000 in
theorem w_X7_way_b0 {K : WK} {p : Program} {l : Launch} {e : Env} {s : State} {m : MethodId} {args : Array Value} {below : List Frame} {meth : Method} {c : Code} (C : Cx K p s m args meth c RX7 cX7_way 1 (Option.some Jvm.ClassFile.FieldType.int)) {q : Int32} : ∀ (v0 : Nat) (hs : AH) (H : Heap) (locs : List Loc) (ls : Array Slot), f_X7_way v0 hs = some q → Rl K s hs H locs → lv_has ls 1 [(0, .ref (kA K v0))] → W p l e rm_X7_way s m args below meth c H locs 0 0 (MQ below (MQo K (some (.int q)) hs) args s 0 0 (kAx K)) (F0 m 0 ls []) := by
  have hx := C.1
  have hb := C.2.1
  intro v0 hs H locs ls hf hR hl
  rw [f_X7_way.eq_1] at hf
  refine lv_aload_n hx hb dX7_way_0 rfl (lv_at hl 0 rfl) ?_
  obtain ⟨x1, hx1, hf⟩ := ob hf
  refine r_getI C hR hx1 fl_X7_22 dX7_way_1 ?_
  obtain rfl := Option.some.inj hf
  exact r_iret C hR rfl (Nat.le_of_ble_eq_true rfl) (Nat.le_of_ble_eq_true rfl) dX7_way_4
theorem c_X7_way {K : WK} {l : Launch} {hs : AH} {v0 : Nat} {q : Int32} (hf : f_X7_way v0 hs = some q) : MC K l yX7_way cX7_way 1 (Option.some Jvm.ClassFile.FieldType.int) rm_X7_way [.ref (kA K v0)] hs (some (.int q)) hs 0 0 :=
  MC.of (by decide +kernel) (Nat.le_of_ble_eq_true rfl) (fun p e s m args below meth c C _ hR ls hl => w_X7_way_b0 C _ hs _ _ ls hf hR hl)
noncomputable def f_X7_isStep (v0 : Nat) (hs : AH) : Option (Int32) :=
  (gI hs v0 7 1).bind fun x1 =>
  if x1 = 1 then
  (
   some 1)
  else
  (
   some 0)
abbrev rm_X7_isStep : Room := { frames := 0, cells := 0, slots := 0, locals := 0 }
set_option maxHeartbeats 4000000 in
set_option maxRecDepth 100000 in
theorem w_X7_isStep_b0 {K : WK} {p : Program} {l : Launch} {e : Env} {s : State} {m : MethodId} {args : Array Value} {below : List Frame} {meth : Method} {c : Code} (C : Cx K p s m args meth c RX7 cX7_isStep 1 (Option.some Jvm.ClassFile.FieldType.boolean)) {q : Int32} : ∀ (v0 : Nat) (hs : AH) (H : Heap) (locs : List Loc) (ls : Array Slot), f_X7_isStep v0 hs = some q → Rl K s hs H locs → lv_has ls 1 [(0, .ref (kA K v0))] → W p l e rm_X7_isStep s m args below meth c H locs 0 0 (MQ below (MQo K (some (.int q)) hs) args s 0 0 (kAx K)) (F0 m 0 ls []) := by
  have hx := C.1
  have hb := C.2.1
  intro v0 hs H locs ls hf hR hl
  rw [f_X7_isStep.eq_1] at hf
  refine lv_aload_n hx hb dX7_isStep_0 rfl (lv_at hl 0 rfl) ?_
  obtain ⟨x1, hx1, hf⟩ := ob hf
  refine r_getI C hR hx1 fl_X7_15 dX7_isStep_1 ?_
  refine lv_iconst (v := 1) hx hb dX7_isStep_4 (by decide) ?_
  refine lv_icmp_ne (tgt := 12) hx hb dX7_isStep_5 (by decide) (fun c5 => ?_) (fun c5 => ?_)
  · have hf := iq hf c5
    refine lv_iconst (v := 0) hx hb dX7_isStep_12 (by decide) ?_
    obtain rfl := Option.some.inj hf
    exact r_iret C hR rfl (Nat.le_of_ble_eq_true rfl) (Nat.le_of_ble_eq_true rfl) dX7_isStep_13
  · have hf := ip hf c5
    refine lv_iconst (v := 1) hx hb dX7_isStep_8 (by decide) ?_
    refine lv_goto (tgt := 13) hx hb dX7_isStep_9 (by decide) ?_
    obtain rfl := Option.some.inj hf
    exact r_iret C hR rfl (Nat.le_of_ble_eq_true rfl) (Nat.le_of_ble_eq_true rfl) dX7_isStep_13
theorem c_X7_isStep {K : WK} {l : Launch} {hs : AH} {v0 : Nat} {q : Int32} (hf : f_X7_isStep v0 hs = some q) : MC K l yX7_isStep cX7_isStep 1 (Option.some Jvm.ClassFile.FieldType.boolean) rm_X7_isStep [.ref (kA K v0)] hs (some (.int q)) hs 0 0 :=
  MC.of (by decide +kernel) (Nat.le_of_ble_eq_true rfl) (fun p e s m args below meth c C _ hR ls hl => w_X7_isStep_b0 C _ hs _ _ ls hf hR hl)
noncomputable def f_X7_isLeap (v0 : Nat) (hs : AH) : Option (Int32) :=
  (gI hs v0 7 1).bind fun x1 =>
  if x1 ≤ 1 then
  (
   some 0)
  else
  (
   some 1)
abbrev rm_X7_isLeap : Room := { frames := 0, cells := 0, slots := 0, locals := 0 }
set_option maxHeartbeats 4000000 in
set_option maxRecDepth 100000 in
theorem w_X7_isLeap_b0 {K : WK} {p : Program} {l : Launch} {e : Env} {s : State} {m : MethodId} {args : Array Value} {below : List Frame} {meth : Method} {c : Code} (C : Cx K p s m args meth c RX7 cX7_isLeap 1 (Option.some Jvm.ClassFile.FieldType.boolean)) {q : Int32} : ∀ (v0 : Nat) (hs : AH) (H : Heap) (locs : List Loc) (ls : Array Slot), f_X7_isLeap v0 hs = some q → Rl K s hs H locs → lv_has ls 1 [(0, .ref (kA K v0))] → W p l e rm_X7_isLeap s m args below meth c H locs 0 0 (MQ below (MQo K (some (.int q)) hs) args s 0 0 (kAx K)) (F0 m 0 ls []) := by
  have hx := C.1
  have hb := C.2.1
  intro v0 hs H locs ls hf hR hl
  rw [f_X7_isLeap.eq_1] at hf
  refine lv_aload_n hx hb dX7_isLeap_0 rfl (lv_at hl 0 rfl) ?_
  obtain ⟨x1, hx1, hf⟩ := ob hf
  refine r_getI C hR hx1 fl_X7_15 dX7_isLeap_1 ?_
  refine lv_iconst (v := 1) hx hb dX7_isLeap_4 (by decide) ?_
  refine lv_icmp_le (tgt := 12) hx hb dX7_isLeap_5 (by decide) (fun c5 => ?_) (fun c5 => ?_)
  · have hf := ip hf c5
    refine lv_iconst (v := 0) hx hb dX7_isLeap_12 (by decide) ?_
    obtain rfl := Option.some.inj hf
    exact r_iret C hR rfl (Nat.le_of_ble_eq_true rfl) (Nat.le_of_ble_eq_true rfl) dX7_isLeap_13
  · have hf := iq hf c5
    refine lv_iconst (v := 1) hx hb dX7_isLeap_8 (by decide) ?_
    refine lv_goto (tgt := 13) hx hb dX7_isLeap_9 (by decide) ?_
    obtain rfl := Option.some.inj hf
    exact r_iret C hR rfl (Nat.le_of_ble_eq_true rfl) (Nat.le_of_ble_eq_true rfl) dX7_isLeap_13
theorem c_X7_isLeap {K : WK} {l : Launch} {hs : AH} {v0 : Nat} {q : Int32} (hf : f_X7_isLeap v0 hs = some q) : MC K l yX7_isLeap cX7_isLeap 1 (Option.some Jvm.ClassFile.FieldType.boolean) rm_X7_isLeap [.ref (kA K v0)] hs (some (.int q)) hs 0 0 :=
  MC.of (by decide +kernel) (Nat.le_of_ble_eq_true rfl) (fun p e s m args below meth c C _ hR ls hl => w_X7_isLeap_b0 C _ hs _ _ ls hf hR hl)
noncomputable def f_X7_goesWith (v0 : Nat) (v1 : Nat) (hs : AH) : Option (Int32) :=
  (gI hs v0 7 3).bind fun x1 =>
  if x1 = 0 then
  (
   some 0)
  else
  (
   (gI hs v0 7 3).bind fun x2 =>
   (gI hs v1 7 3).bind fun x3 =>
   if x2 = x3 then
   (
    some 1)
   else
   (
    some 0))
abbrev rm_X7_goesWith : Room := { frames := 0, cells := 0, slots := 0, locals := 0 }
set_option maxHeartbeats 4000000 in
set_option maxRecDepth 100000 in
theorem w_X7_goesWith_b0 {K : WK} {p : Program} {l : Launch} {e : Env} {s : State} {m : MethodId} {args : Array Value} {below : List Frame} {meth : Method} {c : Code} (C : Cx K p s m args meth c RX7 cX7_goesWith 2 (Option.some Jvm.ClassFile.FieldType.boolean)) {q : Int32} : ∀ (v0 : Nat) (v1 : Nat) (hs : AH) (H : Heap) (locs : List Loc) (ls : Array Slot), f_X7_goesWith v0 v1 hs = some q → Rl K s hs H locs → lv_has ls 2 [(0, .ref (kA K v0)), (1, .ref (kA K v1))] → W p l e rm_X7_goesWith s m args below meth c H locs 0 0 (MQ below (MQo K (some (.int q)) hs) args s 0 0 (kAx K)) (F0 m 0 ls []) := by
  have hx := C.1
  have hb := C.2.1
  intro v0 v1 hs H locs ls hf hR hl
  rw [f_X7_goesWith.eq_1] at hf
  refine lv_aload_n hx hb dX7_goesWith_0 rfl (lv_at hl 0 rfl) ?_
  obtain ⟨x1, hx1, hf⟩ := ob hf
  refine r_getI C hR hx1 fl_X7_22 dX7_goesWith_1 ?_
  refine lv_if_eq (tgt := 22) hx hb dX7_goesWith_4 (by decide) (fun c4 => ?_) (fun c4 => ?_)
  · have hf := ip hf c4
    refine lv_iconst (v := 0) hx hb dX7_goesWith_22 (by decide) ?_
    obtain rfl := Option.some.inj hf
    exact r_iret C hR rfl (Nat.le_of_ble_eq_true rfl) (Nat.le_of_ble_eq_true rfl) dX7_goesWith_23
  · have hf := iq hf c4
    refine lv_aload_n hx hb dX7_goesWith_7 rfl (lv_at hl 0 rfl) ?_
    obtain ⟨x2, hx2, hf⟩ := ob hf
    refine r_getI C hR hx2 fl_X7_22 dX7_goesWith_8 ?_
    refine lv_aload_n hx hb dX7_goesWith_11 rfl (lv_at hl 1 rfl) ?_
    obtain ⟨x3, hx3, hf⟩ := ob hf
    refine r_getI C hR hx3 fl_X7_22 dX7_goesWith_12 ?_
    refine lv_icmp_ne (tgt := 22) hx hb dX7_goesWith_15 (by decide) (fun c15 => ?_) (fun c15 => ?_)
    · have hf := iq hf c15
      refine lv_iconst (v := 0) hx hb dX7_goesWith_22 (by decide) ?_
      obtain rfl := Option.some.inj hf
      exact r_iret C hR rfl (Nat.le_of_ble_eq_true rfl) (Nat.le_of_ble_eq_true rfl) dX7_goesWith_23
    · have hf := ip hf c15
      refine lv_iconst (v := 1) hx hb dX7_goesWith_18 (by decide) ?_
      refine lv_goto (tgt := 23) hx hb dX7_goesWith_19 (by decide) ?_
      obtain rfl := Option.some.inj hf
      exact r_iret C hR rfl (Nat.le_of_ble_eq_true rfl) (Nat.le_of_ble_eq_true rfl) dX7_goesWith_23
theorem c_X7_goesWith {K : WK} {l : Launch} {hs : AH} {v0 : Nat} {v1 : Nat} {q : Int32} (hf : f_X7_goesWith v0 v1 hs = some q) : MC K l yX7_goesWith cX7_goesWith 2 (Option.some Jvm.ClassFile.FieldType.boolean) rm_X7_goesWith [.ref (kA K v0), .ref (kA K v1)] hs (some (.int q)) hs 0 0 :=
  MC.of (by decide +kernel) (Nat.le_of_ble_eq_true rfl) (fun p e s m args below meth c C _ hR ls hl => w_X7_goesWith_b0 C _ _ hs _ _ ls hf hR hl)
noncomputable def f_X7_goesAgainst (v0 : Nat) (v1 : Nat) (hs : AH) : Option (Int32) :=
  (gI hs v0 7 3).bind fun x1 =>
  if x1 = 0 then
  (
   some 0)
  else
  (
   (gI hs v0 7 3).bind fun x2 =>
   (gI hs v1 7 3).bind fun x3 =>
   if x2 = (-x3) then
   (
    some 1)
   else
   (
    some 0))
abbrev rm_X7_goesAgainst : Room := { frames := 0, cells := 0, slots := 0, locals := 0 }
set_option maxHeartbeats 4000000 in
set_option maxRecDepth 100000 in
theorem w_X7_goesAgainst_b0 {K : WK} {p : Program} {l : Launch} {e : Env} {s : State} {m : MethodId} {args : Array Value} {below : List Frame} {meth : Method} {c : Code} (C : Cx K p s m args meth c RX7 cX7_goesAgainst 2 (Option.some Jvm.ClassFile.FieldType.boolean)) {q : Int32} : ∀ (v0 : Nat) (v1 : Nat) (hs : AH) (H : Heap) (locs : List Loc) (ls : Array Slot), f_X7_goesAgainst v0 v1 hs = some q → Rl K s hs H locs → lv_has ls 2 [(0, .ref (kA K v0)), (1, .ref (kA K v1))] → W p l e rm_X7_goesAgainst s m args below meth c H locs 0 0 (MQ below (MQo K (some (.int q)) hs) args s 0 0 (kAx K)) (F0 m 0 ls []) := by
  have hx := C.1
  have hb := C.2.1
  intro v0 v1 hs H locs ls hf hR hl
  rw [f_X7_goesAgainst.eq_1] at hf
  refine lv_aload_n hx hb dX7_goesAgainst_0 rfl (lv_at hl 0 rfl) ?_
  obtain ⟨x1, hx1, hf⟩ := ob hf
  refine r_getI C hR hx1 fl_X7_22 dX7_goesAgainst_1 ?_
  refine lv_if_eq (tgt := 23) hx hb dX7_goesAgainst_4 (by decide) (fun c4 => ?_) (fun c4 => ?_)
  · have hf := ip hf c4
    refine lv_iconst (v := 0) hx hb dX7_goesAgainst_23 (by decide) ?_
    obtain rfl := Option.some.inj hf
    exact r_iret C hR rfl (Nat.le_of_ble_eq_true rfl) (Nat.le_of_ble_eq_true rfl) dX7_goesAgainst_24
  · have hf := iq hf c4
    refine lv_aload_n hx hb dX7_goesAgainst_7 rfl (lv_at hl 0 rfl) ?_
    obtain ⟨x2, hx2, hf⟩ := ob hf
    refine r_getI C hR hx2 fl_X7_22 dX7_goesAgainst_8 ?_
    refine lv_aload_n hx hb dX7_goesAgainst_11 rfl (lv_at hl 1 rfl) ?_
    obtain ⟨x3, hx3, hf⟩ := ob hf
    refine r_getI C hR hx3 fl_X7_22 dX7_goesAgainst_12 ?_
    refine lv_ineg hx hb dX7_goesAgainst_15 ?_
    refine lv_icmp_ne (tgt := 23) hx hb dX7_goesAgainst_16 (by decide) (fun c16 => ?_) (fun c16 => ?_)
    · have hf := iq hf c16
      refine lv_iconst (v := 0) hx hb dX7_goesAgainst_23 (by decide) ?_
      obtain rfl := Option.some.inj hf
      exact r_iret C hR rfl (Nat.le_of_ble_eq_true rfl) (Nat.le_of_ble_eq_true rfl) dX7_goesAgainst_24
    · have hf := ip hf c16
      refine lv_iconst (v := 1) hx hb dX7_goesAgainst_19 (by decide) ?_
      refine lv_goto (tgt := 24) hx hb dX7_goesAgainst_20 (by decide) ?_
      obtain rfl := Option.some.inj hf
      exact r_iret C hR rfl (Nat.le_of_ble_eq_true rfl) (Nat.le_of_ble_eq_true rfl) dX7_goesAgainst_24
theorem c_X7_goesAgainst {K : WK} {l : Launch} {hs : AH} {v0 : Nat} {v1 : Nat} {q : Int32} (hf : f_X7_goesAgainst v0 v1 hs = some q) : MC K l yX7_goesAgainst cX7_goesAgainst 2 (Option.some Jvm.ClassFile.FieldType.boolean) rm_X7_goesAgainst [.ref (kA K v0), .ref (kA K v1)] hs (some (.int q)) hs 0 0 :=
  MC.of (by decide +kernel) (Nat.le_of_ble_eq_true rfl) (fun p e s m args below meth c C _ hR ls hl => w_X7_goesAgainst_b0 C _ _ hs _ _ ls hf hR hl)
noncomputable def f_X7_perfectClass (v0 : Nat) (hs : AH) : Option (Int32) :=
  (gI hs v0 7 4).bind fun x1 =>
  some x1
abbrev rm_X7_perfectClass : Room := { frames := 0, cells := 0, slots := 0, locals := 0 }
set_option maxHeartbeats 4000000 in
set_option maxRecDepth 100000 in
theorem w_X7_perfectClass_b0 {K : WK} {p : Program} {l : Launch} {e : Env} {s : State} {m : MethodId} {args : Array Value} {below : List Frame} {meth : Method} {c : Code} (C : Cx K p s m args meth c RX7 cX7_perfectClass 1 (Option.some Jvm.ClassFile.FieldType.int)) {q : Int32} : ∀ (v0 : Nat) (hs : AH) (H : Heap) (locs : List Loc) (ls : Array Slot), f_X7_perfectClass v0 hs = some q → Rl K s hs H locs → lv_has ls 1 [(0, .ref (kA K v0))] → W p l e rm_X7_perfectClass s m args below meth c H locs 0 0 (MQ below (MQo K (some (.int q)) hs) args s 0 0 (kAx K)) (F0 m 0 ls []) := by
  have hx := C.1
  have hb := C.2.1
  intro v0 hs H locs ls hf hR hl
  rw [f_X7_perfectClass.eq_1] at hf
  refine lv_aload_n hx hb dX7_perfectClass_0 rfl (lv_at hl 0 rfl) ?_
  obtain ⟨x1, hx1, hf⟩ := ob hf
  refine r_getI C hR hx1 fl_X7_25 dX7_perfectClass_1 ?_
  obtain rfl := Option.some.inj hf
  exact r_iret C hR rfl (Nat.le_of_ble_eq_true rfl) (Nat.le_of_ble_eq_true rfl) dX7_perfectClass_4
theorem c_X7_perfectClass {K : WK} {l : Launch} {hs : AH} {v0 : Nat} {q : Int32} (hf : f_X7_perfectClass v0 hs = some q) : MC K l yX7_perfectClass cX7_perfectClass 1 (Option.some Jvm.ClassFile.FieldType.int) rm_X7_perfectClass [.ref (kA K v0)] hs (some (.int q)) hs 0 0 :=
  MC.of (by decide +kernel) (Nat.le_of_ble_eq_true rfl) (fun p e s m args below meth c C _ hR ls hl => w_X7_perfectClass_b0 C _ hs _ _ ls hf hR hl)
noncomputable def f_X7_isConsonant (v0 : Nat) (hs : AH) : Option (Int32) :=
  (gI hs v0 7 4).bind fun x1 =>
  if x1 = 0 then
  (
   (chk hs v0 7).bind fun u2 =>
   (f_X7_leaves v0 2 3 hs).bind fun x3 =>
   if x3 = 0 then
   (
    (chk hs v0 7).bind fun u4 =>
    (f_X7_leaves v0 2 4 hs).bind fun x5 =>
    if x5 = 0 then
    (
     (chk hs v0 7).bind fun u6 =>
     (f_X7_leaves v0 5 8 hs).bind fun x7 =>
     if x7 = 0 then
     (
      (chk hs v0 7).bind fun u8 =>
      (f_X7_leaves v0 5 9 hs).bind fun x9 =>
      if x9 = 0 then
      (
       some 0)
      else
      (
       some 1))
     else
     (
      some 1))
    else
    (
     some 1))
   else
   (
    some 1))
  else
  (
   some 1)
abbrev rm_X7_isConsonant : Room := { frames := 1, cells := 0, slots := 0, locals := 22 }
set_option maxHeartbeats 4000000 in
set_option maxRecDepth 100000 in
theorem w_X7_isConsonant_b0 {K : WK} {p : Program} {l : Launch} {e : Env} {s : State} {m : MethodId} {args : Array Value} {below : List Frame} {meth : Method} {c : Code} (C : Cx K p s m args meth c RX7 cX7_isConsonant 1 (Option.some Jvm.ClassFile.FieldType.boolean)) {q : Int32} : ∀ (v0 : Nat) (hs : AH) (H : Heap) (locs : List Loc) (ls : Array Slot), f_X7_isConsonant v0 hs = some q → Rl K s hs H locs → lv_has ls 1 [(0, .ref (kA K v0))] → W p l e rm_X7_isConsonant s m args below meth c H locs 0 0 (MQ below (MQo K (some (.int q)) hs) args s 0 0 (kAx K)) (F0 m 0 ls []) := by
  have hx := C.1
  have hb := C.2.1
  intro v0 hs H locs ls hf hR hl
  rw [f_X7_isConsonant.eq_1] at hf
  refine lv_aload_n hx hb dX7_isConsonant_0 rfl (lv_at hl 0 rfl) ?_
  obtain ⟨x1, hx1, hf⟩ := ob hf
  refine r_getI C hR hx1 fl_X7_25 dX7_isConsonant_1 ?_
  refine lv_if_ne (tgt := 45) hx hb dX7_isConsonant_4 (by decide) (fun c4 => ?_) (fun c4 => ?_)
  · have hf := iq hf c4
    refine lv_iconst (v := 1) hx hb dX7_isConsonant_45 (by decide) ?_
    refine lv_goto (tgt := 50) hx hb dX7_isConsonant_46 (by decide) ?_
    obtain rfl := Option.some.inj hf
    exact r_iret C hR rfl (Nat.le_of_ble_eq_true rfl) (Nat.le_of_ble_eq_true rfl) dX7_isConsonant_50
  · have hf := ip hf c4
    refine lv_aload_n hx hb dX7_isConsonant_7 rfl (lv_at hl 0 rfl) ?_
    refine lv_iconst (v := 2) hx hb dX7_isConsonant_8 (by decide) ?_
    refine lv_iconst (v := 3) hx hb dX7_isConsonant_9 (by decide) ?_
    obtain ⟨u2, hu2, hf⟩ := ob hf
    obtain ⟨x3, hx3, hf⟩ := ob hf
    refine r_callV (As := [.int 2, .int 3]) (rest := []) (st1 := [.int x3]) C hR (lv_sub hl [] rfl) (c_X7_leaves hx3) mv_X7_leaves ml_X7_40 ⟨rfl, rfl, (Nat.le_of_ble_eq_true rfl), (Nat.le_of_ble_eq_true rfl)⟩ (rv_obj C hR hu2 (q := (RX7, TX7, 5)) rfl) rfl rfl rfl (Nat.le_of_ble_eq_true rfl) ⟨(Nat.le_of_ble_eq_true rfl), (Nat.le_of_ble_eq_true rfl)⟩ dX7_isConsonant_10 (fun H locs hR => ?_)
    refine lv_if_ne (tgt := 45) hx hb dX7_isConsonant_13 (by decide) (fun c13 => ?_) (fun c13 => ?_)
    · have hf := iq hf c13
      refine lv_iconst (v := 1) hx hb dX7_isConsonant_45 (by decide) ?_
      refine lv_goto (tgt := 50) hx hb dX7_isConsonant_46 (by decide) ?_
      obtain rfl := Option.some.inj hf
      exact r_iret C hR rfl (Nat.le_of_ble_eq_true rfl) (Nat.le_of_ble_eq_true rfl) dX7_isConsonant_50
    · have hf := ip hf c13
      refine lv_aload_n hx hb dX7_isConsonant_16 rfl (lv_at hl 0 rfl) ?_
      refine lv_iconst (v := 2) hx hb dX7_isConsonant_17 (by decide) ?_
      refine lv_iconst (v := 4) hx hb dX7_isConsonant_18 (by decide) ?_
      obtain ⟨u4, hu4, hf⟩ := ob hf
      obtain ⟨x5, hx5, hf⟩ := ob hf
      refine r_callV (As := [.int 2, .int 4]) (rest := []) (st1 := [.int x5]) C hR (lv_sub hl [] rfl) (c_X7_leaves hx5) mv_X7_leaves ml_X7_40 ⟨rfl, rfl, (Nat.le_of_ble_eq_true rfl), (Nat.le_of_ble_eq_true rfl)⟩ (rv_obj C hR hu4 (q := (RX7, TX7, 5)) rfl) rfl rfl rfl (Nat.le_of_ble_eq_true rfl) ⟨(Nat.le_of_ble_eq_true rfl), (Nat.le_of_ble_eq_true rfl)⟩ dX7_isConsonant_19 (fun H locs hR => ?_)
      refine lv_if_ne (tgt := 45) hx hb dX7_isConsonant_22 (by decide) (fun c22 => ?_) (fun c22 => ?_)
      · have hf := iq hf c22
        refine lv_iconst (v := 1) hx hb dX7_isConsonant_45 (by decide) ?_
        refine lv_goto (tgt := 50) hx hb dX7_isConsonant_46 (by decide) ?_
        obtain rfl := Option.some.inj hf
        exact r_iret C hR rfl (Nat.le_of_ble_eq_true rfl) (Nat.le_of_ble_eq_true rfl) dX7_isConsonant_50
      · have hf := ip hf c22
        refine lv_aload_n hx hb dX7_isConsonant_25 rfl (lv_at hl 0 rfl) ?_
        refine lv_iconst (v := 5) hx hb dX7_isConsonant_26 (by decide) ?_
        refine lv_bipush (v := 8) hx hb dX7_isConsonant_27 (by decide) ?_
        obtain ⟨u6, hu6, hf⟩ := ob hf
        obtain ⟨x7, hx7, hf⟩ := ob hf
        refine r_callV (As := [.int 5, .int 8]) (rest := []) (st1 := [.int x7]) C hR (lv_sub hl [] rfl) (c_X7_leaves hx7) mv_X7_leaves ml_X7_40 ⟨rfl, rfl, (Nat.le_of_ble_eq_true rfl), (Nat.le_of_ble_eq_true rfl)⟩ (rv_obj C hR hu6 (q := (RX7, TX7, 5)) rfl) rfl rfl rfl (Nat.le_of_ble_eq_true rfl) ⟨(Nat.le_of_ble_eq_true rfl), (Nat.le_of_ble_eq_true rfl)⟩ dX7_isConsonant_29 (fun H locs hR => ?_)
        refine lv_if_ne (tgt := 45) hx hb dX7_isConsonant_32 (by decide) (fun c32 => ?_) (fun c32 => ?_)
        · have hf := iq hf c32
          refine lv_iconst (v := 1) hx hb dX7_isConsonant_45 (by decide) ?_
          refine lv_goto (tgt := 50) hx hb dX7_isConsonant_46 (by decide) ?_
          obtain rfl := Option.some.inj hf
          exact r_iret C hR rfl (Nat.le_of_ble_eq_true rfl) (Nat.le_of_ble_eq_true rfl) dX7_isConsonant_50
        · have hf := ip hf c32
          refine lv_aload_n hx hb dX7_isConsonant_35 rfl (lv_at hl 0 rfl) ?_
          refine lv_iconst (v := 5) hx hb dX7_isConsonant_36 (by decide) ?_
          refine lv_bipush (v := 9) hx hb dX7_isConsonant_37 (by decide) ?_
          obtain ⟨u8, hu8, hf⟩ := ob hf
          obtain ⟨x9, hx9, hf⟩ := ob hf
          refine r_callV (As := [.int 5, .int 9]) (rest := []) (st1 := [.int x9]) C hR (lv_sub hl [] rfl) (c_X7_leaves hx9) mv_X7_leaves ml_X7_40 ⟨rfl, rfl, (Nat.le_of_ble_eq_true rfl), (Nat.le_of_ble_eq_true rfl)⟩ (rv_obj C hR hu8 (q := (RX7, TX7, 5)) rfl) rfl rfl rfl (Nat.le_of_ble_eq_true rfl) ⟨(Nat.le_of_ble_eq_true rfl), (Nat.le_of_ble_eq_true rfl)⟩ dX7_isConsonant_39 (fun H locs hR => ?_)
          refine lv_if_eq (tgt := 49) hx hb dX7_isConsonant_42 (by decide) (fun c42 => ?_) (fun c42 => ?_)
          · have hf := ip hf c42
            refine lv_iconst (v := 0) hx hb dX7_isConsonant_49 (by decide) ?_
            obtain rfl := Option.some.inj hf
            exact r_iret C hR rfl (Nat.le_of_ble_eq_true rfl) (Nat.le_of_ble_eq_true rfl) dX7_isConsonant_50
          · have hf := iq hf c42
            refine lv_iconst (v := 1) hx hb dX7_isConsonant_45 (by decide) ?_
            refine lv_goto (tgt := 50) hx hb dX7_isConsonant_46 (by decide) ?_
            obtain rfl := Option.some.inj hf
            exact r_iret C hR rfl (Nat.le_of_ble_eq_true rfl) (Nat.le_of_ble_eq_true rfl) dX7_isConsonant_50
theorem c_X7_isConsonant {K : WK} {l : Launch} {hs : AH} {v0 : Nat} {q : Int32} (hf : f_X7_isConsonant v0 hs = some q) : MC K l yX7_isConsonant cX7_isConsonant 1 (Option.some Jvm.ClassFile.FieldType.boolean) rm_X7_isConsonant [.ref (kA K v0)] hs (some (.int q)) hs 0 0 :=
  MC.of (by decide +kernel) (Nat.le_of_ble_eq_true rfl) (fun p e s m args below meth c C _ hR ls hl => w_X7_isConsonant_b0 C _ hs _ _ ls hf hR hl)
noncomputable def f_X7_sound (v0 : Nat) (hs : AH) : Option (Int32) :=
  (gI hs v0 7 4).bind fun x1 =>
  if x1 = 0 then
  (
   (chk hs v0 7).bind fun u2 =>
   (f_X7_isConsonant v0 hs).bind fun x3 =>
   if x3 = 0 then
   (
    some 0)
   else
   (
    some 1))
  else
  (
   some 2)
abbrev rm_X7_sound : Room := { frames := 2, cells := 0, slots := 0, locals := 42 }
set_option maxHeartbeats 4000000 in
set_option maxRecDepth 100000 in
theorem w_X7_sound_b0 {K : WK} {p : Program} {l : Launch} {e : Env} {s : State} {m : MethodId} {args : Array Value} {below : List Frame} {meth : Method} {c : Code} (C : Cx K p s m args meth c RX7 cX7_sound 1 (Option.some Jvm.ClassFile.FieldType.int)) {q : Int32} : ∀ (v0 : Nat) (hs : AH) (H : Heap) (locs : List Loc) (ls : Array Slot), f_X7_sound v0 hs = some q → Rl K s hs H locs → lv_has ls 1 [(0, .ref (kA K v0))] → W p l e rm_X7_sound s m args below meth c H locs 0 0 (MQ below (MQo K (some (.int q)) hs) args s 0 0 (kAx K)) (F0 m 0 ls []) := by
  have hx := C.1
  have hb := C.2.1
  intro v0 hs H locs ls hf hR hl
  rw [f_X7_sound.eq_1] at hf
  refine lv_aload_n hx hb dX7_sound_0 rfl (lv_at hl 0 rfl) ?_
  obtain ⟨x1, hx1, hf⟩ := ob hf
  refine r_getI C hR hx1 fl_X7_25 dX7_sound_1 ?_
  refine lv_if_eq (tgt := 11) hx hb dX7_sound_4 (by decide) (fun c4 => ?_) (fun c4 => ?_)
  · have hf := ip hf c4
    refine lv_aload_n hx hb dX7_sound_11 rfl (lv_at hl 0 rfl) ?_
    obtain ⟨u2, hu2, hf⟩ := ob hf
    obtain ⟨x3, hx3, hf⟩ := ob hf
    refine r_callV (As := []) (rest := []) (st1 := [.int x3]) C hR (lv_sub hl [] rfl) (c_X7_isConsonant hx3) mv_X7_isConsonant ml_X7_44 ⟨rfl, rfl, (Nat.le_of_ble_eq_true rfl), (Nat.le_of_ble_eq_true rfl)⟩ (rv_obj C hR hu2 (q := (RX7, TX7, 5)) rfl) rfl rfl rfl (Nat.le_of_ble_eq_true rfl) ⟨(Nat.le_of_ble_eq_true rfl), (Nat.le_of_ble_eq_true rfl)⟩ dX7_sound_12 (fun H locs hR => ?_)
    refine lv_if_eq (tgt := 22) hx hb dX7_sound_15 (by decide) (fun c15 => ?_) (fun c15 => ?_)
    · have hf := ip hf c15
      refine lv_iconst (v := 0) hx hb dX7_sound_22 (by decide) ?_
      obtain rfl := Option.some.inj hf
      exact r_iret C hR rfl (Nat.le_of_ble_eq_true rfl) (Nat.le_of_ble_eq_true rfl) dX7_sound_23
    · have hf := iq hf c15
      refine lv_iconst (v := 1) hx hb dX7_sound_18 (by decide) ?_
      refine lv_goto (tgt := 23) hx hb dX7_sound_19 (by decide) ?_
      obtain rfl := Option.some.inj hf
      exact r_iret C hR rfl (Nat.le_of_ble_eq_true rfl) (Nat.le_of_ble_eq_true rfl) dX7_sound_23
  · have hf := iq hf c4
    refine lv_iconst (v := 2) hx hb dX7_sound_7 (by decide) ?_
    refine lv_goto (tgt := 23) hx hb dX7_sound_8 (by decide) ?_
    obtain rfl := Option.some.inj hf
    exact r_iret C hR rfl (Nat.le_of_ble_eq_true rfl) (Nat.le_of_ble_eq_true rfl) dX7_sound_23
theorem c_X7_sound {K : WK} {l : Launch} {hs : AH} {v0 : Nat} {q : Int32} (hf : f_X7_sound v0 hs = some q) : MC K l yX7_sound cX7_sound 1 (Option.some Jvm.ClassFile.FieldType.int) rm_X7_sound [.ref (kA K v0)] hs (some (.int q)) hs 0 0 :=
  MC.of (by decide +kernel) (Nat.le_of_ble_eq_true rfl) (fun p e s m args below meth c C _ hR ls hl => w_X7_sound_b0 C _ hs _ _ ls hf hR hl)
noncomputable def f_X7_isMelodious (v0 : Nat) (hs : AH) : Option (Int32) :=
  (gI hs v0 7 1).bind fun x1 =>
  if x1 = 0 then
  (
   (gI hs v0 7 2).bind fun x2 =>
   if x2 = 0 then
   (
    some 1)
   else
   (
    some 0))
  else
  (
   if x1 = 1 then
   (
    (gI hs v0 7 2).bind fun x3 =>
    if x3 = 1 then
    (
     some 1)
    else
    (
     (gI hs v0 7 2).bind fun x4 =>
     if x4 = 2 then
     (
      some 1)
     else
     (
      some 0)))
   else
   (
    if x1 = 2 then
    (
     (gI hs v0 7 2).bind fun x5 =>
     if x5 = 3 then
     (
      some 1)
     else
     (
      (gI hs v0 7 2).bind fun x6 =>
      if x6 = 4 then
      (
       some 1)
      else
      (
       some 0)))
    else
    (
     if x1 = 3 then
     (
      (gI hs v0 7 2).bind fun x7 =>
      if x7 = 5 then
      (
       some 1)
      else
      (
       some 0))
     else
     (
      if x1 = 4 then
      (
       (gI hs v0 7 2).bind fun x8 =>
       if x8 = 7 then
       (
        some 1)
       else
       (
        some 0))
      else
      (
       if x1 = 5 then
       (
        (gI hs v0 7 2).bind fun x9 =>
        if x9 = 8 then
        (
         (gI hs v0 7 3).bind fun x10 =>
         if x10 ≤ 0 then
         (
          some 0)
         else
         (
          some 1))
        else
        (
         some 0))
       else
       (
        if x1 = 6 then
        (
         some 0)
        else
        (
         if x1 = 7 then
         (
          (gI hs v0 7 2).bind fun x11 =>
          if x11 = 12 then
          (
           some 1)
          else
          (
           some 0))
         else
         (
          some 0))))))))
abbrev rm_X7_isMelodious : Room := { frames := 0, cells := 0, slots := 0, locals := 0 }
set_option maxHeartbeats 4000000 in
set_option maxRecDepth 100000 in
theorem w_X7_isMelodious_b0 {K : WK} {p : Program} {l : Launch} {e : Env} {s : State} {m : MethodId} {args : Array Value} {below : List Frame} {meth : Method} {c : Code} (C : Cx K p s m args meth c RX7 cX7_isMelodious 1 (Option.some Jvm.ClassFile.FieldType.boolean)) {q : Int32} : ∀ (v0 : Nat) (hs : AH) (H : Heap) (locs : List Loc) (ls : Array Slot), f_X7_isMelodious v0 hs = some q → Rl K s hs H locs → lv_has ls 1 [(0, .ref (kA K v0))] → W p l e rm_X7_isMelodious s m args below meth c H locs 0 0 (MQ below (MQo K (some (.int q)) hs) args s 0 0 (kAx K)) (F0 m 0 ls []) := by
  have hx := C.1
  have hb := C.2.1
  intro v0 hs H locs ls hf hR hl
  rw [f_X7_isMelodious.eq_1] at hf
  refine lv_aload_n hx hb dX7_isMelodious_0 rfl (lv_at hl 0 rfl) ?_
  obtain ⟨x1, hx1, hf⟩ := ob hf
  refine r_getI C hR hx1 fl_X7_15 dX7_isMelodious_1 ?_
  by_cases c4_0 : x1 = 0
  · have hf := ip hf c4_0
    refine lv_tableIn (tgt := 52) (off := 48) hx hb dX7_isMelodious_4 (by rw [c4_0]; decide) (by rw [c4_0]; decide) (by rw [c4_0]; decide +kernel) (by decide) ?_
    refine lv_aload_n hx hb dX7_isMelodious_52 rfl (lv_at hl 0 rfl) ?_
    obtain ⟨x2, hx2, hf⟩ := ob hf
    refine r_getI C hR hx2 fl_X7_19 dX7_isMelodious_53 ?_
    refine lv_if_ne (tgt := 63) hx hb dX7_isMelodious_56 (by decide) (fun c56 => ?_) (fun c56 => ?_)
    · have hf := iq hf c56
      refine lv_iconst (v := 0) hx hb dX7_isMelodious_63 (by decide) ?_
      obtain rfl := Option.some.inj hf
      exact r_iret C hR rfl (Nat.le_of_ble_eq_true rfl) (Nat.le_of_ble_eq_true rfl) dX7_isMelodious_64
    · have hf := ip hf c56
      refine lv_iconst (v := 1) hx hb dX7_isMelodious_59 (by decide) ?_
      refine lv_goto (tgt := 64) hx hb dX7_isMelodious_60 (by decide) ?_
      obtain rfl := Option.some.inj hf
      exact r_iret C hR rfl (Nat.le_of_ble_eq_true rfl) (Nat.le_of_ble_eq_true rfl) dX7_isMelodious_64
  · have hf := iq hf c4_0
    by_cases c4_1 : x1 = 1
    · have hf := ip hf c4_1
      refine lv_tableIn (tgt := 65) (off := 61) hx hb dX7_isMelodious_4 (by rw [c4_1]; decide) (by rw [c4_1]; decide) (by rw [c4_1]; decide +kernel) (by decide) ?_
      refine lv_aload_n hx hb dX7_isMelodious_65 rfl (lv_at hl 0 rfl) ?_
      obtain ⟨x3, hx3, hf⟩ := ob hf
      refine r_getI C hR hx3 fl_X7_19 dX7_isMelodious_66 ?_
      refine lv_iconst (v := 1) hx hb dX7_isMelodious_69 (by decide) ?_
      refine lv_icmp_eq (tgt := 81) hx hb dX7_isMelodious_70 (by decide) (fun c70 => ?_) (fun c70 => ?_)
      · have hf := ip hf c70
        refine lv_iconst (v := 1) hx hb dX7_isMelodious_81 (by decide) ?_
        refine lv_goto (tgt := 86) hx hb dX7_isMelodious_82 (by decide) ?_
        obtain rfl := Option.some.inj hf
        exact r_iret C hR rfl (Nat.le_of_ble_eq_true rfl) (Nat.le_of_ble_eq_true rfl) dX7_isMelodious_86
      · have hf := iq hf c70
        refine lv_aload_n hx hb dX7_isMelodious_73 rfl (lv_at hl 0 rfl) ?_
        obtain ⟨x4, hx4, hf⟩ := ob hf
        refine r_getI C hR hx4 fl_X7_19 dX7_isMelodious_74 ?_
        refine lv_iconst (v := 2) hx hb dX7_isMelodious_77 (by decide) ?_
        refine lv_icmp_ne (tgt := 85) hx hb dX7_isMelodious_78 (by decide) (fun c78 => ?_) (fun c78 => ?_)
        · have hf := iq hf c78
          refine lv_iconst (v := 0) hx hb dX7_isMelodious_85 (by decide) ?_
          obtain rfl := Option.some.inj hf
          exact r_iret C hR rfl (Nat.le_of_ble_eq_true rfl) (Nat.le_of_ble_eq_true rfl) dX7_isMelodious_86
        · have hf := ip hf c78
          refine lv_iconst (v := 1) hx hb dX7_isMelodious_81 (by decide) ?_
          refine lv_goto (tgt := 86) hx hb dX7_isMelodious_82 (by decide) ?_
          obtain rfl := Option.some.inj hf
          exact r_iret C hR rfl (Nat.le_of_ble_eq_true rfl) (Nat.le_of_ble_eq_true rfl) dX7_isMelodious_86
    · have hf := iq hf c4_1
      by_cases c4_2 : x1 = 2
      · have hf := ip hf c4_2
        refine lv_tableIn (tgt := 87) (off := 83) hx hb dX7_isMelodious_4 (by rw [c4_2]; decide) (by rw [c4_2]; decide) (by rw [c4_2]; decide +kernel) (by decide) ?_
        refine lv_aload_n hx hb dX7_isMelodious_87 rfl (lv_at hl 0 rfl) ?_
        obtain ⟨x5, hx5, hf⟩ := ob hf
        refine r_getI C hR hx5 fl_X7_19 dX7_isMelodious_88 ?_
        refine lv_iconst (v := 3) hx hb dX7_isMelodious_91 (by decide) ?_
        refine lv_icmp_eq (tgt := 103) hx hb dX7_isMelodious_92 (by decide) (fun c92 => ?_) (fun c92 => ?_)
        · have hf := ip hf c92
          refine lv_iconst (v := 1) hx hb dX7_isMelodious_103 (by decide) ?_
          refine lv_goto (tgt := 108) hx hb dX7_isMelodious_104 (by decide) ?_
          obtain rfl := Option.some.inj hf
          exact r_iret C hR rfl (Nat.le_of_ble_eq_true rfl) (Nat.le_of_ble_eq_true rfl) dX7_isMelodious_108
        · have hf := iq hf c92
          refine lv_aload_n hx hb dX7_isMelodious_95 rfl (lv_at hl 0 rfl) ?_
          obtain ⟨x6, hx6, hf⟩ := ob hf
          refine r_getI C hR hx6 fl_X7_19 dX7_isMelodious_96 ?_
          refine lv_iconst (v := 4) hx hb dX7_isMelodious_99 (by decide) ?_
          refine lv_icmp_ne (tgt := 107) hx hb dX7_isMelodious_100 (by decide) (fun c100 => ?_) (fun c100 => ?_)
          · have hf := iq hf c100
            refine lv_iconst (v := 0) hx hb dX7_isMelodious_107 (by decide) ?_
            obtain rfl := Option.some.inj hf
            exact r_iret C hR rfl (Nat.le_of_ble_eq_true rfl) (Nat.le_of_ble_eq_true rfl) dX7_isMelodious_108
          · have hf := ip hf c100
            refine lv_iconst (v := 1) hx hb dX7_isMelodious_103 (by decide) ?_
            refine lv_goto (tgt := 108) hx hb dX7_isMelodious_104 (by decide) ?_
            obtain rfl := Option.some.inj hf
            exact r_iret C hR rfl (Nat.le_of_ble_eq_true rfl) (Nat.le_of_ble_eq_true rfl) dX7_isMelodious_108
      · have hf := iq hf c4_2
        by_cases c4_3 : x1 = 3
        · have hf := ip hf c4_3
          refine lv_tableIn (tgt := 109) (off := 105) hx hb dX7_isMelodious_4 (by rw [c4_3]; decide) (by rw [c4_3]; decide) (by rw [c4_3]; decide +kernel) (by decide) ?_
          refine lv_aload_n hx hb dX7_isMelodious_109 rfl (lv_at hl 0 rfl) ?_
          obtain ⟨x7, hx7, hf⟩ := ob hf
          refine r_getI C hR hx7 fl_X7_19 dX7_isMelodious_110 ?_
          refine lv_iconst (v := 5) hx hb dX7_isMelodious_113 (by decide) ?_
          refine lv_icmp_ne (tgt := 121) hx hb dX7_isMelodious_114 (by decide) (fun c114 => ?_) (fun c114 => ?_)
          · have hf := iq hf c114
            refine lv_iconst (v := 0) hx hb dX7_isMelodious_121 (by decide) ?_
            obtain rfl := Option.some.inj hf
            exact r_iret C hR rfl (Nat.le_of_ble_eq_true rfl) (Nat.le_of_ble_eq_true rfl) dX7_isMelodious_122
          · have hf := ip hf c114
            refine lv_iconst (v := 1) hx hb dX7_isMelodious_117 (by decide) ?_
            refine lv_goto (tgt := 122) hx hb dX7_isMelodious_118 (by decide) ?_
            obtain rfl := Option.some.inj hf
            exact r_iret C hR rfl (Nat.le_of_ble_eq_true rfl) (Nat.le_of_ble_eq_true rfl) dX7_isMelodious_122
        · have hf := iq hf c4_3
          by_cases c4_4 : x1 = 4
          · have hf := ip hf c4_4
            refine lv_tableIn (tgt := 123) (off := 119) hx hb dX7_isMelodious_4 (by rw [c4_4]; decide) (by rw [c4_4]; decide) (by rw [c4_4]; decide +kernel) (by decide) ?_
            refine lv_aload_n hx hb dX7_isMelodious_123 rfl (lv_at hl 0 rfl) ?_
            obtain ⟨x8, hx8, hf⟩ := ob hf
            refine r_getI C hR hx8 fl_X7_19 dX7_isMelodious_124 ?_
            refine lv_bipush (v := 7) hx hb dX7_isMelodious_127 (by decide) ?_
            refine lv_icmp_ne (tgt := 136) hx hb dX7_isMelodious_129 (by decide) (fun c129 => ?_) (fun c129 => ?_)
            · have hf := iq hf c129
              refine lv_iconst (v := 0) hx hb dX7_isMelodious_136 (by decide) ?_
              obtain rfl := Option.some.inj hf
              exact r_iret C hR rfl (Nat.le_of_ble_eq_true rfl) (Nat.le_of_ble_eq_true rfl) dX7_isMelodious_137
            · have hf := ip hf c129
              refine lv_iconst (v := 1) hx hb dX7_isMelodious_132 (by decide) ?_
              refine lv_goto (tgt := 137) hx hb dX7_isMelodious_133 (by decide) ?_
              obtain rfl := Option.some.inj hf
              exact r_iret C hR rfl (Nat.le_of_ble_eq_true rfl) (Nat.le_of_ble_eq_true rfl) dX7_isMelodious_137
          · have hf := iq hf c4_4
            by_cases c4_5 : x1 = 5
            · have hf := ip hf c4_5
              refine lv_tableIn (tgt := 138) (off := 134) hx hb dX7_isMelodious_4 (by rw [c4_5]; decide) (by rw [c4_5]; decide) (by rw [c4_5]; decide +kernel) (by decide) ?_
              refine lv_aload_n hx hb dX7_isMelodious_138 rfl (lv_at hl 0 rfl) ?_
              obtain ⟨x9, hx9, hf⟩ := ob hf
              refine r_getI C hR hx9 fl_X7_19 dX7_isMelodious_139 ?_
              refine lv_bipush (v := 8) hx hb dX7_isMelodious_142 (by decide) ?_
              refine lv_icmp_ne (tgt := 158) hx hb dX7_isMelodious_144 (by decide) (fun c144 => ?_) (fun c144 => ?_)
              · have hf := iq hf c144
                refine lv_iconst (v := 0) hx hb dX7_isMelodious_158 (by decide) ?_
                obtain rfl := Option.some.inj hf
                exact r_iret C hR rfl (Nat.le_of_ble_eq_true rfl) (Nat.le_of_ble_eq_true rfl) dX7_isMelodious_159
              · have hf := ip hf c144
                refine lv_aload_n hx hb dX7_isMelodious_147 rfl (lv_at hl 0 rfl) ?_
                obtain ⟨x10, hx10, hf⟩ := ob hf
                refine r_getI C hR hx10 fl_X7_22 dX7_isMelodious_148 ?_
                refine lv_if_le (tgt := 158) hx hb dX7_isMelodious_151 (by decide) (fun c151 => ?_) (fun c151 => ?_)
                · have hf := ip hf c151
                  refine lv_iconst (v := 0) hx hb dX7_isMelodious_158 (by decide) ?_
                  obtain rfl := Option.some.inj hf
                  exact r_iret C hR rfl (Nat.le_of_ble_eq_true rfl) (Nat.le_of_ble_eq_true rfl) dX7_isMelodious_159
                · have hf := iq hf c151
                  refine lv_iconst (v := 1) hx hb dX7_isMelodious_154 (by decide) ?_
                  refine lv_goto (tgt := 159) hx hb dX7_isMelodious_155 (by decide) ?_
                  obtain rfl := Option.some.inj hf
                  exact r_iret C hR rfl (Nat.le_of_ble_eq_true rfl) (Nat.le_of_ble_eq_true rfl) dX7_isMelodious_159
            · have hf := iq hf c4_5
              by_cases c4_6 : x1 = 6
              · have hf := ip hf c4_6
                refine lv_tableIn (tgt := 175) (off := 171) hx hb dX7_isMelodious_4 (by rw [c4_6]; decide) (by rw [c4_6]; decide) (by rw [c4_6]; decide +kernel) (by decide) ?_
                refine lv_iconst (v := 0) hx hb dX7_isMelodious_175 (by decide) ?_
                obtain rfl := Option.some.inj hf
                exact r_iret C hR rfl (Nat.le_of_ble_eq_true rfl) (Nat.le_of_ble_eq_true rfl) dX7_isMelodious_176
              · have hf := iq hf c4_6
                by_cases c4_7 : x1 = 7
                · have hf := ip hf c4_7
                  refine lv_tableIn (tgt := 160) (off := 156) hx hb dX7_isMelodious_4 (by rw [c4_7]; decide) (by rw [c4_7]; decide) (by rw [c4_7]; decide +kernel) (by decide) ?_
                  refine lv_aload_n hx hb dX7_isMelodious_160 rfl (lv_at hl 0 rfl) ?_
                  obtain ⟨x11, hx11, hf⟩ := ob hf
                  refine r_getI C hR hx11 fl_X7_19 dX7_isMelodious_161 ?_
                  refine lv_bipush (v := 12) hx hb dX7_isMelodious_164 (by decide) ?_
                  refine lv_icmp_ne (tgt := 173) hx hb dX7_isMelodious_166 (by decide) (fun c166 => ?_) (fun c166 => ?_)
                  · have hf := iq hf c166
                    refine lv_iconst (v := 0) hx hb dX7_isMelodious_173 (by decide) ?_
                    obtain rfl := Option.some.inj hf
                    exact r_iret C hR rfl (Nat.le_of_ble_eq_true rfl) (Nat.le_of_ble_eq_true rfl) dX7_isMelodious_174
                  · have hf := ip hf c166
                    refine lv_iconst (v := 1) hx hb dX7_isMelodious_169 (by decide) ?_
                    refine lv_goto (tgt := 174) hx hb dX7_isMelodious_170 (by decide) ?_
                    obtain rfl := Option.some.inj hf
                    exact r_iret C hR rfl (Nat.le_of_ble_eq_true rfl) (Nat.le_of_ble_eq_true rfl) dX7_isMelodious_174
                · have hf := iq hf c4_7
                  refine lv_tableOut (tgt := 175) hx hb dX7_isMelodious_4 (by have z0 := tn c4_0 (a := 0) rfl; have z1 := tn c4_1 (a := 1) rfl; have z2 := tn c4_2 (a := 2) rfl; have z3 := tn c4_3 (a := 3) rfl; have z4 := tn c4_4 (a := 4) rfl; have z5 := tn c4_5 (a := 5) rfl; have z6 := tn c4_6 (a := 6) rfl; have z7 := tn c4_7 (a := 7) rfl; omega) (by decide) ?_
                  refine lv_iconst (v := 0) hx hb dX7_isMelodious_175 (by decide) ?_
                  obtain rfl := Option.some.inj hf
                  exact r_iret C hR rfl (Nat.le_of_ble_eq_true rfl) (Nat.le_of_ble_eq_true rfl) dX7_isMelodious_176
theorem c_X7_isMelodious {K : WK} {l : Launch} {hs : AH} {v0 : Nat} {q : Int32} (hf : f_X7_isMelodious v0 hs = some q) : MC K l yX7_isMelodious cX7_isMelodious 1 (Option.some Jvm.ClassFile.FieldType.boolean) rm_X7_isMelodious [.ref (kA K v0)] hs (some (.int q)) hs 0 0 :=
  MC.of (by decide +kernel) (Nat.le_of_ble_eq_true rfl) (fun p e s m args below meth c C _ hR ls hl => w_X7_isMelodious_b0 C _ hs _ _ ls hf hR hl)
