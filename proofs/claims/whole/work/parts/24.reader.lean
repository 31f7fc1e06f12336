/-! ===== printed by wip/whole/genall.py: functions and walks ===== -/
noncomputable def f_X4_line (v0 : Nat) (hs : AH) : Option (Nat) :=
  (gR hs v0 4 1).bind fun x1 =>
  some x1
abbrev rm_X4_line : Room := { frames := 0, cells := 0, slots := 0, locals := 0 }
set_option maxHeartbeats 4000000 in
set_option maxRecDepth 100000 in
theorem w_X4_line_b0 {K : WK} {p : Program} {l : Launch} {e : Env} {s : State} {m : MethodId} {args : Array Value} {below : List Frame} {meth : Method} {c : Code} (C : Cx K p s m args meth c RX4 cX4_line 1 (Option.some (Jvm.ClassFile.FieldType.object "CounterpointChecker$Line"))) {q : Nat} : ∀ (v0 : Nat) (hs : AH) (H : Heap) (locs : List Loc) (ls : Array Slot), f_X4_line v0 hs = some q → Rl K s hs H locs → lv_has ls 1 [(0, .ref (kA K v0))] → W p l e rm_X4_line s m args below meth c H locs 0 0 (MQ below (MQo K (some (.ref (kA K q))) hs) args s 0 0 (kAx K)) (F0 m 0 ls []) := by
  have hx := C.1
  have hb := C.2.1
  intro v0 hs H locs ls hf hR hl
  rw [f_X4_line.eq_1] at hf
  refine lv_aload_n hx hb dX4_line_0 rfl (lv_at hl 0 rfl) ?_
  obtain ⟨x1, hx1, hf⟩ := ob hf
  refine r_getR C hR hx1 fl_X4_21 dX4_line_1 ?_
  obtain rfl := Option.some.inj hf
  exact r_aret (Or.inl ⟨_, rfl⟩) C hR (Nat.le_of_ble_eq_true rfl) (Nat.le_of_ble_eq_true rfl) dX4_line_4
theorem c_X4_line {K : WK} {l : Launch} {hs : AH} {v0 : Nat} {q : Nat} (hf : f_X4_line v0 hs = some q) : MC K l yX4_line cX4_line 1 (Option.some (Jvm.ClassFile.FieldType.object "CounterpointChecker$Line")) rm_X4_line [.ref (kA K v0)] hs (some (.ref (kA K q))) hs 0 0 :=
  MC.of (by decide +kernel) (Nat.le_of_ble_eq_true rfl) (fun p e s m args below meth c C _ hR ls hl => w_X4_line_b0 C _ hs _ _ ls hf hR hl)
noncomputable def f_X4_names (v0 : Nat) (hs : AH) : Option (Int32) :=
  (gI hs v0 4 3).bind fun x1 =>
  some x1
abbrev rm_X4_names : Room := { frames := 0, cells := 0, slots := 0, locals := 0 }
set_option maxHeartbeats 4000000 in
set_option maxRecDepth 100000 in
theorem w_X4_names_b0 {K : WK} {p : Program} {l : Launch} {e : Env} {s : State} {m : MethodId} {args : Array Value} {below : List Frame} {meth : Method} {c : Code} (C : Cx K p s m args meth c RX4 cX4_names 1 (Option.some Jvm.ClassFile.FieldType.int)) {q : Int32} : ∀ (v0 : Nat) (hs : AH) (H : Heap) (locs : List Loc) (ls : Array Slot), f_X4_names v0 hs = some q → Rl K s hs H locs → lv_has ls 1 [(0, .ref (kA K v0))] → W p l e rm_X4_names s m args below meth c H locs 0 0 (MQ below (MQo K (some (.int q)) hs) args s 0 0 (kAx K)) (F0 m 0 ls []) := by
  have hx := C.1
  have hb := C.2.1
  intro v0 hs H locs ls hf hR hl
  rw [f_X4_names.eq_1] at hf
  refine lv_aload_n hx hb dX4_names_0 rfl (lv_at hl 0 rfl) ?_
  obtain ⟨x1, hx1, hf⟩ := ob hf
  refine r_getI C hR hx1 fl_X4_29 dX4_names_1 ?_
  obtain rfl := Option.some.inj hf
  exact r_iret C hR rfl (Nat.le_of_ble_eq_true rfl) (Nat.le_of_ble_eq_true rfl) dX4_names_4
theorem c_X4_names {K : WK} {l : Launch} {hs : AH} {v0 : Nat} {q : Int32} (hf : f_X4_names v0 hs = some q) : MC K l yX4_names cX4_names 1 (Option.some Jvm.ClassFile.FieldType.int) rm_X4_names [.ref (kA K v0)] hs (some (.int q)) hs 0 0 :=
  MC.of (by decide +kernel) (Nat.le_of_ble_eq_true rfl) (fun p e s m args below meth c C _ hR ls hl => w_X4_names_b0 C _ hs _ _ ls hf hR hl)
noncomputable def f_X4_weightFor (v0 : Nat) (v1 : Int32) (hs : AH) : Option (Int32) :=
  if v1 < 1 then
  (
   some (-1))
  else
  (
   if 16 < v1 then
   (
    some (-1))
   else
   (
    (gR hs v0 4 2).bind fun x1 =>
    (aN 0 hs x1 v1).bind fun x2 =>
    some x2))
abbrev rm_X4_weightFor : Room := { frames := 0, cells := 0, slots := 0, locals := 0 }
set_option maxHeartbeats 4000000 in
set_option maxRecDepth 100000 in
theorem w_X4_weightFor_b0 {K : WK} {p : Program} {l : Launch} {e : Env} {s : State} {m : MethodId} {args : Array Value} {below : List Frame} {meth : Method} {c : Code} (C : Cx K p s m args meth c RX4 cX4_weightFor 2 (Option.some Jvm.ClassFile.FieldType.int)) {q : Int32} : ∀ (v0 : Nat) (v1 : Int32) (hs : AH) (H : Heap) (locs : List Loc) (ls : Array Slot), f_X4_weightFor v0 v1 hs = some q → Rl K s hs H locs → lv_has ls 2 [(0, .ref (kA K v0)), (1, .int v1)] → W p l e rm_X4_weightFor s m args below meth c H locs 0 0 (MQ below (MQo K (some (.int q)) hs) args s 0 0 (kAx K)) (F0 m 0 ls []) := by
  have hx := C.1
  have hb := C.2.1
  intro v0 v1 hs H locs ls hf hR hl
  rw [f_X4_weightFor.eq_1] at hf
  refine lv_iload_n hx hb dX4_weightFor_0 rfl (lv_at hl 1 rfl) ?_
  refine lv_iconst (v := 1) hx hb dX4_weightFor_1 (by decide) ?_
  refine lv_icmp_lt (tgt := 20) hx hb dX4_weightFor_2 (by decide) (fun c2 => ?_) (fun c2 => ?_)
  · have hf := ip hf c2
    refine lv_iconst (v := (-1)) hx hb dX4_weightFor_20 (by decide) ?_
    obtain rfl := Option.some.inj hf
    exact r_iret C hR rfl (Nat.le_of_ble_eq_true rfl) (Nat.le_of_ble_eq_true rfl) dX4_weightFor_21
  · have hf := iq hf c2
    refine lv_iload_n hx hb dX4_weightFor_5 rfl (lv_at hl 1 rfl) ?_
    refine lv_bipush (v := 16) hx hb dX4_weightFor_6 (by decide) ?_
    refine lv_icmp_gt (tgt := 20) hx hb dX4_weightFor_8 (by decide) (fun c8 => ?_) (fun c8 => ?_)
    · have hf := ip hf c8
      refine lv_iconst (v := (-1)) hx hb dX4_weightFor_20 (by decide) ?_
      obtain rfl := Option.some.inj hf
      exact r_iret C hR rfl (Nat.le_of_ble_eq_true rfl) (Nat.le_of_ble_eq_true rfl) dX4_weightFor_21
    · have hf := iq hf c8
      refine lv_aload_n hx hb dX4_weightFor_11 rfl (lv_at hl 0 rfl) ?_
      obtain ⟨x1, hx1, hf⟩ := ob hf
      refine r_getR C hR hx1 fl_X4_25 dX4_weightFor_12 ?_
      refine lv_iload_n hx hb dX4_weightFor_15 rfl (lv_at hl 1 rfl) ?_
      obtain ⟨x2, hx2, hf⟩ := ob hf
      refine r_iald C hR hx2 dX4_weightFor_16 ?_
      refine lv_goto (tgt := 21) hx hb dX4_weightFor_17 (by decide) ?_
      obtain rfl := Option.some.inj hf
      exact r_iret C hR rfl (Nat.le_of_ble_eq_true rfl) (Nat.le_of_ble_eq_true rfl) dX4_weightFor_21
theorem c_X4_weightFor {K : WK} {l : Launch} {hs : AH} {v0 : Nat} {v1 : Int32} {q : Int32} (hf : f_X4_weightFor v0 v1 hs = some q) : MC K l yX4_weightFor cX4_weightFor 2 (Option.some Jvm.ClassFile.FieldType.int) rm_X4_weightFor [.ref (kA K v0), .int v1] hs (some (.int q)) hs 0 0 :=
  MC.of (by decide +kernel) (Nat.le_of_ble_eq_true rfl) (fun p e s m args below meth c C _ hR ls hl => w_X4_weightFor_b0 C _ _ hs _ _ ls hf hR hl)
noncomputable def f_X4_readNote_b89 (v0 : Nat) (v1 : Int32) (v2 : Int32) (hs : AH) : Option (Int32 × AH) :=
  (gR hs v0 4 0).bind fun x1 =>
  (gI hs v0 4 4).bind fun x2 =>
  (chk hs x1 3).bind fun u3 =>
  (f_X3_at x1 x2 hs).bind fun x4 =>
  if (x4 - 48) < 2 then
  (
   some (0, hs))
  else
  (
   if (x4 - 48) ≤ 6 then
   (
    (gI hs v0 4 4).bind fun x5 =>
    (pI hs v0 4 4 (x5 + 1)).bind fun hs6 =>
    (gR hs6 v0 4 1).bind fun x7 =>
    (chk hs6 x7 2).bind fun u8 =>
    (f_X2_add x7 (((3 * ((7 * (x4 - 48)) + v1)) + v2) + 1) hs6).bind fun hs9 =>
    some (1, hs9))
   else
   (
    some (0, hs)))
noncomputable def f_X4_readNote_b74 (v0 : Nat) (v1 : Int32) (t0 : Int32) (hs : AH) : Option (Int32 × AH) :=
  if t0 = 0 then
  (
   f_X4_readNote_b89 v0 v1 t0 hs)
  else
  (
   (gI hs v0 4 4).bind fun x1 =>
   (pI hs v0 4 4 (x1 + 1)).bind fun hs2 =>
   f_X4_readNote_b89 v0 v1 t0 hs2)
noncomputable def f_X4_readNote (v0 : Nat) (hs : AH) : Option (Int32 × AH) :=
  (gR hs v0 4 0).bind fun x1 =>
  (gI hs v0 4 4).bind fun x2 =>
  (chk hs x1 3).bind fun u3 =>
  (f_X3_at x1 x2 hs).bind fun x4 =>
  (chkS (SBn + 2)).bind fun u5 =>
  (f_J0_indexOf_0f7a4 (SBn + 2) x4).bind fun x6 =>
  if 0 ≤ x6 then
  (
   (gI hs v0 4 4).bind fun x7 =>
   (pI hs v0 4 4 (x7 + 1)).bind fun hs8 =>
   (gR hs8 v0 4 0).bind fun x9 =>
   (gI hs8 v0 4 4).bind fun x10 =>
   (chk hs8 x9 3).bind fun u11 =>
   (f_X3_at x9 x10 hs8).bind fun x12 =>
   if x12 = 35 then
   (
    f_X4_readNote_b74 v0 x6 1 hs8)
   else
   (
    (gR hs8 v0 4 0).bind fun x13 =>
    (gI hs8 v0 4 4).bind fun x14 =>
    (chk hs8 x13 3).bind fun u15 =>
    (f_X3_at x13 x14 hs8).bind fun x16 =>
    if x16 = 98 then
    (
     f_X4_readNote_b74 v0 x6 (-1) hs8)
    else
    (
     f_X4_readNote_b74 v0 x6 0 hs8)))
  else
  (
   some (0, hs))
abbrev rm_X4_readNote : Room := { frames := 4, cells := 0, slots := 0, locals := 91 }
set_option maxHeartbeats 4000000 in
set_option maxRecDepth 100000 in
theorem w_X4_readNote_b89 {K : WK} {p : Program} {l : Launch} {e : Env} {s : State} {m : MethodId} {args : Array Value} {below : List Frame} {meth : Method} {c : Code} (C : Cx K p s m args meth c RX4 cX4_readNote 4 (Option.some Jvm.ClassFile.FieldType.boolean)) {q : Int32 × AH} : ∀ (v0 : Nat) (v1 : Int32) (v2 : Int32) (hs : AH) (H : Heap) (locs : List Loc) (ls : Array Slot), f_X4_readNote_b89 v0 v1 v2 hs = some q → Rl K s hs H locs → lv_has ls 4 [(0, .ref (kA K v0)), (1, .int v1), (2, .int v2)] → W p l e rm_X4_readNote s m args below meth c H locs 0 0 (MQ below (MQo K (some (.int q.1)) q.2) args s 0 0 (kAx K)) (F0 m 89 ls []) := by
  have hx := C.1
  have hb := C.2.1
  intro v0 v1 v2 hs H locs ls hf hR hl
  rw [f_X4_readNote_b89.eq_1] at hf
  refine lv_aload_n hx hb dX4_readNote_89 rfl (lv_at hl 0 rfl) ?_
  obtain ⟨x1, hx1, hf⟩ := ob hf
  refine r_getR C hR hx1 fl_X4_12 dX4_readNote_90 ?_
  refine lv_aload_n hx hb dX4_readNote_93 rfl (lv_at hl 0 rfl) ?_
  obtain ⟨x2, hx2, hf⟩ := ob hf
  refine r_getI C hR hx2 fl_X4_33 dX4_readNote_94 ?_
  obtain ⟨u3, hu3, hf⟩ := ob hf
  obtain ⟨x4, hx4, hf⟩ := ob hf
  refine r_callV (As := [.int x2]) (rest := []) (st1 := [.int x4]) C hR (lv_sub hl [] rfl) (c_X3_at hx4) mv_X3_at ml_X4_39 ⟨rfl, rfl, (Nat.le_of_ble_eq_true rfl), (Nat.le_of_ble_eq_true rfl)⟩ (rv_obj C hR hu3 (q := (RX3, TX3, 2)) rfl) rfl rfl rfl (Nat.le_of_ble_eq_true rfl) ⟨(Nat.le_of_ble_eq_true rfl), (Nat.le_of_ble_eq_true rfl)⟩ dX4_readNote_97 (fun H locs hR => ?_)
  refine lv_bipush (v := 48) hx hb dX4_readNote_100 (by decide) ?_
  refine lv_isub hx hb dX4_readNote_102 ?_
  refine lv_istore_n (lv' := [(3, .int (x4 - 48)), (0, .ref (kA K v0)), (1, .int v1), (2, .int v2)]) hx hb dX4_readNote_103 rfl hl (by decide) rfl (fun ls hl => ?_)
  refine lv_iload_n hx hb dX4_readNote_104 rfl (lv_at hl 0 rfl) ?_
  refine lv_iconst (v := 2) hx hb dX4_readNote_105 (by decide) ?_
  refine lv_icmp_lt (tgt := 115) hx hb dX4_readNote_106 (by decide) (fun c106 => ?_) (fun c106 => ?_)
  · have hf := ip hf c106
    refine lv_iconst (v := 0) hx hb dX4_readNote_115 (by decide) ?_
    obtain rfl := Option.some.inj hf
    exact r_iret C hR rfl (Nat.le_of_ble_eq_true rfl) (Nat.le_of_ble_eq_true rfl) dX4_readNote_116
  · have hf := iq hf c106
    refine lv_iload_n hx hb dX4_readNote_109 rfl (lv_at hl 0 rfl) ?_
    refine lv_bipush (v := 6) hx hb dX4_readNote_110 (by decide) ?_
    refine lv_icmp_le (tgt := 117) hx hb dX4_readNote_112 (by decide) (fun c112 => ?_) (fun c112 => ?_)
    · have hf := ip hf c112
      refine lv_aload_n hx hb dX4_readNote_117 rfl (lv_at hl 1 rfl) ?_
      refine lv_dup hx hb dX4_readNote_118 rfl ?_
      obtain ⟨x5, hx5, hf⟩ := ob hf
      refine r_getI C hR hx5 fl_X4_33 dX4_readNote_119 ?_
      refine lv_iconst (v := 1) hx hb dX4_readNote_122 (by decide) ?_
      refine lv_iadd hx hb dX4_readNote_123 ?_
      obtain ⟨hs6, hhs6, hf⟩ := ob hf
      refine r_putI C hR hhs6 fl_X4_33 dX4_readNote_124 (fun H locs hR => ?_)
      refine lv_aload_n hx hb dX4_readNote_127 rfl (lv_at hl 1 rfl) ?_
      obtain ⟨x7, hx7, hf⟩ := ob hf
      refine r_getR C hR hx7 fl_X4_21 dX4_readNote_128 ?_
      refine lv_iconst (v := 3) hx hb dX4_readNote_131 (by decide) ?_
      refine lv_bipush (v := 7) hx hb dX4_readNote_132 (by decide) ?_
      refine lv_iload_n hx hb dX4_readNote_134 rfl (lv_at hl 0 rfl) ?_
      refine lv_imul hx hb dX4_readNote_135 ?_
      refine lv_iload_n hx hb dX4_readNote_136 rfl (lv_at hl 2 rfl) ?_
      refine lv_iadd hx hb dX4_readNote_137 ?_
      refine lv_imul hx hb dX4_readNote_138 ?_
      refine lv_iload_n hx hb dX4_readNote_139 rfl (lv_at hl 3 rfl) ?_
      refine lv_iadd hx hb dX4_readNote_140 ?_
      refine lv_iconst (v := 1) hx hb dX4_readNote_141 (by decide) ?_
      refine lv_iadd hx hb dX4_readNote_142 ?_
      obtain ⟨u8, hu8, hf⟩ := ob hf
      obtain ⟨hs9, hhs9, hf⟩ := ob hf
      refine r_callV (As := [.int (((3 * ((7 * (x4 - 48)) + v1)) + v2) + 1)]) (rest := []) (st1 := []) C hR (lv_sub hl [] rfl) (c_X2_add hhs9) mv_X2_add ml_X4_43 ⟨rfl, rfl, (Nat.le_of_ble_eq_true rfl), (Nat.le_of_ble_eq_true rfl)⟩ (rv_obj C hR hu8 (q := (RX2, TX2, 2)) rfl) rfl rfl rfl (Nat.le_of_ble_eq_true rfl) ⟨(Nat.le_of_ble_eq_true rfl), (Nat.le_of_ble_eq_true rfl)⟩ dX4_readNote_143 (fun H locs hR => ?_)
      refine lv_iconst (v := 1) hx hb dX4_readNote_146 (by decide) ?_
      obtain rfl := Option.some.inj hf
      exact r_iret C hR rfl (Nat.le_of_ble_eq_true rfl) (Nat.le_of_ble_eq_true rfl) dX4_readNote_147
    · have hf := iq hf c112
      refine lv_iconst (v := 0) hx hb dX4_readNote_115 (by decide) ?_
      obtain rfl := Option.some.inj hf
      exact r_iret C hR rfl (Nat.le_of_ble_eq_true rfl) (Nat.le_of_ble_eq_true rfl) dX4_readNote_116
set_option maxHeartbeats 4000000 in
set_option maxRecDepth 100000 in
theorem w_X4_readNote_b74 {K : WK} {p : Program} {l : Launch} {e : Env} {s : State} {m : MethodId} {args : Array Value} {below : List Frame} {meth : Method} {c : Code} (C : Cx K p s m args meth c RX4 cX4_readNote 4 (Option.some Jvm.ClassFile.FieldType.boolean)) {q : Int32 × AH} : ∀ (v0 : Nat) (v1 : Int32) (t0 : Int32) (hs : AH) (H : Heap) (locs : List Loc) (ls : Array Slot), f_X4_readNote_b74 v0 v1 t0 hs = some q → Rl K s hs H locs → lv_has ls 4 [(0, .ref (kA K v0)), (1, .int v1)] → W p l e rm_X4_readNote s m args below meth c H locs 0 0 (MQ below (MQo K (some (.int q.1)) q.2) args s 0 0 (kAx K)) (F0 m 74 ls [.int t0]) := by
  have hx := C.1
  have hb := C.2.1
  intro v0 v1 t0 hs H locs ls hf hR hl
  rw [f_X4_readNote_b74.eq_1] at hf
  refine lv_istore_n (lv' := [(2, .int t0), (0, .ref (kA K v0)), (1, .int v1)]) hx hb dX4_readNote_74 rfl hl (by decide) rfl (fun ls hl => ?_)
  refine lv_iload_n hx hb dX4_readNote_75 rfl (lv_at hl 0 rfl) ?_
  refine lv_if_eq (tgt := 89) hx hb dX4_readNote_76 (by decide) (fun c76 => ?_) (fun c76 => ?_)
  · have hf := ip hf c76
    exact w_X4_readNote_b89 C  _ _ _ _ _ _ _ hf hR (lv_sub hl [1, 2, 0] rfl)
  · have hf := iq hf c76
    refine lv_aload_n hx hb dX4_readNote_79 rfl (lv_at hl 1 rfl) ?_
    refine lv_dup hx hb dX4_readNote_80 rfl ?_
    obtain ⟨x1, hx1, hf⟩ := ob hf
    refine r_getI C hR hx1 fl_X4_33 dX4_readNote_81 ?_
    refine lv_iconst (v := 1) hx hb dX4_readNote_84 (by decide) ?_
    refine lv_iadd hx hb dX4_readNote_85 ?_
    obtain ⟨hs2, hhs2, hf⟩ := ob hf
    refine r_putI C hR hhs2 fl_X4_33 dX4_readNote_86 (fun H locs hR => ?_)
    exact w_X4_readNote_b89 C  _ _ _ _ _ _ _ hf hR (lv_sub hl [1, 2, 0] rfl)
set_option maxHeartbeats 4000000 in
set_option maxRecDepth 100000 in
theorem w_X4_readNote_b0 {K : WK} {p : Program} {l : Launch} {e : Env} {s : State} {m : MethodId} {args : Array Value} {below : List Frame} {meth : Method} {c : Code} (C : Cx K p s m args meth c RX4 cX4_readNote 4 (Option.some Jvm.ClassFile.FieldType.boolean)) {q : Int32 × AH} : ∀ (v0 : Nat) (hs : AH) (H : Heap) (locs : List Loc) (ls : Array Slot), f_X4_readNote v0 hs = some q → Rl K s hs H locs → lv_has ls 4 [(0, .ref (kA K v0))] → W p l e rm_X4_readNote s m args below meth c H locs 0 0 (MQ below (MQo K (some (.int q.1)) q.2) args s 0 0 (kAx K)) (F0 m 0 ls []) := by
  have hx := C.1
  have hb := C.2.1
  intro v0 hs H locs ls hf hR hl
  rw [f_X4_readNote.eq_1] at hf
  refine r_ldcS C (i := 2) rfl dX4_readNote_0 ?_
  refine lv_aload_n hx hb dX4_readNote_2 rfl (lv_at hl 0 rfl) ?_
  obtain ⟨x1, hx1, hf⟩ := ob hf
  refine r_getR C hR hx1 fl_X4_12 dX4_readNote_3 ?_
  refine lv_aload_n hx hb dX4_readNote_6 rfl (lv_at hl 0 rfl) ?_
  obtain ⟨x2, hx2, hf⟩ := ob hf
  refine r_getI C hR hx2 fl_X4_33 dX4_readNote_7 ?_
  obtain ⟨u3, hu3, hf⟩ := ob hf
  obtain ⟨x4, hx4, hf⟩ := ob hf
  refine r_callV (As := [.int x2]) (rest := [.ref (kA K (SBn + 2))]) (st1 := [.int x4, .ref (kA K (SBn + 2))]) C hR (lv_sub hl [] rfl) (c_X3_at hx4) mv_X3_at ml_X4_39 ⟨rfl, rfl, (Nat.le_of_ble_eq_true rfl), (Nat.le_of_ble_eq_true rfl)⟩ (rv_obj C hR hu3 (q := (RX3, TX3, 2)) rfl) rfl rfl rfl (Nat.le_of_ble_eq_true rfl) ⟨(Nat.le_of_ble_eq_true rfl), (Nat.le_of_ble_eq_true rfl)⟩ dX4_readNote_10 (fun H locs hR => ?_)
  obtain ⟨u5, hu5, hf⟩ := ob hf
  obtain ⟨x6, hx6, hf⟩ := ob hf
  refine r_callV (As := [.int x4]) (rest := []) (st1 := [.int x6]) C hR (lv_sub hl [] rfl) (c_J0_indexOf_0f7a4 hx6) mv_J0_indexOf_0f7a4 ml_X4_58 ⟨rfl, rfl, (Nat.le_of_ble_eq_true rfl), (Nat.le_of_ble_eq_true rfl)⟩ (rv_strS C hR hu5) rfl rfl rfl (Nat.le_of_ble_eq_true rfl) ⟨(Nat.le_of_ble_eq_true rfl), (Nat.le_of_ble_eq_true rfl)⟩ dX4_readNote_13 (fun H locs hR => ?_)
  refine lv_istore_n (lv' := [(1, .int x6), (0, .ref (kA K v0))]) hx hb dX4_readNote_16 rfl hl (by decide) rfl (fun ls hl => ?_)
  refine lv_iload_n hx hb dX4_readNote_17 rfl (lv_at hl 0 rfl) ?_
  refine lv_if_ge (tgt := 23) hx hb dX4_readNote_18 (by decide) (fun c18 => ?_) (fun c18 => ?_)
  · have hf := ip hf c18
    refine lv_aload_n hx hb dX4_readNote_23 rfl (lv_at hl 1 rfl) ?_
    refine lv_dup hx hb dX4_readNote_24 rfl ?_
    obtain ⟨x7, hx7, hf⟩ := ob hf
    refine r_getI C hR hx7 fl_X4_33 dX4_readNote_25 ?_
    refine lv_iconst (v := 1) hx hb dX4_readNote_28 (by decide) ?_
    refine lv_iadd hx hb dX4_readNote_29 ?_
    obtain ⟨hs8, hhs8, hf⟩ := ob hf
    refine r_putI C hR hhs8 fl_X4_33 dX4_readNote_30 (fun H locs hR => ?_)
    refine lv_aload_n hx hb dX4_readNote_33 rfl (lv_at hl 1 rfl) ?_
    obtain ⟨x9, hx9, hf⟩ := ob hf
    refine r_getR C hR hx9 fl_X4_12 dX4_readNote_34 ?_
    refine lv_aload_n hx hb dX4_readNote_37 rfl (lv_at hl 1 rfl) ?_
    obtain ⟨x10, hx10, hf⟩ := ob hf
    refine r_getI C hR hx10 fl_X4_33 dX4_readNote_38 ?_
    obtain ⟨u11, hu11, hf⟩ := ob hf
    obtain ⟨x12, hx12, hf⟩ := ob hf
    refine r_callV (As := [.int x10]) (rest := []) (st1 := [.int x12]) C hR (lv_sub hl [] rfl) (c_X3_at hx12) mv_X3_at ml_X4_39 ⟨rfl, rfl, (Nat.le_of_ble_eq_true rfl), (Nat.le_of_ble_eq_true rfl)⟩ (rv_obj C hR hu11 (q := (RX3, TX3, 2)) rfl) rfl rfl rfl (Nat.le_of_ble_eq_true rfl) ⟨(Nat.le_of_ble_eq_true rfl), (Nat.le_of_ble_eq_true rfl)⟩ dX4_readNote_41 (fun H locs hR => ?_)
    refine lv_bipush (v := 35) hx hb dX4_readNote_44 (by decide) ?_
    refine lv_icmp_ne (tgt := 53) hx hb dX4_readNote_46 (by decide) (fun c46 => ?_) (fun c46 => ?_)
    · have hf := iq hf c46
      refine lv_aload_n hx hb dX4_readNote_53 rfl (lv_at hl 1 rfl) ?_
      obtain ⟨x13, hx13, hf⟩ := ob hf
      refine r_getR C hR hx13 fl_X4_12 dX4_readNote_54 ?_
      refine lv_aload_n hx hb dX4_readNote_57 rfl (lv_at hl 1 rfl) ?_
      obtain ⟨x14, hx14, hf⟩ := ob hf
      refine r_getI C hR hx14 fl_X4_33 dX4_readNote_58 ?_
      obtain ⟨u15, hu15, hf⟩ := ob hf
      obtain ⟨x16, hx16, hf⟩ := ob hf
      refine r_callV (As := [.int x14]) (rest := []) (st1 := [.int x16]) C hR (lv_sub hl [] rfl) (c_X3_at hx16) mv_X3_at ml_X4_39 ⟨rfl, rfl, (Nat.le_of_ble_eq_true rfl), (Nat.le_of_ble_eq_true rfl)⟩ (rv_obj C hR hu15 (q := (RX3, TX3, 2)) rfl) rfl rfl rfl (Nat.le_of_ble_eq_true rfl) ⟨(Nat.le_of_ble_eq_true rfl), (Nat.le_of_ble_eq_true rfl)⟩ dX4_readNote_61 (fun H locs hR => ?_)
      refine lv_bipush (v := 98) hx hb dX4_readNote_64 (by decide) ?_
      refine lv_icmp_ne (tgt := 73) hx hb dX4_readNote_66 (by decide) (fun c66 => ?_) (fun c66 => ?_)
      · have hf := iq hf c66
        refine lv_iconst (v := 0) hx hb dX4_readNote_73 (by decide) ?_
        exact w_X4_readNote_b74 C  _ _ _ _ _ _ _ hf hR (lv_sub hl [1, 0] rfl)
      · have hf := ip hf c66
        refine lv_iconst (v := (-1)) hx hb dX4_readNote_69 (by decide) ?_
        refine lv_goto (tgt := 74) hx hb dX4_readNote_70 (by decide) ?_
        exact w_X4_readNote_b74 C  _ _ _ _ _ _ _ hf hR (lv_sub hl [1, 0] rfl)
    · have hf := ip hf c46
      refine lv_iconst (v := 1) hx hb dX4_readNote_49 (by decide) ?_
      refine lv_goto (tgt := 74) hx hb dX4_readNote_50 (by decide) ?_
      exact w_X4_readNote_b74 C  _ _ _ _ _ _ _ hf hR (lv_sub hl [1, 0] rfl)
  · have hf := iq hf c18
    refine lv_iconst (v := 0) hx hb dX4_readNote_21 (by decide) ?_
    obtain rfl := Option.some.inj hf
    exact r_iret C hR rfl (Nat.le_of_ble_eq_true rfl) (Nat.le_of_ble_eq_true rfl) dX4_readNote_22
theorem c_X4_readNote {K : WK} {l : Launch} {hs : AH} {v0 : Nat} {q : Int32 × AH} (hf : f_X4_readNote v0 hs = some q) : MC K l yX4_readNote cX4_readNote 4 (Option.some Jvm.ClassFile.FieldType.boolean) rm_X4_readNote [.ref (kA K v0)] hs (some (.int q.1)) q.2 0 0 :=
  MC.of (by decide +kernel) (Nat.le_of_ble_eq_true rfl) (fun p e s m args below meth c C _ hR ls hl => w_X4_readNote_b0 C _ hs _ _ ls hf hR hl)
noncomputable def f_X4_readLine_b141 (v0 : Nat) (v2 : Int32) (hs : AH) : Option (Int32 × AH) :=
  (gI hs v0 4 4).bind fun x1 =>
  (gR hs v0 4 0).bind fun x2 =>
  (chk hs x2 3).bind fun u3 =>
  (f_X3_size x2 hs).bind fun x4 =>
  if x1 = x4 then
  (
   (gR hs v0 4 1).bind fun x6 =>
   (chk hs x6 2).bind fun u7 =>
   (f_X2_size x6 hs).bind fun x8 =>
   if x8 < v2 then
   (
    (gI hs v0 4 4).bind fun x9 =>
    some (x9, hs))
   else
   (
    some ((-1), hs)))
  else
  (
   (gI hs v0 4 4).bind fun x5 =>
   some (x5, hs))
noncomputable def f_X4_readLine_b60 : Nat → Nat → Int32 → Int32 → Int32 → AH → Option (Int32 × AH)
  | 0, _, _, _, _, _ => none
  | n + 1, v0, v2, v3, v4, hs =>
  if 45 ≤ v4 then
  (
   f_X4_readLine_b141 v0 v2 hs)
  else
  (
   (gI hs v0 4 4).bind fun x1 =>
   (gR hs v0 4 0).bind fun x2 =>
   (chk hs x2 3).bind fun u3 =>
   (f_X3_size x2 hs).bind fun x4 =>
   if x4 ≤ x1 then
   (
    f_X4_readLine_b141 v0 v2 hs)
   else
   (
    (gR hs v0 4 0).bind fun x5 =>
    (gI hs v0 4 4).bind fun x6 =>
    (chk hs x5 3).bind fun u7 =>
    (f_X3_at x5 x6 hs).bind fun x8 =>
    if x8 = 44 then
    (
     (gR hs v0 4 1).bind fun x10 =>
     (chk hs x10 2).bind fun u11 =>
     (f_X2_size x10 hs).bind fun x12 =>
     if x12 < v3 then
     (
      (gI hs v0 4 4).bind fun x13 =>
      (pI hs v0 4 4 (x13 + 1)).bind fun hs14 =>
      (chk hs14 v0 4).bind fun u15 =>
      (f_X4_readNote v0 hs14).bind fun q16 =>
      if q16.1 = 0 then
      (
       (gI q16.2 v0 4 4).bind fun x17 =>
       some (x17, q16.2))
      else
      (
       f_X4_readLine_b60 n v0 v2 v3 (v4 + 1) q16.2))
     else
     (
      (gI hs v0 4 4).bind fun x18 =>
      some (x18, hs)))
    else
    (
     (gI hs v0 4 4).bind fun x9 =>
     some (x9, hs))))
noncomputable def f_X4_readLine (v0 : Nat) (v1 : Int32) (v2 : Int32) (v3 : Int32) (hs : AH) : Option (Int32 × AH) :=
  (pI hs v0 4 4 0).bind fun hs1 =>
  (gR hs1 v0 4 1).bind fun x2 =>
  (chk hs1 x2 2).bind fun u3 =>
  (f_X2_clear x2 hs1).bind fun hs4 =>
  if v1 = 0 then
  (
   (chk hs4 v0 4).bind fun u5 =>
   (f_X4_readNote v0 hs4).bind fun q6 =>
   if q6.1 = 0 then
   (
    (gI q6.2 v0 4 4).bind fun x7 =>
    some (x7, q6.2))
   else
   (
    f_X4_readLine_b60 FUEL v0 v2 v3 0 q6.2))
  else
  (
   (gR hs4 v0 4 0).bind fun x8 =>
   (chk hs4 x8 3).bind fun u9 =>
   (f_X3_at x8 0 hs4).bind fun x10 =>
   if x10 = 45 then
   (
    (gR hs4 v0 4 1).bind fun x14 =>
    (chk hs4 x14 2).bind fun u15 =>
    (f_X2_add x14 (-1) hs4).bind fun hs16 =>
    (pI hs16 v0 4 4 1).bind fun hs17 =>
    f_X4_readLine_b60 FUEL v0 v2 v3 0 hs17)
   else
   (
    (chk hs4 v0 4).bind fun u11 =>
    (f_X4_readNote v0 hs4).bind fun q12 =>
    if q12.1 = 0 then
    (
     (gI q12.2 v0 4 4).bind fun x13 =>
     some (x13, q12.2))
    else
    (
     f_X4_readLine_b60 FUEL v0 v2 v3 0 q12.2)))
abbrev rm_X4_readLine : Room := { frames := 5, cells := 0, slots := 0, locals := 114 }
set_option maxHeartbeats 4000000 in
set_option maxRecDepth 100000 in
theorem w_X4_readLine_b141 {K : WK} {p : Program} {l : Launch} {e : Env} {s : State} {m : MethodId} {args : Array Value} {below : List Frame} {meth : Method} {c : Code} (C : Cx K p s m args meth c RX4 cX4_readLine 5 (Option.some Jvm.ClassFile.FieldType.int)) {q : Int32 × AH} : ∀ (v0 : Nat) (v2 : Int32) (hs : AH) (H : Heap) (locs : List Loc) (ls : Array Slot), f_X4_readLine_b141 v0 v2 hs = some q → Rl K s hs H locs → lv_has ls 5 [(0, .ref (kA K v0)), (2, .int v2)] → W p l e rm_X4_readLine s m args below meth c H locs 0 0 (MQ below (MQo K (some (.int q.1)) q.2) args s 0 0 (kAx K)) (F0 m 141 ls []) := by
  have hx := C.1
  have hb := C.2.1
  intro v0 v2 hs H locs ls hf hR hl
  rw [f_X4_readLine_b141.eq_1] at hf
  refine lv_aload_n hx hb dX4_readLine_141 rfl (lv_at hl 0 rfl) ?_
  obtain ⟨x1, hx1, hf⟩ := ob hf
  refine r_getI C hR hx1 fl_X4_33 dX4_readLine_142 ?_
  refine lv_aload_n hx hb dX4_readLine_145 rfl (lv_at hl 0 rfl) ?_
  obtain ⟨x2, hx2, hf⟩ := ob hf
  refine r_getR C hR hx2 fl_X4_12 dX4_readLine_146 ?_
  obtain ⟨u3, hu3, hf⟩ := ob hf
  obtain ⟨x4, hx4, hf⟩ := ob hf
  refine r_callV (As := []) (rest := [.int x1]) (st1 := [.int x4, .int x1]) C hR (lv_sub hl [] rfl) (c_X3_size hx4) mv_X3_size ml_X4_51 ⟨rfl, rfl, (Nat.le_of_ble_eq_true rfl), (Nat.le_of_ble_eq_true rfl)⟩ (rv_obj C hR hu3 (q := (RX3, TX3, 2)) rfl) rfl rfl rfl (Nat.le_of_ble_eq_true rfl) ⟨(Nat.le_of_ble_eq_true rfl), (Nat.le_of_ble_eq_true rfl)⟩ dX4_readLine_149 (fun H locs hR => ?_)
  refine lv_icmp_ne (tgt := 170) hx hb dX4_readLine_152 (by decide) (fun c152 => ?_) (fun c152 => ?_)
  · have hf := iq hf c152
    refine lv_aload_n hx hb dX4_readLine_170 rfl (lv_at hl 0 rfl) ?_
    obtain ⟨x5, hx5, hf⟩ := ob hf
    refine r_getI C hR hx5 fl_X4_33 dX4_readLine_171 ?_
    obtain rfl := Option.some.inj hf
    exact r_iret C hR rfl (Nat.le_of_ble_eq_true rfl) (Nat.le_of_ble_eq_true rfl) dX4_readLine_174
  · have hf := ip hf c152
    refine lv_aload_n hx hb dX4_readLine_155 rfl (lv_at hl 0 rfl) ?_
    obtain ⟨x6, hx6, hf⟩ := ob hf
    refine r_getR C hR hx6 fl_X4_21 dX4_readLine_156 ?_
    obtain ⟨u7, hu7, hf⟩ := ob hf
    obtain ⟨x8, hx8, hf⟩ := ob hf
    refine r_callV (As := []) (rest := []) (st1 := [.int x8]) C hR (lv_sub hl [] rfl) (c_X2_size hx8) mv_X2_size ml_X4_55 ⟨rfl, rfl, (Nat.le_of_ble_eq_true rfl), (Nat.le_of_ble_eq_true rfl)⟩ (rv_obj C hR hu7 (q := (RX2, TX2, 2)) rfl) rfl rfl rfl (Nat.le_of_ble_eq_true rfl) ⟨(Nat.le_of_ble_eq_true rfl), (Nat.le_of_ble_eq_true rfl)⟩ dX4_readLine_159 (fun H locs hR => ?_)
    refine lv_iload_n hx hb dX4_readLine_162 rfl (lv_at hl 1 rfl) ?_
    refine lv_icmp_lt (tgt := 170) hx hb dX4_readLine_163 (by decide) (fun c163 => ?_) (fun c163 => ?_)
    · have hf := ip hf c163
      refine lv_aload_n hx hb dX4_readLine_170 rfl (lv_at hl 0 rfl) ?_
      obtain ⟨x9, hx9, hf⟩ := ob hf
      refine r_getI C hR hx9 fl_X4_33 dX4_readLine_171 ?_
      obtain rfl := Option.some.inj hf
      exact r_iret C hR rfl (Nat.le_of_ble_eq_true rfl) (Nat.le_of_ble_eq_true rfl) dX4_readLine_174
    · have hf := iq hf c163
      refine lv_iconst (v := (-1)) hx hb dX4_readLine_166 (by decide) ?_
      refine lv_goto (tgt := 174) hx hb dX4_readLine_167 (by decide) ?_
      obtain rfl := Option.some.inj hf
      exact r_iret C hR rfl (Nat.le_of_ble_eq_true rfl) (Nat.le_of_ble_eq_true rfl) dX4_readLine_174
set_option maxHeartbeats 4000000 in
set_option maxRecDepth 100000 in
theorem w_X4_readLine_b60 {K : WK} {p : Program} {l : Launch} {e : Env} {s : State} {m : MethodId} {args : Array Value} {below : List Frame} {meth : Method} {c : Code} (C : Cx K p s m args meth c RX4 cX4_readLine 5 (Option.some Jvm.ClassFile.FieldType.int)) {q : Int32 × AH} : ∀ (n : Nat) (v0 : Nat) (v2 : Int32) (v3 : Int32) (v4 : Int32) (hs : AH) (H : Heap) (locs : List Loc) (ls : Array Slot), f_X4_readLine_b60 n v0 v2 v3 v4 hs = some q → Rl K s hs H locs → lv_has ls 5 [(0, .ref (kA K v0)), (2, .int v2), (3, .int v3), (4, .int v4)] → W p l e rm_X4_readLine s m args below meth c H locs 0 0 (MQ below (MQo K (some (.int q.1)) q.2) args s 0 0 (kAx K)) (F0 m 60 ls []) := by
  have hx := C.1
  have hb := C.2.1
  intro n
  induction n with
  | zero =>
    intro v0 v2 v3 v4 hs H locs ls hf
    cases hf
  | succ n ih =>
    intro v0 v2 v3 v4 hs H locs ls hf hR hl
    rw [f_X4_readLine_b60.eq_2] at hf
    refine lv_iload hx hb dX4_readLine_60 (lv_at hl 3 rfl) ?_
    refine lv_bipush (v := 45) hx hb dX4_readLine_62 (by decide) ?_
    refine lv_icmp_ge (tgt := 141) hx hb dX4_readLine_64 (by decide) (fun c64 => ?_) (fun c64 => ?_)
    · have hf := ip hf c64
      exact w_X4_readLine_b141 C  _ _ _ _ _ _ hf hR (lv_sub hl [0, 1] rfl)
    · have hf := iq hf c64
      refine lv_aload_n hx hb dX4_readLine_67 rfl (lv_at hl 0 rfl) ?_
      obtain ⟨x1, hx1, hf⟩ := ob hf
      refine r_getI C hR hx1 fl_X4_33 dX4_readLine_68 ?_
      refine lv_aload_n hx hb dX4_readLine_71 rfl (lv_at hl 0 rfl) ?_
      obtain ⟨x2, hx2, hf⟩ := ob hf
      refine r_getR C hR hx2 fl_X4_12 dX4_readLine_72 ?_
      obtain ⟨u3, hu3, hf⟩ := ob hf
      obtain ⟨x4, hx4, hf⟩ := ob hf
      refine r_callV (As := []) (rest := [.int x1]) (st1 := [.int x4, .int x1]) C hR (lv_sub hl [] rfl) (c_X3_size hx4) mv_X3_size ml_X4_51 ⟨rfl, rfl, (Nat.le_of_ble_eq_true rfl), (Nat.le_of_ble_eq_true rfl)⟩ (rv_obj C hR hu3 (q := (RX3, TX3, 2)) rfl) rfl rfl rfl (Nat.le_of_ble_eq_true rfl) ⟨(Nat.le_of_ble_eq_true rfl), (Nat.le_of_ble_eq_true rfl)⟩ dX4_readLine_75 (fun H locs hR => ?_)
      refine lv_icmp_ge (tgt := 141) hx hb dX4_readLine_78 (by decide) (fun c78 => ?_) (fun c78 => ?_)
      · have hf := ip hf c78
        exact w_X4_readLine_b141 C  _ _ _ _ _ _ hf hR (lv_sub hl [0, 1] rfl)
      · have hf := iq hf c78
        refine lv_aload_n hx hb dX4_readLine_81 rfl (lv_at hl 0 rfl) ?_
        obtain ⟨x5, hx5, hf⟩ := ob hf
        refine r_getR C hR hx5 fl_X4_12 dX4_readLine_82 ?_
        refine lv_aload_n hx hb dX4_readLine_85 rfl (lv_at hl 0 rfl) ?_
        obtain ⟨x6, hx6, hf⟩ := ob hf
        refine r_getI C hR hx6 fl_X4_33 dX4_readLine_86 ?_
        obtain ⟨u7, hu7, hf⟩ := ob hf
        obtain ⟨x8, hx8, hf⟩ := ob hf
        refine r_callV (As := [.int x6]) (rest := []) (st1 := [.int x8]) C hR (lv_sub hl [] rfl) (c_X3_at hx8) mv_X3_at ml_X4_39 ⟨rfl, rfl, (Nat.le_of_ble_eq_true rfl), (Nat.le_of_ble_eq_true rfl)⟩ (rv_obj C hR hu7 (q := (RX3, TX3, 2)) rfl) rfl rfl rfl (Nat.le_of_ble_eq_true rfl) ⟨(Nat.le_of_ble_eq_true rfl), (Nat.le_of_ble_eq_true rfl)⟩ dX4_readLine_89 (fun H locs hR => ?_)
        refine lv_bipush (v := 44) hx hb dX4_readLine_92 (by decide) ?_
        refine lv_icmp_ne (tgt := 108) hx hb dX4_readLine_94 (by decide) (fun c94 => ?_) (fun c94 => ?_)
        · have hf := iq hf c94
          refine lv_aload_n hx hb dX4_readLine_108 rfl (lv_at hl 0 rfl) ?_
          obtain ⟨x9, hx9, hf⟩ := ob hf
          refine r_getI C hR hx9 fl_X4_33 dX4_readLine_109 ?_
          obtain rfl := Option.some.inj hf
          exact r_iret C hR rfl (Nat.le_of_ble_eq_true rfl) (Nat.le_of_ble_eq_true rfl) dX4_readLine_112
        · have hf := ip hf c94
          refine lv_aload_n hx hb dX4_readLine_97 rfl (lv_at hl 0 rfl) ?_
          obtain ⟨x10, hx10, hf⟩ := ob hf
          refine r_getR C hR hx10 fl_X4_21 dX4_readLine_98 ?_
          obtain ⟨u11, hu11, hf⟩ := ob hf
          obtain ⟨x12, hx12, hf⟩ := ob hf
          refine r_callV (As := []) (rest := []) (st1 := [.int x12]) C hR (lv_sub hl [] rfl) (c_X2_size hx12) mv_X2_size ml_X4_55 ⟨rfl, rfl, (Nat.le_of_ble_eq_true rfl), (Nat.le_of_ble_eq_true rfl)⟩ (rv_obj C hR hu11 (q := (RX2, TX2, 2)) rfl) rfl rfl rfl (Nat.le_of_ble_eq_true rfl) ⟨(Nat.le_of_ble_eq_true rfl), (Nat.le_of_ble_eq_true rfl)⟩ dX4_readLine_101 (fun H locs hR => ?_)
          refine lv_iload_n hx hb dX4_readLine_104 rfl (lv_at hl 2 rfl) ?_
          refine lv_icmp_lt (tgt := 113) hx hb dX4_readLine_105 (by decide) (fun c105 => ?_) (fun c105 => ?_)
          · have hf := ip hf c105
            refine lv_aload_n hx hb dX4_readLine_113 rfl (lv_at hl 0 rfl) ?_
            refine lv_dup hx hb dX4_readLine_114 rfl ?_
            obtain ⟨x13, hx13, hf⟩ := ob hf
            refine r_getI C hR hx13 fl_X4_33 dX4_readLine_115 ?_
            refine lv_iconst (v := 1) hx hb dX4_readLine_118 (by decide) ?_
            refine lv_iadd hx hb dX4_readLine_119 ?_
            obtain ⟨hs14, hhs14, hf⟩ := ob hf
            refine r_putI C hR hhs14 fl_X4_33 dX4_readLine_120 (fun H locs hR => ?_)
            refine lv_aload_n hx hb dX4_readLine_123 rfl (lv_at hl 0 rfl) ?_
            obtain ⟨u15, hu15, hf⟩ := ob hf
            obtain ⟨q16, hq16, hf⟩ := ob hf
            refine r_callV (As := []) (rest := []) (st1 := [.int q16.1]) C hR (lv_sub hl [] rfl) (c_X4_readNote hq16) mv_X4_readNote ml_X4_47 ⟨rfl, rfl, (Nat.le_of_ble_eq_true rfl), (Nat.le_of_ble_eq_true rfl)⟩ (rv_obj C hR hu15 (q := (RX4, TX4, 5)) rfl) rfl rfl rfl (Nat.le_of_ble_eq_true rfl) ⟨(Nat.le_of_ble_eq_true rfl), (Nat.le_of_ble_eq_true rfl)⟩ dX4_readLine_124 (fun H locs hR => ?_)
            refine lv_if_ne (tgt := 135) hx hb dX4_readLine_127 (by decide) (fun c127 => ?_) (fun c127 => ?_)
            · have hf := iq hf c127
              refine lv_iinc (v := v4 + 1) (lv' := [(4, .int (v4 + 1)), (0, .ref (kA K v0)), (2, .int v2), (3, .int v3)]) hx hb dX4_readLine_135 hl (k := 3) rfl rfl (by decide) rfl (fun ls hl => ?_)
              refine lv_goto (tgt := 60) hx hb dX4_readLine_138 (by decide) ?_
              exact ih _ _ _ _ _ _ _ _ hf hR (lv_sub hl [1, 2, 3, 0] rfl)
            · have hf := ip hf c127
              refine lv_aload_n hx hb dX4_readLine_130 rfl (lv_at hl 0 rfl) ?_
              obtain ⟨x17, hx17, hf⟩ := ob hf
              refine r_getI C hR hx17 fl_X4_33 dX4_readLine_131 ?_
              obtain rfl := Option.some.inj hf
              exact r_iret C hR rfl (Nat.le_of_ble_eq_true rfl) (Nat.le_of_ble_eq_true rfl) dX4_readLine_134
          · have hf := iq hf c105
            refine lv_aload_n hx hb dX4_readLine_108 rfl (lv_at hl 0 rfl) ?_
            obtain ⟨x18, hx18, hf⟩ := ob hf
            refine r_getI C hR hx18 fl_X4_33 dX4_readLine_109 ?_
            obtain rfl := Option.some.inj hf
            exact r_iret C hR rfl (Nat.le_of_ble_eq_true rfl) (Nat.le_of_ble_eq_true rfl) dX4_readLine_112
set_option maxHeartbeats 4000000 in
set_option maxRecDepth 100000 in
theorem w_X4_readLine_b0 {K : WK} {p : Program} {l : Launch} {e : Env} {s : State} {m : MethodId} {args : Array Value} {below : List Frame} {meth : Method} {c : Code} (C : Cx K p s m args meth c RX4 cX4_readLine 5 (Option.some Jvm.ClassFile.FieldType.int)) {q : Int32 × AH} : ∀ (v0 : Nat) (v1 : Int32) (v2 : Int32) (v3 : Int32) (hs : AH) (H : Heap) (locs : List Loc) (ls : Array Slot), f_X4_readLine v0 v1 v2 v3 hs = some q → Rl K s hs H locs → lv_has ls 5 [(0, .ref (kA K v0)), (1, .int v1), (2, .int v2), (3, .int v3)] → W p l e rm_X4_readLine s m args below meth c H locs 0 0 (MQ below (MQo K (some (.int q.1)) q.2) args s 0 0 (kAx K)) (F0 m 0 ls []) := by
  have hx := C.1
  have hb := C.2.1
  intro v0 v1 v2 v3 hs H locs ls hf hR hl
  rw [f_X4_readLine.eq_1] at hf
  refine lv_aload_n hx hb dX4_readLine_0 rfl (lv_at hl 0 rfl) ?_
  refine lv_iconst (v := 0) hx hb dX4_readLine_1 (by decide) ?_
  obtain ⟨hs1, hhs1, hf⟩ := ob hf
  refine r_putI C hR hhs1 fl_X4_33 dX4_readLine_2 (fun H locs hR => ?_)
  refine lv_aload_n hx hb dX4_readLine_5 rfl (lv_at hl 0 rfl) ?_
  obtain ⟨x2, hx2, hf⟩ := ob hf
  refine r_getR C hR hx2 fl_X4_21 dX4_readLine_6 ?_
  obtain ⟨u3, hu3, hf⟩ := ob hf
  obtain ⟨hs4, hhs4, hf⟩ := ob hf
  refine r_callV (As := []) (rest := []) (st1 := []) C hR (lv_sub hl [] rfl) (c_X2_clear hhs4) mv_X2_clear ml_X4_36 ⟨rfl, rfl, (Nat.le_of_ble_eq_true rfl), (Nat.le_of_ble_eq_true rfl)⟩ (rv_obj C hR hu3 (q := (RX2, TX2, 2)) rfl) rfl rfl rfl (Nat.le_of_ble_eq_true rfl) ⟨(Nat.le_of_ble_eq_true rfl), (Nat.le_of_ble_eq_true rfl)⟩ dX4_readLine_9 (fun H locs hR => ?_)
  refine lv_iload_n hx hb dX4_readLine_12 rfl (lv_at hl 1 rfl) ?_
  refine lv_if_eq (tgt := 45) hx hb dX4_readLine_13 (by decide) (fun c13 => ?_) (fun c13 => ?_)
  · have hf := ip hf c13
    refine lv_aload_n hx hb dX4_readLine_45 rfl (lv_at hl 0 rfl) ?_
    obtain ⟨u5, hu5, hf⟩ := ob hf
    obtain ⟨q6, hq6, hf⟩ := ob hf
    refine r_callV (As := []) (rest := []) (st1 := [.int q6.1]) C hR (lv_sub hl [] rfl) (c_X4_readNote hq6) mv_X4_readNote ml_X4_47 ⟨rfl, rfl, (Nat.le_of_ble_eq_true rfl), (Nat.le_of_ble_eq_true rfl)⟩ (rv_obj C hR hu5 (q := (RX4, TX4, 5)) rfl) rfl rfl rfl (Nat.le_of_ble_eq_true rfl) ⟨(Nat.le_of_ble_eq_true rfl), (Nat.le_of_ble_eq_true rfl)⟩ dX4_readLine_46 (fun H locs hR => ?_)
    refine lv_if_ne (tgt := 57) hx hb dX4_readLine_49 (by decide) (fun c49 => ?_) (fun c49 => ?_)
    · have hf := iq hf c49
      refine lv_iconst (v := 0) hx hb dX4_readLine_57 (by decide) ?_
      refine lv_istore (lv' := [(4, .int 0), (0, .ref (kA K v0)), (1, .int v1), (2, .int v2), (3, .int v3)]) hx hb dX4_readLine_58 hl (by decide) rfl (fun ls hl => ?_)
      exact w_X4_readLine_b60 C  _ _ _ _ _ _ _ _ _ hf hR (lv_sub hl [1, 3, 4, 0] rfl)
    · have hf := ip hf c49
      refine lv_aload_n hx hb dX4_readLine_52 rfl (lv_at hl 0 rfl) ?_
      obtain ⟨x7, hx7, hf⟩ := ob hf
      refine r_getI C hR hx7 fl_X4_33 dX4_readLine_53 ?_
      obtain rfl := Option.some.inj hf
      exact r_iret C hR rfl (Nat.le_of_ble_eq_true rfl) (Nat.le_of_ble_eq_true rfl) dX4_readLine_56
  · have hf := iq hf c13
    refine lv_aload_n hx hb dX4_readLine_16 rfl (lv_at hl 0 rfl) ?_
    obtain ⟨x8, hx8, hf⟩ := ob hf
    refine r_getR C hR hx8 fl_X4_12 dX4_readLine_17 ?_
    refine lv_iconst (v := 0) hx hb dX4_readLine_20 (by decide) ?_
    obtain ⟨u9, hu9, hf⟩ := ob hf
    obtain ⟨x10, hx10, hf⟩ := ob hf
    refine r_callV (As := [.int 0]) (rest := []) (st1 := [.int x10]) C hR (lv_sub hl [] rfl) (c_X3_at hx10) mv_X3_at ml_X4_39 ⟨rfl, rfl, (Nat.le_of_ble_eq_true rfl), (Nat.le_of_ble_eq_true rfl)⟩ (rv_obj C hR hu9 (q := (RX3, TX3, 2)) rfl) rfl rfl rfl (Nat.le_of_ble_eq_true rfl) ⟨(Nat.le_of_ble_eq_true rfl), (Nat.le_of_ble_eq_true rfl)⟩ dX4_readLine_21 (fun H locs hR => ?_)
    refine lv_bipush (v := 45) hx hb dX4_readLine_24 (by decide) ?_
    refine lv_icmp_ne (tgt := 45) hx hb dX4_readLine_26 (by decide) (fun c26 => ?_) (fun c26 => ?_)
    · have hf := iq hf c26
      refine lv_aload_n hx hb dX4_readLine_45 rfl (lv_at hl 0 rfl) ?_
      obtain ⟨u11, hu11, hf⟩ := ob hf
      obtain ⟨q12, hq12, hf⟩ := ob hf
      refine r_callV (As := []) (rest := []) (st1 := [.int q12.1]) C hR (lv_sub hl [] rfl) (c_X4_readNote hq12) mv_X4_readNote ml_X4_47 ⟨rfl, rfl, (Nat.le_of_ble_eq_true rfl), (Nat.le_of_ble_eq_true rfl)⟩ (rv_obj C hR hu11 (q := (RX4, TX4, 5)) rfl) rfl rfl rfl (Nat.le_of_ble_eq_true rfl) ⟨(Nat.le_of_ble_eq_true rfl), (Nat.le_of_ble_eq_true rfl)⟩ dX4_readLine_46 (fun H locs hR => ?_)
      refine lv_if_ne (tgt := 57) hx hb dX4_readLine_49 (by decide) (fun c49 => ?_) (fun c49 => ?_)
      · have hf := iq hf c49
        refine lv_iconst (v := 0) hx hb dX4_readLine_57 (by decide) ?_
        refine lv_istore (lv' := [(4, .int 0), (0, .ref (kA K v0)), (1, .int v1), (2, .int v2), (3, .int v3)]) hx hb dX4_readLine_58 hl (by decide) rfl (fun ls hl => ?_)
        exact w_X4_readLine_b60 C  _ _ _ _ _ _ _ _ _ hf hR (lv_sub hl [1, 3, 4, 0] rfl)
      · have hf := ip hf c49
        refine lv_aload_n hx hb dX4_readLine_52 rfl (lv_at hl 0 rfl) ?_
        obtain ⟨x13, hx13, hf⟩ := ob hf
        refine r_getI C hR hx13 fl_X4_33 dX4_readLine_53 ?_
        obtain rfl := Option.some.inj hf
        exact r_iret C hR rfl (Nat.le_of_ble_eq_true rfl) (Nat.le_of_ble_eq_true rfl) dX4_readLine_56
    · have hf := ip hf c26
      refine lv_aload_n hx hb dX4_readLine_29 rfl (lv_at hl 0 rfl) ?_
      obtain ⟨x14, hx14, hf⟩ := ob hf
      refine r_getR C hR hx14 fl_X4_21 dX4_readLine_30 ?_
      refine lv_iconst (v := (-1)) hx hb dX4_readLine_33 (by decide) ?_
      obtain ⟨u15, hu15, hf⟩ := ob hf
      obtain ⟨hs16, hhs16, hf⟩ := ob hf
      refine r_callV (As := [.int (-1)]) (rest := []) (st1 := []) C hR (lv_sub hl [] rfl) (c_X2_add hhs16) mv_X2_add ml_X4_43 ⟨rfl, rfl, (Nat.le_of_ble_eq_true rfl), (Nat.le_of_ble_eq_true rfl)⟩ (rv_obj C hR hu15 (q := (RX2, TX2, 2)) rfl) rfl rfl rfl (Nat.le_of_ble_eq_true rfl) ⟨(Nat.le_of_ble_eq_true rfl), (Nat.le_of_ble_eq_true rfl)⟩ dX4_readLine_34 (fun H locs hR => ?_)
      refine lv_aload_n hx hb dX4_readLine_37 rfl (lv_at hl 0 rfl) ?_
      refine lv_iconst (v := 1) hx hb dX4_readLine_38 (by decide) ?_
      obtain ⟨hs17, hhs17, hf⟩ := ob hf
      refine r_putI C hR hhs17 fl_X4_33 dX4_readLine_39 (fun H locs hR => ?_)
      refine lv_goto (tgt := 57) hx hb dX4_readLine_42 (by decide) ?_
      refine lv_iconst (v := 0) hx hb dX4_readLine_57 (by decide) ?_
      refine lv_istore (lv' := [(4, .int 0), (0, .ref (kA K v0)), (1, .int v1), (2, .int v2), (3, .int v3)]) hx hb dX4_readLine_58 hl (by decide) rfl (fun ls hl => ?_)
      exact w_X4_readLine_b60 C  _ _ _ _ _ _ _ _ _ hf hR (lv_sub hl [1, 3, 4, 0] rfl)
theorem c_X4_readLine {K : WK} {l : Launch} {hs : AH} {v0 : Nat} {v1 : Int32} {v2 : Int32} {v3 : Int32} {q : Int32 × AH} (hf : f_X4_readLine v0 v1 v2 v3 hs = some q) : MC K l yX4_readLine cX4_readLine 5 (Option.some Jvm.ClassFile.FieldType.int) rm_X4_readLine [.ref (kA K v0), .int v1, .int v2, .int v3] hs (some (.int q.1)) q.2 0 0 :=
  MC.of (by decide +kernel) (Nat.le_of_ble_eq_true rfl) (fun p e s m args below meth c C _ hR ls hl => w_X4_readLine_b0 C _ _ _ _ hs _ _ ls hf hR hl)
noncomputable def f_X8_nameOf (v0 : Int32) : Option (Nat) :=
  if v0 = 1 then
  (
   some (SBn + 24))
  else
  (
   if v0 = 2 then
   (
    some (SBn + 25))
   else
   (
    if v0 = 3 then
    (
     some (SBn + 26))
    else
    (
     if v0 = 4 then
     (
      some (SBn + 27))
     else
     (
      if v0 = 5 then
      (
       some (SBn + 28))
      else
      (
       if v0 = 6 then
       (
        some (SBn + 29))
       else
       (
        if v0 = 7 then
        (
         some (SBn + 30))
        else
        (
         if v0 = 8 then
         (
          some (SBn + 31))
         else
         (
          if v0 = 9 then
          (
           some (SBn + 32))
          else
          (
           if v0 = 10 then
           (
            some (SBn + 33))
           else
           (
            if v0 = 11 then
            (
             some (SBn + 34))
            else
            (
             if v0 = 12 then
             (
              some (SBn + 35))
             else
             (
              if v0 = 13 then
              (
               some (SBn + 36))
              else
              (
               if v0 = 14 then
               (
                some (SBn + 37))
               else
               (
                if v0 = 15 then
                (
                 some (SBn + 38))
                else
                (
                 if v0 = 16 then
                 (
                  some (SBn + 39))
                 else
                 (
                  some (SBn + 40)))))))))))))))))
abbrev rm_X8_nameOf : Room := { frames := 0, cells := 0, slots := 0, locals := 0 }
set_option maxHeartbeats 4000000 in
set_option maxRecDepth 100000 in
theorem w_X8_nameOf_b0 {K : WK} {p : Program} {l : Launch} {e : Env} {s : State} {m : MethodId} {args : Array Value} {below : List Frame} {meth : Method} {c : Code} (C : Cx K p s m args meth c RX8 cX8_nameOf 1 (Option.some (Jvm.ClassFile.FieldType.object "java/lang/String"))) {q : Nat} : ∀ (v0 : Int32) (hs : AH) (H : Heap) (locs : List Loc) (ls : Array Slot), f_X8_nameOf v0 = some q → Rl K s hs H locs → lv_has ls 1 [(0, .int v0)] → W p l e rm_X8_nameOf s m args below meth c H locs 0 0 (MQ below (MQo K (some (.ref (kA K q))) hs) args s 0 0 (kAx K)) (F0 m 0 ls []) := by
  have hx := C.1
  have hb := C.2.1
  intro v0 hs H locs ls hf hR hl
  rw [f_X8_nameOf.eq_1] at hf
  refine lv_iload_n hx hb dX8_nameOf_0 rfl (lv_at hl 0 rfl) ?_
  by_cases c1_1 : v0 = 1
  · have hf := ip hf c1_1
    refine lv_tableIn (tgt := 80) (off := 79) hx hb dX8_nameOf_1 (by rw [c1_1]; decide) (by rw [c1_1]; decide) (by rw [c1_1]; decide +kernel) (by decide) ?_
    refine r_ldcSW C (i := 24) rfl dX8_nameOf_80 ?_
    obtain rfl := Option.some.inj hf
    exact r_aret (Or.inl ⟨_, rfl⟩) C hR (Nat.le_of_ble_eq_true rfl) (Nat.le_of_ble_eq_true rfl) dX8_nameOf_83
  · have hf := iq hf c1_1
    by_cases c1_2 : v0 = 2
    · have hf := ip hf c1_2
      refine lv_tableIn (tgt := 84) (off := 83) hx hb dX8_nameOf_1 (by rw [c1_2]; decide) (by rw [c1_2]; decide) (by rw [c1_2]; decide +kernel) (by decide) ?_
      refine r_ldcSW C (i := 25) rfl dX8_nameOf_84 ?_
      obtain rfl := Option.some.inj hf
      exact r_aret (Or.inl ⟨_, rfl⟩) C hR (Nat.le_of_ble_eq_true rfl) (Nat.le_of_ble_eq_true rfl) dX8_nameOf_87
    · have hf := iq hf c1_2
      by_cases c1_3 : v0 = 3
      · have hf := ip hf c1_3
        refine lv_tableIn (tgt := 88) (off := 87) hx hb dX8_nameOf_1 (by rw [c1_3]; decide) (by rw [c1_3]; decide) (by rw [c1_3]; decide +kernel) (by decide) ?_
        refine r_ldcSW C (i := 26) rfl dX8_nameOf_88 ?_
        obtain rfl := Option.some.inj hf
        exact r_aret (Or.inl ⟨_, rfl⟩) C hR (Nat.le_of_ble_eq_true rfl) (Nat.le_of_ble_eq_true rfl) dX8_nameOf_91
      · have hf := iq hf c1_3
        by_cases c1_4 : v0 = 4
        · have hf := ip hf c1_4
          refine lv_tableIn (tgt := 92) (off := 91) hx hb dX8_nameOf_1 (by rw [c1_4]; decide) (by rw [c1_4]; decide) (by rw [c1_4]; decide +kernel) (by decide) ?_
          refine r_ldcSW C (i := 27) rfl dX8_nameOf_92 ?_
          obtain rfl := Option.some.inj hf
          exact r_aret (Or.inl ⟨_, rfl⟩) C hR (Nat.le_of_ble_eq_true rfl) (Nat.le_of_ble_eq_true rfl) dX8_nameOf_95
        · have hf := iq hf c1_4
          by_cases c1_5 : v0 = 5
          · have hf := ip hf c1_5
            refine lv_tableIn (tgt := 96) (off := 95) hx hb dX8_nameOf_1 (by rw [c1_5]; decide) (by rw [c1_5]; decide) (by rw [c1_5]; decide +kernel) (by decide) ?_
            refine r_ldcSW C (i := 28) rfl dX8_nameOf_96 ?_
            obtain rfl := Option.some.inj hf
            exact r_aret (Or.inl ⟨_, rfl⟩) C hR (Nat.le_of_ble_eq_true rfl) (Nat.le_of_ble_eq_true rfl) dX8_nameOf_99
          · have hf := iq hf c1_5
            by_cases c1_6 : v0 = 6
            · have hf := ip hf c1_6
              refine lv_tableIn (tgt := 100) (off := 99) hx hb dX8_nameOf_1 (by rw [c1_6]; decide) (by rw [c1_6]; decide) (by rw [c1_6]; decide +kernel) (by decide) ?_
              refine r_ldcSW C (i := 29) rfl dX8_nameOf_100 ?_
              obtain rfl := Option.some.inj hf
              exact r_aret (Or.inl ⟨_, rfl⟩) C hR (Nat.le_of_ble_eq_true rfl) (Nat.le_of_ble_eq_true rfl) dX8_nameOf_103
            · have hf := iq hf c1_6
              by_cases c1_7 : v0 = 7
              · have hf := ip hf c1_7
                refine lv_tableIn (tgt := 104) (off := 103) hx hb dX8_nameOf_1 (by rw [c1_7]; decide) (by rw [c1_7]; decide) (by rw [c1_7]; decide +kernel) (by decide) ?_
                refine r_ldcSW C (i := 30) rfl dX8_nameOf_104 ?_
                obtain rfl := Option.some.inj hf
                exact r_aret (Or.inl ⟨_, rfl⟩) C hR (Nat.le_of_ble_eq_true rfl) (Nat.le_of_ble_eq_true rfl) dX8_nameOf_107
              · have hf := iq hf c1_7
                by_cases c1_8 : v0 = 8
                · have hf := ip hf c1_8
                  refine lv_tableIn (tgt := 108) (off := 107) hx hb dX8_nameOf_1 (by rw [c1_8]; decide) (by rw [c1_8]; decide) (by rw [c1_8]; decide +kernel) (by decide) ?_
                  refine r_ldcSW C (i := 31) rfl dX8_nameOf_108 ?_
                  obtain rfl := Option.some.inj hf
                  exact r_aret (Or.inl ⟨_, rfl⟩) C hR (Nat.le_of_ble_eq_true rfl) (Nat.le_of_ble_eq_true rfl) dX8_nameOf_111
                · have hf := iq hf c1_8
                  by_cases c1_9 : v0 = 9
                  · have hf := ip hf c1_9
                    refine lv_tableIn (tgt := 112) (off := 111) hx hb dX8_nameOf_1 (by rw [c1_9]; decide) (by rw [c1_9]; decide) (by rw [c1_9]; decide +kernel) (by decide) ?_
                    refine r_ldcSW C (i := 32) rfl dX8_nameOf_112 ?_
                    obtain rfl := Option.some.inj hf
                    exact r_aret (Or.inl ⟨_, rfl⟩) C hR (Nat.le_of_ble_eq_true rfl) (Nat.le_of_ble_eq_true rfl) dX8_nameOf_115
                  · have hf := iq hf c1_9
                    by_cases c1_10 : v0 = 10
                    · have hf := ip hf c1_10
                      refine lv_tableIn (tgt := 116) (off := 115) hx hb dX8_nameOf_1 (by rw [c1_10]; decide) (by rw [c1_10]; decide) (by rw [c1_10]; decide +kernel) (by decide) ?_
                      refine r_ldcSW C (i := 33) rfl dX8_nameOf_116 ?_
                      obtain rfl := Option.some.inj hf
                      exact r_aret (Or.inl ⟨_, rfl⟩) C hR (Nat.le_of_ble_eq_true rfl) (Nat.le_of_ble_eq_true rfl) dX8_nameOf_119
                    · have hf := iq hf c1_10
                      by_cases c1_11 : v0 = 11
                      · have hf := ip hf c1_11
                        refine lv_tableIn (tgt := 120) (off := 119) hx hb dX8_nameOf_1 (by rw [c1_11]; decide) (by rw [c1_11]; decide) (by rw [c1_11]; decide +kernel) (by decide) ?_
                        refine r_ldcSW C (i := 34) rfl dX8_nameOf_120 ?_
                        obtain rfl := Option.some.inj hf
                        exact r_aret (Or.inl ⟨_, rfl⟩) C hR (Nat.le_of_ble_eq_true rfl) (Nat.le_of_ble_eq_true rfl) dX8_nameOf_123
                      · have hf := iq hf c1_11
                        by_cases c1_12 : v0 = 12
                        · have hf := ip hf c1_12
                          refine lv_tableIn (tgt := 124) (off := 123) hx hb dX8_nameOf_1 (by rw [c1_12]; decide) (by rw [c1_12]; decide) (by rw [c1_12]; decide +kernel) (by decide) ?_
                          refine r_ldcSW C (i := 35) rfl dX8_nameOf_124 ?_
                          obtain rfl := Option.some.inj hf
                          exact r_aret (Or.inl ⟨_, rfl⟩) C hR (Nat.le_of_ble_eq_true rfl) (Nat.le_of_ble_eq_true rfl) dX8_nameOf_127
                        · have hf := iq hf c1_12
                          by_cases c1_13 : v0 = 13
                          · have hf := ip hf c1_13
                            refine lv_tableIn (tgt := 128) (off := 127) hx hb dX8_nameOf_1 (by rw [c1_13]; decide) (by rw [c1_13]; decide) (by rw [c1_13]; decide +kernel) (by decide) ?_
                            refine r_ldcSW C (i := 36) rfl dX8_nameOf_128 ?_
                            obtain rfl := Option.some.inj hf
                            exact r_aret (Or.inl ⟨_, rfl⟩) C hR (Nat.le_of_ble_eq_true rfl) (Nat.le_of_ble_eq_true rfl) dX8_nameOf_131
                          · have hf := iq hf c1_13
                            by_cases c1_14 : v0 = 14
                            · have hf := ip hf c1_14
                              refine lv_tableIn (tgt := 132) (off := 131) hx hb dX8_nameOf_1 (by rw [c1_14]; decide) (by rw [c1_14]; decide) (by rw [c1_14]; decide +kernel) (by decide) ?_
                              refine r_ldcSW C (i := 37) rfl dX8_nameOf_132 ?_
                              obtain rfl := Option.some.inj hf
                              exact r_aret (Or.inl ⟨_, rfl⟩) C hR (Nat.le_of_ble_eq_true rfl) (Nat.le_of_ble_eq_true rfl) dX8_nameOf_135
                            · have hf := iq hf c1_14
                              by_cases c1_15 : v0 = 15
                              · have hf := ip hf c1_15
                                refine lv_tableIn (tgt := 136) (off := 135) hx hb dX8_nameOf_1 (by rw [c1_15]; decide) (by rw [c1_15]; decide) (by rw [c1_15]; decide +kernel) (by decide) ?_
                                refine r_ldcSW C (i := 38) rfl dX8_nameOf_136 ?_
                                obtain rfl := Option.some.inj hf
                                exact r_aret (Or.inl ⟨_, rfl⟩) C hR (Nat.le_of_ble_eq_true rfl) (Nat.le_of_ble_eq_true rfl) dX8_nameOf_139
                              · have hf := iq hf c1_15
                                by_cases c1_16 : v0 = 16
                                · have hf := ip hf c1_16
                                  refine lv_tableIn (tgt := 140) (off := 139) hx hb dX8_nameOf_1 (by rw [c1_16]; decide) (by rw [c1_16]; decide) (by rw [c1_16]; decide +kernel) (by decide) ?_
                                  refine r_ldcSW C (i := 39) rfl dX8_nameOf_140 ?_
                                  obtain rfl := Option.some.inj hf
                                  exact r_aret (Or.inl ⟨_, rfl⟩) C hR (Nat.le_of_ble_eq_true rfl) (Nat.le_of_ble_eq_true rfl) dX8_nameOf_143
                                · have hf := iq hf c1_16
                                  refine lv_tableOut (tgt := 144) hx hb dX8_nameOf_1 (by have z0 := tn c1_1 (a := 1) rfl; have z1 := tn c1_2 (a := 2) rfl; have z2 := tn c1_3 (a := 3) rfl; have z3 := tn c1_4 (a := 4) rfl; have z4 := tn c1_5 (a := 5) rfl; have z5 := tn c1_6 (a := 6) rfl; have z6 := tn c1_7 (a := 7) rfl; have z7 := tn c1_8 (a := 8) rfl; have z8 := tn c1_9 (a := 9) rfl; have z9 := tn c1_10 (a := 10) rfl; have z10 := tn c1_11 (a := 11) rfl; have z11 := tn c1_12 (a := 12) rfl; have z12 := tn c1_13 (a := 13) rfl; have z13 := tn c1_14 (a := 14) rfl; have z14 := tn c1_15 (a := 15) rfl; have z15 := tn c1_16 (a := 16) rfl; omega) (by decide) ?_
                                  refine r_ldcSW C (i := 40) rfl dX8_nameOf_144 ?_
                                  obtain rfl := Option.some.inj hf
                                  exact r_aret (Or.inl ⟨_, rfl⟩) C hR (Nat.le_of_ble_eq_true rfl) (Nat.le_of_ble_eq_true rfl) dX8_nameOf_147
theorem c_X8_nameOf {K : WK} {l : Launch} {hs : AH} {v0 : Int32} {q : Nat} (hf : f_X8_nameOf v0 = some q) : MC K l yX8_nameOf cX8_nameOf 1 (Option.some (Jvm.ClassFile.FieldType.object "java/lang/String")) rm_X8_nameOf [.int v0] hs (some (.ref (kA K q))) hs 0 0 :=
  MC.of (by decide +kernel) (Nat.le_of_ble_eq_true rfl) (fun p e s m args below meth c C _ hR ls hl => w_X8_nameOf_b0 C _ hs _ _ ls hf hR hl)
noncomputable def f_X4_isHere_b2 : Nat → Nat → Nat → Int32 → AH → Option (Int32)
  | 0, _, _, _, _ => none
  | n + 1, v0, v1, v2, hs =>
  (chkS v1).bind fun u1 =>
  (f_J0_length_8abf5 v1).bind fun x2 =>
  if x2 ≤ v2 then
  (
   (gR hs v0 4 0).bind fun x3 =>
   (gI hs v0 4 4).bind fun x4 =>
   (chkS v1).bind fun u5 =>
   (f_J0_length_8abf5 v1).bind fun x6 =>
   (chk hs x3 3).bind fun u7 =>
   (f_X3_at x3 (x4 + x6) hs).bind fun x8 =>
   if x8 < 97 then
   (
    some 1)
   else
   (
    if x8 ≤ 122 then
    (
     some 0)
    else
    (
     some 1)))
  else
  (
   (gR hs v0 4 0).bind fun x9 =>
   (gI hs v0 4 4).bind fun x10 =>
   (chk hs x9 3).bind fun u11 =>
   (f_X3_at x9 (x10 + v2) hs).bind fun x12 =>
   (chkS v1).bind fun u13 =>
   (f_J0_charAt_5068e v1 v2).bind fun x14 =>
   if x12 = x14 then
   (
    f_X4_isHere_b2 n v0 v1 (v2 + 1) hs)
   else
   (
    some 0))
noncomputable def f_X4_isHere (v0 : Nat) (v1 : Nat) (hs : AH) : Option (Int32) :=
  f_X4_isHere_b2 FUEL v0 v1 0 hs
abbrev rm_X4_isHere : Room := { frames := 4, cells := 0, slots := 0, locals := 85 }
set_option maxHeartbeats 4000000 in
set_option maxRecDepth 100000 in
theorem w_X4_isHere_b2 {K : WK} {p : Program} {l : Launch} {e : Env} {s : State} {m : MethodId} {args : Array Value} {below : List Frame} {meth : Method} {c : Code} (C : Cx K p s m args meth c RX4 cX4_isHere 3 (Option.some Jvm.ClassFile.FieldType.boolean)) {q : Int32} : ∀ (n : Nat) (v0 : Nat) (v1 : Nat) (v2 : Int32) (hs : AH) (H : Heap) (locs : List Loc) (ls : Array Slot), f_X4_isHere_b2 n v0 v1 v2 hs = some q → Rl K s hs H locs → lv_has ls 3 [(0, .ref (kA K v0)), (1, .ref (kA K v1)), (2, .int v2)] → W p l e rm_X4_isHere s m args below meth c H locs 0 0 (MQ below (MQo K (some (.int q)) hs) args s 0 0 (kAx K)) (F0 m 2 ls []) := by
  have hx := C.1
  have hb := C.2.1
  intro n
  induction n with
  | zero =>
    intro v0 v1 v2 hs H locs ls hf
    cases hf
  | succ n ih =>
    intro v0 v1 v2 hs H locs ls hf hR hl
    rw [f_X4_isHere_b2.eq_2] at hf
    refine lv_iload_n hx hb dX4_isHere_2 rfl (lv_at hl 2 rfl) ?_
    refine lv_aload_n hx hb dX4_isHere_3 rfl (lv_at hl 1 rfl) ?_
    obtain ⟨u1, hu1, hf⟩ := ob hf
    obtain ⟨x2, hx2, hf⟩ := ob hf
    refine r_callV (As := []) (rest := [.int v2]) (st1 := [.int x2, .int v2]) C hR (lv_sub hl [] rfl) (c_J0_length_8abf5 hx2) mv_J0_length_8abf5 ml_X4_74 ⟨rfl, rfl, (Nat.le_of_ble_eq_true rfl), (Nat.le_of_ble_eq_true rfl)⟩ (rv_strS C hR hu1) rfl rfl rfl (Nat.le_of_ble_eq_true rfl) ⟨(Nat.le_of_ble_eq_true rfl), (Nat.le_of_ble_eq_true rfl)⟩ dX4_isHere_4 (fun H locs hR => ?_)
    refine lv_icmp_ge (tgt := 39) hx hb dX4_isHere_7 (by decide) (fun c7 => ?_) (fun c7 => ?_)
    · have hf := ip hf c7
      refine lv_aload_n hx hb dX4_isHere_39 rfl (lv_at hl 0 rfl) ?_
      obtain ⟨x3, hx3, hf⟩ := ob hf
      refine r_getR C hR hx3 fl_X4_12 dX4_isHere_40 ?_
      refine lv_aload_n hx hb dX4_isHere_43 rfl (lv_at hl 0 rfl) ?_
      obtain ⟨x4, hx4, hf⟩ := ob hf
      refine r_getI C hR hx4 fl_X4_33 dX4_isHere_44 ?_
      refine lv_aload_n hx hb dX4_isHere_47 rfl (lv_at hl 1 rfl) ?_
      obtain ⟨u5, hu5, hf⟩ := ob hf
      obtain ⟨x6, hx6, hf⟩ := ob hf
      refine r_callV (As := []) (rest := [.int x4, .ref (kA K x3)]) (st1 := [.int x6, .int x4, .ref (kA K x3)]) C hR (lv_sub hl [] rfl) (c_J0_length_8abf5 hx6) mv_J0_length_8abf5 ml_X4_74 ⟨rfl, rfl, (Nat.le_of_ble_eq_true rfl), (Nat.le_of_ble_eq_true rfl)⟩ (rv_strS C hR hu5) rfl rfl rfl (Nat.le_of_ble_eq_true rfl) ⟨(Nat.le_of_ble_eq_true rfl), (Nat.le_of_ble_eq_true rfl)⟩ dX4_isHere_48 (fun H locs hR => ?_)
      refine lv_iadd hx hb dX4_isHere_51 ?_
      obtain ⟨u7, hu7, hf⟩ := ob hf
      obtain ⟨x8, hx8, hf⟩ := ob hf
      refine r_callV (As := [.int (x4 + x6)]) (rest := []) (st1 := [.int x8]) C hR (lv_sub hl [] rfl) (c_X3_at hx8) mv_X3_at ml_X4_39 ⟨rfl, rfl, (Nat.le_of_ble_eq_true rfl), (Nat.le_of_ble_eq_true rfl)⟩ (rv_obj C hR hu7 (q := (RX3, TX3, 2)) rfl) rfl rfl rfl (Nat.le_of_ble_eq_true rfl) ⟨(Nat.le_of_ble_eq_true rfl), (Nat.le_of_ble_eq_true rfl)⟩ dX4_isHere_52 (fun H locs hR => ?_)
      refine lv_istore_n (lv' := [(2, .int x8), (0, .ref (kA K v0)), (1, .ref (kA K v1))]) hx hb dX4_isHere_55 rfl hl (by decide) rfl (fun ls hl => ?_)
      refine lv_iload_n hx hb dX4_isHere_56 rfl (lv_at hl 0 rfl) ?_
      refine lv_bipush (v := 97) hx hb dX4_isHere_57 (by decide) ?_
      refine lv_icmp_lt (tgt := 68) hx hb dX4_isHere_59 (by decide) (fun c59 => ?_) (fun c59 => ?_)
      · have hf := ip hf c59
        refine lv_iconst (v := 1) hx hb dX4_isHere_68 (by decide) ?_
        refine lv_goto (tgt := 73) hx hb dX4_isHere_69 (by decide) ?_
        obtain rfl := Option.some.inj hf
        exact r_iret C hR rfl (Nat.le_of_ble_eq_true rfl) (Nat.le_of_ble_eq_true rfl) dX4_isHere_73
      · have hf := iq hf c59
        refine lv_iload_n hx hb dX4_isHere_62 rfl (lv_at hl 0 rfl) ?_
        refine lv_bipush (v := 122) hx hb dX4_isHere_63 (by decide) ?_
        refine lv_icmp_le (tgt := 72) hx hb dX4_isHere_65 (by decide) (fun c65 => ?_) (fun c65 => ?_)
        · have hf := ip hf c65
          refine lv_iconst (v := 0) hx hb dX4_isHere_72 (by decide) ?_
          obtain rfl := Option.some.inj hf
          exact r_iret C hR rfl (Nat.le_of_ble_eq_true rfl) (Nat.le_of_ble_eq_true rfl) dX4_isHere_73
        · have hf := iq hf c65
          refine lv_iconst (v := 1) hx hb dX4_isHere_68 (by decide) ?_
          refine lv_goto (tgt := 73) hx hb dX4_isHere_69 (by decide) ?_
          obtain rfl := Option.some.inj hf
          exact r_iret C hR rfl (Nat.le_of_ble_eq_true rfl) (Nat.le_of_ble_eq_true rfl) dX4_isHere_73
    · have hf := iq hf c7
      refine lv_aload_n hx hb dX4_isHere_10 rfl (lv_at hl 0 rfl) ?_
      obtain ⟨x9, hx9, hf⟩ := ob hf
      refine r_getR C hR hx9 fl_X4_12 dX4_isHere_11 ?_
      refine lv_aload_n hx hb dX4_isHere_14 rfl (lv_at hl 0 rfl) ?_
      obtain ⟨x10, hx10, hf⟩ := ob hf
      refine r_getI C hR hx10 fl_X4_33 dX4_isHere_15 ?_
      refine lv_iload_n hx hb dX4_isHere_18 rfl (lv_at hl 2 rfl) ?_
      refine lv_iadd hx hb dX4_isHere_19 ?_
      obtain ⟨u11, hu11, hf⟩ := ob hf
      obtain ⟨x12, hx12, hf⟩ := ob hf
      refine r_callV (As := [.int (x10 + v2)]) (rest := []) (st1 := [.int x12]) C hR (lv_sub hl [] rfl) (c_X3_at hx12) mv_X3_at ml_X4_39 ⟨rfl, rfl, (Nat.le_of_ble_eq_true rfl), (Nat.le_of_ble_eq_true rfl)⟩ (rv_obj C hR hu11 (q := (RX3, TX3, 2)) rfl) rfl rfl rfl (Nat.le_of_ble_eq_true rfl) ⟨(Nat.le_of_ble_eq_true rfl), (Nat.le_of_ble_eq_true rfl)⟩ dX4_isHere_20 (fun H locs hR => ?_)
      refine lv_aload_n hx hb dX4_isHere_23 rfl (lv_at hl 1 rfl) ?_
      refine lv_iload_n hx hb dX4_isHere_24 rfl (lv_at hl 2 rfl) ?_
      obtain ⟨u13, hu13, hf⟩ := ob hf
      obtain ⟨x14, hx14, hf⟩ := ob hf
      refine r_callV (As := [.int v2]) (rest := [.int x12]) (st1 := [.int x14, .int x12]) C hR (lv_sub hl [] rfl) (c_J0_charAt_5068e hx14) mv_J0_charAt_5068e ml_X4_81 ⟨rfl, rfl, (Nat.le_of_ble_eq_true rfl), (Nat.le_of_ble_eq_true rfl)⟩ (rv_strS C hR hu13) rfl rfl rfl (Nat.le_of_ble_eq_true rfl) ⟨(Nat.le_of_ble_eq_true rfl), (Nat.le_of_ble_eq_true rfl)⟩ dX4_isHere_25 (fun H locs hR => ?_)
      refine lv_icmp_eq (tgt := 33) hx hb dX4_isHere_28 (by decide) (fun c28 => ?_) (fun c28 => ?_)
      · have hf := ip hf c28
        refine lv_iinc (v := v2 + 1) (lv' := [(2, .int (v2 + 1)), (0, .ref (kA K v0)), (1, .ref (kA K v1))]) hx hb dX4_isHere_33 hl (k := 2) rfl rfl (by decide) rfl (fun ls hl => ?_)
        refine lv_goto (tgt := 2) hx hb dX4_isHere_36 (by decide) ?_
        exact ih _ _ _ _ _ _ _ hf hR (lv_sub hl [1, 2, 0] rfl)
      · have hf := iq hf c28
        refine lv_iconst (v := 0) hx hb dX4_isHere_31 (by decide) ?_
        obtain rfl := Option.some.inj hf
        exact r_iret C hR rfl (Nat.le_of_ble_eq_true rfl) (Nat.le_of_ble_eq_true rfl) dX4_isHere_32
set_option maxHeartbeats 4000000 in
set_option maxRecDepth 100000 in
theorem w_X4_isHere_b0 {K : WK} {p : Program} {l : Launch} {e : Env} {s : State} {m : MethodId} {args : Array Value} {below : List Frame} {meth : Method} {c : Code} (C : Cx K p s m args meth c RX4 cX4_isHere 3 (Option.some Jvm.ClassFile.FieldType.boolean)) {q : Int32} : ∀ (v0 : Nat) (v1 : Nat) (hs : AH) (H : Heap) (locs : List Loc) (ls : Array Slot), f_X4_isHere v0 v1 hs = some q → Rl K s hs H locs → lv_has ls 3 [(0, .ref (kA K v0)), (1, .ref (kA K v1))] → W p l e rm_X4_isHere s m args below meth c H locs 0 0 (MQ below (MQo K (some (.int q)) hs) args s 0 0 (kAx K)) (F0 m 0 ls []) := by
  have hx := C.1
  have hb := C.2.1
  intro v0 v1 hs H locs ls hf hR hl
  rw [f_X4_isHere.eq_1] at hf
  refine lv_iconst (v := 0) hx hb dX4_isHere_0 (by decide) ?_
  refine lv_istore_n (lv' := [(2, .int 0), (0, .ref (kA K v0)), (1, .ref (kA K v1))]) hx hb dX4_isHere_1 rfl hl (by decide) rfl (fun ls hl => ?_)
  exact w_X4_isHere_b2 C  _ _ _ _ _ _ _ _ hf hR (lv_sub hl [1, 2, 0] rfl)
theorem c_X4_isHere {K : WK} {l : Launch} {hs : AH} {v0 : Nat} {v1 : Nat} {q : Int32} (hf : f_X4_isHere v0 v1 hs = some q) : MC K l yX4_isHere cX4_isHere 3 (Option.some Jvm.ClassFile.FieldType.boolean) rm_X4_isHere [.ref (kA K v0), .ref (kA K v1)] hs (some (.int q)) hs 0 0 :=
  MC.of (by decide +kernel) (Nat.le_of_ble_eq_true rfl) (fun p e s m args below meth c C _ hR ls hl => w_X4_isHere_b0 C _ _ hs _ _ ls hf hR hl)
noncomputable def f_X4_ruleNamedHere_b2 : Nat → Nat → Int32 → AH → Option (Int32)
  | 0, _, _, _ => none
  | n + 1, v0, v1, hs =>
  if 16 < v1 then
  (
   some 0)
  else
  (
   (f_X8_nameOf v1).bind fun x1 =>
   (chk hs v0 4).bind fun u2 =>
   (f_X4_isHere v0 x1 hs).bind fun x3 =>
   if x3 = 0 then
   (
    f_X4_ruleNamedHere_b2 n v0 (v1 + 1) hs)
   else
   (
    some v1))
noncomputable def f_X4_ruleNamedHere (v0 : Nat) (hs : AH) : Option (Int32) :=
  f_X4_ruleNamedHere_b2 FUEL v0 1 hs
abbrev rm_X4_ruleNamedHere : Room := { frames := 5, cells := 0, slots := 0, locals := 107 }
set_option maxHeartbeats 4000000 in
set_option maxRecDepth 100000 in
theorem w_X4_ruleNamedHere_b2 {K : WK} {p : Program} {l : Launch} {e : Env} {s : State} {m : MethodId} {args : Array Value} {below : List Frame} {meth : Method} {c : Code} (C : Cx K p s m args meth c RX4 cX4_ruleNamedHere 2 (Option.some Jvm.ClassFile.FieldType.int)) {q : Int32} : ∀ (n : Nat) (v0 : Nat) (v1 : Int32) (hs : AH) (H : Heap) (locs : List Loc) (ls : Array Slot), f_X4_ruleNamedHere_b2 n v0 v1 hs = some q → Rl K s hs H locs → lv_has ls 2 [(0, .ref (kA K v0)), (1, .int v1)] → W p l e rm_X4_ruleNamedHere s m args below meth c H locs 0 0 (MQ below (MQo K (some (.int q)) hs) args s 0 0 (kAx K)) (F0 m 2 ls []) := by
  have hx := C.1
  have hb := C.2.1
  intro n
  induction n with
  | zero =>
    intro v0 v1 hs H locs ls hf
    cases hf
  | succ n ih =>
    intro v0 v1 hs H locs ls hf hR hl
    rw [f_X4_ruleNamedHere_b2.eq_2] at hf
    refine lv_iload_n hx hb dX4_ruleNamedHere_2 rfl (lv_at hl 1 rfl) ?_
    refine lv_bipush (v := 16) hx hb dX4_ruleNamedHere_3 (by decide) ?_
    refine lv_icmp_gt (tgt := 27) hx hb dX4_ruleNamedHere_5 (by decide) (fun c5 => ?_) (fun c5 => ?_)
    · have hf := ip hf c5
      refine lv_iconst (v := 0) hx hb dX4_ruleNamedHere_27 (by decide) ?_
      obtain rfl := Option.some.inj hf
      exact r_iret C hR rfl (Nat.le_of_ble_eq_true rfl) (Nat.le_of_ble_eq_true rfl) dX4_ruleNamedHere_28
    · have hf := iq hf c5
      refine lv_aload_n hx hb dX4_ruleNamedHere_8 rfl (lv_at hl 0 rfl) ?_
      refine lv_iload_n hx hb dX4_ruleNamedHere_9 rfl (lv_at hl 1 rfl) ?_
      obtain ⟨x1, hx1, hf⟩ := ob hf
      refine r_callSN (As := [.int v1]) (rest := [.ref (kA K v0)]) (st1 := [.ref (kA K x1), .ref (kA K v0)]) C hR (lv_sub hl [] rfl) (c_X8_nameOf hx1) ms_X8_nameOf mx_X4_70 ⟨rfl, rfl, (Nat.le_of_ble_eq_true rfl), (Nat.le_of_ble_eq_true rfl)⟩ rfl rfl rfl (Nat.le_of_ble_eq_true rfl) ⟨(Nat.le_of_ble_eq_true rfl), (Nat.le_of_ble_eq_true rfl)⟩ dX4_ruleNamedHere_10 (fun H locs hR => ?_)
      obtain ⟨u2, hu2, hf⟩ := ob hf
      obtain ⟨x3, hx3, hf⟩ := ob hf
      refine r_callV (As := [.ref (kA K x1)]) (rest := []) (st1 := [.int x3]) C hR (lv_sub hl [] rfl) (c_X4_isHere hx3) mv_X4_isHere ml_X4_77 ⟨rfl, rfl, (Nat.le_of_ble_eq_true rfl), (Nat.le_of_ble_eq_true rfl)⟩ (rv_obj C hR hu2 (q := (RX4, TX4, 5)) rfl) rfl rfl rfl (Nat.le_of_ble_eq_true rfl) ⟨(Nat.le_of_ble_eq_true rfl), (Nat.le_of_ble_eq_true rfl)⟩ dX4_ruleNamedHere_13 (fun H locs hR => ?_)
      refine lv_if_eq (tgt := 21) hx hb dX4_ruleNamedHere_16 (by decide) (fun c16 => ?_) (fun c16 => ?_)
      · have hf := ip hf c16
        refine lv_iinc (v := v1 + 1) (lv' := [(1, .int (v1 + 1)), (0, .ref (kA K v0))]) hx hb dX4_ruleNamedHere_21 hl (k := 1) rfl rfl (by decide) rfl (fun ls hl => ?_)
        refine lv_goto (tgt := 2) hx hb dX4_ruleNamedHere_24 (by decide) ?_
        exact ih _ _ _ _ _ _ hf hR (lv_sub hl [1, 0] rfl)
      · have hf := iq hf c16
        refine lv_iload_n hx hb dX4_ruleNamedHere_19 rfl (lv_at hl 1 rfl) ?_
        obtain rfl := Option.some.inj hf
        exact r_iret C hR rfl (Nat.le_of_ble_eq_true rfl) (Nat.le_of_ble_eq_true rfl) dX4_ruleNamedHere_20
set_option maxHeartbeats 4000000 in
set_option maxRecDepth 100000 in
theorem w_X4_ruleNamedHere_b0 {K : WK} {p : Program} {l : Launch} {e : Env} {s : State} {m : MethodId} {args : Array Value} {below : List Frame} {meth : Method} {c : Code} (C : Cx K p s m args meth c RX4 cX4_ruleNamedHere 2 (Option.some Jvm.ClassFile.FieldType.int)) {q : Int32} : ∀ (v0 : Nat) (hs : AH) (H : Heap) (locs : List Loc) (ls : Array Slot), f_X4_ruleNamedHere v0 hs = some q → Rl K s hs H locs → lv_has ls 2 [(0, .ref (kA K v0))] → W p l e rm_X4_ruleNamedHere s m args below meth c H locs 0 0 (MQ below (MQo K (some (.int q)) hs) args s 0 0 (kAx K)) (F0 m 0 ls []) := by
  have hx := C.1
  have hb := C.2.1
  intro v0 hs H locs ls hf hR hl
  rw [f_X4_ruleNamedHere.eq_1] at hf
  refine lv_iconst (v := 1) hx hb dX4_ruleNamedHere_0 (by decide) ?_
  refine lv_istore_n (lv' := [(1, .int 1), (0, .ref (kA K v0))]) hx hb dX4_ruleNamedHere_1 rfl hl (by decide) rfl (fun ls hl => ?_)
  exact w_X4_ruleNamedHere_b2 C  _ _ _ _ _ _ _ hf hR (lv_sub hl [1, 0] rfl)
theorem c_X4_ruleNamedHere {K : WK} {l : Launch} {hs : AH} {v0 : Nat} {q : Int32} (hf : f_X4_ruleNamedHere v0 hs = some q) : MC K l yX4_ruleNamedHere cX4_ruleNamedHere 2 (Option.some Jvm.ClassFile.FieldType.int) rm_X4_ruleNamedHere [.ref (kA K v0)] hs (some (.int q)) hs 0 0 :=
  MC.of (by decide +kernel) (Nat.le_of_ble_eq_true rfl) (fun p e s m args below meth c C _ hR ls hl => w_X4_ruleNamedHere_b0 C _ hs _ _ ls hf hR hl)
noncomputable def f_X4_readWeight (v0 : Nat) (hs : AH) : Option (Int32 × AH) :=
  (chk hs v0 4).bind fun u1 =>
  (f_X4_ruleNamedHere v0 hs).bind fun x2 =>
  if x2 = 0 then
  (
   some (0, hs))
  else
  (
   (gI hs v0 4 4).bind fun x3 =>
   (f_X8_nameOf x2).bind fun x4 =>
   (chkS x4).bind fun u5 =>
   (f_J0_length_8abf5 x4).bind fun x6 =>
   (pI hs v0 4 4 (x3 + x6)).bind fun hs7 =>
   (gR hs7 v0 4 0).bind fun x8 =>
   (gI hs7 v0 4 4).bind fun x9 =>
   (chk hs7 x8 3).bind fun u10 =>
   (f_X3_at x8 x9 hs7).bind fun x11 =>
   if x11 = 61 then
   (
    (gI hs7 v0 4 4).bind fun x12 =>
    (pI hs7 v0 4 4 (x12 + 1)).bind fun hs13 =>
    (gR hs13 v0 4 0).bind fun x14 =>
    (gI hs13 v0 4 4).bind fun x15 =>
    (chk hs13 x14 3).bind fun u16 =>
    (f_X3_at x14 x15 hs13).bind fun x17 =>
    if (x17 - 48) < 0 then
    (
     some (0, hs13))
    else
    (
     if (x17 - 48) ≤ 9 then
     (
      (gI hs13 v0 4 4).bind fun x18 =>
      (pI hs13 v0 4 4 (x18 + 1)).bind fun hs19 =>
      (gR hs19 v0 4 2).bind fun x20 =>
      (sN 0 hs19 x20 x2 (x17 - 48)).bind fun hs21 =>
      (gI hs21 v0 4 3).bind fun x22 =>
      (pI hs21 v0 4 3 (x22 + 1)).bind fun hs23 =>
      some (1, hs23))
     else
     (
      some (0, hs13))))
   else
   (
    some (0, hs7)))
abbrev rm_X4_readWeight : Room := { frames := 6, cells := 0, slots := 0, locals := 128 }
set_option maxHeartbeats 4000000 in
set_option maxRecDepth 100000 in
theorem w_X4_readWeight_b0 {K : WK} {p : Program} {l : Launch} {e : Env} {s : State} {m : MethodId} {args : Array Value} {below : List Frame} {meth : Method} {c : Code} (C : Cx K p s m args meth c RX4 cX4_readWeight 3 (Option.some Jvm.ClassFile.FieldType.boolean)) {q : Int32 × AH} : ∀ (v0 : Nat) (hs : AH) (H : Heap) (locs : List Loc) (ls : Array Slot), f_X4_readWeight v0 hs = some q → Rl K s hs H locs → lv_has ls 3 [(0, .ref (kA K v0))] → W p l e rm_X4_readWeight s m args below meth c H locs 0 0 (MQ below (MQo K (some (.int q.1)) q.2) args s 0 0 (kAx K)) (F0 m 0 ls []) := by
  have hx := C.1
  have hb := C.2.1
  intro v0 hs H locs ls hf hR hl
  rw [f_X4_readWeight.eq_1] at hf
  refine lv_aload_n hx hb dX4_readWeight_0 rfl (lv_at hl 0 rfl) ?_
  obtain ⟨u1, hu1, hf⟩ := ob hf
  obtain ⟨x2, hx2, hf⟩ := ob hf
  refine r_callV (As := []) (rest := []) (st1 := [.int x2]) C hR (lv_sub hl [] rfl) (c_X4_ruleNamedHere hx2) mv_X4_ruleNamedHere ml_X4_67 ⟨rfl, rfl, (Nat.le_of_ble_eq_true rfl), (Nat.le_of_ble_eq_true rfl)⟩ (rv_obj C hR hu1 (q := (RX4, TX4, 5)) rfl) rfl rfl rfl (Nat.le_of_ble_eq_true rfl) ⟨(Nat.le_of_ble_eq_true rfl), (Nat.le_of_ble_eq_true rfl)⟩ dX4_readWeight_1 (fun H locs hR => ?_)
  refine lv_istore_n (lv' := [(1, .int x2), (0, .ref (kA K v0))]) hx hb dX4_readWeight_4 rfl hl (by decide) rfl (fun ls hl => ?_)
  refine lv_iload_n hx hb dX4_readWeight_5 rfl (lv_at hl 0 rfl) ?_
  refine lv_if_ne (tgt := 11) hx hb dX4_readWeight_6 (by decide) (fun c6 => ?_) (fun c6 => ?_)
  · have hf := iq hf c6
    refine lv_aload_n hx hb dX4_readWeight_11 rfl (lv_at hl 1 rfl) ?_
    refine lv_dup hx hb dX4_readWeight_12 rfl ?_
    obtain ⟨x3, hx3, hf⟩ := ob hf
    refine r_getI C hR hx3 fl_X4_33 dX4_readWeight_13 ?_
    refine lv_iload_n hx hb dX4_readWeight_16 rfl (lv_at hl 0 rfl) ?_
    obtain ⟨x4, hx4, hf⟩ := ob hf
    refine r_callSN (As := [.int x2]) (rest := [.int x3, .ref (kA K v0)]) (st1 := [.ref (kA K x4), .int x3, .ref (kA K v0)]) C hR (lv_sub hl [] rfl) (c_X8_nameOf hx4) ms_X8_nameOf mx_X4_70 ⟨rfl, rfl, (Nat.le_of_ble_eq_true rfl), (Nat.le_of_ble_eq_true rfl)⟩ rfl rfl rfl (Nat.le_of_ble_eq_true rfl) ⟨(Nat.le_of_ble_eq_true rfl), (Nat.le_of_ble_eq_true rfl)⟩ dX4_readWeight_17 (fun H locs hR => ?_)
    obtain ⟨u5, hu5, hf⟩ := ob hf
    obtain ⟨x6, hx6, hf⟩ := ob hf
    refine r_callV (As := []) (rest := [.int x3, .ref (kA K v0)]) (st1 := [.int x6, .int x3, .ref (kA K v0)]) C hR (lv_sub hl [] rfl) (c_J0_length_8abf5 hx6) mv_J0_length_8abf5 ml_X4_74 ⟨rfl, rfl, (Nat.le_of_ble_eq_true rfl), (Nat.le_of_ble_eq_true rfl)⟩ (rv_strS C hR hu5) rfl rfl rfl (Nat.le_of_ble_eq_true rfl) ⟨(Nat.le_of_ble_eq_true rfl), (Nat.le_of_ble_eq_true rfl)⟩ dX4_readWeight_20 (fun H locs hR => ?_)
    refine lv_iadd hx hb dX4_readWeight_23 ?_
    obtain ⟨hs7, hhs7, hf⟩ := ob hf
    refine r_putI C hR hhs7 fl_X4_33 dX4_readWeight_24 (fun H locs hR => ?_)
    refine lv_aload_n hx hb dX4_readWeight_27 rfl (lv_at hl 1 rfl) ?_
    obtain ⟨x8, hx8, hf⟩ := ob hf
    refine r_getR C hR hx8 fl_X4_12 dX4_readWeight_28 ?_
    refine lv_aload_n hx hb dX4_readWeight_31 rfl (lv_at hl 1 rfl) ?_
    obtain ⟨x9, hx9, hf⟩ := ob hf
    refine r_getI C hR hx9 fl_X4_33 dX4_readWeight_32 ?_
    obtain ⟨u10, hu10, hf⟩ := ob hf
    obtain ⟨x11, hx11, hf⟩ := ob hf
    refine r_callV (As := [.int x9]) (rest := []) (st1 := [.int x11]) C hR (lv_sub hl [] rfl) (c_X3_at hx11) mv_X3_at ml_X4_39 ⟨rfl, rfl, (Nat.le_of_ble_eq_true rfl), (Nat.le_of_ble_eq_true rfl)⟩ (rv_obj C hR hu10 (q := (RX3, TX3, 2)) rfl) rfl rfl rfl (Nat.le_of_ble_eq_true rfl) ⟨(Nat.le_of_ble_eq_true rfl), (Nat.le_of_ble_eq_true rfl)⟩ dX4_readWeight_35 (fun H locs hR => ?_)
    refine lv_bipush (v := 61) hx hb dX4_readWeight_38 (by decide) ?_
    refine lv_icmp_eq (tgt := 45) hx hb dX4_readWeight_40 (by decide) (fun c40 => ?_) (fun c40 => ?_)
    · have hf := ip hf c40
      refine lv_aload_n hx hb dX4_readWeight_45 rfl (lv_at hl 1 rfl) ?_
      refine lv_dup hx hb dX4_readWeight_46 rfl ?_
      obtain ⟨x12, hx12, hf⟩ := ob hf
      refine r_getI C hR hx12 fl_X4_33 dX4_readWeight_47 ?_
      refine lv_iconst (v := 1) hx hb dX4_readWeight_50 (by decide) ?_
      refine lv_iadd hx hb dX4_readWeight_51 ?_
      obtain ⟨hs13, hhs13, hf⟩ := ob hf
      refine r_putI C hR hhs13 fl_X4_33 dX4_readWeight_52 (fun H locs hR => ?_)
      refine lv_aload_n hx hb dX4_readWeight_55 rfl (lv_at hl 1 rfl) ?_
      obtain ⟨x14, hx14, hf⟩ := ob hf
      refine r_getR C hR hx14 fl_X4_12 dX4_readWeight_56 ?_
      refine lv_aload_n hx hb dX4_readWeight_59 rfl (lv_at hl 1 rfl) ?_
      obtain ⟨x15, hx15, hf⟩ := ob hf
      refine r_getI C hR hx15 fl_X4_33 dX4_readWeight_60 ?_
      obtain ⟨u16, hu16, hf⟩ := ob hf
      obtain ⟨x17, hx17, hf⟩ := ob hf
      refine r_callV (As := [.int x15]) (rest := []) (st1 := [.int x17]) C hR (lv_sub hl [] rfl) (c_X3_at hx17) mv_X3_at ml_X4_39 ⟨rfl, rfl, (Nat.le_of_ble_eq_true rfl), (Nat.le_of_ble_eq_true rfl)⟩ (rv_obj C hR hu16 (q := (RX3, TX3, 2)) rfl) rfl rfl rfl (Nat.le_of_ble_eq_true rfl) ⟨(Nat.le_of_ble_eq_true rfl), (Nat.le_of_ble_eq_true rfl)⟩ dX4_readWeight_63 (fun H locs hR => ?_)
      refine lv_bipush (v := 48) hx hb dX4_readWeight_66 (by decide) ?_
      refine lv_isub hx hb dX4_readWeight_68 ?_
      refine lv_istore_n (lv' := [(2, .int (x17 - 48)), (1, .int x2), (0, .ref (kA K v0))]) hx hb dX4_readWeight_69 rfl hl (by decide) rfl (fun ls hl => ?_)
      refine lv_iload_n hx hb dX4_readWeight_70 rfl (lv_at hl 0 rfl) ?_
      refine lv_if_lt (tgt := 80) hx hb dX4_readWeight_71 (by decide) (fun c71 => ?_) (fun c71 => ?_)
      · have hf := ip hf c71
        refine lv_iconst (v := 0) hx hb dX4_readWeight_80 (by decide) ?_
        obtain rfl := Option.some.inj hf
        exact r_iret C hR rfl (Nat.le_of_ble_eq_true rfl) (Nat.le_of_ble_eq_true rfl) dX4_readWeight_81
      · have hf := iq hf c71
        refine lv_iload_n hx hb dX4_readWeight_74 rfl (lv_at hl 0 rfl) ?_
        refine lv_bipush (v := 9) hx hb dX4_readWeight_75 (by decide) ?_
        refine lv_icmp_le (tgt := 82) hx hb dX4_readWeight_77 (by decide) (fun c77 => ?_) (fun c77 => ?_)
        · have hf := ip hf c77
          refine lv_aload_n hx hb dX4_readWeight_82 rfl (lv_at hl 2 rfl) ?_
          refine lv_dup hx hb dX4_readWeight_83 rfl ?_
          obtain ⟨x18, hx18, hf⟩ := ob hf
          refine r_getI C hR hx18 fl_X4_33 dX4_readWeight_84 ?_
          refine lv_iconst (v := 1) hx hb dX4_readWeight_87 (by decide) ?_
          refine lv_iadd hx hb dX4_readWeight_88 ?_
          obtain ⟨hs19, hhs19, hf⟩ := ob hf
          refine r_putI C hR hhs19 fl_X4_33 dX4_readWeight_89 (fun H locs hR => ?_)
          refine lv_aload_n hx hb dX4_readWeight_92 rfl (lv_at hl 2 rfl) ?_
          obtain ⟨x20, hx20, hf⟩ := ob hf
          refine r_getR C hR hx20 fl_X4_25 dX4_readWeight_93 ?_
          refine lv_iload_n hx hb dX4_readWeight_96 rfl (lv_at hl 1 rfl) ?_
          refine lv_iload_n hx hb dX4_readWeight_97 rfl (lv_at hl 0 rfl) ?_
          obtain ⟨hs21, hhs21, hf⟩ := ob hf
          refine r_iast C hR hhs21 dX4_readWeight_98 (fun H locs hR => ?_)
          refine lv_aload_n hx hb dX4_readWeight_99 rfl (lv_at hl 2 rfl) ?_
          refine lv_dup hx hb dX4_readWeight_100 rfl ?_
          obtain ⟨x22, hx22, hf⟩ := ob hf
          refine r_getI C hR hx22 fl_X4_29 dX4_readWeight_101 ?_
          refine lv_iconst (v := 1) hx hb dX4_readWeight_104 (by decide) ?_
          refine lv_iadd hx hb dX4_readWeight_105 ?_
          obtain ⟨hs23, hhs23, hf⟩ := ob hf
          refine r_putI C hR hhs23 fl_X4_29 dX4_readWeight_106 (fun H locs hR => ?_)
          refine lv_iconst (v := 1) hx hb dX4_readWeight_109 (by decide) ?_
          obtain rfl := Option.some.inj hf
          exact r_iret C hR rfl (Nat.le_of_ble_eq_true rfl) (Nat.le_of_ble_eq_true rfl) dX4_readWeight_110
        · have hf := iq hf c77
          refine lv_iconst (v := 0) hx hb dX4_readWeight_80 (by decide) ?_
          obtain rfl := Option.some.inj hf
          exact r_iret C hR rfl (Nat.le_of_ble_eq_true rfl) (Nat.le_of_ble_eq_true rfl) dX4_readWeight_81
    · have hf := iq hf c40
      refine lv_iconst (v := 0) hx hb dX4_readWeight_43 (by decide) ?_
      obtain rfl := Option.some.inj hf
      exact r_iret C hR rfl (Nat.le_of_ble_eq_true rfl) (Nat.le_of_ble_eq_true rfl) dX4_readWeight_44
  · have hf := ip hf c6
    refine lv_iconst (v := 0) hx hb dX4_readWeight_9 (by decide) ?_
    obtain rfl := Option.some.inj hf
    exact r_iret C hR rfl (Nat.le_of_ble_eq_true rfl) (Nat.le_of_ble_eq_true rfl) dX4_readWeight_10
theorem c_X4_readWeight {K : WK} {l : Launch} {hs : AH} {v0 : Nat} {q : Int32 × AH} (hf : f_X4_readWeight v0 hs = some q) : MC K l yX4_readWeight cX4_readWeight 3 (Option.some Jvm.ClassFile.FieldType.boolean) rm_X4_readWeight [.ref (kA K v0)] hs (some (.int q.1)) q.2 0 0 :=
  MC.of (by decide +kernel) (Nat.le_of_ble_eq_true rfl) (fun p e s m args below meth c C _ hR ls hl => w_X4_readWeight_b0 C _ hs _ _ ls hf hR hl)
noncomputable def f_X4_readWeights_b33 : Nat → Nat → Int32 → AH → Option (Int32 × AH)
  | 0, _, _, _ => none
  | n + 1, v0, v1, hs =>
  if 180 ≤ v1 then
  (
   (gI hs v0 4 4).bind fun x1 =>
   some (x1, hs))
  else
  (
   (chk hs v0 4).bind fun u2 =>
   (f_X4_readWeight v0 hs).bind fun q3 =>
   if q3.1 = 0 then
   (
    (gI q3.2 v0 4 4).bind fun x15 =>
    some (x15, q3.2))
   else
   (
    (gI q3.2 v0 4 4).bind fun x4 =>
    (gR q3.2 v0 4 0).bind fun x5 =>
    (chk q3.2 x5 3).bind fun u6 =>
    (f_X3_size x5 q3.2).bind fun x7 =>
    if x4 = x7 then
    (
     some ((-1), q3.2))
    else
    (
     (gR q3.2 v0 4 0).bind fun x8 =>
     (gI q3.2 v0 4 4).bind fun x9 =>
     (chk q3.2 x8 3).bind fun u10 =>
     (f_X3_at x8 x9 q3.2).bind fun x11 =>
     if x11 = 44 then
     (
      (gI q3.2 v0 4 4).bind fun x12 =>
      (pI q3.2 v0 4 4 (x12 + 1)).bind fun hs13 =>
      f_X4_readWeights_b33 n v0 (v1 + 1) hs13)
     else
     (
      (gI q3.2 v0 4 4).bind fun x14 =>
      some (x14, q3.2)))))
noncomputable def f_X4_readWeights_b12 : Nat → Nat → Int32 → AH → Option (Int32 × AH)
  | 0, _, _, _ => none
  | n + 1, v0, v1, hs =>
  if 16 < v1 then
  (
   f_X4_readWeights_b33 FUEL v0 0 hs)
  else
  (
   (gR hs v0 4 2).bind fun x1 =>
   (sN 0 hs x1 v1 (-1)).bind fun hs2 =>
   f_X4_readWeights_b12 n v0 (v1 + 1) hs2)
noncomputable def f_X4_readWeights (v0 : Nat) (hs : AH) : Option (Int32 × AH) :=
  (pI hs v0 4 4 0).bind fun hs1 =>
  (pI hs1 v0 4 3 0).bind fun hs2 =>
  f_X4_readWeights_b12 FUEL v0 0 hs2
abbrev rm_X4_readWeights : Room := { frames := 7, cells := 0, slots := 0, locals := 150 }
set_option maxHeartbeats 4000000 in
set_option maxRecDepth 100000 in
theorem w_X4_readWeights_b33 {K : WK} {p : Program} {l : Launch} {e : Env} {s : State} {m : MethodId} {args : Array Value} {below : List Frame} {meth : Method} {c : Code} (C : Cx K p s m args meth c RX4 cX4_readWeights 2 (Option.some Jvm.ClassFile.FieldType.int)) {q : Int32 × AH} : ∀ (n : Nat) (v0 : Nat) (v1 : Int32) (hs : AH) (H : Heap) (locs : List Loc) (ls : Array Slot), f_X4_readWeights_b33 n v0 v1 hs = some q → Rl K s hs H locs → lv_has ls 2 [(0, .ref (kA K v0)), (1, .int v1)] → W p l e rm_X4_readWeights s m args below meth c H locs 0 0 (MQ below (MQo K (some (.int q.1)) q.2) args s 0 0 (kAx K)) (F0 m 33 ls []) := by
  have hx := C.1
  have hb := C.2.1
  intro n
  induction n with
  | zero =>
    intro v0 v1 hs H locs ls hf
    cases hf
  | succ n ih =>
    intro v0 v1 hs H locs ls hf hR hl
    rw [f_X4_readWeights_b33.eq_2] at hf
    refine lv_iload_n hx hb dX4_readWeights_33 rfl (lv_at hl 1 rfl) ?_
    refine lv_sipush (v := 180) hx hb dX4_readWeights_34 (by decide) ?_
    refine lv_icmp_ge (tgt := 105) hx hb dX4_readWeights_37 (by decide) (fun c37 => ?_) (fun c37 => ?_)
    · have hf := ip hf c37
      refine lv_aload_n hx hb dX4_readWeights_105 rfl (lv_at hl 0 rfl) ?_
      obtain ⟨x1, hx1, hf⟩ := ob hf
      refine r_getI C hR hx1 fl_X4_33 dX4_readWeights_106 ?_
      obtain rfl := Option.some.inj hf
      exact r_iret C hR rfl (Nat.le_of_ble_eq_true rfl) (Nat.le_of_ble_eq_true rfl) dX4_readWeights_109
    · have hf := iq hf c37
      refine lv_aload_n hx hb dX4_readWeights_40 rfl (lv_at hl 0 rfl) ?_
      obtain ⟨u2, hu2, hf⟩ := ob hf
      obtain ⟨q3, hq3, hf⟩ := ob hf
      refine r_callV (As := []) (rest := []) (st1 := [.int q3.1]) C hR (lv_sub hl [] rfl) (c_X4_readWeight hq3) mv_X4_readWeight ml_X4_64 ⟨rfl, rfl, (Nat.le_of_ble_eq_true rfl), (Nat.le_of_ble_eq_true rfl)⟩ (rv_obj C hR hu2 (q := (RX4, TX4, 5)) rfl) rfl rfl rfl (Nat.le_of_ble_eq_true rfl) ⟨(Nat.le_of_ble_eq_true rfl), (Nat.le_of_ble_eq_true rfl)⟩ dX4_readWeights_41 (fun H locs hR => ?_)
      refine lv_if_ne (tgt := 52) hx hb dX4_readWeights_44 (by decide) (fun c44 => ?_) (fun c44 => ?_)
      · have hf := iq hf c44
        refine lv_aload_n hx hb dX4_readWeights_52 rfl (lv_at hl 0 rfl) ?_
        obtain ⟨x4, hx4, hf⟩ := ob hf
        refine r_getI C hR hx4 fl_X4_33 dX4_readWeights_53 ?_
        refine lv_aload_n hx hb dX4_readWeights_56 rfl (lv_at hl 0 rfl) ?_
        obtain ⟨x5, hx5, hf⟩ := ob hf
        refine r_getR C hR hx5 fl_X4_12 dX4_readWeights_57 ?_
        obtain ⟨u6, hu6, hf⟩ := ob hf
        obtain ⟨x7, hx7, hf⟩ := ob hf
        refine r_callV (As := []) (rest := [.int x4]) (st1 := [.int x7, .int x4]) C hR (lv_sub hl [] rfl) (c_X3_size hx7) mv_X3_size ml_X4_51 ⟨rfl, rfl, (Nat.le_of_ble_eq_true rfl), (Nat.le_of_ble_eq_true rfl)⟩ (rv_obj C hR hu6 (q := (RX3, TX3, 2)) rfl) rfl rfl rfl (Nat.le_of_ble_eq_true rfl) ⟨(Nat.le_of_ble_eq_true rfl), (Nat.le_of_ble_eq_true rfl)⟩ dX4_readWeights_60 (fun H locs hR => ?_)
        refine lv_icmp_ne (tgt := 68) hx hb dX4_readWeights_63 (by decide) (fun c63 => ?_) (fun c63 => ?_)
        · have hf := iq hf c63
          refine lv_aload_n hx hb dX4_readWeights_68 rfl (lv_at hl 0 rfl) ?_
          obtain ⟨x8, hx8, hf⟩ := ob hf
          refine r_getR C hR hx8 fl_X4_12 dX4_readWeights_69 ?_
          refine lv_aload_n hx hb dX4_readWeights_72 rfl (lv_at hl 0 rfl) ?_
          obtain ⟨x9, hx9, hf⟩ := ob hf
          refine r_getI C hR hx9 fl_X4_33 dX4_readWeights_73 ?_
          obtain ⟨u10, hu10, hf⟩ := ob hf
          obtain ⟨x11, hx11, hf⟩ := ob hf
          refine r_callV (As := [.int x9]) (rest := []) (st1 := [.int x11]) C hR (lv_sub hl [] rfl) (c_X3_at hx11) mv_X3_at ml_X4_39 ⟨rfl, rfl, (Nat.le_of_ble_eq_true rfl), (Nat.le_of_ble_eq_true rfl)⟩ (rv_obj C hR hu10 (q := (RX3, TX3, 2)) rfl) rfl rfl rfl (Nat.le_of_ble_eq_true rfl) ⟨(Nat.le_of_ble_eq_true rfl), (Nat.le_of_ble_eq_true rfl)⟩ dX4_readWeights_76 (fun H locs hR => ?_)
          refine lv_bipush (v := 44) hx hb dX4_readWeights_79 (by decide) ?_
          refine lv_icmp_eq (tgt := 89) hx hb dX4_readWeights_81 (by decide) (fun c81 => ?_) (fun c81 => ?_)
          · have hf := ip hf c81
            refine lv_aload_n hx hb dX4_readWeights_89 rfl (lv_at hl 0 rfl) ?_
            refine lv_dup hx hb dX4_readWeights_90 rfl ?_
            obtain ⟨x12, hx12, hf⟩ := ob hf
            refine r_getI C hR hx12 fl_X4_33 dX4_readWeights_91 ?_
            refine lv_iconst (v := 1) hx hb dX4_readWeights_94 (by decide) ?_
            refine lv_iadd hx hb dX4_readWeights_95 ?_
            obtain ⟨hs13, hhs13, hf⟩ := ob hf
            refine r_putI C hR hhs13 fl_X4_33 dX4_readWeights_96 (fun H locs hR => ?_)
            refine lv_iinc (v := v1 + 1) (lv' := [(1, .int (v1 + 1)), (0, .ref (kA K v0))]) hx hb dX4_readWeights_99 hl (k := 1) rfl rfl (by decide) rfl (fun ls hl => ?_)
            refine lv_goto (tgt := 33) hx hb dX4_readWeights_102 (by decide) ?_
            exact ih _ _ _ _ _ _ hf hR (lv_sub hl [1, 0] rfl)
          · have hf := iq hf c81
            refine lv_aload_n hx hb dX4_readWeights_84 rfl (lv_at hl 0 rfl) ?_
            obtain ⟨x14, hx14, hf⟩ := ob hf
            refine r_getI C hR hx14 fl_X4_33 dX4_readWeights_85 ?_
            obtain rfl := Option.some.inj hf
            exact r_iret C hR rfl (Nat.le_of_ble_eq_true rfl) (Nat.le_of_ble_eq_true rfl) dX4_readWeights_88
        · have hf := ip hf c63
          refine lv_iconst (v := (-1)) hx hb dX4_readWeights_66 (by decide) ?_
          obtain rfl := Option.some.inj hf
          exact r_iret C hR rfl (Nat.le_of_ble_eq_true rfl) (Nat.le_of_ble_eq_true rfl) dX4_readWeights_67
      · have hf := ip hf c44
        refine lv_aload_n hx hb dX4_readWeights_47 rfl (lv_at hl 0 rfl) ?_
        obtain ⟨x15, hx15, hf⟩ := ob hf
        refine r_getI C hR hx15 fl_X4_33 dX4_readWeights_48 ?_
        obtain rfl := Option.some.inj hf
        exact r_iret C hR rfl (Nat.le_of_ble_eq_true rfl) (Nat.le_of_ble_eq_true rfl) dX4_readWeights_51
set_option maxHeartbeats 4000000 in
set_option maxRecDepth 100000 in
theorem w_X4_readWeights_b12 {K : WK} {p : Program} {l : Launch} {e : Env} {s : State} {m : MethodId} {args : Array Value} {below : List Frame} {meth : Method} {c : Code} (C : Cx K p s m args meth c RX4 cX4_readWeights 2 (Option.some Jvm.ClassFile.FieldType.int)) {q : Int32 × AH} : ∀ (n : Nat) (v0 : Nat) (v1 : Int32) (hs : AH) (H : Heap) (locs : List Loc) (ls : Array Slot), f_X4_readWeights_b12 n v0 v1 hs = some q → Rl K s hs H locs → lv_has ls 2 [(0, .ref (kA K v0)), (1, .int v1)] → W p l e rm_X4_readWeights s m args below meth c H locs 0 0 (MQ below (MQo K (some (.int q.1)) q.2) args s 0 0 (kAx K)) (F0 m 12 ls []) := by
  have hx := C.1
  have hb := C.2.1
  intro n
  induction n with
  | zero =>
    intro v0 v1 hs H locs ls hf
    cases hf
  | succ n ih =>
    intro v0 v1 hs H locs ls hf hR hl
    rw [f_X4_readWeights_b12.eq_2] at hf
    refine lv_iload_n hx hb dX4_readWeights_12 rfl (lv_at hl 1 rfl) ?_
    refine lv_bipush (v := 16) hx hb dX4_readWeights_13 (by decide) ?_
    refine lv_icmp_gt (tgt := 31) hx hb dX4_readWeights_15 (by decide) (fun c15 => ?_) (fun c15 => ?_)
    · have hf := ip hf c15
      refine lv_iconst (v := 0) hx hb dX4_readWeights_31 (by decide) ?_
      refine lv_istore_n (lv' := [(1, .int 0), (0, .ref (kA K v0))]) hx hb dX4_readWeights_32 rfl hl (by decide) rfl (fun ls hl => ?_)
      exact w_X4_readWeights_b33 C  _ _ _ _ _ _ _ hf hR (lv_sub hl [1, 0] rfl)
    · have hf := iq hf c15
      refine lv_aload_n hx hb dX4_readWeights_18 rfl (lv_at hl 0 rfl) ?_
      obtain ⟨x1, hx1, hf⟩ := ob hf
      refine r_getR C hR hx1 fl_X4_25 dX4_readWeights_19 ?_
      refine lv_iload_n hx hb dX4_readWeights_22 rfl (lv_at hl 1 rfl) ?_
      refine lv_iconst (v := (-1)) hx hb dX4_readWeights_23 (by decide) ?_
      obtain ⟨hs2, hhs2, hf⟩ := ob hf
      refine r_iast C hR hhs2 dX4_readWeights_24 (fun H locs hR => ?_)
      refine lv_iinc (v := v1 + 1) (lv' := [(1, .int (v1 + 1)), (0, .ref (kA K v0))]) hx hb dX4_readWeights_25 hl (k := 1) rfl rfl (by decide) rfl (fun ls hl => ?_)
      refine lv_goto (tgt := 12) hx hb dX4_readWeights_28 (by decide) ?_
      exact ih _ _ _ _ _ _ hf hR (lv_sub hl [1, 0] rfl)
set_option maxHeartbeats 4000000 in
set_option maxRecDepth 100000 in
theorem w_X4_readWeights_b0 {K : WK} {p : Program} {l : Launch} {e : Env} {s : State} {m : MethodId} {args : Array Value} {below : List Frame} {meth : Method} {c : Code} (C : Cx K p s m args meth c RX4 cX4_readWeights 2 (Option.some Jvm.ClassFile.FieldType.int)) {q : Int32 × AH} : ∀ (v0 : Nat) (hs : AH) (H : Heap) (locs : List Loc) (ls : Array Slot), f_X4_readWeights v0 hs = some q → Rl K s hs H locs → lv_has ls 2 [(0, .ref (kA K v0))] → W p l e rm_X4_readWeights s m args below meth c H locs 0 0 (MQ below (MQo K (some (.int q.1)) q.2) args s 0 0 (kAx K)) (F0 m 0 ls []) := by
  have hx := C.1
  have hb := C.2.1
  intro v0 hs H locs ls hf hR hl
  rw [f_X4_readWeights.eq_1] at hf
  refine lv_aload_n hx hb dX4_readWeights_0 rfl (lv_at hl 0 rfl) ?_
  refine lv_iconst (v := 0) hx hb dX4_readWeights_1 (by decide) ?_
  obtain ⟨hs1, hhs1, hf⟩ := ob hf
  refine r_putI C hR hhs1 fl_X4_33 dX4_readWeights_2 (fun H locs hR => ?_)
  refine lv_aload_n hx hb dX4_readWeights_5 rfl (lv_at hl 0 rfl) ?_
  refine lv_iconst (v := 0) hx hb dX4_readWeights_6 (by decide) ?_
  obtain ⟨hs2, hhs2, hf⟩ := ob hf
  refine r_putI C hR hhs2 fl_X4_29 dX4_readWeights_7 (fun H locs hR => ?_)
  refine lv_iconst (v := 0) hx hb dX4_readWeights_10 (by decide) ?_
  refine lv_istore_n (lv' := [(1, .int 0), (0, .ref (kA K v0))]) hx hb dX4_readWeights_11 rfl hl (by decide) rfl (fun ls hl => ?_)
  exact w_X4_readWeights_b12 C  _ _ _ _ _ _ _ hf hR (lv_sub hl [1, 0] rfl)
theorem c_X4_readWeights {K : WK} {l : Launch} {hs : AH} {v0 : Nat} {q : Int32 × AH} (hf : f_X4_readWeights v0 hs = some q) : MC K l yX4_readWeights cX4_readWeights 2 (Option.some Jvm.ClassFile.FieldType.int) rm_X4_readWeights [.ref (kA K v0)] hs (some (.int q.1)) q.2 0 0 :=
  MC.of (by decide +kernel) (Nat.le_of_ble_eq_true rfl) (fun p e s m args below meth c C _ hR ls hl => w_X4_readWeights_b0 C _ hs _ _ ls hf hR hl)
